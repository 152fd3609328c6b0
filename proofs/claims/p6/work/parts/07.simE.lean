/-! THE SMALL MACHINE IS THE MACHINE, V: reads of cells -/
def tysL (cA : Nat → ClassId) : List (ClassId × FieldType) := [(cA 0, .int), (cA 1, .boolean), (cA 2, .byte), (cA 3, .object "DoorPaints$Visitor"), (cA 4, .object "DoorPaints$Door"), (cA 5, .object "DoorPaints$Told"), (cA 6, .object "DoorPaints$Sheet")]
/-- a cell that nobody writes -/
def roC (rA : Nat → Nat) (sio : Value) (A : Nat → Prop) (U : State) (G : Heap) (j : Nat) (c : MC) : Prop := match c with
  | .inl o => o.1 = 99 ∧ ∃ v, o.2 = [v, .int 0] ∧ va_O "java/lang/String" (rA (KB + j)) A U G ∧ va_OF "java/lang/String" "value" "[B" (trv rA sio v) (rA (KB + j)) A U G ∧ va_OF "java/lang/String" "coder" "B" (.int 0) (rA (KB + j)) A U G
  | .inr (.inl q) => (q.1 = 0 ∧ va_T .int (rA (KB + j)) q.2.length (fun i => .int (q.2.getD i 0)) A U G) ∨ (q.1 = 2 ∧ va_T .byte (rA (KB + j)) q.2.length (fun i => .int (q.2.getD i 0)) A U G)
  | .inr (.inr _) => False
/-- what is checked of an instruction that reads or writes a field: class, place, the link's word -/
def fldOK (cls : List vw_C) (own : String) (E : MI) (ws : List Cond) (idx : Nat) : Prop :=
  (∃ (C : String) (T : u_T) (N : Nat), cls[E.2.2.2.1]? = some (C, T, N) ∧ E.2.2.2.2.1 < N ∧ Cond.fieldLink own idx (T E.2.2.2.2.1).1 (T E.2.2.2.2.1).2.1 (T E.2.2.2.2.1).2.2.1 ∈ ws) ∨
  (E.2.2.2.1 = 99 ∧ ((E.2.2.2.2.1 = 0 ∧ Cond.fieldLink own idx "java/lang/String" "value" "[B" ∈ ws) ∨ (E.2.2.2.2.1 = 1 ∧ Cond.fieldLink own idx "java/lang/String" "coder" "B" ∈ ws)))
section SimE
variable {p : Program} {l : Launch} {e : Env} {R : Room} {s : State} {m : MethodId} {args : Array Value} {below : List Frame} {meth : Method} {c : Code} {H : Heap} {locs : List Loc} {cells slots : Nat} {Q : State → Prop}
variable {cc : ByteArray} {ls : Array Slot} {nL : Nat} {rA : Nat → Nat} {sio : Value} {A : Nat → Prop} {cA : Nat → ClassId} {dC : Nat → ClassId} {dI : Nat → Nat → Nat} {cls : List vw_C} {b0 : Nat} {ro : Nat → Option MC}
theorem m_in_spec {i : Int32} {n : Nat} (h : m_in i n = true) : vp_in i n := vp_in_iff.mpr (by simpa [m_in] using h)
theorem s_cell {F : MH} {a : Nat} {x : MC} (h : F[a]? = some x) : (wsF (trE rA sio cA) b0 F)[a]? = some (b0 + a, trE rA sio cA x) := by rw [wsF_get, h]; rfl
theorem s_ro_int {i : Int32} {t : Nat} {xs : List Int32} {r : List Value} {pc : Nat} (hx : p.tables.exec = Jvm.exec) (hb : c.code = cc) (hT : va_T .int t xs.length (fun i => .int (xs.getD i 0)) A s s.heap) (hS : va_S A s.heap H locs) (hin : vp_in i xs.length) (hdg : decode cc pc = .ok (.iaload, 1))
    (k : W p l e R s m args below meth c H locs cells slots Q (F0 m (pc + 1) ls (.int (xs.getD i.toNatClampNeg 0) :: r))) : W p l e R s m args below meth c H locs cells slots Q (F0 m pc ls (.int i :: .ref t :: r)) := by
  obtain ⟨cell, h1, h2, h3, h4, h5, h6, h7⟩ := hT.kept hS.2.1
  have hlt : i.toNatClampNeg < xs.length := Nat.not_le.mp fun q => hin (Or.inr q)
  exact W.iald hx hb h1 h2 h3 (fun q => by rcases q with q | q; exact hin (Or.inl q); omega) (h6 _ hlt) rfl rfl hdg k
theorem s_ro_byte {i : Int32} {t : Nat} {xs : List Int32} {r : List Value} {pc : Nat} (hx : p.tables.exec = Jvm.exec) (hb : c.code = cc) (hT : va_T .byte t xs.length (fun i => .int (xs.getD i 0)) A s s.heap) (hS : va_S A s.heap H locs) (hin : vp_in i xs.length) (hdg : decode cc pc = .ok (.baload, 1))
    (k : W p l e R s m args below meth c H locs cells slots Q (F0 m (pc + 1) ls (.int (xs.getD i.toNatClampNeg 0) :: r))) : W p l e R s m args below meth c H locs cells slots Q (F0 m pc ls (.int i :: .ref t :: r)) := by
  obtain ⟨cell, h1, h2, h3, h4, h5, h6, h7⟩ := hT.kept hS.2.1
  have hlt : i.toNatClampNeg < xs.length := Nat.not_le.mp fun q => hin (Or.inr q)
  exact W.bald hx hb h1 h2 h3 (fun q => by rcases q with q | q; exact hin (Or.inl q); omega) (h6 _ hlt) rfl rfl hdg k
theorem s_ro_len {ty : FieldType} {t : Nat} {xs : List Int32} {r : List Value} {pc : Nat} (hx : p.tables.exec = Jvm.exec) (hb : c.code = cc) (hT : va_T ty t xs.length (fun i => .int (xs.getD i 0)) A s s.heap) (hS : va_S A s.heap H locs) (hdg : decode cc pc = .ok (.arraylength, 1))
    (k : W p l e R s m args below meth c H locs cells slots Q (F0 m (pc + 1) ls (.int (Int32.ofNat xs.length) :: r))) : W p l e R s m args below meth c H locs cells slots Q (F0 m pc ls (.ref t :: r)) := by
  obtain ⟨cell, h1, h2, h3, h4, h5, h6, h7⟩ := hT.kept hS.2.1
  exact W.alen hx hb h1 h2 h5 rfl rfl hdg k
theorem trv_ro {a : Nat} {x : MC} (hA : ∀ j y, ro j = some y → j ≠ 100) (ha : ¬ a < KB) (h : ro (a - KB) = some x) : trv rA sio (.ref a) = .ref (rA (KB + (a - KB))) := by
  have h1 := hA _ _ h
  have h2 : ¬ a = KB + 100 := by omega
  simp only [trv, if_neg h2]
  rw [show KB + (a - KB) = a by omega]
theorem trv_rf (hrA : ∀ a, a < KB → rA a = b0 + a) {os : List (Option Nat)} (ho : ∀ o ∈ os, ∀ a, o = some a → a < KB) {j : Nat} (hj : j < os.length) : trv rA sio (va_rf (os.getD j none)) = va_rf ((os.getD j none).map rA) := by
  have hm : os.getD j none ∈ os := by
    rw [List.getD_eq_getElem?_getD, List.getElem?_eq_getElem hj]; exact List.getElem_mem hj
  cases hv : os.getD j none with
  | none => rfl
  | some a =>
    rw [hv] at hm
    exact trv_ref rA sio (ho _ hm a rfl)
/-- references in rows are of cells that are made -/
def rowsOK (F : MH) : Prop := ∀ (a k : Nat) (os : List (Option Nat)), F[a]? = some (.inr (.inr (k, os))) → ∀ o ∈ os, ∀ x, o = some x → x < KB
theorem s_rd (hx : p.tables.exec = Jvm.exec) (hb : c.code = cc) {ws : List Cond} {own : String} (hts : ∀ w ∈ ws, w.before args s = true) (hown : s.vm.findClass own = some m.cls) {E : MI} {F : MH} {st st1 : List Value} (hs : sioOK sio) (hdg : decode cc E.1 = .ok (E.2.1, E.2.2.1)) (hlen : m_len E.2.1 = 0 ∨ m_len E.2.1 = E.2.2.1)
    (hK : va_K (dC, dI) cls (tysL cA) s) (hcl : ∀ (ci : Nat) (q : vw_C), cls[ci]? = some q → ∀ w ∈ u_ws q.1 q.2.1 q.2.2, w ∈ ws) (h99 : cls.length ≤ 99) (hrA : ∀ a, a < KB → rA a = b0 + a) (hR : rowsOK F) (hro : ∀ j x, ro j = some x → roC rA sio A s s.heap j x) (hr1 : ∀ j y, ro j = some y → j ≠ 100)
    (hP : va_P (dC, dI) cls (wsF (trE rA sio cA) b0 F) H) (hS : va_S A s.heap H locs) (hf : ∀ idx, E.2.1 = .getfield idx → fldOK cls own E ws idx) (h : m_rd ro F E st = some st1)
    (k : W p l e R s m args below meth c H locs cells slots Q (F0 m (E.1 + E.2.2.1) ls (trs rA sio st1))) : W p l e R s m args below meth c H locs cells slots Q (F0 m E.1 ls (trs rA sio st)) := by
  obtain ⟨pc, i, len, a0, b1, z⟩ := E
  simp only at hdg hlen k h hf ⊢
  cases i
  case getfield idx =>
    simp only [m_len] at hlen
    obtain rfl : len = 3 := by omega
    have hf := hf idx rfl
    simp only [m_rd] at h
    split at h
    · rename_i a r
      split at h
      · rename_i ci fs hc
        split at h
        · rename_i hci
          split at h
          · rename_i v hv
            cases h
            unfold m_cell at hc
            split at hc
            · rename_i ha
              rcases hf with ⟨C, T, N, q1, q2, q3⟩ | ⟨q1, -⟩
              · simp only at q1 q2 q3
                subst hci
                have e1 : (fs.map (trv rA sio))[b1]? = some (trv rA sio v) := by rw [List.getElem?_map, hv]; rfl
                show W p l e R s m args below meth c H locs cells slots Q (F0 m pc ls (trv rA sio (.ref a) :: trs rA sio r))
                rw [trv_ref rA sio ha, hrA a ha]
                exact va_get (D := (dC, dI)) (ref := (T b1).1) hx hb hts (hcl _ _ q1) hown hK hP a (s_cell hc) q1 b1 q2 (hts _ q3) (fun _ h9 => h9) e1 hdg k
              · simp only at q1
                have := (hP a _ (s_cell hc))
                obtain ⟨rr, g1, -⟩ := this
                have := (List.getElem?_eq_some_iff.mp g1).1
                simp only at this
                omega
            · rename_i ha
              obtain ⟨g1, v0, g2, -, g3, g4⟩ := hro _ _ hc
              simp only at g1 g2
              show W p l e R s m args below meth c H locs cells slots Q (F0 m pc ls (trv rA sio (.ref a) :: trs rA sio r))
              rw [trv_ro hr1 ha hc]
              rcases hf with ⟨C, T, N, q1, -⟩ | ⟨-, ⟨q1, q2⟩ | ⟨q1, q2⟩⟩
              · simp only at q1
                have := (List.getElem?_eq_some_iff.mp q1).1
                omega
              · simp only at q1 q2
                subst q1
                rw [g2] at hv
                simp only [List.getElem?_cons_zero, Option.some.injEq] at hv
                subst hv
                exact vk_getf hx hb g3 hS hown (hts _ q2) (fun _ h9 => h9) hdg k
              · simp only at q1 q2
                subst q1
                rw [g2] at hv
                simp only [List.getElem?_cons_succ, List.getElem?_cons_zero, Option.some.injEq] at hv
                subst hv
                exact vk_getf hx hb g4 hS hown (hts _ q2) (fun _ h9 => h9) hdg k
          · cases h
        · cases h
      · cases h
    · cases h
  case arraylength =>
    simp only [m_len] at hlen
    obtain rfl : len = 1 := by omega
    simp only [m_rd] at h
    split at h
    · rename_i a r
      split at h
      · cases h
      · rename_i ha
        split at h
        · rename_i kk xs hc
          cases h
          show W p l e R s m args below meth c H locs cells slots Q (F0 m pc ls (trv rA sio (.ref a) :: trs rA sio r))
          rw [trv_ro hr1 ha hc]
          rcases hro _ _ hc with ⟨-, g⟩ | ⟨-, g⟩
          · exact s_ro_len hx hb g hS hdg k
          · exact s_ro_len hx hb g hS hdg k
        · cases h
    · cases h
  case iaload =>
    simp only [m_len] at hlen
    obtain rfl : len = 1 := by omega
    simp only [m_rd] at h
    split at h
    · rename_i i a r
      split at h
      · rename_i kk xs hc
        split at h
        · rename_i hq
          cases h
          obtain ⟨rfl, hin⟩ := hq
          show W p l e R s m args below meth c H locs cells slots Q (F0 m pc ls (.int i :: trv rA sio (.ref a) :: trs rA sio r))
          unfold m_cell at hc
          split at hc
          · rename_i ha
            rw [trv_ref rA sio ha, hrA a ha]
            exact va_iald (D := (dC, dI)) hx hb hK hP a 0 (s_cell hc) rfl (m_in_spec hin) hdg k
          · rename_i ha
            rw [trv_ro hr1 ha hc]
            rcases hro _ _ hc with ⟨-, g⟩ | ⟨g0, -⟩
            · exact s_ro_int hx hb g hS (m_in_spec hin) hdg k
            · cases g0
        · cases h
      · cases h
    · cases h
  case baload =>
    simp only [m_len] at hlen
    obtain rfl : len = 1 := by omega
    simp only [m_rd] at h
    split at h
    · rename_i i a r
      split at h
      · rename_i kk xs hc
        split at h
        · rename_i hq
          cases h
          obtain ⟨hk2, hin⟩ := hq
          show W p l e R s m args below meth c H locs cells slots Q (F0 m pc ls (.int i :: trv rA sio (.ref a) :: trs rA sio r))
          unfold m_cell at hc
          split at hc
          · rename_i ha
            rw [trv_ref rA sio ha, hrA a ha]
            rcases hk2 with rfl | rfl
            · exact va_zald (D := (dC, dI)) hx hb hK hP a 1 (s_cell hc) rfl (m_in_spec hin) hdg k
            · exact va_bald (D := (dC, dI)) hx hb hK hP a 2 (s_cell hc) rfl (m_in_spec hin) hdg k
          · rename_i ha
            rw [trv_ro hr1 ha hc]
            rcases hro _ _ hc with ⟨g0, -⟩ | ⟨-, g⟩
            · simp only at g0; omega
            · exact s_ro_byte hx hb g hS (m_in_spec hin) hdg k
        · cases h
      · cases h
    · cases h
  case aaload =>
    simp only [m_len] at hlen
    obtain rfl : len = 1 := by omega
    simp only [m_rd] at h
    split at h
    · rename_i i a r
      split at h
      · rename_i kk os hc
        split at h
        · rename_i hq
          cases h
          obtain ⟨ha, k3, k6, hin⟩ := hq
          unfold m_cell at hc
          rw [if_pos ha] at hc
          have hv := m_in_spec hin
          have hlt : i.toNatClampNeg < os.length := Nat.not_le.mp fun q => hv (Or.inr q)
          show W p l e R s m args below meth c H locs cells slots Q (F0 m pc ls (.int i :: trv rA sio (.ref a) :: trs rA sio r))
          have k : W p l e R s m args below meth c H locs cells slots Q (F0 m (pc + 1) ls (trv rA sio (va_rf (os.getD i.toNatClampNeg none)) :: trs rA sio r)) := k
          rw [trv_rf hrA (hR _ _ _ hc) hlt] at k
          rw [trv_ref rA sio ha, hrA a ha]
          have hc' := s_cell (rA := rA) (sio := sio) (cA := cA) (b0 := b0) hc
          rcases (show kk = 3 ∨ kk = 4 ∨ kk = 5 ∨ kk = 6 by omega) with rfl | rfl | rfl | rfl
          · exact va_aldq (D := (dC, dI)) hx hb hK hP a 3 hc' rfl hv hdg k
          · exact va_aldq (D := (dC, dI)) hx hb hK hP a 4 hc' rfl hv hdg k
          · exact va_aldq (D := (dC, dI)) hx hb hK hP a 5 hc' rfl hv hdg k
          · exact va_aldq (D := (dC, dI)) hx hb hK hP a 6 hc' rfl hv hdg k
        · cases h
      · cases h
    · cases h
  all_goals (simp only [m_rd, reduceCtorEq] at h)
end SimE
