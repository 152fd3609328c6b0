section
/-! THE SMALL MACHINE IS THE MACHINE, V: reads of cells -/
noncomputable def tysL (cA : Nat → ClassId) : List (ClassId × FieldType) := [(cA 0, .int), (cA 1, .boolean), (cA 2, .byte), (cA 3, .object "DoorPaints$Visitor"), (cA 4, .object "DoorPaints$Door"), (cA 5, .object "DoorPaints$Told"), (cA 6, .object "DoorPaints$Sheet")]
/-- a cell that nobody writes -/
noncomputable def roC (rA : Nat → Nat) (sio : Value) (A : Nat → Prop) (U : State) (G : Heap) (j : Nat) (c : MC) : Prop := match c with
  | .inl o => o.1 = 99 ∧ ∃ v, o.2 = [v, .int 0] ∧ va_O "java/lang/String" (rA (KB + j)) A U G ∧ va_OF "java/lang/String" "value" "[B" (trv rA sio v) (rA (KB + j)) A U G ∧ va_OF "java/lang/String" "coder" "B" (.int 0) (rA (KB + j)) A U G
  | .inr (.inl q) => (q.1 = 0 ∧ va_T .int (rA (KB + j)) q.2.length (fun i => .int (q.2.getD i 0)) A U G) ∨ (q.1 = 2 ∧ va_T .byte (rA (KB + j)) q.2.length (fun i => .int (q.2.getD i 0)) A U G)
  | .inr (.inr _) => False
/-- what is checked of an instruction that reads or writes a field: class, place, the link's word -/
noncomputable def fldOK (cls : List vw_C) (own : String) (E : MI) (ws : List Cond) (idx : Nat) : Prop :=
  (∃ (C : String) (T : u_T) (N : Nat), cls[E.2.2.2.1]? = some (C, T, N) ∧ E.2.2.2.2.1 < N ∧ Cond.fieldLink own idx (T E.2.2.2.2.1).1 (T E.2.2.2.2.1).2.1 (T E.2.2.2.2.1).2.2.1 ∈ ws) ∨
  (E.2.2.2.1 = 99 ∧ ((E.2.2.2.2.1 = 0 ∧ Cond.fieldLink own idx "java/lang/String" "value" "[B" ∈ ws) ∨ (E.2.2.2.2.1 = 1 ∧ Cond.fieldLink own idx "java/lang/String" "coder" "B" ∈ ws)))
section SimE
variable {p : Program} {l : Launch} {e : Env} {R : Room} {s : State} {m : MethodId} {args : Array Value} {below : List Frame} {meth : Method} {c : Code} {H : Heap} {locs : List Loc} {cells slots : Nat} {Q : State → Prop}
variable {cc : ByteArray} {ls : Array Slot} {nL : Nat} {rA : Nat → Nat} {sio : Value} {A : Nat → Prop} {cA : Nat → ClassId} {dC : Nat → ClassId} {dI : Nat → Nat → Nat} {cls : List vw_C} {b0 : Nat} {ro : Nat → Option MC}
theorem m_in_spec {i : Int32} {n : Nat} (h : m_in i n = true) : vp_in i n := vp_in_iff.mpr (by simpa [m_in] using h)
theorem s_cell {F : MH} {a : Nat} {x : MC} (h : F[a]? = some x) : (wsF (trE rA sio cA) b0 F)[a]? = some (b0 + a, trE rA sio cA x) := by rw [wsF_get, h]; rfl
theorem s_ro_int {i : Int32} {t : Nat} {xs : List Int32} {r : List Value} {pc : Nat} (hx : p.tables.exec = Jvm.exec) (hb : c.code = cc) (hT : va_T .int t xs.length (fun i => .int (xs.getD i 0)) A s s.heap) (hS : va_S A s.heap H locs) (hin : vp_in i xs.length) (hdg : decode cc pc = .ok (.iaload, 1))
    (k : W p l e R s m args below meth c H locs cells slots Q (F0 m (pc + 1) ls (.int (xs.getD i.toNatClampNeg 0) :: r))) : W p l e R s m args below meth c H locs cells slots Q (F0 m pc ls (.int i :: .ref t :: r)) := by
  obtain ⟨cell, h1, h2, h3, h4, h5, h6, h7⟩ := hT.kept hS.2.1
  have hlt : i.toNatClampNeg < xs.length := Nat.not_le.mp fun q => hin (Or.inr q)
  exact W.iald hx hb h1 h2 h3 (fun q => by rcases q with q | q; exact hin (Or.inl q); omega) (h6 _ hlt) rfl rfl hdg k
theorem s_ro_byte {i : Int32} {t : Nat} {xs : List Int32} {r : List Value} {pc : Nat} (hx : p.tables.exec = Jvm.exec) (hb : c.code = cc) (hT : va_T .byte t xs.length (fun i => .int (xs.getD i 0)) A s s.heap) (hS : va_S A s.heap H locs) (hin : vp_in i xs.length) (hdg : decode cc pc = .ok (.baload, 1))
    (k : W p l e R s m args below meth c H locs cells slots Q (F0 m (pc + 1) ls (.int (xs.getD i.toNatClampNeg 0) :: r))) : W p l e R s m args below meth c H locs cells slots Q (F0 m pc ls (.int i :: .ref t :: r)) := by
  obtain ⟨cell, h1, h2, h3, h4, h5, h6, h7⟩ := hT.kept hS.2.1
  have hlt : i.toNatClampNeg < xs.length := Nat.not_le.mp fun q => hin (Or.inr q)
  exact W.bald hx hb h1 h2 h3 (fun q => by rcases q with q | q; exact hin (Or.inl q); omega) (h6 _ hlt) rfl rfl hdg k
theorem s_ro_len {ty : FieldType} {t : Nat} {xs : List Int32} {r : List Value} {pc : Nat} (hx : p.tables.exec = Jvm.exec) (hb : c.code = cc) (hT : va_T ty t xs.length (fun i => .int (xs.getD i 0)) A s s.heap) (hS : va_S A s.heap H locs) (hdg : decode cc pc = .ok (.arraylength, 1))
    (k : W p l e R s m args below meth c H locs cells slots Q (F0 m (pc + 1) ls (.int (Int32.ofNat xs.length) :: r))) : W p l e R s m args below meth c H locs cells slots Q (F0 m pc ls (.ref t :: r)) := by
  obtain ⟨cell, h1, h2, h3, h4, h5, h6, h7⟩ := hT.kept hS.2.1
  exact W.alen hx hb h1 h2 h5 rfl rfl hdg k
theorem trv_ro {a : Nat} {x : MC} (hA : ∀ j y, ro j = some y → j ≠ 100) (ha : ¬ a < KB) (h : ro (a - KB) = some x) : trv rA sio (.ref a) = .ref (rA (KB + (a - KB))) := by
  have h1 := hA _ _ h
  have h2 : ¬ a = KB + 100 := by omega
  simp only [trv, if_neg h2]
  rw [show KB + (a - KB) = a by omega]
theorem trv_rf (hrA : ∀ a, a < KB → rA a = b0 + a) {os : List (Option Nat)} (ho : ∀ o ∈ os, ∀ a, o = some a → a < KB) {j : Nat} (hj : j < os.length) : trv rA sio (va_rf (os.getD j none)) = va_rf ((os.getD j none).map rA) := by
  have hm : os.getD j none ∈ os := by
    rw [List.getD_eq_getElem?_getD, List.getElem?_eq_getElem hj]; exact List.getElem_mem hj
  cases hv : os.getD j none with
  | none => rfl
  | some a =>
    rw [hv] at hm
    exact trv_ref rA sio (ho _ hm a rfl)
/-- references in rows are of cells that are made -/
noncomputable def rowsOK (F : MH) : Prop := ∀ (a k : Nat) (os : List (Option Nat)), F[a]? = some (.inr (.inr (k, os))) → ∀ o ∈ os, ∀ x, o = some x → x < KB
theorem s_rd (hx : p.tables.exec = Jvm.exec) (hb : c.code = cc) {ws : List Cond} {own : String} (hts : ∀ w ∈ ws, w.before args s = true) (hown : s.vm.findClass own = some m.cls) {E : MI} {F : MH} {st st1 : List Value} (hs : sioOK sio) (hdg : decode cc E.1 = .ok (E.2.1, E.2.2.1)) (hlen : m_len E.2.1 = 0 ∨ m_len E.2.1 = E.2.2.1)
    (hK : va_K (dC, dI) cls (tysL cA) s) (hcl : ∀ (ci : Nat) (q : vw_C), cls[ci]? = some q → ∀ w ∈ u_ws q.1 q.2.1 q.2.2, w ∈ ws) (h99 : cls.length ≤ 99) (hrA : ∀ a, a < KB → rA a = b0 + a) (hR : rowsOK F) (hro : ∀ j x, ro j = some x → roC rA sio A s s.heap j x) (hr1 : ∀ j y, ro j = some y → j ≠ 100)
    (hP : va_P (dC, dI) cls (wsF (trE rA sio cA) b0 F) H) (hS : va_S A s.heap H locs) (hf : ∀ idx, E.2.1 = .getfield idx → fldOK cls own E ws idx) (h : m_rd ro F E st = some st1)
    (k : W p l e R s m args below meth c H locs cells slots Q (F0 m (E.1 + E.2.2.1) ls (trs rA sio st1))) : W p l e R s m args below meth c H locs cells slots Q (F0 m E.1 ls (trs rA sio st)) := by
  obtain ⟨pc, i, len, a0, b1, z⟩ := E
  simp only at hdg hlen k h hf ⊢
  cases i
  case getfield idx =>
    simp only [m_len] at hlen
    obtain rfl : len = 3 := by omega
    have hf := hf idx rfl
    simp only [m_rd] at h
    split at h
    · rename_i a r
      split at h
      · rename_i ci fs hc
        split at h
        · rename_i hci
          split at h
          · rename_i v hv
            cases h
            unfold m_cell at hc
            split at hc
            · rename_i ha
              rcases hf with ⟨C, T, N, q1, q2, q3⟩ | ⟨q1, -⟩
              · simp only at q1 q2 q3
                subst hci
                have e1 : (fs.map (trv rA sio))[b1]? = some (trv rA sio v) := by rw [List.getElem?_map, hv]; rfl
                show W p l e R s m args below meth c H locs cells slots Q (F0 m pc ls (trv rA sio (.ref a) :: trs rA sio r))
                rw [trv_ref rA sio ha, hrA a ha]
                exact va_get (D := (dC, dI)) (ref := (T b1).1) hx hb hts (hcl _ _ q1) hown hK hP a (s_cell hc) q1 b1 q2 (hts _ q3) (fun _ h9 => h9) e1 hdg k
              · simp only at q1
                have := (hP a _ (s_cell hc))
                obtain ⟨rr, g1, -⟩ := this
                have := (List.getElem?_eq_some_iff.mp g1).1
                simp only at this
                omega
            · rename_i ha
              obtain ⟨g1, v0, g2, -, g3, g4⟩ := hro _ _ hc
              simp only at g1 g2
              show W p l e R s m args below meth c H locs cells slots Q (F0 m pc ls (trv rA sio (.ref a) :: trs rA sio r))
              rw [trv_ro hr1 ha hc]
              rcases hf with ⟨C, T, N, q1, -⟩ | ⟨-, ⟨q1, q2⟩ | ⟨q1, q2⟩⟩
              · simp only at q1
                have := (List.getElem?_eq_some_iff.mp q1).1
                omega
              · simp only at q1 q2
                subst q1
                rw [g2] at hv
                simp only [List.getElem?_cons_zero, Option.some.injEq] at hv
                subst hv
                exact vk_getf hx hb g3 hS hown (hts _ q2) (fun _ h9 => h9) hdg k
              · simp only at q1 q2
                subst q1
                rw [g2] at hv
                simp only [List.getElem?_cons_succ, List.getElem?_cons_zero, Option.some.injEq] at hv
                subst hv
                exact vk_getf hx hb g4 hS hown (hts _ q2) (fun _ h9 => h9) hdg k
          · cases h
        · cases h
      · cases h
    · cases h
  case arraylength =>
    simp only [m_len] at hlen
    obtain rfl : len = 1 := by omega
    simp only [m_rd] at h
    split at h
    · rename_i a r
      split at h
      · cases h
      · rename_i ha
        split at h
        · rename_i kk xs hc
          cases h
          show W p l e R s m args below meth c H locs cells slots Q (F0 m pc ls (trv rA sio (.ref a) :: trs rA sio r))
          rw [trv_ro hr1 ha hc]
          rcases hro _ _ hc with ⟨-, g⟩ | ⟨-, g⟩
          · exact s_ro_len hx hb g hS hdg k
          · exact s_ro_len hx hb g hS hdg k
        · cases h
    · cases h
  case iaload =>
    simp only [m_len] at hlen
    obtain rfl : len = 1 := by omega
    simp only [m_rd] at h
    split at h
    · rename_i i a r
      split at h
      · rename_i kk xs hc
        split at h
        · rename_i hq
          cases h
          obtain ⟨rfl, hin⟩ := hq
          show W p l e R s m args below meth c H locs cells slots Q (F0 m pc ls (.int i :: trv rA sio (.ref a) :: trs rA sio r))
          unfold m_cell at hc
          split at hc
          · rename_i ha
            rw [trv_ref rA sio ha, hrA a ha]
            exact va_iald (D := (dC, dI)) hx hb hK hP a 0 (s_cell hc) rfl (m_in_spec hin) hdg k
          · rename_i ha
            rw [trv_ro hr1 ha hc]
            rcases hro _ _ hc with ⟨-, g⟩ | ⟨g0, -⟩
            · exact s_ro_int hx hb g hS (m_in_spec hin) hdg k
            · cases g0
        · cases h
      · cases h
    · cases h
  case baload =>
    simp only [m_len] at hlen
    obtain rfl : len = 1 := by omega
    simp only [m_rd] at h
    split at h
    · rename_i i a r
      split at h
      · rename_i kk xs hc
        split at h
        · rename_i hq
          cases h
          obtain ⟨hk2, hin⟩ := hq
          show W p l e R s m args below meth c H locs cells slots Q (F0 m pc ls (.int i :: trv rA sio (.ref a) :: trs rA sio r))
          unfold m_cell at hc
          split at hc
          · rename_i ha
            rw [trv_ref rA sio ha, hrA a ha]
            rcases hk2 with rfl | rfl
            · exact va_zald (D := (dC, dI)) hx hb hK hP a 1 (s_cell hc) rfl (m_in_spec hin) hdg k
            · exact va_bald (D := (dC, dI)) hx hb hK hP a 2 (s_cell hc) rfl (m_in_spec hin) hdg k
          · rename_i ha
            rw [trv_ro hr1 ha hc]
            rcases hro _ _ hc with ⟨g0, -⟩ | ⟨-, g⟩
            · simp only at g0; omega
            · exact s_ro_byte hx hb g hS (m_in_spec hin) hdg k
        · cases h
      · cases h
    · cases h
  case aaload =>
    simp only [m_len] at hlen
    obtain rfl : len = 1 := by omega
    simp only [m_rd] at h
    split at h
    · rename_i i a r
      split at h
      · rename_i kk os hc
        split at h
        · rename_i hq
          cases h
          obtain ⟨ha, k3, k6, hin⟩ := hq
          unfold m_cell at hc
          rw [if_pos ha] at hc
          have hv := m_in_spec hin
          have hlt : i.toNatClampNeg < os.length := Nat.not_le.mp fun q => hv (Or.inr q)
          show W p l e R s m args below meth c H locs cells slots Q (F0 m pc ls (.int i :: trv rA sio (.ref a) :: trs rA sio r))
          have k : W p l e R s m args below meth c H locs cells slots Q (F0 m (pc + 1) ls (trv rA sio (va_rf (os.getD i.toNatClampNeg none)) :: trs rA sio r)) := k
          rw [trv_rf hrA (hR _ _ _ hc) hlt] at k
          rw [trv_ref rA sio ha, hrA a ha]
          have hc' := s_cell (rA := rA) (sio := sio) (cA := cA) (b0 := b0) hc
          rcases (show kk = 3 ∨ kk = 4 ∨ kk = 5 ∨ kk = 6 by omega) with rfl | rfl | rfl | rfl
          · exact va_aldq (D := (dC, dI)) hx hb hK hP a 3 hc' rfl hv hdg k
          · exact va_aldq (D := (dC, dI)) hx hb hK hP a 4 hc' rfl hv hdg k
          · exact va_aldq (D := (dC, dI)) hx hb hK hP a 5 hc' rfl hv hdg k
          · exact va_aldq (D := (dC, dI)) hx hb hK hP a 6 hc' rfl hv hdg k
        · cases h
      · cases h
    · cases h
  all_goals (simp only [m_rd, reduceCtorEq] at h)
end SimE
end
section
/-! THE SMALL MACHINE IS THE MACHINE, VI: writes, new cells -/
noncomputable def mzC (c : MC) : Nat := match c with
  | .inl o => o.2.length
  | .inr (.inl q) => q.2.length
  | .inr (.inr q) => q.2.length
noncomputable def mz (F : MH) : Nat := (F.map mzC).sum
theorem mz_app (F : MH) (c : MC) : mz (F ++ [c]) = mz F + mzC c := by simp [mz]
theorem mz_set : ∀ (F : MH) (a : Nat) (c0 c : MC), F[a]? = some c0 → mzC c = mzC c0 → mz (F.set a c) = mz F
  | [], a, c0, c, h, _ => by simp at h
  | x :: t, 0, c0, c, h, he => by
    simp only [List.getElem?_cons_zero, Option.some.injEq] at h
    subst h
    simp only [List.set_cons_zero, mz, List.map_cons, List.sum_cons, he]
  | x :: t, a + 1, c0, c, h, he => by
    rw [List.getElem?_cons_succ] at h
    have := mz_set t a c0 c h he
    simp only [mz] at this
    simp only [List.set_cons_succ, mz, List.map_cons, List.sum_cons, this]
/-- the classes' tables: types of fields, names apart, what a new object holds, the words -/
noncomputable def clsOK (cls : List vw_C) (fty : Nat → Nat → FieldType) (dfl : Nat → List Value) (ws : List Cond) : Prop :=
  ∀ (ci : Nat) (q : vw_C), cls[ci]? = some q → (∀ w ∈ u_ws q.1 q.2.1 q.2.2, w ∈ ws) ∧ (∀ k, k < q.2.2 → parseFieldDescriptor (q.2.1 k).2.2.1 = some (fty ci k)) ∧ (∀ a, a < q.2.2 → ∀ b, b < q.2.2 → a ≠ b → (q.2.1 a).2.1 ≠ (q.2.1 b).2.1) ∧
    (dfl ci).length = q.2.2 ∧ (∀ j, j < q.2.2 → (dfl ci)[j]? = some (defaultValue (fty ci j)) ∧ ∀ rA sio, trv rA sio (defaultValue (fty ci j)) = defaultValue (fty ci j)) ∧ Cond.instantiable q.1 q.2.2 ∈ ws ∧ Cond.initialized q.1 ∈ ws
/-- a final field is put in its class's constructor alone -/
noncomputable def finOK (cls : List vw_C) (y : MethodName) (E : MI) : Prop := ∀ (C : String) (T : u_T) (N : Nat), cls[E.2.2.2.1]? = some (C, T, N) → (T E.2.2.2.2.1).2.2.2 = false ∨ ((T E.2.2.2.2.1).2.2.2 = true ∧ y.name = "<init>" ∧ (T E.2.2.2.2.1).1 = y.cls)
/-- what is checked of an instruction that makes cells -/
noncomputable def newOK (cls : List vw_C) (own : String) (E : MI) (ws : List Cond) : Prop := match E.2.1 with
  | .new idx => ∃ q, cls[E.2.2.2.1]? = some q ∧ Cond.classLink own idx q.1 ∈ ws
  | .newarray _ => Cond.arrayClass .int ∈ ws ∧ Cond.arrayClass .boolean ∈ ws
  | .anewarray idx => (E.2.2.2.1 = 3 ∧ Cond.classLink own idx "DoorPaints$Visitor" ∈ ws) ∨ (E.2.2.2.1 = 4 ∧ Cond.classLink own idx "DoorPaints$Door" ∈ ws) ∨ (E.2.2.2.1 = 5 ∧ Cond.classLink own idx "DoorPaints$Told" ∈ ws) ∨ (E.2.2.2.1 = 6 ∧ Cond.classLink own idx "DoorPaints$Sheet" ∈ ws)
  | .aastore => ∃ q, cls[E.2.2.2.1]? = some q ∧ ((E.2.2.2.2.1 = 3 ∧ q.1 = "DoorPaints$Visitor") ∨ (E.2.2.2.2.1 = 4 ∧ q.1 = "DoorPaints$Door") ∨ (E.2.2.2.2.1 = 5 ∧ q.1 = "DoorPaints$Told") ∨ (E.2.2.2.2.1 = 6 ∧ q.1 = "DoorPaints$Sheet"))
  | _ => True
section SimF
variable {p : Program} {l : Launch} {e : Env} {R : Room} {s : State} {m : MethodId} {args : Array Value} {below : List Frame} {meth : Method} {c : Code} {H : Heap} {locs : List Loc} {cells slots : Nat} {Q : State → Prop}
variable {cc : ByteArray} {ls : Array Slot} {nL : Nat} {rA : Nat → Nat} {sio : Value} {cA : Nat → ClassId} {dC : Nat → ClassId} {dI : Nat → Nat → Nat} {cls : List vw_C} {b0 : Nat}
theorem W.size {g : JFrame} (k : H.size ≤ s.heap.size + cells → W p l e R s m args below meth c H locs cells slots Q g) : W p l e R s m args below meth c H locs cells slots Q g :=
  fun T hT X => k (by rw [← hT]; exact X.heapSize) T hT X
theorem fits_trv (hs : sioOK sio) {ty : FieldType} {v : Value} (hf : fits ty v = true) (hn : narrow ty v = v) : fits ty (trv rA sio v) = true ∧ narrow ty (trv rA sio v) = trv rA sio v := by
  cases v with
  | ref a =>
    have h4 : sioOK (trv rA sio (.ref a)) := trv_sio hs a
    rcases h4 with h4 | ⟨y, h4⟩ <;> rw [h4] <;> cases ty <;> simp_all [fits, narrow]
  | _ => exact ⟨hf, hn⟩
theorem va_S.own {A : Nat → Prop} {H0 : Heap} (h : va_S A H0 H locs) : va_S A H H locs := ⟨Nat.le_refl _, fun _ _ _ => rfl, h.2.2⟩
theorem va_S.thru {A : Nat → Prop} {H0 H1 : Heap} {l1 : List Loc} (h : va_S A H0 H locs) (h1 : va_S A H H1 l1) : va_S A H0 H1 l1 := ⟨Nat.le_trans h.1 h1.1, fun q a b => (h1.2.1 q (Nat.lt_of_lt_of_le a h.1) b).trans (h.2.1 q a b), h1.2.2⟩
theorem s_putf (hx : p.tables.exec = Jvm.exec) (hb : c.code = cc) {ws : List Cond} {y : MethodName} (hts : ∀ w ∈ ws, w.before args s = true) (hown : s.vm.findClass y.cls = some m.cls) (hmn : meth.name = y.name) {pc idx a ci kf : Nat} {fs : List Value} {F : MH} {v : Value} {r : List Value} {fty : Nat → Nat → FieldType} {dfl : Nat → List Value} (hs : sioOK sio) (hdg : decode cc pc = .ok (.putfield idx, 3))
    (hK : va_K (dC, dI) cls (tysL cA) s) (hcl : clsOK cls fty dfl ws) {C : String} {T : u_T} {N : Nat} (q1 : cls[ci]? = some (C, T, N)) (q2 : kf < N) (q3 : Cond.fieldLink y.cls idx (T kf).1 (T kf).2.1 (T kf).2.2.1 ∈ ws)
    (hfin : (T kf).2.2.2 = false ∨ ((T kf).2.2.2 = true ∧ y.name = "<init>" ∧ (T kf).1 = y.cls)) (hrA : ∀ a, a < KB → rA a = b0 + a) (hP : va_P (dC, dI) cls (wsF (trE rA sio cA) b0 F) H) (hS : va_S (fun q => b0 ≤ q) s.heap H locs) (ha : a < KB) (hc : F[a]? = some (.inl (ci, fs))) (hkf : kf < fs.length) (hn : narrow (fty ci kf) v = v) (hf : fits (fty ci kf) v = true) (hsz : b0 + F.length ≤ H.size)
    (k : ∀ (H1 : Heap) (l1 : List Loc), va_P (dC, dI) cls (wsF (trE rA sio cA) b0 (F.set a (.inl (ci, fs.set kf v)))) H1 → b0 + (F.set a (.inl (ci, fs.set kf v))).length ≤ H1.size → va_S (fun q => b0 ≤ q) s.heap H1 l1 → W p l e R s m args below meth c H1 l1 cells slots Q (F0 m (pc + 3) ls (trs rA sio r))) :
    W p l e R s m args below meth c H locs cells slots Q (F0 m pc ls (trs rA sio (v :: .ref a :: r))) := by
  obtain ⟨g1, g2, g3, -⟩ := hcl ci _ q1
  simp only at g1 g2 g3
  obtain ⟨hf', hn'⟩ := fits_trv (rA := rA) (sio := sio) hs hf hn
  have hl : kf < (fs.map (trv rA sio)).length := by rw [List.length_map]; exact hkf
  have hD := wsF_D (trE rA sio cA) (A := fun q => b0 ≤ q) (b := b0) (fun _ h => h) F
  have e1 : (wsF (trE rA sio cA) b0 F).set a (b0 + a, .inr (ci, (fs.map (trv rA sio)).set kf (trv rA sio v))) = wsF (trE rA sio cA) b0 (F.set a (.inl (ci, fs.set kf v))) := by
    rw [← wsF_set]
    show _ = (wsF (trE rA sio cA) b0 F).set a (b0 + a, .inr (ci, (fs.set kf v).map (trv rA sio)))
    rw [List.map_set]
  show W p l e R s m args below meth c H locs cells slots Q (F0 m pc ls (trv rA sio v :: trv rA sio (.ref a) :: trs rA sio r))
  rw [trv_ref rA sio ha, hrA a ha]
  have kk : ∀ (H1 : Heap) (l1 : List Loc), va_P (dC, dI) cls ((wsF (trE rA sio cA) b0 F).set a (b0 + a, .inr (ci, (fs.map (trv rA sio)).set kf (trv rA sio v)))) H1 → va_D (fun q => b0 ≤ q) ((wsF (trE rA sio cA) b0 F).set a (b0 + a, .inr (ci, (fs.map (trv rA sio)).set kf (trv rA sio v)))) → va_S (fun q => b0 ≤ q) H H1 l1 → W p l e R s m args below meth c H1 l1 cells slots Q (F0 m (pc + 3) ls (trs rA sio r)) := by
    intro H1 l1 h1 h2 h3
    rw [e1] at h1
    exact k H1 l1 h1 (by rw [List.length_set]; exact Nat.le_trans hsz h3.1) (hS.thru h3)
  rcases hfin with z | ⟨z1, z2, z3⟩
  · exact va_put (D := (dC, dI)) (ref := (T kf).1) hx hb hts g1 (fty ci) g2 g3 hown hK hP hD hS.own a (s_cell hc) q1 kf q2 (hts _ q3) (fun _ h9 => h9) z (g2 kf q2) hn' hf' hl hdg kk
  · exact va_putF (D := (dC, dI)) (ref := (T kf).1) hx hb hts g1 (fty ci) g2 g3 hown hK hP hD hS.own a (s_cell hc) q1 kf q2 (hts _ q3) (fun _ h9 => h9) z1 (hmn.trans z2) z3 (g2 kf q2) hn' hf' hl hdg kk
theorem s_iast (hx : p.tables.exec = Jvm.exec) (hb : c.code = cc) {pc a : Nat} {i x : Int32} {xs : List Int32} {F : MH} {r : List Value} (hdg : decode cc pc = .ok (.iastore, 1)) (hK : va_K (dC, dI) cls (tysL cA) s) (hrA : ∀ a, a < KB → rA a = b0 + a) (hP : va_P (dC, dI) cls (wsF (trE rA sio cA) b0 F) H) (hS : va_S (fun q => b0 ≤ q) s.heap H locs) (ha : a < KB) (hc : F[a]? = some (.inr (.inl (0, xs)))) (hin : m_in i xs.length = true) (hsz : b0 + F.length ≤ H.size)
    (k : ∀ (H1 : Heap) (l1 : List Loc), va_P (dC, dI) cls (wsF (trE rA sio cA) b0 (F.set a (.inr (.inl (0, xs.set i.toNatClampNeg x))))) H1 → b0 + (F.set a (.inr (.inl (0, xs.set i.toNatClampNeg x)))).length ≤ H1.size → va_S (fun q => b0 ≤ q) s.heap H1 l1 → W p l e R s m args below meth c H1 l1 cells slots Q (F0 m (pc + 1) ls (trs rA sio r))) :
    W p l e R s m args below meth c H locs cells slots Q (F0 m pc ls (trs rA sio (.int x :: .int i :: .ref a :: r))) := by
  have hv := m_in_spec hin
  have hlt : i.toNatClampNeg < xs.length := Nat.not_le.mp fun q => hv (Or.inr q)
  have hD := wsF_D (trE rA sio cA) (A := fun q => b0 ≤ q) (b := b0) (fun _ h => h) F
  have e0 : upd (fun j => xs.getD j 0) i.toNatClampNeg x = fun j => (xs.set i.toNatClampNeg x).getD j 0 := by
    funext j
    rw [set_getD x hlt]
    rfl
  show W p l e R s m args below meth c H locs cells slots Q (F0 m pc ls (.int x :: .int i :: trv rA sio (.ref a) :: trs rA sio r))
  rw [trv_ref rA sio ha, hrA a ha]
  refine va_iast (D := (dC, dI)) hx hb hK hP hD hS.own a 0 (s_cell hc) rfl hv hdg fun H1 l1 h1 h2 h3 => ?_
  refine k H1 l1 ?_ (by rw [List.length_set]; exact Nat.le_trans hsz h3.1) (hS.thru h3)
  rw [← wsF_set]
  show va_P (dC, dI) cls ((wsF (trE rA sio cA) b0 F).set a (b0 + a, .inl (cA 0, (xs.set i.toNatClampNeg x).length, .inl (fun j => (xs.set i.toNatClampNeg x).getD j 0)))) H1
  rw [← e0, List.length_set]
  exact h1
theorem s_zast (hx : p.tables.exec = Jvm.exec) (hb : c.code = cc) {pc a : Nat} {i x : Int32} {xs : List Int32} {F : MH} {r : List Value} (hdg : decode cc pc = .ok (.bastore, 1)) (hK : va_K (dC, dI) cls (tysL cA) s) (hrA : ∀ a, a < KB → rA a = b0 + a) (hP : va_P (dC, dI) cls (wsF (trE rA sio cA) b0 F) H) (hS : va_S (fun q => b0 ≤ q) s.heap H locs) (ha : a < KB) (hc : F[a]? = some (.inr (.inl (1, xs)))) (hin : m_in i xs.length = true) (hsz : b0 + F.length ≤ H.size)
    (k : ∀ (H1 : Heap) (l1 : List Loc), va_P (dC, dI) cls (wsF (trE rA sio cA) b0 (F.set a (.inr (.inl (1, xs.set i.toNatClampNeg (vp_nar .boolean x)))))) H1 → b0 + (F.set a (.inr (.inl (1, xs.set i.toNatClampNeg (vp_nar .boolean x))))).length ≤ H1.size → va_S (fun q => b0 ≤ q) s.heap H1 l1 → W p l e R s m args below meth c H1 l1 cells slots Q (F0 m (pc + 1) ls (trs rA sio r))) :
    W p l e R s m args below meth c H locs cells slots Q (F0 m pc ls (trs rA sio (.int x :: .int i :: .ref a :: r))) := by
  have hv := m_in_spec hin
  have hlt : i.toNatClampNeg < xs.length := Nat.not_le.mp fun q => hv (Or.inr q)
  have hD := wsF_D (trE rA sio cA) (A := fun q => b0 ≤ q) (b := b0) (fun _ h => h) F
  have e0 : upd (fun j => xs.getD j 0) i.toNatClampNeg (vp_nar .boolean x) = fun j => (xs.set i.toNatClampNeg (vp_nar .boolean x)).getD j 0 := by
    funext j
    rw [set_getD _ hlt]
    rfl
  show W p l e R s m args below meth c H locs cells slots Q (F0 m pc ls (.int x :: .int i :: trv rA sio (.ref a) :: trs rA sio r))
  rw [trv_ref rA sio ha, hrA a ha]
  refine va_zast (D := (dC, dI)) hx hb hK hP hD hS.own a 1 (s_cell hc) rfl hv hdg fun H1 l1 h1 h2 h3 => ?_
  refine k H1 l1 ?_ (by rw [List.length_set]; exact Nat.le_trans hsz h3.1) (hS.thru h3)
  rw [← wsF_set]
  show va_P (dC, dI) cls ((wsF (trE rA sio cA) b0 F).set a (b0 + a, .inl (cA 1, (xs.set i.toNatClampNeg (vp_nar .boolean x)).length, .inl (fun j => (xs.set i.toNatClampNeg (vp_nar .boolean x)).getD j 0)))) H1
  rw [← e0, List.length_set]
  exact h1
theorem s_aast (hx : p.tables.exec = Jvm.exec) (hb : c.code = cc) {pc a o kk ci : Nat} {i : Int32} {os : List (Option Nat)} {vs : List Value} {F : MH} {r : List Value} (hdg : decode cc pc = .ok (.aastore, 1)) (hK : va_K (dC, dI) cls (tysL cA) s) (hrA : ∀ a, a < KB → rA a = b0 + a) (hP : va_P (dC, dI) cls (wsF (trE rA sio cA) b0 F) H) (hS : va_S (fun q => b0 ≤ q) s.heap H locs) (ha : a < KB) (ho : o < KB) (hc : F[a]? = some (.inr (.inr (kk, os)))) (hco : F[o]? = some (.inl (ci, vs))) {q : vw_C} (hq : cls[ci]? = some q) (ht : (tysL cA)[kk]? = some (cA kk, .object q.1)) (hin : m_in i os.length = true) (hsz : b0 + F.length ≤ H.size)
    (k : ∀ (H1 : Heap) (l1 : List Loc), va_P (dC, dI) cls (wsF (trE rA sio cA) b0 (F.set a (.inr (.inr (kk, os.set i.toNatClampNeg (some o)))))) H1 → b0 + (F.set a (.inr (.inr (kk, os.set i.toNatClampNeg (some o))))).length ≤ H1.size → va_S (fun q => b0 ≤ q) s.heap H1 l1 → W p l e R s m args below meth c H1 l1 cells slots Q (F0 m (pc + 1) ls (trs rA sio r))) :
    W p l e R s m args below meth c H locs cells slots Q (F0 m pc ls (trs rA sio (.ref o :: .int i :: .ref a :: r))) := by
  have hv := m_in_spec hin
  have hlt : i.toNatClampNeg < os.length := Nat.not_le.mp fun q => hv (Or.inr q)
  have hD := wsF_D (trE rA sio cA) (A := fun q => b0 ≤ q) (b := b0) (fun _ h => h) F
  have e0 : va_up (fun j => (os.getD j none).map rA) i.toNatClampNeg (some (b0 + o)) = fun j => ((os.set i.toNatClampNeg (some o)).getD j none).map rA := by
    funext j
    simp only [va_up, List.getD_eq_getElem?_getD, List.getElem?_set]
    by_cases hj : j = i.toNatClampNeg
    · subst hj
      rw [if_pos rfl, if_pos rfl, if_pos hlt]
      show some (b0 + o) = some (rA o)
      rw [hrA o ho]
    · rw [if_neg hj, if_neg (fun z => hj z.symm)]
  show W p l e R s m args below meth c H locs cells slots Q (F0 m pc ls (trv rA sio (.ref o) :: .int i :: trv rA sio (.ref a) :: trs rA sio r))
  rw [trv_ref rA sio ha, hrA a ha, trv_ref rA sio ho, hrA o ho]
  refine va_astq (D := (dC, dI)) hx hb hK hP hD hS.own a kk o ci (s_cell hc) ht (s_cell hco) hq hv hdg fun H1 l1 h1 h2 h3 => ?_
  refine k H1 l1 ?_ (by rw [List.length_set]; exact Nat.le_trans hsz h3.1) (hS.thru h3)
  rw [← wsF_set]
  show va_P (dC, dI) cls ((wsF (trE rA sio cA) b0 F).set a (b0 + a, .inl (cA kk, (os.set i.toNatClampNeg (some o)).length, .inr (.inr (.inr (.inr (fun j => ((os.set i.toNatClampNeg (some o)).getD j none).map rA))))))) H1
  rw [← e0, List.length_set]
  exact h1
end SimF
end
section
/-! THE SMALL MACHINE IS THE MACHINE, VII: new cells; all writes together -/
section SimG
variable {p : Program} {l : Launch} {e : Env} {R : Room} {s : State} {m : MethodId} {args : Array Value} {below : List Frame} {meth : Method} {c : Code} {H : Heap} {locs : List Loc} {cells slots : Nat} {Q : State → Prop}
variable {cc : ByteArray} {ls : Array Slot} {nL : Nat} {rA : Nat → Nat} {sio : Value} {cA : Nat → ClassId} {dC : Nat → ClassId} {dI : Nat → Nat → Nat} {cls : List vw_C} {b0 : Nat}
/-- where a new cell lies -/
theorem new_at {F : MH} {q : Nat} {E : va_E} {H1 : Heap} (hP : va_P (dC, dI) cls (wsF (trE rA sio cA) b0 F ++ [(q, E)]) H1) (hD : va_D (fun q => b0 ≤ q) (wsF (trE rA sio cA) b0 F ++ [(q, E)])) (hz : H1.size ≤ b0 + F.length + 1) : q = b0 + F.length ∧ b0 + F.length + 1 ≤ H1.size := by
  have hl : (wsF (trE rA sio cA) b0 F).length = F.length := by
    have : ∀ (F : MH) (b : Nat), (wsF (trE rA sio cA) b F).length = F.length := by
      intro F
      induction F with
      | nil => intro b; rfl
      | cons x t ih => intro b; simp only [wsF, List.length_cons, ih]
    exact this F b0
  have h1 : (wsF (trE rA sio cA) b0 F ++ [(q, E)])[F.length]? = some (q, E) := by
    rw [List.getElem?_append_right (by omega), hl, Nat.sub_self]; rfl
  have h2 : q < H1.size := (hP _ _ h1).lt
  have h3 : b0 ≤ q := hD.2 _ _ h1
  have h4 : ¬ q < b0 + F.length := by
    intro hlt
    obtain ⟨x, hx⟩ : ∃ x, F[q - b0]? = some x := ⟨_, List.getElem?_eq_getElem (by omega)⟩
    have h5 : (wsF (trE rA sio cA) b0 F ++ [(q, E)])[q - b0]? = some (b0 + (q - b0), trE rA sio cA x) := by
      rw [List.getElem?_append_left (by omega)]; exact s_cell hx
    have := hD.1 _ _ _ _ h5 h1 (by simp only; omega)
    omega
  omega
theorem s_new (hx : p.tables.exec = Jvm.exec) (hb : c.code = cc) {ws : List Cond} {own : String} (hts : ∀ w ∈ ws, w.before args s = true) (hown : s.vm.findClass own = some m.cls) {pc idx ci : Nat} {F : MH} {st : List Value} {fty : Nat → Nat → FieldType} {dfl : Nat → List Value} (hdg : decode cc pc = .ok (.new idx, 3))
    (hK : va_K (dC, dI) cls (tysL cA) s) (hcl : clsOK cls fty dfl ws) {q : vw_C} (q1 : cls[ci]? = some q) (q2 : Cond.classLink own idx q.1 ∈ ws) (hrA : ∀ a, a < KB → rA a = b0 + a) (hP : va_P (dC, dI) cls (wsF (trE rA sio cA) b0 F) H) (hS : va_S (fun q => b0 ≤ q) s.heap H locs) (hF : F.length < KB) (hI : s.heap.size + cells = b0 + F.length) (hsz : b0 + F.length ≤ H.size) (hc1 : cells + 1 ≤ R.cells) (hs1 : slots + (dfl ci).length ≤ R.slots)
    (k : ∀ (H1 : Heap), va_P (dC, dI) cls (wsF (trE rA sio cA) b0 (F ++ [.inl (ci, dfl ci)])) H1 → b0 + (F ++ [(.inl (ci, dfl ci) : MC)]).length ≤ H1.size → va_S (fun q => b0 ≤ q) s.heap H1 locs → W p l e R s m args below meth c H1 locs (cells + 1) (slots + (dfl ci).length) Q (F0 m (pc + 3) ls (trs rA sio (.ref F.length :: st)))) :
    W p l e R s m args below meth c H locs cells slots Q (F0 m pc ls (trs rA sio st)) := by
  obtain ⟨C, T, N⟩ := q
  obtain ⟨g1, g2, g3, g4, g5, g6, g7⟩ := hcl ci _ q1
  simp only at g1 g2 g3 g4 g5 g6 g7 q2
  have hD := wsF_D (trE rA sio cA) (A := fun q => b0 ≤ q) (b := b0) (fun _ h => h) F
  have em : (dfl ci).map (trv rA sio) = dfl ci := by
    apply List.ext_getElem?
    intro j
    rw [List.getElem?_map]
    by_cases hj : j < N
    · rw [(g5 j hj).1]
      show some (trv rA sio _) = _
      rw [(g5 j hj).2 rA sio]
    · rw [List.getElem?_eq_none (by omega)]; rfl
  have hd : ∀ j, j < N → defaultValue (fty ci j) = vp_V (dfl ci) j := by
    intro j hj
    unfold vp_V
    rw [List.getD_eq_getElem?_getD, (g5 j hj).1]; rfl
  rw [g4] at hs1 k
  refine va_new (D := (dC, dI)) hx hb hts g1 (fty ci) g2 hown (hts _ q2) (hts _ g6) (hts _ g7) hK hP hD hS.own (fun x hx => Nat.le_trans (Nat.le_trans (Nat.le_add_right _ _) hsz) hx) q1 hd hc1 hs1 hdg fun q H1 h1 h2 h3 => ?_
  refine W.size fun hz => ?_
  obtain ⟨z1, z2⟩ := new_at h1 h2 (by omega)
  subst z1
  have k := k H1 (by rw [wsF_app]; show va_P (dC, dI) cls (_ ++ [(_, .inr (ci, (dfl ci).map (trv rA sio)))]) H1; rw [em]; exact h1) (by rw [List.length_append]; exact z2) (hS.thru h3)
  have k : W p l e R s m args below meth c H1 locs (cells + 1) (slots + N) Q (F0 m (pc + 3) ls (trv rA sio (.ref F.length) :: trs rA sio st)) := k
  rw [trv_ref rA sio hF, hrA _ hF] at k
  exact k
theorem s_newa (hx : p.tables.exec = Jvm.exec) (hb : c.code = cc) {ws : List Cond} (hts : ∀ w ∈ ws, w.before args s = true) {pc kk : Nat} {at' : ArrayType} {n : Int32} {F : MH} {st : List Value} (hdg : decode cc pc = .ok (.newarray at', 2))
    (hK : va_K (dC, dI) cls (tysL cA) s) (hw : Cond.arrayClass .int ∈ ws ∧ Cond.arrayClass .boolean ∈ ws) (hk : (at' = .int ∧ kk = 0) ∨ (at' = .boolean ∧ kk = 1)) (hn0 : 0 ≤ n.toInt) (hn1 : n.toInt ≤ 100000) (hrA : ∀ a, a < KB → rA a = b0 + a) (hP : va_P (dC, dI) cls (wsF (trE rA sio cA) b0 F) H) (hS : va_S (fun q => b0 ≤ q) s.heap H locs) (hF : F.length < KB) (hI : s.heap.size + cells = b0 + F.length) (hsz : b0 + F.length ≤ H.size) (hc1 : cells + 1 ≤ R.cells) (hs1 : slots + n.toNatClampNeg ≤ R.slots)
    (k : ∀ (H1 : Heap), va_P (dC, dI) cls (wsF (trE rA sio cA) b0 (F ++ [.inr (.inl (kk, List.replicate n.toNatClampNeg 0))])) H1 → b0 + (F ++ [(.inr (.inl (kk, List.replicate n.toNatClampNeg 0)) : MC)]).length ≤ H1.size → va_S (fun q => b0 ≤ q) s.heap H1 locs → W p l e R s m args below meth c H1 locs (cells + 1) (slots + n.toNatClampNeg) Q (F0 m (pc + 2) ls (trs rA sio (.ref F.length :: st)))) :
    W p l e R s m args below meth c H locs cells slots Q (F0 m pc ls (trs rA sio (.int n :: st))) := by
  have hD := wsF_D (trE rA sio cA) (A := fun q => b0 ≤ q) (b := b0) (fun _ h => h) F
  have hneg : ¬ n < 0 := by rw [Int32.lt_iff_toInt_lt, Int32.toInt_zero]; omega
  have hsmall : n.toNatClampNeg ≤ 100000 := by
    have : (n.toNatClampNeg : Int) = n.toInt := by
      show ((n.toInt.toNat : Nat) : Int) = n.toInt
      omega
    omega
  have er : (fun j => (List.replicate n.toNatClampNeg (0 : Int32)).getD j 0) = fun _ => 0 := by
    funext j
    rw [List.getD_eq_getElem?_getD, List.getElem?_replicate]
    split <;> rfl
  have key : ∀ (ty : FieldType) (t0 : Nat), newarray.typeOf at' = ty → (tysL cA)[t0]? = some (cA t0, ty) → t0 = kk → (∀ cA' : ClassId, va_RA s cA' ty = (s.vm.findClass ("[" ++ ty.toString) = some cA')) → Cond.arrayClass (newarray.typeOf at') ∈ ws → (∀ cA' : ClassId, vp_cell cA' (n.toNatClampNeg, .inl (fun _ => 0)) = arrV cA' n.toNatClampNeg (fun _ => defaultValue ty)) → componentBytes ty ≤ 4 → W p l e R s m args below meth c H locs cells slots Q (F0 m pc ls (.int n :: trs rA sio st)) := by
    intro ty t0 e1 e2 e3 e4 e5 e6 e7
    subst e3
    refine va_newa (D := (dC, dI)) hx hb (hts _ e5) e1 hK hP hD hS.own (fun x hx => Nat.le_trans (Nat.le_trans (Nat.le_add_right _ _) hsz) hx) e6 hneg rfl (Nat.le_trans (Nat.mul_le_mul hsmall e7) (by decide)) hc1 hs1 hdg fun q cN H1 hK1 h1 h2 h3 => ?_
    refine W.size fun hz => ?_
    obtain ⟨z1, z2⟩ := new_at h1 h2 (by omega)
    subst z1
    have f1 : cN = cA t0 := by
      have a1 := (hK1.2 7 (cN, ty) rfl).2
      have a2 := (hK.2 t0 _ e2).2
      simp only at a1 a2
      rw [e4] at a1 a2
      exact Option.some.inj (a1.symm.trans a2)
    subst f1
    have k := k H1 (by rw [wsF_app]; show va_P (dC, dI) cls (_ ++ [(_, .inl (cA t0, (List.replicate n.toNatClampNeg (0 : Int32)).length, .inl (fun j => (List.replicate n.toNatClampNeg (0 : Int32)).getD j 0)))]) H1; rw [er, List.length_replicate]; exact h1) (by rw [List.length_append]; exact z2) (hS.thru h3)
    have k : W p l e R s m args below meth c H1 locs (cells + 1) (slots + n.toNatClampNeg) Q (F0 m (pc + 2) ls (trv rA sio (.ref F.length) :: trs rA sio st)) := k
    rw [trv_ref rA sio hF, hrA _ hF] at k
    exact k
  rcases hk with ⟨rfl, rfl⟩ | ⟨rfl, rfl⟩
  · exact key .int 0 rfl rfl rfl (fun _ => rfl) hw.1 (fun _ => rfl) (by decide)
  · exact key .boolean 1 rfl rfl rfl (fun _ => rfl) hw.2 (fun _ => rfl) (by decide)
theorem s_anew (hx : p.tables.exec = Jvm.exec) (hb : c.code = cc) {ws : List Cond} {own C : String} (hts : ∀ w ∈ ws, w.before args s = true) (hown : s.vm.findClass own = some m.cls) {pc kk idx : Nat} {n : Int32} {F : MH} {st : List Value} (hdg : decode cc pc = .ok (.anewarray idx, 3))
    (hK : va_K (dC, dI) cls (tysL cA) s) (hw1 : Cond.classLink own idx C ∈ ws) (hw2 : va_AO C s) (ht : (tysL cA)[kk]? = some (cA kk, .object C)) (hn0 : 0 ≤ n.toInt) (hn1 : n.toInt ≤ 100000) (hrA : ∀ a, a < KB → rA a = b0 + a) (hP : va_P (dC, dI) cls (wsF (trE rA sio cA) b0 F) H) (hS : va_S (fun q => b0 ≤ q) s.heap H locs) (hF : F.length < KB) (hI : s.heap.size + cells = b0 + F.length) (hsz : b0 + F.length ≤ H.size) (hc1 : cells + 1 ≤ R.cells) (hs1 : slots + n.toNatClampNeg ≤ R.slots)
    (k : ∀ (H1 : Heap), va_P (dC, dI) cls (wsF (trE rA sio cA) b0 (F ++ [.inr (.inr (kk, List.replicate n.toNatClampNeg none))])) H1 → b0 + (F ++ [(.inr (.inr (kk, List.replicate n.toNatClampNeg none)) : MC)]).length ≤ H1.size → va_S (fun q => b0 ≤ q) s.heap H1 locs → W p l e R s m args below meth c H1 locs (cells + 1) (slots + n.toNatClampNeg) Q (F0 m (pc + 3) ls (trs rA sio (.ref F.length :: st)))) :
    W p l e R s m args below meth c H locs cells slots Q (F0 m pc ls (trs rA sio (.int n :: st))) := by
  have hD := wsF_D (trE rA sio cA) (A := fun q => b0 ≤ q) (b := b0) (fun _ h => h) F
  have hneg : ¬ n < 0 := by rw [Int32.lt_iff_toInt_lt, Int32.toInt_zero]; omega
  have hsmall : n.toNatClampNeg ≤ 100000 := by
    have : (n.toNatClampNeg : Int) = n.toInt := by
      show ((n.toInt.toNat : Nat) : Int) = n.toInt
      omega
    omega
  have er : (fun j => ((List.replicate n.toNatClampNeg (none : Option Nat)).getD j none).map rA) = fun _ => none := by
    funext j
    rw [List.getD_eq_getElem?_getD, List.getElem?_replicate]
    split <;> rfl
  refine va_newq (D := (dC, dI)) hx hb hown (hts _ hw1) hw2 hK hP hD hS.own (fun x hx => Nat.le_trans (Nat.le_trans (Nat.le_add_right _ _) hsz) hx) hneg rfl (by omega) hc1 hs1 hdg fun q cN H1 hK1 h1 h2 h3 => ?_
  refine W.size fun hz => ?_
  obtain ⟨z1, z2⟩ := new_at h1 h2 (by omega)
  subst z1
  have f1 : cN = cA kk := by
    obtain ⟨_, _, -, -, -, a1⟩ := (hK1.2 7 (cN, .object C) rfl).2
    obtain ⟨_, _, -, -, -, a2⟩ := (hK.2 kk _ ht).2
    exact Option.some.inj (a1.symm.trans a2)
  subst f1
  have k := k H1 (by rw [wsF_app]; show va_P (dC, dI) cls (_ ++ [(_, .inl (cA kk, (List.replicate n.toNatClampNeg (none : Option Nat)).length, .inr (.inr (.inr (.inr (fun j => ((List.replicate n.toNatClampNeg (none : Option Nat)).getD j none).map rA))))))]) H1; rw [er, List.length_replicate]; exact h1) (by rw [List.length_append]; exact z2) (hS.thru h3)
  have k : W p l e R s m args below meth c H1 locs (cells + 1) (slots + n.toNatClampNeg) Q (F0 m (pc + 3) ls (trv rA sio (.ref F.length) :: trs rA sio st)) := k
  rw [trv_ref rA sio hF, hrA _ hF] at k
  exact k
end SimG
end
section
/-! THE SMALL MACHINE IS THE MACHINE, VIII: what holds at every method's start; constants; writes; growth -/
noncomputable def aoC : List String := ["DoorPaints$Visitor", "DoorPaints$Door", "DoorPaints$Told", "DoorPaints$Sheet"]
abbrev StrT : Type := List (String × Nat × Nat)
abbrev NestT : Type := List (String × Nat × MethodName × String)
noncomputable def CTX (cls : List vw_C) (strT : StrT) (nestT : NestT) (ro : Nat → Option MC) (rA : Nat → Nat) (sio : Value) (b0 : Nat) (dC : Nat → ClassId) (dI : Nat → Nat → Nat) (cA : Nat → ClassId) (U : State) : Prop :=
  va_K (dC, dI) cls (tysL cA) U ∧ (∀ j x, ro j = some x → roC rA sio (fun q => b0 ≤ q) U U.heap j x) ∧ va_Z "java/lang/String" "COMPACT_STRINGS" "Z" (.int 1) (fun q => b0 ≤ q) U U.heap ∧ va_Z "jdk/internal/util/Preconditions" "SIOOBE_FORMATTER" "Ljava/util/function/BiFunction;" sio (fun q => b0 ≤ q) U U.heap ∧
  (∀ q ∈ strT, ∃ tx, vk_R q.1 q.2.1 tx (rA (KB + q.2.2)) U) ∧ (∀ q ∈ nestT, va_Nw (.methodLinkNest q.1 q.2.1 q.2.2.1 q.2.2.2) U) ∧ (∀ C ∈ aoC, va_AO C U)
theorem roC.go {rA : Nat → Nat} {sio : Value} {A : Nat → Prop} {s U : State} {j : Nat} {x : MC} (h : roC rA sio A s s.heap j x) (hvm : s.vm.Alike U.vm) (hq : ∀ a : Nat, a < s.heap.size → ¬ A a → U.heap[a]? = s.heap[a]?) : roC rA sio A U U.heap j x := by
  match x, h with
  | .inl o, h =>
    obtain ⟨h1, v, h2, h3, h4, h5⟩ := h
    exact ⟨h1, v, h2, (h3.moved hvm).kept hq, (h4.moved hvm).kept hq, (h5.moved hvm).kept hq⟩
  | .inr (.inl q), h =>
    rcases h with ⟨h1, h2⟩ | ⟨h1, h2⟩
    · exact Or.inl ⟨h1, (h2.moved hvm).kept hq⟩
    · exact Or.inr ⟨h1, (h2.moved hvm).kept hq⟩
  | .inr (.inr q), h => exact h.elim
theorem CTX.go {cls : List vw_C} {strT : StrT} {nestT : NestT} {ro : Nat → Option MC} {rA : Nat → Nat} {sio : Value} {b0 : Nat} {dC : Nat → ClassId} {dI : Nat → Nat → Nat} {cA : Nat → ClassId} {s U : State} (h : CTX cls strT nestT ro rA sio b0 dC dI cA s) (hW : s.WarmedH U.vm) (hq : ∀ a : Nat, a < s.heap.size → ¬ b0 ≤ a → U.heap[a]? = s.heap[a]?) : CTX cls strT nestT ro rA sio b0 dC dI cA U := by
  obtain ⟨h1, h2, h3, h4, h5, h6, h7⟩ := h
  exact ⟨h1.moved hW.alike, fun j x hx => (h2 j x hx).go hW.alike hq, (h3.moved hW.alike).kept hq, (h4.moved hW.alike).kept hq, fun q hm => (h5 q hm).imp fun tx hz => hz.warm hW, fun q hm => va_Nw.warmM hW (h6 q hm), fun C hm => (h7 C hm).moved hW.alike⟩
/-- what is checked of a constant -/
noncomputable def cstOK (own : String) (E : MI) (ws : List Cond) (strT : StrT) : Prop := match E.2.1 with
  | .ldc idx => (E.2.2.2.1 = 0 ∧ Cond.constant own idx (Int32.ofInt E.2.2.2.2.2) ∈ ws) ∨ (¬ E.2.2.2.1 = 0 ∧ ¬ E.2.2.2.2.1 = 100 ∧ (own, idx, E.2.2.2.2.1) ∈ strT)
  | .ldc_w idx => Cond.constant own idx (Int32.ofInt E.2.2.2.2.2) ∈ ws
  | .ldc2_w idx => Cond.constantLong own idx (Int64.ofInt E.2.2.2.2.2) ∈ ws
  | .getstatic idx => (E.2.2.2.1 = 0 ∧ E.2.2.2.2.2 = 1 ∧ Cond.fieldLink own idx "java/lang/String" "COMPACT_STRINGS" "Z" ∈ ws) ∨ (¬ E.2.2.2.1 = 0 ∧ E.2.2.2.2.1 = 100 ∧ Cond.fieldLink own idx "jdk/internal/util/Preconditions" "SIOOBE_FORMATTER" "Ljava/util/function/BiFunction;" ∈ ws)
  | _ => True
section SimH
variable {p : Program} {l : Launch} {e : Env} {R : Room} {s : State} {m : MethodId} {args : Array Value} {below : List Frame} {meth : Method} {c : Code} {H : Heap} {locs : List Loc} {cells slots : Nat} {Q : State → Prop}
variable {cc : ByteArray} {ls : Array Slot} {nL : Nat} {rA : Nat → Nat} {sio : Value} {cA : Nat → ClassId} {dC : Nat → ClassId} {dI : Nat → Nat → Nat} {cls : List vw_C} {b0 : Nat} {strT : StrT} {nestT : NestT} {ro : Nat → Option MC}
theorem s_cst (hx : p.tables.exec = Jvm.exec) (hb : c.code = cc) {ws : List Cond} {own : String} (hts : ∀ w ∈ ws, w.before args s = true) (hown : s.vm.findClass own = some m.cls) {E : MI} {v : Value} {rest : List Value} (hdg : decode cc E.1 = .ok (E.2.1, E.2.2.1)) (hlen : m_len E.2.1 = 0 ∨ m_len E.2.1 = E.2.2.1) (hX : CTX cls strT nestT ro rA sio b0 dC dI cA s) (hok : cstOK own E ws strT) (hS : va_S (fun q => b0 ≤ q) s.heap H locs) (h : m_cst E = some v)
    (k : W p l e R s m args below meth c H locs cells slots Q (F0 m (E.1 + E.2.2.1) ls (trv rA sio v :: rest))) : W p l e R s m args below meth c H locs cells slots Q (F0 m E.1 ls rest) := by
  obtain ⟨pc, i, len, a0, b1, z⟩ := E
  obtain ⟨-, -, hZ1, hZ2, hstr, -, -⟩ := hX
  simp only at hdg hlen k h hok ⊢
  cases i
  case ldc idx =>
    simp only [m_len] at hlen
    obtain rfl : len = 2 := by omega
    simp only [m_cst] at h
    simp only [cstOK] at hok
    split at h
    · rename_i ha
      cases h
      rcases hok with ⟨-, q⟩ | ⟨q, -⟩
      · exact lv_ldc hx hb hown (hts _ q) hdg k
      · exact absurd ha q
    · rename_i ha
      cases h
      rcases hok with ⟨q, -⟩ | ⟨-, q1, q2⟩
      · exact absurd q ha
      · obtain ⟨tx, hR⟩ := hstr _ q2
        have e1 : trv rA sio (.ref (KB + b1)) = .ref (rA (KB + b1)) := by
          have : ¬ KB + b1 = KB + 100 := by omega
          simp only [trv, if_neg this]
        rw [e1] at k
        exact va_ldcS hx hb hown hR hdg k
  case ldc_w idx =>
    simp only [m_len] at hlen
    obtain rfl : len = 3 := by omega
    simp only [m_cst] at h
    simp only [cstOK] at hok
    cases h
    exact lv_ldcw hx hb hown (hts _ hok) hdg k
  case ldc2_w idx =>
    simp only [m_len] at hlen
    obtain rfl : len = 3 := by omega
    simp only [m_cst] at h
    simp only [cstOK] at hok
    cases h
    exact lv_ldc2 hx hb hown (hts _ hok) hdg k
  case getstatic idx =>
    simp only [m_len] at hlen
    obtain rfl : len = 3 := by omega
    simp only [m_cst] at h
    simp only [cstOK] at hok
    split at h
    · rename_i ha
      cases h
      rcases hok with ⟨-, q1, q2⟩ | ⟨q, -⟩
      · subst q1
        exact va_gets hx hb hZ1 hS hown (hts _ q2) (fun _ h9 => h9) hdg k
      · exact absurd ha q
    · rename_i ha
      cases h
      rcases hok with ⟨q, -⟩ | ⟨-, q1, q2⟩
      · exact absurd q ha
      · subst q1
        have e1 : trv rA sio (.ref (KB + 100)) = sio := by simp only [trv, if_true]
        rw [e1] at k
        exact va_gets hx hb hZ2 hS hown (hts _ q2) (fun _ h9 => h9) hdg k
  all_goals (simp only [m_cst, reduceCtorEq] at h)
/-- what a write leaves: as many cells or more, rows of references stay as they should -/
theorem wr_grow {fty : Nat → Nat → FieldType} {dfl : Nat → List Value} {F : MH} {E : MI} {st : List Value} {q : MH × List Value} (h : m_wr fty dfl F E st = some q) : F.length ≤ q.1.length ∧ mz F ≤ mz q.1 ∧ (rowsOK F → rowsOK q.1) := by
  have hset : ∀ (a : Nat) (c0 c1 : MC), F[a]? = some c0 → mzC c1 = mzC c0 → (∀ k os, c1 = .inr (.inr (k, os)) → ∃ o i os0, c0 = .inr (.inr (k, os0)) ∧ os = os0.set i (some o) ∧ o < KB) → F.length ≤ (F.set a c1).length ∧ mz F ≤ mz (F.set a c1) ∧ (rowsOK F → rowsOK (F.set a c1)) := by
    intro a c0 c1 h0 h1 h2
    refine ⟨by rw [List.length_set]; exact Nat.le_refl _, by rw [mz_set F a c0 c1 h0 h1]; exact Nat.le_refl _, fun hR a' k os ha' o ho x hx => ?_⟩
    rw [List.getElem?_set] at ha'
    split at ha'
    · split at ha'
      · have e1 : c1 = .inr (.inr (k, os)) := Option.some.inj ha'
        obtain ⟨oo, i, os0, e2, e3, e4⟩ := h2 k os e1
        rw [e2] at h0
        rw [e3] at ho
        rcases List.mem_or_eq_of_mem_set ho with h5 | h5
        · exact hR a k os0 h0 o h5 x hx
        · rw [h5] at hx; cases hx; exact e4
      · cases ha'
    · exact hR a' k os ha' o ho x hx
  have happ : ∀ (c1 : MC), (∀ k os, c1 = .inr (.inr (k, os)) → ∀ o ∈ os, o = none) → F.length ≤ (F ++ [c1]).length ∧ mz F ≤ mz (F ++ [c1]) ∧ (rowsOK F → rowsOK (F ++ [c1])) := by
    intro c1 h2
    refine ⟨by rw [List.length_append]; exact Nat.le_add_right _ _, by rw [mz_app]; exact Nat.le_add_right _ _, fun hR a' k os ha' o ho x hx => ?_⟩
    by_cases hl : a' < F.length
    · rw [List.getElem?_append_left hl] at ha'
      exact hR a' k os ha' o ho x hx
    · rw [List.getElem?_append_right (by omega)] at ha'
      have hz : a' - F.length < 1 := (List.getElem?_eq_some_iff.mp ha').1
      rw [show a' - F.length = 0 by omega] at ha'
      have e1 : c1 = .inr (.inr (k, os)) := by simpa using ha'
      rw [h2 k os e1 o ho] at hx
      cases hx
  obtain ⟨pc, i, len, a0, b1, z⟩ := E
  unfold m_wr at h
  split at h
  · split at h
    · split at h
      · split at h
        · rename_i hc _
          cases h
          exact hset _ _ _ hc (by simp only [mzC, List.length_set]) (fun k os e => by cases e)
        · cases h
      · cases h
    · cases h
  · split at h
    · split at h
      · split at h
        · rename_i hc _
          cases h
          exact hset _ _ _ hc (by simp only [mzC, List.length_set]) (fun k os e => by cases e)
        · cases h
      · cases h
    · cases h
  · split at h
    · split at h
      · split at h
        · rename_i hc _
          cases h
          exact hset _ _ _ hc (by simp only [mzC, List.length_set]) (fun k os e => by cases e)
        · cases h
      · cases h
    · cases h
  · split at h
    · split at h
      · split at h
        · rename_i hc _ hq
          cases h
          exact hset _ _ _ hc (by simp only [mzC, List.length_set]) (fun k os e => by cases e; exact ⟨_, _, _, rfl, rfl, hq.2.1⟩)
        · cases h
      · cases h
    · cases h
  · split at h
    · cases h
      exact happ _ (fun k os e => by cases e)
    · cases h
  · split at h
    · split at h
      · cases h
        exact happ _ (fun k os e => by cases e)
      · cases h
    · cases h
  · split at h
    · split at h
      · cases h
        exact happ _ (fun k os e => by cases e; intro o ho; exact (List.mem_replicate.mp ho).2)
      · cases h
    · cases h
  · cases h
theorem one_grow {fty : Nat → Nat → FieldType} {dfl : Nat → List Value} {F : MH} {E : MI} {lv : LVs} {st : List Value} {q : MS} (h : m_one ro fty dfl E F lv st = some q) : F.length ≤ q.1.length ∧ mz F ≤ mz q.1 ∧ (rowsOK F → rowsOK q.1) := by
  have same : F.length ≤ F.length ∧ mz F ≤ mz F ∧ (rowsOK F → rowsOK F) := ⟨Nat.le_refl _, Nat.le_refl _, id⟩
  unfold m_one at h
  split at h
  · cases h; exact same
  · split at h
    · cases h; exact same
    · split at h
      · cases h; exact same
      · split at h
        · cases h; exact same
        · split at h
          · cases h; exact same
          · split at h
            · cases h; exact same
            · split at h
              · rename_i hw
                cases h; exact wr_grow hw
              · cases h
theorem ex_grow {MT : List MM} {fty : Nat → Nat → FieldType} {dfl : Nat → List Value} : ∀ (n d mi : Nat) (F : MH) (pc : Nat) (lv : LVs) (st : List Value) (z : Option Value × MH), ex MT ro fty dfl n d mi F pc lv st = some z → F.length ≤ z.2.length ∧ mz F ≤ mz z.2 ∧ (rowsOK F → rowsOK z.2) := by
  intro n
  induction n with
  | zero => intro d mi F pc lv st z h; cases h
  | succ n ih =>
    intro d mi F pc lv st z h
    rw [ex] at h
    split at h
    · cases h
    · split at h
      · rename_i q hq
        have h1 := one_grow hq
        have h2 := ih _ _ _ _ _ _ _ h
        exact ⟨Nat.le_trans h1.1 h2.1, Nat.le_trans h1.2.1 h2.2.1, fun hR => h2.2.2 (h1.2.2 hR)⟩
      · split at h
        · cases h; exact ⟨Nat.le_refl _, Nat.le_refl _, id⟩
        · split at h
          · cases h
          · split at h
            · split at h
              · split at h
                · exact ih _ _ _ _ _ _ _ h
                · cases h
              · cases h
            · split at h
              · split at h
                · exact ih _ _ _ _ _ _ _ h
                · cases h
              · split at h
                rotate_left
                · cases h
                split at h
                · cases h
                · split at h
                  · cases h
                  · rename_i z1 hz
                    have h1 := ih _ _ _ _ _ _ _ hz
                    have h2 := ih _ _ _ _ _ _ _ h
                    exact ⟨Nat.le_trans h1.1 h2.1, Nat.le_trans h1.2.1 h2.2.1, fun hR => h2.2.2 (h1.2.2 hR)⟩
end SimH
end
section
/-! THE SMALL MACHINE IS THE MACHINE, IX: one step -/
/-- what is checked of an instruction: it stands there; its length; its local; its links -/
noncomputable def lnkOK (cls : List vw_C) (fty : Nat → Nat → FieldType) (y : MethodName) (ws : List Cond) (strT : StrT) (E : MI) : Prop :=
  (∀ idx, E.2.1 = .getfield idx → fldOK cls y.cls E ws idx) ∧ (∀ idx, E.2.1 = .putfield idx → fldOK cls y.cls E ws idx ∧ finOK cls y E) ∧ newOK cls y.cls E ws ∧ cstOK y.cls E ws strT
noncomputable def insOK (cls : List vw_C) (fty : Nat → Nat → FieldType) (y : MethodName) (cc : ByteArray) (nL : Nat) (ws : List Cond) (strT : StrT) (E : MI) : Prop :=
  decode cc E.1 = .ok (E.2.1, E.2.2.1) ∧ (m_len E.2.1 = 0 ∨ m_len E.2.1 = E.2.2.1) ∧ m_sl E.2.1 nL = true ∧ lnkOK cls fty y ws strT E
section SimI
variable {p : Program} {l : Launch} {e : Env} {R : Room} {s : State} {m : MethodId} {args : Array Value} {below : List Frame} {meth : Method} {c : Code} {H : Heap} {locs : List Loc} {cells slots : Nat} {Q : State → Prop}
variable {cc : ByteArray} {ls : Array Slot} {nL : Nat} {rA : Nat → Nat} {sio : Value} {cA : Nat → ClassId} {dC : Nat → ClassId} {dI : Nat → Nat → Nat} {cls : List vw_C} {b0 : Nat} {strT : StrT} {nestT : NestT} {ro : Nat → Option MC}
theorem s_wr (hx : p.tables.exec = Jvm.exec) (hb : c.code = cc) {ws : List Cond} {y : MethodName} (hts : ∀ w ∈ ws, w.before args s = true) (hown : s.vm.findClass y.cls = some m.cls) (hmn : meth.name = y.name) {E : MI} {F : MH} {st : List Value} {q : MH × List Value} {fty : Nat → Nat → FieldType} {dfl : Nat → List Value} (hs : sioOK sio)
    (hok : insOK cls fty y cc nL ws strT E) (hcl : clsOK cls fty dfl ws) (h99 : cls.length ≤ 99) (hX : CTX cls strT nestT ro rA sio b0 dC dI cA s) (hrA : ∀ a, a < KB → rA a = b0 + a) (hP : va_P (dC, dI) cls (wsF (trE rA sio cA) b0 F) H) (hS : va_S (fun q => b0 ≤ q) s.heap H locs) (hI : s.heap.size + cells = b0 + F.length) (hsz : b0 + F.length ≤ H.size) (h : m_wr fty dfl F E st = some q) (hc1 : cells + q.1.length ≤ R.cells + F.length) (hs1 : slots + mz q.1 ≤ R.slots + mz F)
    (k : ∀ (H1 : Heap) (l1 : List Loc) (c1 s1 : Nat), va_P (dC, dI) cls (wsF (trE rA sio cA) b0 q.1) H1 → b0 + q.1.length ≤ H1.size → va_S (fun q => b0 ≤ q) s.heap H1 l1 → c1 + F.length = cells + q.1.length → s1 + mz F = slots + mz q.1 → W p l e R s m args below meth c H1 l1 c1 s1 Q (F0 m (E.1 + E.2.2.1) ls (trs rA sio q.2))) :
    W p l e R s m args below meth c H locs cells slots Q (F0 m E.1 ls (trs rA sio st)) := by
  obtain ⟨pc, i, len, a0, b1, z⟩ := E
  obtain ⟨hdg, hlen, -, -, hpf, hnw, -⟩ := hok
  obtain ⟨hK, -, -, -, -, -, hAO⟩ := hX
  simp only at hdg hlen hpf k h ⊢
  cases i
  case putfield idx =>
    simp only [m_len] at hlen
    obtain rfl : len = 3 := by omega
    obtain ⟨hfl, hfin⟩ := hpf idx rfl
    simp only [m_wr] at h
    split at h
    · rename_i v a r
      split at h
      · rename_i ci fs hc
        split at h
        · rename_i hq
          obtain ⟨ha, hci, hkf, hn, hf⟩ := hq
          subst hci
          cases h
          rcases hfl with ⟨C, T, N, q1, q2, q3⟩ | ⟨q1, -⟩
          · simp only at q1 q2 q3
            exact s_putf hx hb hts hown hmn hs hdg hK hcl q1 q2 q3 (hfin C T N q1) hrA hP hS ha hc hkf hn hf hsz (fun H1 l1 h1 h2 h3 => k H1 l1 _ _ h1 h2 h3 (by rw [List.length_set]) (by rw [mz_set F a _ _ hc (by simp only [mzC, List.length_set])]))
          · simp only at q1
            obtain ⟨rr, g1, -⟩ := (hP a _ (s_cell hc))
            have := (List.getElem?_eq_some_iff.mp g1).1
            simp only at this
            omega
        · cases h
      · cases h
    · cases h
  case iastore =>
    simp only [m_len] at hlen
    obtain rfl : len = 1 := by omega
    simp only [m_wr] at h
    split at h
    · rename_i x i a r
      split at h
      · rename_i kk xs hc
        split at h
        · rename_i hq
          obtain ⟨ha, rfl, hin⟩ := hq
          cases h
          exact s_iast hx hb hdg hK hrA hP hS ha hc hin hsz (fun H1 l1 h1 h2 h3 => k H1 l1 _ _ h1 h2 h3 (by rw [List.length_set]) (by rw [mz_set F a _ _ hc (by simp only [mzC, List.length_set])]))
        · cases h
      · cases h
    · cases h
  case bastore =>
    simp only [m_len] at hlen
    obtain rfl : len = 1 := by omega
    simp only [m_wr] at h
    split at h
    · rename_i x i a r
      split at h
      · rename_i kk xs hc
        split at h
        · rename_i hq
          obtain ⟨ha, rfl, hin⟩ := hq
          cases h
          exact s_zast hx hb hdg hK hrA hP hS ha hc hin hsz (fun H1 l1 h1 h2 h3 => k H1 l1 _ _ h1 h2 h3 (by rw [List.length_set]) (by rw [mz_set F a _ _ hc (by simp only [mzC, List.length_set])]))
        · cases h
      · cases h
    · cases h
  case aastore =>
    simp only [m_len] at hlen
    obtain rfl : len = 1 := by omega
    simp only [m_wr] at h
    simp only [newOK] at hnw
    split at h
    · rename_i o i a r
      split at h
      · rename_i kk os ci vs hc hco
        split at h
        · rename_i hq
          obtain ⟨ha, ho, e1, e2, hin⟩ := hq
          cases h
          subst e1
          subst e2
          obtain ⟨qq, g1, g2⟩ := hnw
          have ht : (tysL cA)[b1]? = some (cA b1, .object qq.1) := by
            rcases g2 with ⟨u, w⟩ | ⟨u, w⟩ | ⟨u, w⟩ | ⟨u, w⟩ <;> (subst u; rw [w]; rfl)
          exact s_aast hx hb hdg hK hrA hP hS ha ho hc hco g1 ht hin hsz (fun H1 l1 h1 h2 h3 => k H1 l1 _ _ h1 h2 h3 (by rw [List.length_set]) (by rw [mz_set F a _ _ hc (by simp only [mzC, List.length_set])]))
        · cases h
      · cases h
    · cases h
  case new idx =>
    simp only [m_len] at hlen
    obtain rfl : len = 3 := by omega
    simp only [m_wr] at h
    simp only [newOK] at hnw
    obtain ⟨qq, g1, g2⟩ := hnw
    split at h
    · rename_i hF
      cases h
      simp only [List.length_append, List.length_cons, List.length_nil, mz_app, mzC] at hc1 hs1 k
      exact s_new hx hb hts hown hdg hK hcl g1 g2 hrA hP hS hF hI hsz (by omega) (by omega) (fun H1 h1 h2 h3 => k H1 locs _ _ h1 (by rw [List.length_append] at h2; exact h2) h3 (by omega) (by omega))
    · cases h
  case newarray t =>
    simp only [m_len] at hlen
    obtain rfl : len = 2 := by omega
    simp only [m_wr] at h
    simp only [newOK] at hnw
    split at h
    · rename_i n r
      split at h
      · rename_i hq
        obtain ⟨hF, hn0, hn1, hk⟩ := hq
        cases h
        simp only [List.length_append, List.length_cons, List.length_nil, mz_app, mzC, List.length_replicate] at hc1 hs1 k
        exact s_newa hx hb hts hdg hK hnw hk hn0 hn1 hrA hP hS hF hI hsz (by omega) (by omega) (fun H1 h1 h2 h3 => k H1 locs _ _ h1 (by rw [List.length_append] at h2; exact h2) h3 (by omega) (by omega))
      · cases h
    · cases h
  case anewarray idx =>
    simp only [m_len] at hlen
    obtain rfl : len = 3 := by omega
    simp only [m_wr] at h
    simp only [newOK] at hnw
    split at h
    · rename_i n r
      split at h
      · rename_i hq
        obtain ⟨hF, hn0, hn1⟩ := hq
        cases h
        simp only [List.length_append, List.length_cons, List.length_nil, mz_app, mzC, List.length_replicate] at hc1 hs1 k
        have key : ∀ C, C ∈ aoC → Cond.classLink y.cls idx C ∈ ws → (tysL cA)[a0]? = some (cA a0, .object C) → W p l e R s m args below meth c H locs cells slots Q (F0 m pc ls (trs rA sio (.int n :: r))) := fun C g1 g2 g3 =>
          s_anew hx hb hts hown hdg hK g2 (hAO C g1) g3 hn0 hn1 hrA hP hS hF hI hsz (by omega) (by omega) (fun H1 h1 h2 h3 => k H1 locs _ _ h1 (by rw [List.length_append] at h2; exact h2) h3 (by omega) (by omega))
        rcases hnw with ⟨u, w⟩ | ⟨u, w⟩ | ⟨u, w⟩ | ⟨u, w⟩
        · subst u; exact key _ (by decide) w rfl
        · subst u; exact key _ (by decide) w rfl
        · subst u; exact key _ (by decide) w rfl
        · subst u; exact key _ (by decide) w rfl
      · cases h
    · cases h
  all_goals (simp only [m_wr, reduceCtorEq] at h)
theorem s_one (hx : p.tables.exec = Jvm.exec) (hb : c.code = cc) {ws : List Cond} {y : MethodName} (hts : ∀ w ∈ ws, w.before args s = true) (hown : s.vm.findClass y.cls = some m.cls) (hmn : meth.name = y.name) {E : MI} {F : MH} {lv : LVs} {st : List Value} {q : MS} {fty : Nat → Nat → FieldType} {dfl : Nat → List Value} (hs : sioOK sio)
    (hok : insOK cls fty y cc nL ws strT E) (hcl : clsOK cls fty dfl ws) (h99 : cls.length ≤ 99) (hX : CTX cls strT nestT ro rA sio b0 dC dI cA s) (hrA : ∀ a, a < KB → rA a = b0 + a) (hr1 : ∀ j y, ro j = some y → j ≠ 100) (hR : rowsOK F) (hl : lv_has ls nL (trl rA sio lv)) (hP : va_P (dC, dI) cls (wsF (trE rA sio cA) b0 F) H) (hS : va_S (fun q => b0 ≤ q) s.heap H locs) (hI : s.heap.size + cells = b0 + F.length) (hsz : b0 + F.length ≤ H.size) (h : m_one ro fty dfl E F lv st = some q) (hc1 : cells + q.1.length ≤ R.cells + F.length) (hs1 : slots + mz q.1 ≤ R.slots + mz F)
    (k : ∀ (H1 : Heap) (l1 : List Loc) (ls1 : Array Slot) (c1 s1 : Nat), va_P (dC, dI) cls (wsF (trE rA sio cA) b0 q.1) H1 → b0 + q.1.length ≤ H1.size → va_S (fun q => b0 ≤ q) s.heap H1 l1 → lv_has ls1 nL (trl rA sio q.2.2.1) → c1 + F.length = cells + q.1.length → s1 + mz F = slots + mz q.1 → W p l e R s m args below meth c H1 l1 c1 s1 Q (F0 m q.2.1 ls1 (trs rA sio q.2.2.2))) :
    W p l e R s m args below meth c H locs cells slots Q (F0 m E.1 ls (trs rA sio st)) := by
  have hok0 := hok
  obtain ⟨hdg, hlen, hsl, hgf, hpf, hnw, hcs⟩ := hok
  unfold m_one at h
  split at h
  · rename_i v hv
    cases h
    exact s_push hx hb hs hdg hlen hl hv (k H locs ls cells slots hP hsz hS hl rfl rfl)
  · split at h
    · rename_i v hv
      cases h
      exact s_cst hx hb hts hown hdg hlen hX hcs hS hv (k H locs ls cells slots hP hsz hS hl rfl rfl)
    · split at h
      · rename_i v hv
        cases h
        exact s_store hx hb hs hdg hlen hsl hl hv (fun ls1 hl1 => k H locs ls1 cells slots hP hsz hS hl1 rfl rfl)
      · split at h
        · rename_i v hv
          cases h
          exact s_alu hx hb hs hdg hlen hv (k H locs ls cells slots hP hsz hS hl rfl rfl)
        · split at h
          · rename_i v hv
            cases h
            exact s_br hx hb hs hdg hlen hv (k H locs ls cells slots hP hsz hS hl rfl rfl)
          · split at h
            · rename_i v hv
              cases h
              exact s_rd hx hb hts hown hs hdg hlen hX.1 (fun ci q hq => (hcl ci q hq).1) h99 hrA hR hX.2.1 hr1 hP hS hgf hv (k H locs ls cells slots hP hsz hS hl rfl rfl)
            · split at h
              · rename_i v hv
                cases h
                exact s_wr hx hb hts hown hmn hs hok0 hcl h99 hX hrA hP hS hI hsz hv hc1 hs1 (fun H1 l1 c1 s1 g1 g2 g3 g4 g5 => k H1 l1 ls c1 s1 g1 g2 g3 hl g4 g5)
              · cases h
end SimI
end
section
/-! THE SMALL MACHINE IS THE MACHINE, X: calls, returns, runs -/
/-- what is checked of a call -/
noncomputable def invOK (cls : List vw_C) (MT : List MM) (ws : List Cond) (nestT : NestT) (own : String) (E : MI) : Prop := match E.2.1 with
  | .invokestatic idx => ¬ E.2.2.2.1 = 9999 ∧ ((E.2.2.2.1 = 9998 ∧ E.2.2.2.2.1 = 2 ∧ Cond.methodLink own idx Lib.Math.max.name ∈ ws ∧ Cond.static Lib.Math.max.name ∈ ws ∧ Cond.initialized "java/lang/Math" ∈ ws ∧ Cond.code Lib.Math.max.name Lib.Math.max.code 2 (some .int) ∈ ws) ∨ ∃ M, MT[E.2.2.2.1]? = some M ∧ (Cond.methodLink own idx M.1 ∈ ws ∨ ∃ host, (own, idx, M.1, host) ∈ nestT) ∧ Cond.static M.1 ∈ ws ∧ Cond.initialized M.1.cls ∈ ws ∧ M.1.cls ≠ "java/lang/invoke/MethodHandle" ∧ M.1.cls ≠ "java/lang/invoke/VarHandle" ∧ (parseMethodDescriptor M.1.desc).map (fun d => d.parameters.length) = some E.2.2.2.2.1)
  | .invokespecial idx => (E.2.2.2.1 = 9999 ∧ E.2.2.2.2.1 = 1 ∧ Cond.methodLink own idx Lib.objectInit ∈ ws ∧ Cond.instanceMethod Lib.objectInit ∈ ws ∧ Cond.code Lib.objectInit ⟨#[0xb1]⟩ 1 none ∈ ws) ∨
    (¬ E.2.2.2.1 = 9999 ∧ ∃ M, MT[E.2.2.2.1]? = some M ∧ M.2.2.2.1 = none ∧ M.1.name = "<init>" ∧ (Cond.methodLink own idx M.1 ∈ ws ∨ ∃ host, (own, idx, M.1, host) ∈ nestT) ∧ Cond.instanceMethod M.1 ∈ ws ∧ Cond.initialized M.1.cls ∈ ws ∧ M.1.cls ≠ "java/lang/invoke/MethodHandle" ∧ M.1.cls ≠ "java/lang/invoke/VarHandle" ∧ (parseMethodDescriptor M.1.desc).map (fun d => d.parameters.length) = some (E.2.2.2.2.1 - 1))
  | .invokevirtual idx => ¬ E.2.2.2.1 = 9999 ∧ ∃ M, MT[E.2.2.2.1]? = some M ∧ Cond.methodLink own idx M.1 ∈ ws ∧ Cond.instanceMethod M.1 ∈ ws ∧ Cond.selects M.1.cls M.1 M.1 ∈ ws ∧ Cond.initialized M.1.cls ∈ ws ∧ M.1.cls ≠ "java/lang/invoke/MethodHandle" ∧ M.1.cls ≠ "java/lang/invoke/VarHandle" ∧ (parseMethodDescriptor M.1.desc).map (fun d => d.parameters.length) = some (E.2.2.2.2.1 - 1) ∧
    ((∃ (ci : Nat) (q : vw_C), (ci : Int) = E.2.2.2.2.2 ∧ cls[ci]? = some q ∧ q.1 = M.1.cls) ∨ (E.2.2.2.2.2 = 99 ∧ M.1.cls = "java/lang/String"))
  | _ => True
noncomputable def bodyOK (cls : List vw_C) (fty : Nat → Nat → FieldType) (MT : List MM) (ws : List Cond) (strT : StrT) (nestT : NestT) (M : MM) : Prop := ∀ E ∈ M.2.2.2.2, insOK cls fty M.1 M.2.1 M.2.2.1 ws strT E ∧ invOK cls MT ws nestT M.1.cls E
noncomputable def callOK (ws : List Cond) (M : MM) : Prop := Cond.code M.1 M.2.1 M.2.2.1 M.2.2.2.1 ∈ ws ∧ M.2.2.1 ≤ 45 ∧ plainName M.1.cls = true
section SimJ
variable {p : Program} {l : Launch} {e : Env} {R : Room} {s : State} {m : MethodId} {args : Array Value} {below : List Frame} {meth : Method} {c : Code} {H : Heap} {locs : List Loc} {cells slots : Nat} {Q : State → Prop}
variable {cc : ByteArray} {ls : Array Slot} {nL : Nat} {rA : Nat → Nat} {sio : Value} {cA : Nat → ClassId} {dC : Nat → ClassId} {dI : Nat → Nat → Nat} {cls : List vw_C} {b0 : Nat} {strT : StrT} {nestT : NestT} {ro : Nat → Option MC}
noncomputable def Pm (cls : List vw_C) (strT : StrT) (nestT : NestT) (ro : Nat → Option MC) (rA : Nat → Nat) (sio : Value) (b0 : Nat) (dC : Nat → ClassId) (dI : Nat → Nat → Nat) (cA : Nat → ClassId) (as : List Value) (F : MH) : Array Value → State → Prop :=
  va_Pc (trs rA sio as) (fun U => U.heap.size = b0 + F.length ∧ va_P (dC, dI) cls (wsF (trE rA sio cA) b0 F) U.heap ∧ CTX cls strT nestT ro rA sio b0 dC dI cA U)
noncomputable def Qm (cls : List vw_C) (rA : Nat → Nat) (sio : Value) (b0 : Nat) (dC : Nat → ClassId) (dI : Nat → Nat → Nat) (cA : Nat → ClassId) (v : Option Value) (F1 : MH) : Array Value → State → Outcome → State → Prop := fun _ st o t =>
  o = .returned (v.map (trv rA sio)) ∧ va_P (dC, dI) cls (wsF (trE rA sio cA) b0 F1) t.heap ∧ b0 + F1.length ≤ t.heap.size ∧ va_F (fun q => b0 ≤ q) st t
theorem Pm_blind (as : List Value) (F : MH) : FrameBlind (Pm cls strT nestT ro rA sio b0 dC dI cA as F) := by
  intro a U g mk h
  obtain ⟨h0, h1, h2, h3⟩ := h
  exact ⟨h0, h1, h2, h3.go (U := U.calling g mk a) (State.WarmedH.refl U) (fun _ _ _ => rfl)⟩
theorem s_callgo {pc mc ms : Nat} {st0 rest : List Value} {v : Option Value} {F1 : MH} {a : Array Value} (hr : va_Run p l e R s m args below meth c H locs cells slots mc ms (F0 m pc ls st0) rest (Qm cls rA sio b0 dC dI cA v F1 a) (fun q => b0 ≤ q)) (hS : va_S (fun q => b0 ≤ q) s.heap H locs)
    (k : ∀ (H1 : Heap) (l1 : List Loc), va_P (dC, dI) cls (wsF (trE rA sio cA) b0 F1) H1 → b0 + F1.length ≤ H1.size → va_S (fun q => b0 ≤ q) s.heap H1 l1 → W p l e R s m args below meth c H1 l1 (cells + mc) (slots + ms) Q (F0 m (pc + 3) ls ((v.map (trv rA sio)).toList ++ rest))) :
    W p l e R s m args below meth c H locs cells slots Q (F0 m pc ls st0) := by
  intro T hT X
  obtain ⟨v', st₀, t, T', L, h0, X', hL, e1, e2, ⟨hv, hq1, hq2, hz, hk⟩, st⟩ := hr T hT X
  cases hv
  rw [h0] at hz hk
  obtain ⟨t2, a1, b1⟩ := k T'.heap (locs ++ L) (by rw [e1]; exact hq1) (by rw [e1]; exact hq2)
    ⟨Nat.le_trans hS.1 (by rw [e1]; exact hz), fun q h1 h2 => by rw [e1, hk q (Nat.lt_of_lt_of_le h1 hS.1) h2]; exact hS.2.1 q h1 h2, fun q hq => by
      rcases List.mem_append.mp hq with h | h
      · exact hS.2.2 q h
      · exact hL q h⟩ T' rfl X'
  exact ⟨t2, st t2 a1, b1⟩
theorem sl_len (hs : sioOK sio) : ∀ as : List Value, (lg_sl (trs rA sio as)).length = (as.map fun v => v.category).sum
  | [] => rfl
  | v :: t => by
    have ih := sl_len hs t
    simp only [trs, lg_sl, List.map_cons, List.flatMap_cons, List.length_append, List.sum_cons] at ih ⊢
    rw [ih, trv_cat hs]
    rcases lv_cat v with h | h <;> rw [h] <;> simp
theorem args_tr (hs : sioOK sio) : ∀ (as : List Value) (i : Nat), lv_args i (trs rA sio as) = trl rA sio (lv_args i as)
  | [], i => rfl
  | v :: t, i => by
    have ih := args_tr hs t
    simp only [trs, trl, List.map_cons, lv_args] at ih ⊢
    rw [trv_cat hs, ih]
theorem m_at_spec {MT : List MM} {mi pc : Nat} {z : MI × Option FieldType} (h : m_at MT mi pc = some z) : ∃ M, MT[mi]? = some M ∧ z.1 ∈ M.2.2.2.2 ∧ z.1.1 = pc ∧ z.2 = M.2.2.2.1 := by
  unfold m_at at h
  split at h
  · rename_i M hM
    cases hf : M.2.2.2.2.find? (fun E => E.1 == pc) with
    | none => rw [hf] at h; cases h
    | some E =>
      rw [hf] at h
      cases h
      have h2 : (E.1 == pc) = true := by have := List.find?_some hf; exact this
      exact ⟨M, hM, List.mem_of_find?_eq_some hf, by simpa using h2, rfl⟩
  · cases h
/-- a contract out of runs of its body -/
theorem met_of {M : MM} {ws : List Cond} {d mc ms : Nat} {as : List Value} {F F1 : MH} {v : Option Value} (hs : sioOK sio) (hpl : plainName M.1.cls = true) (hw : (as.map fun v => v.category).sum ≤ M.2.2.1)
    (body : ∀ {p : Program} {e : Env} {s : State} {m : MethodId} {args : Array Value} {below : List Frame} {meth : Method} {c : Code} {ls : Array Slot}, p.tables.exec = Jvm.exec → c.code = M.2.1 → c.maxLocals = M.2.2.1 → s.vm.findClass M.1.cls = some m.cls → meth.name = M.1.name → meth.sig.returnType = M.2.2.2.1 → meth.locks = false → (∀ w ∈ ws, w.before args s = true) → CTX cls strT nestT ro rA sio b0 dC dI cA s → s.heap.size = b0 + F.length → va_P (dC, dI) cls (wsF (trE rA sio cA) b0 F) s.heap → lv_has ls M.2.2.1 (trl rA sio (lv_args 0 as)) →
      W p l e ({ frames := d + 1, cells := mc, slots := ms, locals := 64 * (d + 1) } : Room) s m args below meth c s.heap [] 0 0 (MQ below (Qm cls rA sio b0 dC dI cA v F1) args s mc ms (fun q => b0 ≤ q)) (F0 m 0 ls [])) :
    Met l M.1 (Cond.code M.1 M.2.1 M.2.2.1 M.2.2.2.1 :: ws) ({ frames := d + 1, cells := mc, slots := ms, locals := 64 * (d + 1) } : Room) (Pm cls strT nestT ro rA sio b0 dC dI cA as F) (Qm cls rA sio b0 dC dI cA v F1) mc ms (fun q => b0 ≤ q) := by
  refine Met.ofW (cc := M.2.1) (maxL := M.2.2.1) (ret := M.2.2.2.1) hpl rfl ?_
  intro p e s m args below meth c s₁ B hml hv
  obtain ⟨rfl, hsz, hP, hX⟩ := hv
  have hts := atoms_spec (ws := Cond.code M.1 M.2.1 M.2.2.1 M.2.2.2.1 :: ws) B.pre
  have hown : s.vm.findClass M.1.cls = some m.cls := findClass_of_methodNamed B.named
  have hin : meth.name = M.1.name := (name_of_methodNamed B.named B.method).1
  have hl := lv_entry (trs rA sio as) (n := M.2.2.1) (by rw [sl_len hs]; exact hw)
  rw [args_tr hs] at hl
  rw [lg_entry_eq]
  exact body B.exec B.bytes hml hown hin B.returns B.notSynchronized (fun w h => hts w (List.mem_cons_of_mem _ h)) hX hsz hP hl
/-- a return -/
theorem s_ret (hx : p.tables.exec = Jvm.exec) (hb : c.code = cc) {rt : Option FieldType} (hr : meth.sig.returnType = rt) (hlk : meth.locks = false) {E : MI} {st : List Value} {v : Option Value} {F1 : MH} (hdg : decode cc E.1 = .ok (E.2.1, E.2.2.1)) (hlen : m_len E.2.1 = 0 ∨ m_len E.2.1 = E.2.2.1) (h : m_ret rt E st = some v) (hP : va_P (dC, dI) cls (wsF (trE rA sio cA) b0 F1) H) (hsz : b0 + F1.length ≤ H.size) (hS : va_S (fun q => b0 ≤ q) s.heap H locs) :
    W p l e R s m args below meth c H locs cells slots (MQ below (Qm cls rA sio b0 dC dI cA v F1) args s cells slots (fun q => b0 ≤ q)) (F0 m E.1 ls (trs rA sio st)) := by
  have hq : ∀ t : State, t.heap = H → s.WarmedH t.vm → Qm cls rA sio b0 dC dI cA v F1 args s (.returned (v.map (trv rA sio))) t := fun t ht _ => ⟨rfl, by rw [ht]; exact hP, by rw [ht]; exact hsz, hS.F ht⟩
  obtain ⟨pc, i, len, a0, b1, z⟩ := E
  simp only at hdg hlen h ⊢
  cases i
  case ireturn =>
    simp only [m_len] at hlen
    obtain rfl : len = 1 := by omega
    simp only [m_ret] at h
    split at h
    · split at h
      · split at h
        · rename_i hn
          cases h
          exact W.zret hx hb hr hn hq hS.2.2 hdg hlk
        · cases h
      · cases h
    · cases h
  case lreturn =>
    simp only [m_len] at hlen
    obtain rfl : len = 1 := by omega
    simp only [m_ret] at h
    split at h
    · split at h
      · rename_i hn
        cases h
        exact W.lret hx hb (hr.trans hn) hq hS.2.2 hdg hlk
      · cases h
    · cases h
  case return_ =>
    simp only [m_len] at hlen
    obtain rfl : len = 1 := by omega
    simp only [m_ret] at h
    split at h
    · split at h
      · rename_i hn
        cases h
        exact W.vret hx hb (hr.trans hn) hq hS.2.2 hdg hlk
      · cases h
    · cases h
  all_goals (simp only [m_ret, reduceCtorEq] at h)
end SimJ
end
