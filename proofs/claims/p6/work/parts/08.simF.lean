/-! THE SMALL MACHINE IS THE MACHINE, VI: writes, new cells -/
def mzC (c : MC) : Nat := match c with
  | .inl o => o.2.length
  | .inr (.inl q) => q.2.length
  | .inr (.inr q) => q.2.length
def mz (F : MH) : Nat := (F.map mzC).sum
theorem mz_app (F : MH) (c : MC) : mz (F ++ [c]) = mz F + mzC c := by simp [mz]
theorem mz_set : ∀ (F : MH) (a : Nat) (c0 c : MC), F[a]? = some c0 → mzC c = mzC c0 → mz (F.set a c) = mz F
  | [], a, c0, c, h, _ => by simp at h
  | x :: t, 0, c0, c, h, he => by
    simp only [List.getElem?_cons_zero, Option.some.injEq] at h
    subst h
    simp only [List.set_cons_zero, mz, List.map_cons, List.sum_cons, he]
  | x :: t, a + 1, c0, c, h, he => by
    rw [List.getElem?_cons_succ] at h
    have := mz_set t a c0 c h he
    simp only [mz] at this
    simp only [List.set_cons_succ, mz, List.map_cons, List.sum_cons, this]
/-- the classes' tables: types of fields, names apart, what a new object holds, the words -/
def clsOK (cls : List vw_C) (fty : Nat → Nat → FieldType) (dfl : Nat → List Value) (ws : List Cond) : Prop :=
  ∀ (ci : Nat) (q : vw_C), cls[ci]? = some q → (∀ w ∈ u_ws q.1 q.2.1 q.2.2, w ∈ ws) ∧ (∀ k, k < q.2.2 → parseFieldDescriptor (q.2.1 k).2.2.1 = some (fty ci k)) ∧ (∀ a, a < q.2.2 → ∀ b, b < q.2.2 → a ≠ b → (q.2.1 a).2.1 ≠ (q.2.1 b).2.1) ∧
    (dfl ci).length = q.2.2 ∧ (∀ j, j < q.2.2 → (dfl ci)[j]? = some (defaultValue (fty ci j)) ∧ ∀ rA sio, trv rA sio (defaultValue (fty ci j)) = defaultValue (fty ci j)) ∧ Cond.instantiable q.1 q.2.2 ∈ ws ∧ Cond.initialized q.1 ∈ ws
/-- a final field is put in its class's constructor alone -/
def finOK (cls : List vw_C) (y : MethodName) (E : MI) : Prop := ∀ (C : String) (T : u_T) (N : Nat), cls[E.2.2.2.1]? = some (C, T, N) → (T E.2.2.2.2.1).2.2.2 = false ∨ ((T E.2.2.2.2.1).2.2.2 = true ∧ y.name = "<init>" ∧ (T E.2.2.2.2.1).1 = y.cls)
/-- what is checked of an instruction that makes cells -/
def newOK (cls : List vw_C) (own : String) (E : MI) (ws : List Cond) : Prop := match E.2.1 with
  | .new idx => ∃ q, cls[E.2.2.2.1]? = some q ∧ Cond.classLink own idx q.1 ∈ ws
  | .newarray _ => Cond.arrayClass .int ∈ ws ∧ Cond.arrayClass .boolean ∈ ws
  | .anewarray idx => (E.2.2.2.1 = 3 ∧ Cond.classLink own idx "DoorPaints$Visitor" ∈ ws) ∨ (E.2.2.2.1 = 4 ∧ Cond.classLink own idx "DoorPaints$Door" ∈ ws) ∨ (E.2.2.2.1 = 5 ∧ Cond.classLink own idx "DoorPaints$Told" ∈ ws) ∨ (E.2.2.2.1 = 6 ∧ Cond.classLink own idx "DoorPaints$Sheet" ∈ ws)
  | .aastore => ∃ q, cls[E.2.2.2.1]? = some q ∧ ((E.2.2.2.2.1 = 3 ∧ q.1 = "DoorPaints$Visitor") ∨ (E.2.2.2.2.1 = 4 ∧ q.1 = "DoorPaints$Door") ∨ (E.2.2.2.2.1 = 5 ∧ q.1 = "DoorPaints$Told") ∨ (E.2.2.2.2.1 = 6 ∧ q.1 = "DoorPaints$Sheet"))
  | _ => True
section SimF
variable {p : Program} {l : Launch} {e : Env} {R : Room} {s : State} {m : MethodId} {args : Array Value} {below : List Frame} {meth : Method} {c : Code} {H : Heap} {locs : List Loc} {cells slots : Nat} {Q : State → Prop}
variable {cc : ByteArray} {ls : Array Slot} {nL : Nat} {rA : Nat → Nat} {sio : Value} {cA : Nat → ClassId} {dC : Nat → ClassId} {dI : Nat → Nat → Nat} {cls : List vw_C} {b0 : Nat}
theorem W.size {g : JFrame} (k : H.size ≤ s.heap.size + cells → W p l e R s m args below meth c H locs cells slots Q g) : W p l e R s m args below meth c H locs cells slots Q g :=
  fun T hT X => k (by rw [← hT]; exact X.heapSize) T hT X
theorem fits_trv (hs : sioOK sio) {ty : FieldType} {v : Value} (hf : fits ty v = true) (hn : narrow ty v = v) : fits ty (trv rA sio v) = true ∧ narrow ty (trv rA sio v) = trv rA sio v := by
  cases v with
  | ref a =>
    have h4 : sioOK (trv rA sio (.ref a)) := trv_sio hs a
    rcases h4 with h4 | ⟨y, h4⟩ <;> rw [h4] <;> cases ty <;> simp_all [fits, narrow]
  | _ => exact ⟨hf, hn⟩
theorem va_S.own {A : Nat → Prop} {H0 : Heap} (h : va_S A H0 H locs) : va_S A H H locs := ⟨Nat.le_refl _, fun _ _ _ => rfl, h.2.2⟩
theorem va_S.thru {A : Nat → Prop} {H0 H1 : Heap} {l1 : List Loc} (h : va_S A H0 H locs) (h1 : va_S A H H1 l1) : va_S A H0 H1 l1 := ⟨Nat.le_trans h.1 h1.1, fun q a b => (h1.2.1 q (Nat.lt_of_lt_of_le a h.1) b).trans (h.2.1 q a b), h1.2.2⟩
theorem s_putf (hx : p.tables.exec = Jvm.exec) (hb : c.code = cc) {ws : List Cond} {y : MethodName} (hts : ∀ w ∈ ws, w.before args s = true) (hown : s.vm.findClass y.cls = some m.cls) (hmn : meth.name = y.name) {pc idx a ci kf : Nat} {fs : List Value} {F : MH} {v : Value} {r : List Value} {fty : Nat → Nat → FieldType} {dfl : Nat → List Value} (hs : sioOK sio) (hdg : decode cc pc = .ok (.putfield idx, 3))
    (hK : va_K (dC, dI) cls (tysL cA) s) (hcl : clsOK cls fty dfl ws) {C : String} {T : u_T} {N : Nat} (q1 : cls[ci]? = some (C, T, N)) (q2 : kf < N) (q3 : Cond.fieldLink y.cls idx (T kf).1 (T kf).2.1 (T kf).2.2.1 ∈ ws)
    (hfin : (T kf).2.2.2 = false ∨ ((T kf).2.2.2 = true ∧ y.name = "<init>" ∧ (T kf).1 = y.cls)) (hrA : ∀ a, a < KB → rA a = b0 + a) (hP : va_P (dC, dI) cls (wsF (trE rA sio cA) b0 F) H) (hS : va_S (fun q => b0 ≤ q) s.heap H locs) (ha : a < KB) (hc : F[a]? = some (.inl (ci, fs))) (hkf : kf < fs.length) (hn : narrow (fty ci kf) v = v) (hf : fits (fty ci kf) v = true) (hsz : b0 + F.length ≤ H.size)
    (k : ∀ (H1 : Heap) (l1 : List Loc), va_P (dC, dI) cls (wsF (trE rA sio cA) b0 (F.set a (.inl (ci, fs.set kf v)))) H1 → b0 + (F.set a (.inl (ci, fs.set kf v))).length ≤ H1.size → va_S (fun q => b0 ≤ q) s.heap H1 l1 → W p l e R s m args below meth c H1 l1 cells slots Q (F0 m (pc + 3) ls (trs rA sio r))) :
    W p l e R s m args below meth c H locs cells slots Q (F0 m pc ls (trs rA sio (v :: .ref a :: r))) := by
  obtain ⟨g1, g2, g3, -⟩ := hcl ci _ q1
  simp only at g1 g2 g3
  obtain ⟨hf', hn'⟩ := fits_trv (rA := rA) (sio := sio) hs hf hn
  have hl : kf < (fs.map (trv rA sio)).length := by rw [List.length_map]; exact hkf
  have hD := wsF_D (trE rA sio cA) (A := fun q => b0 ≤ q) (b := b0) (fun _ h => h) F
  have e1 : (wsF (trE rA sio cA) b0 F).set a (b0 + a, .inr (ci, (fs.map (trv rA sio)).set kf (trv rA sio v))) = wsF (trE rA sio cA) b0 (F.set a (.inl (ci, fs.set kf v))) := by
    rw [← wsF_set]
    show _ = (wsF (trE rA sio cA) b0 F).set a (b0 + a, .inr (ci, (fs.set kf v).map (trv rA sio)))
    rw [List.map_set]
  show W p l e R s m args below meth c H locs cells slots Q (F0 m pc ls (trv rA sio v :: trv rA sio (.ref a) :: trs rA sio r))
  rw [trv_ref rA sio ha, hrA a ha]
  have kk : ∀ (H1 : Heap) (l1 : List Loc), va_P (dC, dI) cls ((wsF (trE rA sio cA) b0 F).set a (b0 + a, .inr (ci, (fs.map (trv rA sio)).set kf (trv rA sio v)))) H1 → va_D (fun q => b0 ≤ q) ((wsF (trE rA sio cA) b0 F).set a (b0 + a, .inr (ci, (fs.map (trv rA sio)).set kf (trv rA sio v)))) → va_S (fun q => b0 ≤ q) H H1 l1 → W p l e R s m args below meth c H1 l1 cells slots Q (F0 m (pc + 3) ls (trs rA sio r)) := by
    intro H1 l1 h1 h2 h3
    rw [e1] at h1
    exact k H1 l1 h1 (by rw [List.length_set]; exact Nat.le_trans hsz h3.1) (hS.thru h3)
  rcases hfin with z | ⟨z1, z2, z3⟩
  · exact va_put (D := (dC, dI)) (ref := (T kf).1) hx hb hts g1 (fty ci) g2 g3 hown hK hP hD hS.own a (s_cell hc) q1 kf q2 (hts _ q3) (fun _ h9 => h9) z (g2 kf q2) hn' hf' hl hdg kk
  · exact va_putF (D := (dC, dI)) (ref := (T kf).1) hx hb hts g1 (fty ci) g2 g3 hown hK hP hD hS.own a (s_cell hc) q1 kf q2 (hts _ q3) (fun _ h9 => h9) z1 (hmn.trans z2) z3 (g2 kf q2) hn' hf' hl hdg kk
theorem s_iast (hx : p.tables.exec = Jvm.exec) (hb : c.code = cc) {pc a : Nat} {i x : Int32} {xs : List Int32} {F : MH} {r : List Value} (hdg : decode cc pc = .ok (.iastore, 1)) (hK : va_K (dC, dI) cls (tysL cA) s) (hrA : ∀ a, a < KB → rA a = b0 + a) (hP : va_P (dC, dI) cls (wsF (trE rA sio cA) b0 F) H) (hS : va_S (fun q => b0 ≤ q) s.heap H locs) (ha : a < KB) (hc : F[a]? = some (.inr (.inl (0, xs)))) (hin : m_in i xs.length = true) (hsz : b0 + F.length ≤ H.size)
    (k : ∀ (H1 : Heap) (l1 : List Loc), va_P (dC, dI) cls (wsF (trE rA sio cA) b0 (F.set a (.inr (.inl (0, xs.set i.toNatClampNeg x))))) H1 → b0 + (F.set a (.inr (.inl (0, xs.set i.toNatClampNeg x)))).length ≤ H1.size → va_S (fun q => b0 ≤ q) s.heap H1 l1 → W p l e R s m args below meth c H1 l1 cells slots Q (F0 m (pc + 1) ls (trs rA sio r))) :
    W p l e R s m args below meth c H locs cells slots Q (F0 m pc ls (trs rA sio (.int x :: .int i :: .ref a :: r))) := by
  have hv := m_in_spec hin
  have hlt : i.toNatClampNeg < xs.length := Nat.not_le.mp fun q => hv (Or.inr q)
  have hD := wsF_D (trE rA sio cA) (A := fun q => b0 ≤ q) (b := b0) (fun _ h => h) F
  have e0 : upd (fun j => xs.getD j 0) i.toNatClampNeg x = fun j => (xs.set i.toNatClampNeg x).getD j 0 := by
    funext j
    rw [set_getD x hlt]
    rfl
  show W p l e R s m args below meth c H locs cells slots Q (F0 m pc ls (.int x :: .int i :: trv rA sio (.ref a) :: trs rA sio r))
  rw [trv_ref rA sio ha, hrA a ha]
  refine va_iast (D := (dC, dI)) hx hb hK hP hD hS.own a 0 (s_cell hc) rfl hv hdg fun H1 l1 h1 h2 h3 => ?_
  refine k H1 l1 ?_ (by rw [List.length_set]; exact Nat.le_trans hsz h3.1) (hS.thru h3)
  rw [← wsF_set]
  show va_P (dC, dI) cls ((wsF (trE rA sio cA) b0 F).set a (b0 + a, .inl (cA 0, (xs.set i.toNatClampNeg x).length, .inl (fun j => (xs.set i.toNatClampNeg x).getD j 0)))) H1
  rw [← e0, List.length_set]
  exact h1
theorem s_zast (hx : p.tables.exec = Jvm.exec) (hb : c.code = cc) {pc a : Nat} {i x : Int32} {xs : List Int32} {F : MH} {r : List Value} (hdg : decode cc pc = .ok (.bastore, 1)) (hK : va_K (dC, dI) cls (tysL cA) s) (hrA : ∀ a, a < KB → rA a = b0 + a) (hP : va_P (dC, dI) cls (wsF (trE rA sio cA) b0 F) H) (hS : va_S (fun q => b0 ≤ q) s.heap H locs) (ha : a < KB) (hc : F[a]? = some (.inr (.inl (1, xs)))) (hin : m_in i xs.length = true) (hsz : b0 + F.length ≤ H.size)
    (k : ∀ (H1 : Heap) (l1 : List Loc), va_P (dC, dI) cls (wsF (trE rA sio cA) b0 (F.set a (.inr (.inl (1, xs.set i.toNatClampNeg (vp_nar .boolean x)))))) H1 → b0 + (F.set a (.inr (.inl (1, xs.set i.toNatClampNeg (vp_nar .boolean x))))).length ≤ H1.size → va_S (fun q => b0 ≤ q) s.heap H1 l1 → W p l e R s m args below meth c H1 l1 cells slots Q (F0 m (pc + 1) ls (trs rA sio r))) :
    W p l e R s m args below meth c H locs cells slots Q (F0 m pc ls (trs rA sio (.int x :: .int i :: .ref a :: r))) := by
  have hv := m_in_spec hin
  have hlt : i.toNatClampNeg < xs.length := Nat.not_le.mp fun q => hv (Or.inr q)
  have hD := wsF_D (trE rA sio cA) (A := fun q => b0 ≤ q) (b := b0) (fun _ h => h) F
  have e0 : upd (fun j => xs.getD j 0) i.toNatClampNeg (vp_nar .boolean x) = fun j => (xs.set i.toNatClampNeg (vp_nar .boolean x)).getD j 0 := by
    funext j
    rw [set_getD _ hlt]
    rfl
  show W p l e R s m args below meth c H locs cells slots Q (F0 m pc ls (.int x :: .int i :: trv rA sio (.ref a) :: trs rA sio r))
  rw [trv_ref rA sio ha, hrA a ha]
  refine va_zast (D := (dC, dI)) hx hb hK hP hD hS.own a 1 (s_cell hc) rfl hv hdg fun H1 l1 h1 h2 h3 => ?_
  refine k H1 l1 ?_ (by rw [List.length_set]; exact Nat.le_trans hsz h3.1) (hS.thru h3)
  rw [← wsF_set]
  show va_P (dC, dI) cls ((wsF (trE rA sio cA) b0 F).set a (b0 + a, .inl (cA 1, (xs.set i.toNatClampNeg (vp_nar .boolean x)).length, .inl (fun j => (xs.set i.toNatClampNeg (vp_nar .boolean x)).getD j 0)))) H1
  rw [← e0, List.length_set]
  exact h1
theorem s_aast (hx : p.tables.exec = Jvm.exec) (hb : c.code = cc) {pc a o kk ci : Nat} {i : Int32} {os : List (Option Nat)} {vs : List Value} {F : MH} {r : List Value} (hdg : decode cc pc = .ok (.aastore, 1)) (hK : va_K (dC, dI) cls (tysL cA) s) (hrA : ∀ a, a < KB → rA a = b0 + a) (hP : va_P (dC, dI) cls (wsF (trE rA sio cA) b0 F) H) (hS : va_S (fun q => b0 ≤ q) s.heap H locs) (ha : a < KB) (ho : o < KB) (hc : F[a]? = some (.inr (.inr (kk, os)))) (hco : F[o]? = some (.inl (ci, vs))) {q : vw_C} (hq : cls[ci]? = some q) (ht : (tysL cA)[kk]? = some (cA kk, .object q.1)) (hin : m_in i os.length = true) (hsz : b0 + F.length ≤ H.size)
    (k : ∀ (H1 : Heap) (l1 : List Loc), va_P (dC, dI) cls (wsF (trE rA sio cA) b0 (F.set a (.inr (.inr (kk, os.set i.toNatClampNeg (some o)))))) H1 → b0 + (F.set a (.inr (.inr (kk, os.set i.toNatClampNeg (some o))))).length ≤ H1.size → va_S (fun q => b0 ≤ q) s.heap H1 l1 → W p l e R s m args below meth c H1 l1 cells slots Q (F0 m (pc + 1) ls (trs rA sio r))) :
    W p l e R s m args below meth c H locs cells slots Q (F0 m pc ls (trs rA sio (.ref o :: .int i :: .ref a :: r))) := by
  have hv := m_in_spec hin
  have hlt : i.toNatClampNeg < os.length := Nat.not_le.mp fun q => hv (Or.inr q)
  have hD := wsF_D (trE rA sio cA) (A := fun q => b0 ≤ q) (b := b0) (fun _ h => h) F
  have e0 : va_up (fun j => (os.getD j none).map rA) i.toNatClampNeg (some (b0 + o)) = fun j => ((os.set i.toNatClampNeg (some o)).getD j none).map rA := by
    funext j
    simp only [va_up, List.getD_eq_getElem?_getD, List.getElem?_set]
    by_cases hj : j = i.toNatClampNeg
    · subst hj
      rw [if_pos rfl, if_pos rfl, if_pos hlt]
      show some (b0 + o) = some (rA o)
      rw [hrA o ho]
    · rw [if_neg hj, if_neg (fun z => hj z.symm)]
  show W p l e R s m args below meth c H locs cells slots Q (F0 m pc ls (trv rA sio (.ref o) :: .int i :: trv rA sio (.ref a) :: trs rA sio r))
  rw [trv_ref rA sio ha, hrA a ha, trv_ref rA sio ho, hrA o ho]
  refine va_astq (D := (dC, dI)) hx hb hK hP hD hS.own a kk o ci (s_cell hc) ht (s_cell hco) hq hv hdg fun H1 l1 h1 h2 h3 => ?_
  refine k H1 l1 ?_ (by rw [List.length_set]; exact Nat.le_trans hsz h3.1) (hS.thru h3)
  rw [← wsF_set]
  show va_P (dC, dI) cls ((wsF (trE rA sio cA) b0 F).set a (b0 + a, .inl (cA kk, (os.set i.toNatClampNeg (some o)).length, .inr (.inr (.inr (.inr (fun j => ((os.set i.toNatClampNeg (some o)).getD j none).map rA))))))) H1
  rw [← e0, List.length_set]
  exact h1
end SimF
