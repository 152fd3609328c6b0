/-! THE SMALL MACHINE IS THE MACHINE, VII: new cells; all writes together -/
section SimG
variable {p : Program} {l : Launch} {e : Env} {R : Room} {s : State} {m : MethodId} {args : Array Value} {below : List Frame} {meth : Method} {c : Code} {H : Heap} {locs : List Loc} {cells slots : Nat} {Q : State → Prop}
variable {cc : ByteArray} {ls : Array Slot} {nL : Nat} {rA : Nat → Nat} {sio : Value} {cA : Nat → ClassId} {dC : Nat → ClassId} {dI : Nat → Nat → Nat} {cls : List vw_C} {b0 : Nat}
/-- where a new cell lies -/
theorem new_at {F : MH} {q : Nat} {E : va_E} {H1 : Heap} (hP : va_P (dC, dI) cls (wsF (trE rA sio cA) b0 F ++ [(q, E)]) H1) (hD : va_D (fun q => b0 ≤ q) (wsF (trE rA sio cA) b0 F ++ [(q, E)])) (hz : H1.size ≤ b0 + F.length + 1) : q = b0 + F.length ∧ b0 + F.length + 1 ≤ H1.size := by
  have hl : (wsF (trE rA sio cA) b0 F).length = F.length := by
    have : ∀ (F : MH) (b : Nat), (wsF (trE rA sio cA) b F).length = F.length := by
      intro F
      induction F with
      | nil => intro b; rfl
      | cons x t ih => intro b; simp only [wsF, List.length_cons, ih]
    exact this F b0
  have h1 : (wsF (trE rA sio cA) b0 F ++ [(q, E)])[F.length]? = some (q, E) := by
    rw [List.getElem?_append_right (by omega), hl, Nat.sub_self]; rfl
  have h2 : q < H1.size := (hP _ _ h1).lt
  have h3 : b0 ≤ q := hD.2 _ _ h1
  have h4 : ¬ q < b0 + F.length := by
    intro hlt
    obtain ⟨x, hx⟩ : ∃ x, F[q - b0]? = some x := ⟨_, List.getElem?_eq_getElem (by omega)⟩
    have h5 : (wsF (trE rA sio cA) b0 F ++ [(q, E)])[q - b0]? = some (b0 + (q - b0), trE rA sio cA x) := by
      rw [List.getElem?_append_left (by omega)]; exact s_cell hx
    have := hD.1 _ _ _ _ h5 h1 (by simp only; omega)
    omega
  omega
theorem s_new (hx : p.tables.exec = Jvm.exec) (hb : c.code = cc) {ws : List Cond} {own : String} (hts : ∀ w ∈ ws, w.before args s = true) (hown : s.vm.findClass own = some m.cls) {pc idx ci : Nat} {F : MH} {st : List Value} {fty : Nat → Nat → FieldType} {dfl : Nat → List Value} (hdg : decode cc pc = .ok (.new idx, 3))
    (hK : va_K (dC, dI) cls (tysL cA) s) (hcl : clsOK cls fty dfl ws) {q : vw_C} (q1 : cls[ci]? = some q) (q2 : Cond.classLink own idx q.1 ∈ ws) (hrA : ∀ a, a < KB → rA a = b0 + a) (hP : va_P (dC, dI) cls (wsF (trE rA sio cA) b0 F) H) (hS : va_S (fun q => b0 ≤ q) s.heap H locs) (hF : F.length < KB) (hI : s.heap.size + cells = b0 + F.length) (hsz : b0 + F.length ≤ H.size) (hc1 : cells + 1 ≤ R.cells) (hs1 : slots + (dfl ci).length ≤ R.slots)
    (k : ∀ (H1 : Heap), va_P (dC, dI) cls (wsF (trE rA sio cA) b0 (F ++ [.inl (ci, dfl ci)])) H1 → b0 + (F ++ [(.inl (ci, dfl ci) : MC)]).length ≤ H1.size → va_S (fun q => b0 ≤ q) s.heap H1 locs → W p l e R s m args below meth c H1 locs (cells + 1) (slots + (dfl ci).length) Q (F0 m (pc + 3) ls (trs rA sio (.ref F.length :: st)))) :
    W p l e R s m args below meth c H locs cells slots Q (F0 m pc ls (trs rA sio st)) := by
  obtain ⟨C, T, N⟩ := q
  obtain ⟨g1, g2, g3, g4, g5, g6, g7⟩ := hcl ci _ q1
  simp only at g1 g2 g3 g4 g5 g6 g7 q2
  have hD := wsF_D (trE rA sio cA) (A := fun q => b0 ≤ q) (b := b0) (fun _ h => h) F
  have em : (dfl ci).map (trv rA sio) = dfl ci := by
    apply List.ext_getElem?
    intro j
    rw [List.getElem?_map]
    by_cases hj : j < N
    · rw [(g5 j hj).1]
      show some (trv rA sio _) = _
      rw [(g5 j hj).2 rA sio]
    · rw [List.getElem?_eq_none (by omega)]; rfl
  have hd : ∀ j, j < N → defaultValue (fty ci j) = vp_V (dfl ci) j := by
    intro j hj
    unfold vp_V
    rw [List.getD_eq_getElem?_getD, (g5 j hj).1]; rfl
  rw [g4] at hs1 k
  refine va_new (D := (dC, dI)) hx hb hts g1 (fty ci) g2 hown (hts _ q2) (hts _ g6) (hts _ g7) hK hP hD hS.own (fun x hx => Nat.le_trans (Nat.le_trans (Nat.le_add_right _ _) hsz) hx) q1 hd hc1 hs1 hdg fun q H1 h1 h2 h3 => ?_
  refine W.size fun hz => ?_
  obtain ⟨z1, z2⟩ := new_at h1 h2 (by omega)
  subst z1
  have k := k H1 (by rw [wsF_app]; show va_P (dC, dI) cls (_ ++ [(_, .inr (ci, (dfl ci).map (trv rA sio)))]) H1; rw [em]; exact h1) (by rw [List.length_append]; exact z2) (hS.thru h3)
  have k : W p l e R s m args below meth c H1 locs (cells + 1) (slots + N) Q (F0 m (pc + 3) ls (trv rA sio (.ref F.length) :: trs rA sio st)) := k
  rw [trv_ref rA sio hF, hrA _ hF] at k
  exact k
theorem s_newa (hx : p.tables.exec = Jvm.exec) (hb : c.code = cc) {ws : List Cond} (hts : ∀ w ∈ ws, w.before args s = true) {pc kk : Nat} {at' : ArrayType} {n : Int32} {F : MH} {st : List Value} (hdg : decode cc pc = .ok (.newarray at', 2))
    (hK : va_K (dC, dI) cls (tysL cA) s) (hw : Cond.arrayClass .int ∈ ws ∧ Cond.arrayClass .boolean ∈ ws) (hk : (at' = .int ∧ kk = 0) ∨ (at' = .boolean ∧ kk = 1)) (hn0 : 0 ≤ n.toInt) (hn1 : n.toInt ≤ 100000) (hrA : ∀ a, a < KB → rA a = b0 + a) (hP : va_P (dC, dI) cls (wsF (trE rA sio cA) b0 F) H) (hS : va_S (fun q => b0 ≤ q) s.heap H locs) (hF : F.length < KB) (hI : s.heap.size + cells = b0 + F.length) (hsz : b0 + F.length ≤ H.size) (hc1 : cells + 1 ≤ R.cells) (hs1 : slots + n.toNatClampNeg ≤ R.slots)
    (k : ∀ (H1 : Heap), va_P (dC, dI) cls (wsF (trE rA sio cA) b0 (F ++ [.inr (.inl (kk, List.replicate n.toNatClampNeg 0))])) H1 → b0 + (F ++ [(.inr (.inl (kk, List.replicate n.toNatClampNeg 0)) : MC)]).length ≤ H1.size → va_S (fun q => b0 ≤ q) s.heap H1 locs → W p l e R s m args below meth c H1 locs (cells + 1) (slots + n.toNatClampNeg) Q (F0 m (pc + 2) ls (trs rA sio (.ref F.length :: st)))) :
    W p l e R s m args below meth c H locs cells slots Q (F0 m pc ls (trs rA sio (.int n :: st))) := by
  have hD := wsF_D (trE rA sio cA) (A := fun q => b0 ≤ q) (b := b0) (fun _ h => h) F
  have hneg : ¬ n < 0 := by rw [Int32.lt_iff_toInt_lt, Int32.toInt_zero]; omega
  have hsmall : n.toNatClampNeg ≤ 100000 := by
    have : (n.toNatClampNeg : Int) = n.toInt := by
      show ((n.toInt.toNat : Nat) : Int) = n.toInt
      omega
    omega
  have er : (fun j => (List.replicate n.toNatClampNeg (0 : Int32)).getD j 0) = fun _ => 0 := by
    funext j
    rw [List.getD_eq_getElem?_getD, List.getElem?_replicate]
    split <;> rfl
  have key : ∀ (ty : FieldType) (t0 : Nat), newarray.typeOf at' = ty → (tysL cA)[t0]? = some (cA t0, ty) → t0 = kk → (∀ cA' : ClassId, va_RA s cA' ty = (s.vm.findClass ("[" ++ ty.toString) = some cA')) → Cond.arrayClass (newarray.typeOf at') ∈ ws → (∀ cA' : ClassId, vp_cell cA' (n.toNatClampNeg, .inl (fun _ => 0)) = arrV cA' n.toNatClampNeg (fun _ => defaultValue ty)) → componentBytes ty ≤ 4 → W p l e R s m args below meth c H locs cells slots Q (F0 m pc ls (.int n :: trs rA sio st)) := by
    intro ty t0 e1 e2 e3 e4 e5 e6 e7
    subst e3
    refine va_newa (D := (dC, dI)) hx hb (hts _ e5) e1 hK hP hD hS.own (fun x hx => Nat.le_trans (Nat.le_trans (Nat.le_add_right _ _) hsz) hx) e6 hneg rfl (Nat.le_trans (Nat.mul_le_mul hsmall e7) (by decide)) hc1 hs1 hdg fun q cN H1 hK1 h1 h2 h3 => ?_
    refine W.size fun hz => ?_
    obtain ⟨z1, z2⟩ := new_at h1 h2 (by omega)
    subst z1
    have f1 : cN = cA t0 := by
      have a1 := (hK1.2 7 (cN, ty) rfl).2
      have a2 := (hK.2 t0 _ e2).2
      simp only at a1 a2
      rw [e4] at a1 a2
      exact Option.some.inj (a1.symm.trans a2)
    subst f1
    have k := k H1 (by rw [wsF_app]; show va_P (dC, dI) cls (_ ++ [(_, .inl (cA t0, (List.replicate n.toNatClampNeg (0 : Int32)).length, .inl (fun j => (List.replicate n.toNatClampNeg (0 : Int32)).getD j 0)))]) H1; rw [er, List.length_replicate]; exact h1) (by rw [List.length_append]; exact z2) (hS.thru h3)
    have k : W p l e R s m args below meth c H1 locs (cells + 1) (slots + n.toNatClampNeg) Q (F0 m (pc + 2) ls (trv rA sio (.ref F.length) :: trs rA sio st)) := k
    rw [trv_ref rA sio hF, hrA _ hF] at k
    exact k
  rcases hk with ⟨rfl, rfl⟩ | ⟨rfl, rfl⟩
  · exact key .int 0 rfl rfl rfl (fun _ => rfl) hw.1 (fun _ => rfl) (by decide)
  · exact key .boolean 1 rfl rfl rfl (fun _ => rfl) hw.2 (fun _ => rfl) (by decide)
theorem s_anew (hx : p.tables.exec = Jvm.exec) (hb : c.code = cc) {ws : List Cond} {own C : String} (hts : ∀ w ∈ ws, w.before args s = true) (hown : s.vm.findClass own = some m.cls) {pc kk idx : Nat} {n : Int32} {F : MH} {st : List Value} (hdg : decode cc pc = .ok (.anewarray idx, 3))
    (hK : va_K (dC, dI) cls (tysL cA) s) (hw1 : Cond.classLink own idx C ∈ ws) (hw2 : va_AO C s) (ht : (tysL cA)[kk]? = some (cA kk, .object C)) (hn0 : 0 ≤ n.toInt) (hn1 : n.toInt ≤ 100000) (hrA : ∀ a, a < KB → rA a = b0 + a) (hP : va_P (dC, dI) cls (wsF (trE rA sio cA) b0 F) H) (hS : va_S (fun q => b0 ≤ q) s.heap H locs) (hF : F.length < KB) (hI : s.heap.size + cells = b0 + F.length) (hsz : b0 + F.length ≤ H.size) (hc1 : cells + 1 ≤ R.cells) (hs1 : slots + n.toNatClampNeg ≤ R.slots)
    (k : ∀ (H1 : Heap), va_P (dC, dI) cls (wsF (trE rA sio cA) b0 (F ++ [.inr (.inr (kk, List.replicate n.toNatClampNeg none))])) H1 → b0 + (F ++ [(.inr (.inr (kk, List.replicate n.toNatClampNeg none)) : MC)]).length ≤ H1.size → va_S (fun q => b0 ≤ q) s.heap H1 locs → W p l e R s m args below meth c H1 locs (cells + 1) (slots + n.toNatClampNeg) Q (F0 m (pc + 3) ls (trs rA sio (.ref F.length :: st)))) :
    W p l e R s m args below meth c H locs cells slots Q (F0 m pc ls (trs rA sio (.int n :: st))) := by
  have hD := wsF_D (trE rA sio cA) (A := fun q => b0 ≤ q) (b := b0) (fun _ h => h) F
  have hneg : ¬ n < 0 := by rw [Int32.lt_iff_toInt_lt, Int32.toInt_zero]; omega
  have hsmall : n.toNatClampNeg ≤ 100000 := by
    have : (n.toNatClampNeg : Int) = n.toInt := by
      show ((n.toInt.toNat : Nat) : Int) = n.toInt
      omega
    omega
  have er : (fun j => ((List.replicate n.toNatClampNeg (none : Option Nat)).getD j none).map rA) = fun _ => none := by
    funext j
    rw [List.getD_eq_getElem?_getD, List.getElem?_replicate]
    split <;> rfl
  refine va_newq (D := (dC, dI)) hx hb hown (hts _ hw1) hw2 hK hP hD hS.own (fun x hx => Nat.le_trans (Nat.le_trans (Nat.le_add_right _ _) hsz) hx) hneg rfl (by omega) hc1 hs1 hdg fun q cN H1 hK1 h1 h2 h3 => ?_
  refine W.size fun hz => ?_
  obtain ⟨z1, z2⟩ := new_at h1 h2 (by omega)
  subst z1
  have f1 : cN = cA kk := by
    obtain ⟨_, _, -, -, -, a1⟩ := (hK1.2 7 (cN, .object C) rfl).2
    obtain ⟨_, _, -, -, -, a2⟩ := (hK.2 kk _ ht).2
    exact Option.some.inj (a1.symm.trans a2)
  subst f1
  have k := k H1 (by rw [wsF_app]; show va_P (dC, dI) cls (_ ++ [(_, .inl (cA kk, (List.replicate n.toNatClampNeg (none : Option Nat)).length, .inr (.inr (.inr (.inr (fun j => ((List.replicate n.toNatClampNeg (none : Option Nat)).getD j none).map rA))))))]) H1; rw [er, List.length_replicate]; exact h1) (by rw [List.length_append]; exact z2) (hS.thru h3)
  have k : W p l e R s m args below meth c H1 locs (cells + 1) (slots + n.toNatClampNeg) Q (F0 m (pc + 3) ls (trv rA sio (.ref F.length) :: trs rA sio st)) := k
  rw [trv_ref rA sio hF, hrA _ hF] at k
  exact k
end SimG
