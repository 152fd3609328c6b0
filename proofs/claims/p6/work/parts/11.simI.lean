/-! THE SMALL MACHINE IS THE MACHINE, IX: one step -/
/-- what is checked of an instruction: it stands there; its length; its local; its links -/
def lnkOK (cls : List vw_C) (fty : Nat → Nat → FieldType) (y : MethodName) (ws : List Cond) (strT : StrT) (E : MI) : Prop :=
  (∀ idx, E.2.1 = .getfield idx → fldOK cls y.cls E ws idx) ∧ (∀ idx, E.2.1 = .putfield idx → fldOK cls y.cls E ws idx ∧ finOK cls y E) ∧ newOK cls y.cls E ws ∧ cstOK y.cls E ws strT
def insOK (cls : List vw_C) (fty : Nat → Nat → FieldType) (y : MethodName) (cc : ByteArray) (nL : Nat) (ws : List Cond) (strT : StrT) (E : MI) : Prop :=
  decode cc E.1 = .ok (E.2.1, E.2.2.1) ∧ (m_len E.2.1 = 0 ∨ m_len E.2.1 = E.2.2.1) ∧ m_sl E.2.1 nL = true ∧ lnkOK cls fty y ws strT E
section SimI
variable {p : Program} {l : Launch} {e : Env} {R : Room} {s : State} {m : MethodId} {args : Array Value} {below : List Frame} {meth : Method} {c : Code} {H : Heap} {locs : List Loc} {cells slots : Nat} {Q : State → Prop}
variable {cc : ByteArray} {ls : Array Slot} {nL : Nat} {rA : Nat → Nat} {sio : Value} {cA : Nat → ClassId} {dC : Nat → ClassId} {dI : Nat → Nat → Nat} {cls : List vw_C} {b0 : Nat} {strT : StrT} {nestT : NestT} {ro : Nat → Option MC}
theorem s_wr (hx : p.tables.exec = Jvm.exec) (hb : c.code = cc) {ws : List Cond} {y : MethodName} (hts : ∀ w ∈ ws, w.before args s = true) (hown : s.vm.findClass y.cls = some m.cls) (hmn : meth.name = y.name) {E : MI} {F : MH} {st : List Value} {q : MH × List Value} {fty : Nat → Nat → FieldType} {dfl : Nat → List Value} (hs : sioOK sio)
    (hok : insOK cls fty y cc nL ws strT E) (hcl : clsOK cls fty dfl ws) (h99 : cls.length ≤ 99) (hX : CTX cls strT nestT ro rA sio b0 dC dI cA s) (hrA : ∀ a, a < KB → rA a = b0 + a) (hP : va_P (dC, dI) cls (wsF (trE rA sio cA) b0 F) H) (hS : va_S (fun q => b0 ≤ q) s.heap H locs) (hI : s.heap.size + cells = b0 + F.length) (hsz : b0 + F.length ≤ H.size) (h : m_wr fty dfl F E st = some q) (hc1 : cells + q.1.length ≤ R.cells + F.length) (hs1 : slots + mz q.1 ≤ R.slots + mz F)
    (k : ∀ (H1 : Heap) (l1 : List Loc) (c1 s1 : Nat), va_P (dC, dI) cls (wsF (trE rA sio cA) b0 q.1) H1 → b0 + q.1.length ≤ H1.size → va_S (fun q => b0 ≤ q) s.heap H1 l1 → c1 + F.length = cells + q.1.length → s1 + mz F = slots + mz q.1 → W p l e R s m args below meth c H1 l1 c1 s1 Q (F0 m (E.1 + E.2.2.1) ls (trs rA sio q.2))) :
    W p l e R s m args below meth c H locs cells slots Q (F0 m E.1 ls (trs rA sio st)) := by
  obtain ⟨pc, i, len, a0, b1, z⟩ := E
  obtain ⟨hdg, hlen, -, -, hpf, hnw, -⟩ := hok
  obtain ⟨hK, -, -, -, -, -, hAO⟩ := hX
  simp only at hdg hlen hpf k h ⊢
  cases i
  case putfield idx =>
    simp only [m_len] at hlen
    obtain rfl : len = 3 := by omega
    obtain ⟨hfl, hfin⟩ := hpf idx rfl
    simp only [m_wr] at h
    split at h
    · rename_i v a r
      split at h
      · rename_i ci fs hc
        split at h
        · rename_i hq
          obtain ⟨ha, hci, hkf, hn, hf⟩ := hq
          subst hci
          cases h
          rcases hfl with ⟨C, T, N, q1, q2, q3⟩ | ⟨q1, -⟩
          · simp only at q1 q2 q3
            exact s_putf hx hb hts hown hmn hs hdg hK hcl q1 q2 q3 (hfin C T N q1) hrA hP hS ha hc hkf hn hf hsz (fun H1 l1 h1 h2 h3 => k H1 l1 _ _ h1 h2 h3 (by rw [List.length_set]) (by rw [mz_set F a _ _ hc (by simp only [mzC, List.length_set])]))
          · simp only at q1
            obtain ⟨rr, g1, -⟩ := (hP a _ (s_cell hc))
            have := (List.getElem?_eq_some_iff.mp g1).1
            simp only at this
            omega
        · cases h
      · cases h
    · cases h
  case iastore =>
    simp only [m_len] at hlen
    obtain rfl : len = 1 := by omega
    simp only [m_wr] at h
    split at h
    · rename_i x i a r
      split at h
      · rename_i kk xs hc
        split at h
        · rename_i hq
          obtain ⟨ha, rfl, hin⟩ := hq
          cases h
          exact s_iast hx hb hdg hK hrA hP hS ha hc hin hsz (fun H1 l1 h1 h2 h3 => k H1 l1 _ _ h1 h2 h3 (by rw [List.length_set]) (by rw [mz_set F a _ _ hc (by simp only [mzC, List.length_set])]))
        · cases h
      · cases h
    · cases h
  case bastore =>
    simp only [m_len] at hlen
    obtain rfl : len = 1 := by omega
    simp only [m_wr] at h
    split at h
    · rename_i x i a r
      split at h
      · rename_i kk xs hc
        split at h
        · rename_i hq
          obtain ⟨ha, rfl, hin⟩ := hq
          cases h
          exact s_zast hx hb hdg hK hrA hP hS ha hc hin hsz (fun H1 l1 h1 h2 h3 => k H1 l1 _ _ h1 h2 h3 (by rw [List.length_set]) (by rw [mz_set F a _ _ hc (by simp only [mzC, List.length_set])]))
        · cases h
      · cases h
    · cases h
  case aastore =>
    simp only [m_len] at hlen
    obtain rfl : len = 1 := by omega
    simp only [m_wr] at h
    simp only [newOK] at hnw
    split at h
    · rename_i o i a r
      split at h
      · rename_i kk os ci vs hc hco
        split at h
        · rename_i hq
          obtain ⟨ha, ho, e1, e2, hin⟩ := hq
          cases h
          subst e1
          subst e2
          obtain ⟨qq, g1, g2⟩ := hnw
          have ht : (tysL cA)[b1]? = some (cA b1, .object qq.1) := by
            rcases g2 with ⟨u, w⟩ | ⟨u, w⟩ | ⟨u, w⟩ | ⟨u, w⟩ <;> (subst u; rw [w]; rfl)
          exact s_aast hx hb hdg hK hrA hP hS ha ho hc hco g1 ht hin hsz (fun H1 l1 h1 h2 h3 => k H1 l1 _ _ h1 h2 h3 (by rw [List.length_set]) (by rw [mz_set F a _ _ hc (by simp only [mzC, List.length_set])]))
        · cases h
      · cases h
    · cases h
  case new idx =>
    simp only [m_len] at hlen
    obtain rfl : len = 3 := by omega
    simp only [m_wr] at h
    simp only [newOK] at hnw
    obtain ⟨qq, g1, g2⟩ := hnw
    split at h
    · rename_i hF
      cases h
      simp only [List.length_append, List.length_cons, List.length_nil, mz_app, mzC] at hc1 hs1 k
      exact s_new hx hb hts hown hdg hK hcl g1 g2 hrA hP hS hF hI hsz (by omega) (by omega) (fun H1 h1 h2 h3 => k H1 locs _ _ h1 (by rw [List.length_append] at h2; exact h2) h3 (by omega) (by omega))
    · cases h
  case newarray t =>
    simp only [m_len] at hlen
    obtain rfl : len = 2 := by omega
    simp only [m_wr] at h
    simp only [newOK] at hnw
    split at h
    · rename_i n r
      split at h
      · rename_i hq
        obtain ⟨hF, hn0, hn1, hk⟩ := hq
        cases h
        simp only [List.length_append, List.length_cons, List.length_nil, mz_app, mzC, List.length_replicate] at hc1 hs1 k
        exact s_newa hx hb hts hdg hK hnw hk hn0 hn1 hrA hP hS hF hI hsz (by omega) (by omega) (fun H1 h1 h2 h3 => k H1 locs _ _ h1 (by rw [List.length_append] at h2; exact h2) h3 (by omega) (by omega))
      · cases h
    · cases h
  case anewarray idx =>
    simp only [m_len] at hlen
    obtain rfl : len = 3 := by omega
    simp only [m_wr] at h
    simp only [newOK] at hnw
    split at h
    · rename_i n r
      split at h
      · rename_i hq
        obtain ⟨hF, hn0, hn1⟩ := hq
        cases h
        simp only [List.length_append, List.length_cons, List.length_nil, mz_app, mzC, List.length_replicate] at hc1 hs1 k
        have key : ∀ C, C ∈ aoC → Cond.classLink y.cls idx C ∈ ws → (tysL cA)[a0]? = some (cA a0, .object C) → W p l e R s m args below meth c H locs cells slots Q (F0 m pc ls (trs rA sio (.int n :: r))) := fun C g1 g2 g3 =>
          s_anew hx hb hts hown hdg hK g2 (hAO C g1) g3 hn0 hn1 hrA hP hS hF hI hsz (by omega) (by omega) (fun H1 h1 h2 h3 => k H1 locs _ _ h1 (by rw [List.length_append] at h2; exact h2) h3 (by omega) (by omega))
        rcases hnw with ⟨u, w⟩ | ⟨u, w⟩ | ⟨u, w⟩ | ⟨u, w⟩
        · subst u; exact key _ (by decide) w rfl
        · subst u; exact key _ (by decide) w rfl
        · subst u; exact key _ (by decide) w rfl
        · subst u; exact key _ (by decide) w rfl
      · cases h
    · cases h
  all_goals (simp only [m_wr, reduceCtorEq] at h)
theorem s_one (hx : p.tables.exec = Jvm.exec) (hb : c.code = cc) {ws : List Cond} {y : MethodName} (hts : ∀ w ∈ ws, w.before args s = true) (hown : s.vm.findClass y.cls = some m.cls) (hmn : meth.name = y.name) {E : MI} {F : MH} {lv : LVs} {st : List Value} {q : MS} {fty : Nat → Nat → FieldType} {dfl : Nat → List Value} (hs : sioOK sio)
    (hok : insOK cls fty y cc nL ws strT E) (hcl : clsOK cls fty dfl ws) (h99 : cls.length ≤ 99) (hX : CTX cls strT nestT ro rA sio b0 dC dI cA s) (hrA : ∀ a, a < KB → rA a = b0 + a) (hr1 : ∀ j y, ro j = some y → j ≠ 100) (hR : rowsOK F) (hl : lv_has ls nL (trl rA sio lv)) (hP : va_P (dC, dI) cls (wsF (trE rA sio cA) b0 F) H) (hS : va_S (fun q => b0 ≤ q) s.heap H locs) (hI : s.heap.size + cells = b0 + F.length) (hsz : b0 + F.length ≤ H.size) (h : m_one ro fty dfl E F lv st = some q) (hc1 : cells + q.1.length ≤ R.cells + F.length) (hs1 : slots + mz q.1 ≤ R.slots + mz F)
    (k : ∀ (H1 : Heap) (l1 : List Loc) (ls1 : Array Slot) (c1 s1 : Nat), va_P (dC, dI) cls (wsF (trE rA sio cA) b0 q.1) H1 → b0 + q.1.length ≤ H1.size → va_S (fun q => b0 ≤ q) s.heap H1 l1 → lv_has ls1 nL (trl rA sio q.2.2.1) → c1 + F.length = cells + q.1.length → s1 + mz F = slots + mz q.1 → W p l e R s m args below meth c H1 l1 c1 s1 Q (F0 m q.2.1 ls1 (trs rA sio q.2.2.2))) :
    W p l e R s m args below meth c H locs cells slots Q (F0 m E.1 ls (trs rA sio st)) := by
  have hok0 := hok
  obtain ⟨hdg, hlen, hsl, hgf, hpf, hnw, hcs⟩ := hok
  unfold m_one at h
  split at h
  · rename_i v hv
    cases h
    exact s_push hx hb hs hdg hlen hl hv (k H locs ls cells slots hP hsz hS hl rfl rfl)
  · split at h
    · rename_i v hv
      cases h
      exact s_cst hx hb hts hown hdg hlen hX hcs hS hv (k H locs ls cells slots hP hsz hS hl rfl rfl)
    · split at h
      · rename_i v hv
        cases h
        exact s_store hx hb hs hdg hlen hsl hl hv (fun ls1 hl1 => k H locs ls1 cells slots hP hsz hS hl1 rfl rfl)
      · split at h
        · rename_i v hv
          cases h
          exact s_alu hx hb hs hdg hlen hv (k H locs ls cells slots hP hsz hS hl rfl rfl)
        · split at h
          · rename_i v hv
            cases h
            exact s_br hx hb hs hdg hlen hv (k H locs ls cells slots hP hsz hS hl rfl rfl)
          · split at h
            · rename_i v hv
              cases h
              exact s_rd hx hb hts hown hs hdg hlen hX.1 (fun ci q hq => (hcl ci q hq).1) h99 hrA hR hX.2.1 hr1 hP hS hgf hv (k H locs ls cells slots hP hsz hS hl rfl rfl)
            · split at h
              · rename_i v hv
                cases h
                exact s_wr hx hb hts hown hmn hs hok0 hcl h99 hX hrA hP hS hI hsz hv hc1 hs1 (fun H1 l1 c1 s1 g1 g2 g3 g4 g5 => k H1 l1 ls c1 s1 g1 g2 g3 hl g4 g5)
              · cases h
end SimI
