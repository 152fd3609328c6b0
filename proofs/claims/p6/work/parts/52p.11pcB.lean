/-! PARTIAL CORRECTNESS, II: the shape of the cells, which stays; the ints in them -/
def tByt : List (List Int32) := [[100, 111, 111, 114], [110, 111, 116], [112, 108, 97, 110], [112, 108, 97, 105, 110], [112, 114, 105, 101, 115, 116], [109, 105, 115, 101, 114], [115, 112, 121]]
def tRo (xl : List Int32) (k : Nat) : Option MC := if k = 0 then some (.inr (.inl (0, xl))) else if k ≤ 14 then (if k % 2 = 1 then some (.inl (99, [.ref (KB + (k + 1)), .int 0])) else some (.inr (.inl (2, tByt.getD (k / 2 - 1) [])))) else none
def zv (v : Value) : Value := match v with
  | .int _ => .int 0
  | .long _ => .long 0
  | w => w
def zc (c : MC) : MC := match c with
  | .inl o => .inl (o.1, o.2.map zv)
  | .inr (.inl q) => .inr (.inl (q.1, q.2.map (fun _ => 0)))
  | .inr (.inr q) => .inr (.inr q)
/-- the ints: address, place -/
abbrev IS : Type := Nat → Nat → Int32
def iv (F : MH) : IS := fun a j => match F[a]? with
  | some (.inl o) => (match o.2[j]? with | some (.int x) => x | _ => 0)
  | some (.inr (.inl q)) => q.2.getD j 0
  | _ => 0
def up (ι : IS) (a j : Nat) (x : Int32) : IS := fun b k => if b = a ∧ k = j then x else ι b k
theorem up_same (ι : IS) (a j : Nat) (x : Int32) : up ι a j x a j = x := by simp [up]
theorem up_ne {ι : IS} {a j b k : Nat} {x : Int32} (h : ¬ (b = a ∧ k = j)) : up ι a j x b k = ι b k := by simp only [up, if_neg h]
/-- references, lengths of rows, references in rows: by the shape -/
def rf (a j : Nat) : Nat := match sh0[a]? with
  | some (.inl o) => (match o.2[j]? with | some (.ref p) => p | _ => 0)
  | _ => 0
def ln (a : Nat) : Nat := match sh0[a]? with
  | some (.inr (.inl q)) => q.2.length
  | _ => 0
def re (a j : Nat) : Nat := match sh0[a]? with
  | some (.inr (.inr q)) => (q.2.getD j none).getD 0
  | _ => 0
def lr (a : Nat) : Nat := match sh0[a]? with
  | some (.inr (.inr q)) => q.2.length
  | _ => 0
def kindT (ty : FieldType) : Nat := match ty with
  | .int => 0
  | .boolean => 0
  | .long => 1
  | .object _ => 2
  | .array _ => 2
  | _ => 9
def tyB (c : MC) : Bool := match c with
  | .inl o => (List.range o.2.length).all (fun j => match o.2[j]? with
    | some (.int _) => kindT (tFty o.1 j) == 0
    | some (.long _) => kindT (tFty o.1 j) == 1
    | some (.ref p) => kindT (tFty o.1 j) == 2 && decide (p < KB)
    | _ => false)
  | .inr (.inl _) => true
  | .inr (.inr q) => q.2.all (fun o => match o with | some p => decide (p < KB) | none => false)
set_option maxRecDepth 100000 in
theorem tyB_ok : sh0.all tyB = true := by decide +kernel
section PcB
variable {F : MH} {a j : Nat} {c : MC}
theorem sh_get (hs : F.map zc = sh0) (h : F[a]? = some c) : sh0[a]? = some (zc c) := by
  rw [← hs, List.getElem?_map, h]; rfl
theorem sh_ty (hs : F.map zc = sh0) (h : F[a]? = some c) : tyB (zc c) = true := List.all_eq_true.mp tyB_ok _ (List.mem_of_getElem? (sh_get hs h))
theorem sh_fld (hs : F.map zc = sh0) {ci : Nat} {fs : List Value} {v : Value} (h : F[a]? = some (.inl (ci, fs))) (hv : fs[j]? = some v) : (kindT (tFty ci j) = 0 → v = .int (iv F a j)) ∧ (kindT (tFty ci j) = 1 → ∃ x, v = .long x) ∧ (kindT (tFty ci j) = 2 → v = .ref (rf a j) ∧ rf a j < KB) := by
  have h1 := sh_ty hs h
  have hl : j < fs.length := (List.getElem?_eq_some_iff.mp hv).1
  have h2 := List.all_eq_true.mp h1 j (List.mem_range.mpr (by simpa using hl))
  have h3 : ((fs.map zv)[j]?) = some (zv v) := by rw [List.getElem?_map, hv]; rfl
  simp only [zc] at h2
  rw [h3] at h2
  have h4 : rf a j = (match (fs.map zv)[j]? with | some (.ref p) => p | _ => 0) := by
    unfold rf; rw [sh_get hs h]; rfl
  rw [h3] at h4
  have h5 : iv F a j = (match fs[j]? with | some (.int x) => x | _ => 0) := by
    unfold iv; rw [h]
  rw [hv] at h5
  cases v <;> simp only [zv] at h2 h4 h5 <;> (try (cases h2; done))
  · simp only [beq_iff_eq] at h2
    exact ⟨fun _ => by rw [h5], fun h => by omega, fun h => by omega⟩
  · simp only [beq_iff_eq] at h2
    exact ⟨fun h => by omega, fun _ => ⟨_, rfl⟩, fun h => by omega⟩
  · simp only [Bool.and_eq_true, beq_iff_eq, decide_eq_true_eq] at h2
    exact ⟨fun h => by omega, fun h => by omega, fun _ => ⟨by rw [h4], by rw [h4]; exact h2.2⟩⟩
theorem sh_row (hs : F.map zc = sh0) {q : Nat × List Int32} (h : F[a]? = some (.inr (.inl q))) : q.2.length = ln a ∧ ∀ k, q.2.getD k 0 = iv F a k := by
  refine ⟨?_, fun k => ?_⟩
  · unfold ln; rw [sh_get hs h]; simp [zc]
  · unfold iv; rw [h]
theorem sh_ref (hs : F.map zc = sh0) {q : Nat × List (Option Nat)} (h : F[a]? = some (.inr (.inr q))) : q.2.length = lr a ∧ ∀ k, k < q.2.length → q.2.getD k none = some (re a k) ∧ re a k < KB := by
  have h1 := sh_ty hs h
  have h2 := sh_get hs h
  refine ⟨?_, fun k hk => ?_⟩
  · unfold lr; rw [h2]; rfl
  · have h3 : re a k = (q.2.getD k none).getD 0 := by unfold re; rw [h2]; rfl
    simp only [zc, tyB] at h1
    have h4 : q.2[k] ∈ q.2 := List.getElem_mem hk
    have h5 := List.all_eq_true.mp h1 _ h4
    have h6 : q.2.getD k none = q.2[k] := by simp [hk]
    rw [h6] at h3 ⊢
    cases hq : q.2[k] with
    | none => rw [hq] at h5; cases h5
    | some p =>
      rw [hq] at h5 h3
      simp only [Option.getD_some] at h3
      rw [h3]
      exact ⟨rfl, of_decide_eq_true h5⟩
theorem iv_setO {ci : Nat} {fs : List Value} {x : Int32} (h : F[a]? = some (.inl (ci, fs))) (hj : j < fs.length) : iv (F.set a (.inl (ci, fs.set j (.int x)))) = up (iv F) a j x := by
  have ha : a < F.length := (List.getElem?_eq_some_iff.mp h).1
  funext b k
  simp only [iv, up]
  by_cases hb : b = a
  · subst hb
    rw [List.getElem?_set_self ha, h]
    simp only [true_and]
    by_cases hk : k = j
    · subst hk
      rw [List.getElem?_set_self hj, if_pos rfl]
    · rw [List.getElem?_set_ne (fun e => hk e.symm), if_neg hk]
  · rw [List.getElem?_set_ne (fun e => hb e.symm), if_neg (fun e => hb e.1)]
theorem iv_setR {k : Nat} {xs : List Int32} {x : Int32} (h : F[a]? = some (.inr (.inl (k, xs)))) (hj : j < xs.length) : iv (F.set a (.inr (.inl (k, xs.set j x)))) = up (iv F) a j x := by
  have ha : a < F.length := (List.getElem?_eq_some_iff.mp h).1
  funext b i
  simp only [iv, up]
  by_cases hb : b = a
  · subst hb
    rw [List.getElem?_set_self ha, h]
    simp only [true_and]
    by_cases hk : i = j
    · subst hk
      rw [if_pos rfl, List.getD_eq_getElem?_getD, List.getElem?_set_self hj]; rfl
    · rw [if_neg hk, List.getD_eq_getElem?_getD, List.getD_eq_getElem?_getD, List.getElem?_set_ne (fun e => hk e.symm)]
  · rw [List.getElem?_set_ne (fun e => hb e.symm), if_neg (fun e => hb e.1)]
theorem map_set_same {F : MH} {a : Nat} {c c2 : MC} (h : F[a]? = some c) (hz : zc c2 = zc c) : (F.set a c2).map zc = F.map zc := by
  apply List.ext_getElem?
  intro i
  rw [List.getElem?_map, List.getElem?_map]
  by_cases hi : i = a
  · subst hi
    rw [List.getElem?_set_self (List.getElem?_eq_some_iff.mp h).1, h]
    simp [hz]
  · rw [List.getElem?_set_ne (fun e => hi e.symm)]
theorem zc_setO {ci : Nat} {fs : List Value} {x y : Int32} (hj : fs[j]? = some (.int y)) : zc (.inl (ci, fs.set j (.int x))) = zc (.inl (ci, fs)) := by
  have : (fs.set j (.int x)).map zv = fs.map zv := by
    apply List.ext_getElem?
    intro i
    rw [List.getElem?_map, List.getElem?_map]
    by_cases hi : i = j
    · subst hi
      rw [List.getElem?_set_self (List.getElem?_eq_some_iff.mp hj).1, hj]; rfl
    · rw [List.getElem?_set_ne (fun e => hi e.symm)]
  simp only [zc, this]
theorem zc_setJ {ci : Nat} {fs : List Value} {x y : Int64} (hj : fs[j]? = some (.long y)) : zc (.inl (ci, fs.set j (.long x))) = zc (.inl (ci, fs)) := by
  have : (fs.set j (.long x)).map zv = fs.map zv := by
    apply List.ext_getElem?
    intro i
    rw [List.getElem?_map, List.getElem?_map]
    by_cases hi : i = j
    · subst hi
      rw [List.getElem?_set_self (List.getElem?_eq_some_iff.mp hj).1, hj]; rfl
    · rw [List.getElem?_set_ne (fun e => hi e.symm)]
  simp only [zc, this]
theorem zc_setR {k : Nat} {xs : List Int32} {x : Int32} : zc (.inr (.inl (k, xs.set j x))) = zc (.inr (.inl (k, xs))) := by
  have : (xs.set j x).map (fun _ => (0 : Int32)) = xs.map (fun _ => (0 : Int32)) := by
    apply List.ext_getElem?
    intro i
    rw [List.getElem?_map, List.getElem?_map]
    by_cases hi : i = j
    · subst hi
      by_cases hl : i < xs.length
      · rw [List.getElem?_set_self hl]; simp [hl]
      · rw [List.getElem?_eq_none (by simpa using hl), List.getElem?_eq_none (by omega)]
    · rw [List.getElem?_set_ne (fun e => hi e.symm)]
  simp only [zc, this]
/-- instructions that leave the shape as it is -/
def okS1 (E : MI) : Bool := match E.2.1 with
  | .new _ => false
  | .newarray _ => false
  | .anewarray _ => false
  | .aastore => false
  | .putfield _ => kindT (tFty E.2.2.2.1 E.2.2.2.2.1) == 0 || kindT (tFty E.2.2.2.1 E.2.2.2.2.1) == 1
  | _ => true
def sP (mi : Nat) : Bool := match tMT[mi]? with | some M => M.2.2.2.2.all okS1 | none => false
def ivI (i : Instr) : Bool := match i with | .invokestatic _ => true | .invokespecial _ => true | .invokevirtual _ => true | _ => false
def sTg (E : MI) : Bool := !(ivI E.2.1) || (E.2.2.2.1 == 9999 || (E.2.2.2.1 == 9998 || sP E.2.2.2.1))
set_option maxRecDepth 100000 in
theorem sP_all : tMT.all (fun M => !(M.2.2.2.2.all okS1) || M.2.2.2.2.all sTg) = true := by decide +kernel
theorem fits_int {ty : FieldType} {v : Value} (hk : kindT ty = 0) (h : fits ty v = true) : ∃ x, v = .int x := by
  cases ty <;> simp only [kindT] at hk <;> (try omega) <;> cases v <;> first | exact ⟨_, rfl⟩ | (cases h; done)
theorem fits_long {ty : FieldType} {v : Value} (hk : kindT ty = 1) (h : fits ty v = true) : ∃ x, v = .long x := by
  cases ty <;> simp only [kindT] at hk <;> (try omega) <;> cases v <;> first | exact ⟨_, rfl⟩ | (cases h; done)
theorem wr_sh {E : MI} {st : List Value} {q : MH × List Value} (hs : F.map zc = sh0) (ho : okS1 E = true) (h : m_wr tFty tDfl F E st = some q) : q.1.map zc = sh0 := by
  unfold m_wr at h
  split at h
  · rename_i he
    unfold okS1 at ho
    rw [he] at ho
    simp only [Bool.or_eq_true, beq_iff_eq] at ho
    split at h
    · split at h
      · rename_i ci fs hc
        split at h
        · rename_i v a r hw
          cases h
          obtain ⟨hw1, hw2, hw3, hw4, hw5⟩ := hw
          subst hw2
          have hold : ∃ v, fs[E.2.2.2.2.1]? = some v := ⟨_, List.getElem?_eq_getElem hw3⟩
          obtain ⟨v0, hv0⟩ := hold
          have hf := sh_fld hs hc hv0
          rw [← hs]
          rcases ho with hk | hk
          · obtain ⟨x, rfl⟩ := fits_int hk hw5
            have e0 := hf.1 hk
            subst e0
            exact map_set_same hc (zc_setO hv0)
          · obtain ⟨x, rfl⟩ := fits_long hk hw5
            obtain ⟨y, e0⟩ := hf.2.1 hk
            subst e0
            exact map_set_same hc (zc_setJ hv0)
        · cases h
      · cases h
    · cases h
  · split at h
    · split at h
      · rename_i hc
        split at h
        · cases h
          rw [← hs]
          exact map_set_same hc zc_setR
        · cases h
      · cases h
    · cases h
  · split at h
    · split at h
      · rename_i hc
        split at h
        · cases h
          rw [← hs]
          exact map_set_same hc zc_setR
        · cases h
      · cases h
    · cases h
  · rename_i he; unfold okS1 at ho; rw [he] at ho; cases ho
  · rename_i he; unfold okS1 at ho; rw [he] at ho; cases ho
  · rename_i he; unfold okS1 at ho; rw [he] at ho; cases ho
  · rename_i he; unfold okS1 at ho; rw [he] at ho; cases ho
  · cases h
theorem one_sh {ro : Nat → Option MC} {E : MI} {lv : LVs} {st : List Value} {q : MS} (hs : F.map zc = sh0) (ho : okS1 E = true) (h : m_one ro tFty tDfl E F lv st = some q) : q.1.map zc = sh0 := by
  unfold m_one at h
  split at h
  · cases h; exact hs
  split at h
  · cases h; exact hs
  split at h
  · cases h; exact hs
  split at h
  · cases h; exact hs
  split at h
  · cases h; exact hs
  split at h
  · cases h; exact hs
  split at h
  · rename_i hw
    cases h
    exact wr_sh hs ho hw
  · cases h
theorem inv_q {ro : Nat → Option MC} {E : MI} {st : List Value} {q : Nat × List Value × List Value} (h : m_inv ro F E st = some q) : q = (E.2.2.2.1, (st.take E.2.2.2.2.1).reverse, st.drop E.2.2.2.2.1) ∧ ivI E.2.1 = true := by
  have iv : ∀ f, m_iv E st f = some q → q = (E.2.2.2.1, (st.take E.2.2.2.2.1).reverse, st.drop E.2.2.2.2.1) := by
    intro f h
    unfold m_iv at h
    split at h
    · split at h
      · rename_i he
        split at h
        · cases h; rw [he]
        · cases h
      · cases h
    · cases h
  unfold m_inv at h
  split at h
  · rename_i he
    split at h
    · cases h; exact ⟨rfl, by rw [he]; rfl⟩
    · cases h
  · rename_i he; exact ⟨iv _ h, by rw [he]; rfl⟩
  · rename_i he; exact ⟨iv _ h, by rw [he]; rfl⟩
  · cases h
theorem at_mem {mi pc : Nat} {E : MI × Option FieldType} (h : m_at tMT mi pc = some E) : ∃ M, tMT[mi]? = some M ∧ E.1 ∈ M.2.2.2.2 ∧ E.2 = M.2.2.2.1 := by
  unfold m_at at h
  split at h
  · rename_i M hM
    obtain ⟨E0, hf, rfl⟩ := Option.map_eq_some_iff.mp h
    exact ⟨M, hM, List.mem_of_find?_eq_some hf, rfl⟩
  · cases h
/-- the shape stays -/
theorem ex_sh {ro : Nat → Option MC} : ∀ (n d mi : Nat) (F : MH) (pc : Nat) (lv : LVs) (st : List Value) (z : Option Value × MH), sP mi = true → F.map zc = sh0 → ex tMT ro tFty tDfl n d mi F pc lv st = some z → z.2.map zc = sh0 := by
  intro n
  induction n with
  | zero => intro d mi F pc lv st z _ _ h; cases h
  | succ n ih =>
    intro d mi F pc lv st z hp hs h
    rw [ex] at h
    split at h
    · cases h
    · rename_i E hE
      obtain ⟨M, hM, hm, -⟩ := at_mem hE
      have hall : M.2.2.2.2.all okS1 = true := by unfold sP at hp; rw [hM] at hp; exact hp
      have ho := List.all_eq_true.mp hall _ hm
      have ht := List.all_eq_true.mp sP_all M (List.mem_of_getElem? hM)
      rw [hall] at ht
      simp only [Bool.not_true, Bool.false_or] at ht
      have ht := List.all_eq_true.mp ht _ hm
      split at h
      · rename_i q hq
        exact ih _ _ _ _ _ _ _ hp (one_sh hs ho hq) h
      · split at h
        · cases h; exact hs
        · split at h
          · cases h
          · rename_i q hi
            obtain ⟨hq, hI⟩ := inv_q hi
            unfold sTg at ht
            rw [hI] at ht
            simp only [Bool.not_true, Bool.false_or, Bool.or_eq_true, beq_iff_eq] at ht
            have hq1 : q.1 = E.1.2.2.2.1 := by rw [hq]
            rw [← hq1] at ht
            split at h
            · split at h
              · split at h
                · exact ih _ _ _ _ _ _ _ hp hs h
                · cases h
              · cases h
            · rename_i h9
              split at h
              · split at h
                · exact ih _ _ _ _ _ _ _ hp hs h
                · cases h
              · rename_i h8
                split at h
                · split at h
                  · cases h
                  · split at h
                    · cases h
                    · rename_i z1 hz1
                      exact ih _ _ _ _ _ _ _ hp (ih _ _ _ _ _ _ _ ((ht.resolve_left h9).resolve_left h8) hs hz1) h
                · cases h
end PcB
