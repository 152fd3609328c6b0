/-! PARTIAL CORRECTNESS, VII: the model's longs too -/
def lgv (F : MH) : Nat → Int64 := fun j => match F[(129 : Nat)]? with
  | some (.inl o) => (match o.2[j]? with | some (.long x) => x | _ => 0)
  | _ => 0
def ul (l : Nat → Int64) (j : Nat) (x : Int64) : Nat → Int64 := fun k => if k = j then x else l k
/-- an instruction that writes no long, and calls what P holds -/
def nlE (P : Nat → Bool) (E : MI) : Bool := okS1 E && ((match E.2.1 with
  | .putfield _ => kindT (tFty E.2.2.2.1 E.2.2.2.2.1) == 0
  | _ => true) && (!(ivI E.2.1) || (E.2.2.2.1 == 9999 || (E.2.2.2.1 == 9998 || P E.2.2.2.1))))
def nlChk (P : Nat → Bool) : Bool := (tMT.zip (List.range tMT.length)).all (fun q => !(P q.2) || q.1.2.2.2.2.all (nlE P))
section PcL
variable {xl : List Int32} {n mi pc : Nat} {lv : LVs} {st r : List Value} {ι κ : IS} {l : Nat → Int64} {Q Q2 : Option Value → IS → (Nat → Int64) → Prop} {rt : Option FieldType} {a : Nat} {x y i : Int32} {F : MH}
theorem ul_same {j : Nat} {x : Int64} : ul l j x j = x := if_pos rfl
theorem ul_ne {j k : Nat} {x : Int64} (h : ¬ k = j) : ul l j x k = l k := if_neg h
theorem lg_setO {ci j : Nat} {fs : List Value} {x y : Int32} (h : F[a]? = some (.inl (ci, fs))) (hj : fs[j]? = some (.int y)) : lgv (F.set a (.inl (ci, fs.set j (.int x)))) = lgv F := by
  have ha : a < F.length := (List.getElem?_eq_some_iff.mp h).1
  have hl : j < fs.length := (List.getElem?_eq_some_iff.mp hj).1
  funext k
  unfold lgv
  by_cases hb : 129 = a
  · subst hb
    rw [List.getElem?_set_self ha, h]
    simp only
    by_cases hk : k = j
    · subst hk
      rw [List.getElem?_set_self hl, hj]
    · rw [List.getElem?_set_ne (fun e => hk e.symm)]
  · rw [List.getElem?_set_ne (fun e => hb e.symm)]
theorem lg_setJ {ci j : Nat} {fs : List Value} {x : Int64} (h : F[(129 : Nat)]? = some (.inl (ci, fs))) (hl : j < fs.length) : lgv (F.set 129 (.inl (ci, fs.set j (.long x)))) = ul (lgv F) j x := by
  have ha : 129 < F.length := (List.getElem?_eq_some_iff.mp h).1
  funext k
  unfold lgv ul
  rw [List.getElem?_set_self ha, h]
  simp only
  by_cases hk : k = j
  · subst hk
    rw [List.getElem?_set_self hl, if_pos rfl]
  · rw [List.getElem?_set_ne (fun e => hk e.symm), if_neg hk]
theorem iv_setJ {ci j : Nat} {fs : List Value} {x y : Int64} (h : F[a]? = some (.inl (ci, fs))) (hj : fs[j]? = some (.long y)) : iv (F.set a (.inl (ci, fs.set j (.long x)))) = iv F := by
  have ha : a < F.length := (List.getElem?_eq_some_iff.mp h).1
  have hl : j < fs.length := (List.getElem?_eq_some_iff.mp hj).1
  funext b k
  simp only [iv]
  by_cases hb : b = a
  · subst hb
    rw [List.getElem?_set_self ha, h]
    simp only
    by_cases hk : k = j
    · subst hk
      rw [List.getElem?_set_self hl, hj]
    · rw [List.getElem?_set_ne (fun e => hk e.symm)]
  · rw [List.getElem?_set_ne (fun e => hb e.symm)]
theorem lg_setR {q q2 : Nat × List Int32} (h : F[a]? = some (.inr (.inl q))) : lgv (F.set a (.inr (.inl q2))) = lgv F := by
  have ha : a < F.length := (List.getElem?_eq_some_iff.mp h).1
  funext k
  unfold lgv
  by_cases hb : 129 = a
  · subst hb
    rw [List.getElem?_set_self ha, h]
  · rw [List.getElem?_set_ne (fun e => hb e.symm)]
theorem wr_nl {P : Nat → Bool} {E : MI} {q : MH × List Value} (hs : F.map zc = sh0) (ho : nlE P E = true) (h : m_wr tFty tDfl F E st = some q) : lgv q.1 = lgv F := by
  unfold nlE at ho
  simp only [Bool.and_eq_true] at ho
  obtain ⟨ho, ho2, -⟩ := ho
  unfold m_wr at h
  split at h
  · rename_i he
    rw [he] at ho2
    simp only [beq_iff_eq] at ho2
    split at h
    · split at h
      · rename_i ci fs hc
        split at h
        · rename_i v a r hw
          cases h
          obtain ⟨hw1, hw2, hw3, hw4, hw5⟩ := hw
          subst hw2
          have hold : ∃ v, fs[E.2.2.2.2.1]? = some v := ⟨_, List.getElem?_eq_getElem hw3⟩
          obtain ⟨v0, hv0⟩ := hold
          have hf := sh_fld hs hc hv0
          obtain ⟨x, rfl⟩ := fits_int ho2 hw5
          have e0 := hf.1 ho2
          subst e0
          exact lg_setO hc hv0
        · cases h
      · cases h
    · cases h
  · split at h
    · split at h
      · rename_i hc
        split at h
        · cases h
          exact lg_setR hc
        · cases h
      · cases h
    · cases h
  · split at h
    · split at h
      · rename_i hc
        split at h
        · cases h
          exact lg_setR hc
        · cases h
      · cases h
    · cases h
  · rename_i he; unfold okS1 at ho; rw [he] at ho; cases ho
  · rename_i he; unfold okS1 at ho; rw [he] at ho; cases ho
  · rename_i he; unfold okS1 at ho; rw [he] at ho; cases ho
  · rename_i he; unfold okS1 at ho; rw [he] at ho; cases ho
  · cases h
theorem one_nl {P : Nat → Bool} {ro : Nat → Option MC} {E : MI} {q : MS} (hs : F.map zc = sh0) (ho : nlE P E = true) (h : m_one ro tFty tDfl E F lv st = some q) : lgv q.1 = lgv F := by
  unfold m_one at h
  split at h
  · cases h; rfl
  split at h
  · cases h; rfl
  split at h
  · cases h; rfl
  split at h
  · cases h; rfl
  split at h
  · cases h; rfl
  split at h
  · cases h; rfl
  split at h
  · rename_i hw
    cases h
    exact wr_nl hs ho hw
  · cases h
theorem ex_nl {P : Nat → Bool} {ro : Nat → Option MC} (hk : nlChk P = true) : ∀ (n d mi : Nat) (F : MH) (pc : Nat) (lv : LVs) (st : List Value) (z : Option Value × MH), P mi = true → F.map zc = sh0 → ex tMT ro tFty tDfl n d mi F pc lv st = some z → lgv z.2 = lgv F ∧ z.2.map zc = sh0 := by
  intro n
  induction n with
  | zero => intro d mi F pc lv st z _ _ h; cases h
  | succ n ih =>
    intro d mi F pc lv st z hp hs h
    rw [ex] at h
    split at h
    · cases h
    · rename_i E hE
      obtain ⟨M, hM, hm, -⟩ := at_mem hE
      have h1 := List.all_eq_true.mp hk _ (zip_mem hM)
      simp only [hp, Bool.not_true, Bool.false_or] at h1
      have ho := List.all_eq_true.mp h1 _ hm
      have ho1 : okS1 E.1 = true := by
        unfold nlE at ho
        simp only [Bool.and_eq_true] at ho
        exact ho.1
      split at h
      · rename_i q hq
        have := ih _ _ _ _ _ _ _ hp (one_sh hs ho1 hq) h
        rw [one_nl hs ho hq] at this
        exact this
      · split at h
        · cases h; exact ⟨rfl, hs⟩
        · split at h
          · cases h
          · rename_i q hi
            obtain ⟨hq, hI⟩ := inv_q hi
            have ht : E.1.2.2.2.1 = 9999 ∨ E.1.2.2.2.1 = 9998 ∨ P E.1.2.2.2.1 = true := by
              unfold nlE at ho
              simp only [Bool.and_eq_true] at ho
              have h3 := ho.2.2
              rw [hI] at h3
              simpa using h3
            have hq1 : q.1 = E.1.2.2.2.1 := by rw [hq]
            rw [← hq1] at ht
            split at h
            · split at h
              · split at h
                · exact ih _ _ _ _ _ _ _ hp hs h
                · cases h
              · cases h
            · rename_i h9
              split at h
              · split at h
                · exact ih _ _ _ _ _ _ _ hp hs h
                · cases h
              · rename_i h8
                split at h
                · split at h
                  · cases h
                  · split at h
                    · cases h
                    · rename_i z1 hz1
                      have i1 := ih _ _ _ _ _ _ _ ((ht.resolve_left h9).resolve_left h8) hs hz1
                      have i2 := ih _ _ _ _ _ _ _ hp i1.2 h
                      exact ⟨i2.1.trans i1.1, i2.2⟩
                · cases h
/-- every run from here that ends, ends so: ints and longs -/
def PL (xl : List Int32) (n mi pc : Nat) (lv : LVs) (st : List Value) (ι : IS) (l : Nat → Int64) (Q : Option Value → IS → (Nat → Int64) → Prop) : Prop := ∀ F, F.map zc = sh0 → iv F = ι → lgv F = l → PF (tRo xl) n mi pc lv st F (fun v F1 => Q v (iv F1) (lgv F1))
theorem PL.zero : PL xl 0 mi pc lv st ι l Q := fun _ _ _ _ => PF.zero
theorem PL.weak (h : PL xl (n + 1) mi pc lv st ι l Q) : PL xl n mi pc lv st ι l Q := fun F hs hi hl => (h F hs hi hl).weak
theorem PL.imp (h : PL xl n mi pc lv st ι l Q) (hq : ∀ v κ k, Q v κ k → Q2 v κ k) : PL xl n mi pc lv st ι l Q2 := fun F hs hi hl => (h F hs hi hl).imp fun v F1 q => hq v (iv F1) (lgv F1) q
theorem PL.le {m : Nat} (h : PL xl m mi pc lv st ι l Q) (hm : n ≤ m) : PL xl n mi pc lv st ι l Q := by
  induction m with
  | zero => rw [Nat.le_zero.mp hm]; exact h
  | succ m ih =>
    by_cases e : n = m + 1
    · rw [e]; exact h
    · exact ih h.weak (by omega)
/-- longs are left out -/
theorem PL.toPC {Q : Option Value → IS → Prop} (h : ∀ l, PL xl n mi pc lv st ι l (fun v κ _ => Q v κ)) : PC xl n mi pc lv st ι Q := fun F hs hi => h (lgv F) F hs hi rfl
/-- a method that writes none -/
theorem PL.ofPC {P : Nat → Bool} {Q : Option Value → IS → Prop} (hk : nlChk P = true) (hp : P mi = true) (h : PC xl n mi pc lv st ι Q) : PL xl n mi pc lv st ι l (fun v κ k => Q v κ ∧ k = l) := fun F hs hi hl d z hx => ⟨h F hs hi d z hx, by rw [(ex_nl hk n d mi F pc lv st z hp hs hx).1]; exact hl⟩
theorem PL.pr {k pc' : Nat} {lv' : LVs} {st' : List Value} (hk : m_pr k mi pc lv st = some (pc', lv', st')) (h : PL xl n mi pc' lv' st' ι l Q) : PL xl n mi pc lv st ι l Q := fun F hs hi hl => PF.pr hk (h F hs hi hl)
theorem PL.pr1 {k pc' : Nat} {lv' : LVs} {st' : List Value} (hk : m_pr (k + 1) mi pc lv st = some (pc', lv', st')) (h : PL xl n mi pc' lv' st' ι l Q) : PL xl (n + 1) mi pc lv st ι l Q := fun F hs hi hl => PF.pr1 hk (h F hs hi hl)
end PcL
