/-! SYMBOLIC RUNS, XII: branches, switches, iinc -/
section SxL
variable {Γ : Nat → Option Nat} {sets : List (List Int)} {roles : List RD} {ms : Mods} {MT : List MM} {ro : Nat → Option MC} {fty : Nat → Nat → FieldType} {dfl : Nat → List Value} {vs0 : List Value} {F0 : MH} {Q : Option Value → MH → Prop} {d : Nat} {S : SS}
theorem cz_cmp (c : ClassFile.Cond) (a b : Int32) : m_cmp c a b = cz c a.toInt b.toInt := by
  cases c <;> simp only [m_cmp, cz, Int32.lt_iff_toInt_lt, Int32.le_iff_toInt_le, ← Int32.toInt_inj]
theorem one_br {E : MI} (h : (∃ o, E.2.1 = .goto o) ∨ (∃ c o, E.2.1 = .ifCond c o) ∨ (∃ c o, E.2.1 = .if_icmp c o) ∨ (∃ d lo hi o, E.2.1 = .tableswitch d lo hi o) ∨ (∃ d o, E.2.1 = .lookupswitch d o)) {st : List Value} {q : Nat × List Value} (hb : m_br E st = some q) (F : MH) (lv : LVs) : m_one ro fty dfl E F lv st = some (F, q.1, lv, q.2) := by
  obtain ⟨pc, i, len, a0, b0, z0⟩ := E
  simp only at h hb
  have h4 : m_alu i st = none := by
    rcases h with ⟨o, rfl⟩ | ⟨c, o, rfl⟩ | ⟨c, o, rfl⟩ | ⟨d, lo, hi, o, rfl⟩ | ⟨d, o, rfl⟩ <;> rfl
  unfold m_one
  have h1 : m_push (pc, i, len, a0, b0, z0) lv = none := by
    rcases h with ⟨o, rfl⟩ | ⟨c, o, rfl⟩ | ⟨c, o, rfl⟩ | ⟨d, lo, hi, o, rfl⟩ | ⟨d, o, rfl⟩ <;> rfl
  have h2 : m_cst (pc, i, len, a0, b0, z0) = none := by
    rcases h with ⟨o, rfl⟩ | ⟨c, o, rfl⟩ | ⟨c, o, rfl⟩ | ⟨d, lo, hi, o, rfl⟩ | ⟨d, o, rfl⟩ <;> rfl
  have h3 : m_store (pc, i, len, a0, b0, z0) lv st = none := by
    rcases h with ⟨o, rfl⟩ | ⟨c, o, rfl⟩ | ⟨c, o, rfl⟩ | ⟨d, lo, hi, o, rfl⟩ | ⟨d, o, rfl⟩ <;> rfl
  rw [h1, h2, h3]
  simp only
  rw [h4]
  simp only
  rw [hb]
theorem m_if_of {pc t : Nat} {off : Int} (ht : m_to pc off = some t) (b : Bool) (r : List Value) : m_if pc off b r = some (if b = true then t else pc + 3, r) := by
  unfold m_if; rw [ht]; rfl
theorem g_goto {E : MI × Option FieldType} {off : Int} {t : Nat} (hE : m_at MT S.1.1 S.1.2.1 = some E) (hi : E.1.2.1 = .goto off) (ht : m_to E.1.1 off = some t)
    (h : Good Γ sets roles ms MT ro fty dfl vs0 F0 Q d (s_top S t S.1.2.2.1 S.1.2.2.2)) : Good Γ sets roles ms MT ro fty dfl vs0 F0 Q d S := by
  intro vs f fs F hp hS hW hF
  obtain ⟨lv, cst, rfl, hl, hc1, hc2⟩ := hS.frame
  exact TT.one hE (one_br (Or.inl ⟨off, hi⟩) (q := (t, cst)) (by unfold m_br; rw [hi]; simp only; rw [ht]; rfl) F lv) (h vs (S.1.1, t, lv, cst) fs F hp (hS.top hl hc2 hc1) hW hF)
theorem g_icmp {E : MI × Option FieldType} {c : ClassFile.Cond} {off : Int} {t : Nat} {x y : AV} {r : List AV} (hE : m_at MT S.1.1 S.1.2.1 = some E) (hi : E.1.2.1 = .if_icmp c off) (ht : m_to E.1.1 off = some t) (hst : S.1.2.2.2 = y :: x :: r) (kx : k_is x.2.1 0 = true) (ky : k_is y.2.1 0 = true)
    (h : ∀ S' ∈ x_cmp S c x y t (E.1.1 + 3) r, Good Γ sets roles ms MT ro fty dfl vs0 F0 Q d S') : Good Γ sets roles ms MT ro fty dfl vs0 F0 Q d S := by
  intro vs f fs F hp hS hW hF
  obtain ⟨lv, cst, rfl, hl, hc1, hc2⟩ := hS.frame
  have ox := hc2 x (by rw [hst]; simp)
  have oy := hc2 y (by rw [hst]; simp)
  rw [hst] at hc1
  obtain ⟨w, t1, rfl, q2, q3⟩ := stk1 hc1
  obtain ⟨v, t2, rfl, q5, q6⟩ := stk1 q3
  obtain ⟨v', p1, p2, -⟩ := id ox
  obtain ⟨w', p3, p4, -⟩ := id oy
  obtain rfl : v' = v := Option.some.inj (p1.symm.trans q5)
  obtain rfl : w' = w := Option.some.inj (p3.symm.trans q2)
  have nx := (k_is_int p2 kx).2
  have ny := (k_is_int p4 ky).2
  obtain ⟨a, rfl⟩ := (k_is_int p2 kx).1
  obtain ⟨b, rfl⟩ := (k_is_int p4 ky).1
  have ra := z_rng a
  have rb := z_rng b
  obtain ⟨S', hm, ho⟩ := x_cmp_ok (S := S) (c := c) (t := t) (n := E.1.1 + 3) (f := (S.1.1, S.1.2.1, lv, Value.int b :: Value.int a :: t2)) (fun pc => hS.top (pc := pc) hl (fun b hb => hc2 b (by rw [hst]; simp [hb])) q6) ox oy nx ny q5 q2 (by simp only [vz]; omega) (by simp only [vz]; omega)
  refine TT.one hE (one_br (Or.inr (Or.inr (Or.inl ⟨c, off, hi⟩))) (q := (if cz c (vz (.int a)) (vz (.int b)) = true then t else E.1.1 + 3, t2)) (by unfold m_br; rw [hi]; simp only; rw [m_if_of ht, cz_cmp]; rfl) F lv) ?_
  exact h S' hm vs _ fs F hp ho hW hF
theorem g_if {E : MI × Option FieldType} {c : ClassFile.Cond} {off : Int} {t : Nat} {x : AV} {r : List AV} (hE : m_at MT S.1.1 S.1.2.1 = some E) (hi : E.1.2.1 = .ifCond c off) (ht : m_to E.1.1 off = some t) (hst : S.1.2.2.2 = x :: r) (kx : k_is x.2.1 0 = true)
    (h : ∀ S' ∈ x_cmp (s_up S) c x (S.2.2.2.2.2, 0, 0, 0, []) t (E.1.1 + 3) r, Good Γ sets roles ms MT ro fty dfl vs0 F0 Q d S') : Good Γ sets roles ms MT ro fty dfl vs0 F0 Q d S := by
  intro vs f fs F hp hS hW hF
  obtain ⟨lv, cst, rfl, hl, hc1, hc2⟩ := hS.frame
  have ox := hc2 x (by rw [hst]; simp)
  rw [hst] at hc1
  obtain ⟨v, t2, rfl, q5, q6⟩ := stk1 hc1
  obtain ⟨v', p1, p2, -⟩ := id ox
  obtain rfl : v' = v := Option.some.inj (p1.symm.trans q5)
  have nx := (k_is_int p2 kx).2
  obtain ⟨a, rfl⟩ := (k_is_int p2 kx).1
  have ra := z_rng a
  have hn := hS.2.2.2.2.2.2
  have e0 : (vs ++ [Value.int 0])[S.2.2.2.2.2]? = some (.int 0) := by rw [hn]; simp
  have oy : okA Γ sets (vs ++ [Value.int 0]) (S.2.2.2.2.2, 0, 0, 0, []) := ⟨_, e0, okE_int (by rw [Int32.toInt_zero]; exact Int.le_refl _) (by rw [Int32.toInt_zero]; exact Int.le_refl _), fun r hr => by cases hr⟩
  obtain ⟨S', hm, ho⟩ := x_cmp_ok (S := s_up S) (c := c) (t := t) (n := E.1.1 + 3) (f := (S.1.1, S.1.2.1, lv, Value.int a :: t2)) (vs := vs ++ [Value.int 0]) (r := r) (lv := lv) (cst := t2) (fun pc => (hS.up (.int 0)).top (pc := pc) (fun q hq => by obtain ⟨q1, w, q2, q3⟩ := hl q hq; exact ⟨q1.app _, w, get_app q2, q3⟩) (fun b hb => (hc2 b (by rw [hst]; simp [hb])).app _) (by
    rw [q6]
    apply List.map_congr_left
    intro b hb
    obtain ⟨w, hw⟩ := (hc2 b (by rw [hst]; simp [hb])).get
    rw [hw, get_app hw])) (ox.app _) oy nx (by simp) (get_app q5) e0 (by simp only [vz]; omega) (by simp only [vz, Int32.toInt_zero]; omega)
  refine TT.one hE (one_br (Or.inr (Or.inl ⟨c, off, hi⟩)) (q := (if cz c (vz (.int a)) (vz (.int 0)) = true then t else E.1.1 + 3, t2)) (by unfold m_br; rw [hi]; simp only; rw [m_if_of ht, cz_cmp]; rfl) F lv) ?_
  exact h S' hm (vs ++ [Value.int 0]) _ fs F (pre_app hp _) ho hW hF
theorem lg_cz (c : ClassFile.Cond) (a b : Int64) : m_cmp c (lg_cmp a b) 0 = cz c a.toInt b.toInt := by
  have key : lg_cmp a b = if b.toInt < a.toInt then 1 else if a.toInt = b.toInt then 0 else -1 := by
    unfold lg_cmp
    simp only [gt_iff_lt, Int64.lt_iff_toInt_lt, ← Int64.toInt_inj]
  rw [key, cz_cmp]
  split
  · have e : (1 : Int32).toInt = 1 := by decide
    rw [e, Int32.toInt_zero]
    cases c <;> simp only [cz] <;> apply decide_eq_decide.mpr <;> omega
  · split
    · rename_i he
      rw [Int32.toInt_zero, he]
      cases c <;> simp [cz]
    · have e : (-1 : Int32).toInt = -1 := by decide
      rw [e, Int32.toInt_zero]
      cases c <;> simp only [cz] <;> apply decide_eq_decide.mpr <;> omega
/-- longs are compared, and the branch behind it -/
theorem g_lcmp {E E2 : MI × Option FieldType} {c : ClassFile.Cond} {off : Int} {t : Nat} {x y : AV} {r : List AV} (hE : m_at MT S.1.1 S.1.2.1 = some E) (hi0 : E.1.2.1 = .lcmp) (hE2 : m_at MT S.1.1 (E.1.1 + E.1.2.2.1) = some E2) (hi : E2.1.2.1 = .ifCond c off) (ht : m_to E2.1.1 off = some t) (hst : S.1.2.2.2 = y :: x :: r) (kx : k_is x.2.1 1 = true) (ky : k_is y.2.1 1 = true)
    (h : ∀ S' ∈ x_cmp S c x y t (E2.1.1 + 3) r, Good Γ sets roles ms MT ro fty dfl vs0 F0 Q d S') : Good Γ sets roles ms MT ro fty dfl vs0 F0 Q d S := by
  intro vs f fs F hp hS hW hF
  obtain ⟨lv, cst, rfl, hl, hc1, hc2⟩ := hS.frame
  have ox := hc2 x (by rw [hst]; simp)
  have oy := hc2 y (by rw [hst]; simp)
  rw [hst] at hc1
  obtain ⟨w, t1, rfl, q2, q3⟩ := stk1 hc1
  obtain ⟨v, t2, rfl, q5, q6⟩ := stk1 q3
  obtain ⟨v', p1, p2, -⟩ := id ox
  obtain ⟨w', p3, p4, -⟩ := id oy
  obtain rfl : v' = v := Option.some.inj (p1.symm.trans q5)
  obtain rfl : w' = w := Option.some.inj (p3.symm.trans q2)
  have nx : ¬ x.2.1 = 2 := by have := (k_is_long p2 kx).2; omega
  have ny : ¬ y.2.1 = 2 := by have := (k_is_long p4 ky).2; omega
  obtain ⟨a, rfl⟩ := (k_is_long p2 kx).1
  obtain ⟨b, rfl⟩ := (k_is_long p4 ky).1
  obtain ⟨S', hm, ho⟩ := x_cmp_ok (S := S) (c := c) (t := t) (n := E2.1.1 + 3) (f := (S.1.1, S.1.2.1, lv, Value.long b :: Value.long a :: t2)) (fun pc => hS.top (pc := pc) hl (fun b hb => hc2 b (by rw [hst]; simp [hb])) q6) ox oy nx ny q5 q2 (z_rngL a) (z_rngL b)
  refine TT.one hE (one_alu (by rw [hi0]; simp) (st1 := .int (lg_cmp a b) :: t2) (by rw [hi0]; rfl) F lv) ?_
  refine TT.one hE2 (one_br (Or.inr (Or.inl ⟨c, off, hi⟩)) (q := (if cz c (vz (.long a)) (vz (.long b)) = true then t else E2.1.1 + 3, t2)) (by unfold m_br; rw [hi]; simp only; rw [m_if_of ht, lg_cz]; rfl) F lv) ?_
  exact h S' hm vs _ fs F hp ho hW hF
end SxL
