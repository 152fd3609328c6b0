section
/-! SYMBOLIC RUNS, IX: longs -/
section SxI
variable {Γ : Nat → Option Nat} {sets : List (List Int)} {roles : List RD} {ms : Mods} {MT : List MM} {ro : Nat → Option MC} {fty : Nat → Nat → FieldType} {dfl : Nat → List Value} {vs0 : List Value} {F0 : MH} {Q : Option Value → MH → Prop} {d : Nat} {S : SS}
theorem z_bmL {z : Int} (h1 : -9223372036854775808 ≤ z) (h2 : z ≤ 9223372036854775807) : z.bmod (2 ^ 64) = z := by
  unfold Int.bmod
  simp only
  split <;> omega
theorem z_lN {x : Int64} (h : 0 ≤ x.toInt) : ∃ j : Nat, j < 2 ^ 63 ∧ x = lN j ∧ (j : Int) = x.toInt := by
  have h0 : ¬ x < 0 := by rw [Int64.lt_iff_toInt_lt, Int64.toInt_zero]; omega
  obtain ⟨j, hj, e⟩ := pk_lOf h0
  exact ⟨j, hj, e, by rw [e, pk_lT hj]⟩
theorem z_divL {x y : Int64} (hx : 0 ≤ x.toInt) (hy : 1 ≤ y.toInt) : (x / y).toInt = x.toInt / y.toInt := by
  obtain ⟨j, h1, h2, h3⟩ := z_lN hx
  obtain ⟨k, g1, g2, g3⟩ := z_lN (x := y) (by omega)
  have hk : 0 < k := by omega
  rw [h2, g2, pk_lDiv h1 hk g1, pk_lT (Nat.lt_of_le_of_lt (Nat.div_le_self _ _) h1), pk_lT h1, pk_lT g1]
  exact Int.natCast_ediv j k
theorem z_remL {x y : Int64} (hx : 0 ≤ x.toInt) (hy : 1 ≤ y.toInt) : (x - x / y * y).toInt = x.toInt % y.toInt := by
  obtain ⟨j, h1, h2, h3⟩ := z_lN hx
  obtain ⟨k, g1, g2, g3⟩ := z_lN (x := y) (by omega)
  have hk : 0 < k := by omega
  rw [h2, g2, pk_lRem h1 hk g1, pk_lT (Nat.lt_of_le_of_lt (Nat.mod_le _ _) h1), pk_lT h1, pk_lT g1]
  exact Int.natCast_emod j k
noncomputable def r_l (l h : Int) : Int × Int := if -9223372036854775808 ≤ l ∧ h ≤ 9223372036854775807 then (l, h) else (-9223372036854775808, 9223372036854775807)
theorem r_l_ok {l h : Int} {x : Int64} (hx : (-9223372036854775808 ≤ l ∧ h ≤ 9223372036854775807) → l ≤ x.toInt ∧ x.toInt ≤ h) : (r_l l h).1 ≤ x.toInt ∧ x.toInt ≤ (r_l l h).2 := by
  unfold r_l
  split
  · rename_i q; exact hx q
  · exact z_rngL x
/-- bounds of what two longs come to -/
noncomputable def l_iv (i : Instr) (x y : AV) : Int × Int := match i with
  | .ladd => r_l (x.2.2.1 + y.2.2.1) (x.2.2.2.1 + y.2.2.2.1)
  | .lsub => r_l (x.2.2.1 - y.2.2.2.1) (x.2.2.2.1 - y.2.2.1)
  | .lmul => if 0 ≤ x.2.2.1 ∧ 0 ≤ y.2.2.1 then r_l (x.2.2.1 * y.2.2.1) (x.2.2.2.1 * y.2.2.2.1) else (-9223372036854775808, 9223372036854775807)
  | .ldiv => if 0 ≤ x.2.2.1 ∧ 1 ≤ y.2.2.1 then (0, x.2.2.2.1) else (-9223372036854775808, 9223372036854775807)
  | .lrem => if 0 ≤ x.2.2.1 ∧ 1 ≤ y.2.2.1 then (0, y.2.2.2.1 - 1) else (-9223372036854775808, 9223372036854775807)
  | _ => (-9223372036854775808, 9223372036854775807)
theorem l_iv_ok {i : Instr} {f : Int64 → Int64 → Int64} {x y : AV} {a b : Int64} (hf : m_b64 i = some f ∨ m_d64 i = some f) (n1 : x.2.2.1 ≤ a.toInt ∧ a.toInt ≤ x.2.2.2.1) (n2 : y.2.2.1 ≤ b.toInt ∧ b.toInt ≤ y.2.2.2.1) : (l_iv i x y).1 ≤ (f a b).toInt ∧ (f a b).toInt ≤ (l_iv i x y).2 := by
  have hA := z_rngL a
  have hB := z_rngL b
  cases i <;> simp only [m_b64, m_d64, reduceCtorEq, or_false, false_or, Option.some.injEq] at hf <;> subst hf <;> simp only [l_iv]
  case ladd => exact r_l_ok fun q => by rw [Int64.toInt_add, z_bmL (by omega) (by omega)]; omega
  case lsub => exact r_l_ok fun q => by rw [Int64.toInt_sub, z_bmL (by omega) (by omega)]; omega
  case lmul =>
    split
    · rename_i hq
      have p1 : x.2.2.1 * y.2.2.1 ≤ a.toInt * b.toInt := Int.mul_le_mul n1.1 n2.1 hq.2 (by omega)
      have p2 : a.toInt * b.toInt ≤ x.2.2.2.1 * y.2.2.2.1 := Int.mul_le_mul n1.2 n2.2 (by omega) (by omega)
      exact r_l_ok fun q => by rw [Int64.toInt_mul, z_bmL (by omega) (by omega)]; exact ⟨p1, p2⟩
    · exact z_rngL _
  case ldiv =>
    split
    · rename_i hq
      have e := z_divL (x := a) (y := b) (by omega) (by omega)
      have p1 : 0 ≤ a.toInt / b.toInt := Int.ediv_nonneg (by omega) (by omega)
      have p2 : a.toInt / b.toInt ≤ a.toInt := Int.ediv_le_self _ (by omega)
      exact ⟨by rw [e]; exact p1, by rw [e]; simp only; omega⟩
    · exact z_rngL _
  case lrem =>
    split
    · rename_i hq
      have e := z_remL (x := a) (y := b) (by omega) (by omega)
      have p1 := Int.emod_nonneg a.toInt (b := b.toInt) (by omega)
      have p2 := Int.emod_lt_of_pos a.toInt (b := b.toInt) (by omega)
      exact ⟨by rw [e]; exact p1, by rw [e]; simp only; omega⟩
    · exact z_rngL _
  all_goals exact z_rngL _
/-- how a sum of longs differs from what is added to -/
noncomputable def l_rl (i : Instr) (x y : AV) : List (Nat × Int × Int) := match i with
  | .ladd => if y.2.2.1 = y.2.2.2.1 ∧ -9223372036854775808 ≤ x.2.2.1 + y.2.2.1 ∧ x.2.2.2.1 + y.2.2.2.1 ≤ 9223372036854775807 then (x.1, y.2.2.1, y.2.2.1) :: (x.2.2.2.2.take 4).map (fun q => (q.1, q.2.1 + y.2.2.1, q.2.2 + y.2.2.1)) else []
  | _ => []
theorem l_rl_ok {i : Instr} {f : Int64 → Int64 → Int64} {x y : AV} {vs : List Value} {a b : Int64} (hf : m_b64 i = some f ∨ m_d64 i = some f) (hx : vs[x.1]? = some (.long a)) (n1 : x.2.2.1 ≤ a.toInt ∧ a.toInt ≤ x.2.2.2.1) (n2 : y.2.2.1 ≤ b.toInt ∧ b.toInt ≤ y.2.2.2.1) (hr : ∀ q ∈ x.2.2.2.2, ∃ w, vs[q.1]? = some w ∧ q.2.1 ≤ a.toInt - vz w ∧ a.toInt - vz w ≤ q.2.2) : ∀ q ∈ l_rl i x y, ∃ w, vs[q.1]? = some w ∧ q.2.1 ≤ vz (.long (f a b)) - vz w ∧ vz (.long (f a b)) - vz w ≤ q.2.2 := by
  intro q hq
  unfold l_rl at hq
  split at hq
  · split at hq
    · rename_i hc
      simp only [m_b64, m_d64, reduceCtorEq, or_false, Option.some.injEq] at hf
      subst hf
      have e : (a + b).toInt = a.toInt + b.toInt := by rw [Int64.toInt_add, z_bmL (by omega) (by omega)]
      rcases List.mem_cons.mp hq with rfl | hq
      · exact ⟨_, hx, by simp only [vz, e]; omega, by simp only [vz, e]; omega⟩
      · obtain ⟨r, h1, rfl⟩ := List.mem_map.mp hq
        obtain ⟨w, g1, g2, g3⟩ := hr r (List.mem_of_mem_take h1)
        have e2 : vz (.long (a + b)) = a.toInt + b.toInt := e
        exact ⟨w, g1, by simp only [e2]; omega, by simp only [e2]; omega⟩
    · cases hq
  · cases hq
theorem alu_b64 {i : Instr} {f : Int64 → Int64 → Int64} (h : m_b64 i = some f) (x y : Int64) (t : List Value) : m_alu i (.long y :: .long x :: t) = some (.long (f x y) :: t) := by
  have h1 : m_b32 i = none := by cases i <;> first | rfl | (simp only [m_b64, reduceCtorEq] at h)
  have h2 : m_d32 i = none := by cases i <;> first | rfl | (simp only [m_b64, reduceCtorEq] at h)
  unfold m_alu; rw [h1]; simp only; rw [h2]; simp only; rw [h]
theorem alu_d64 {i : Instr} {f : Int64 → Int64 → Int64} (h : m_d64 i = some f) (x y : Int64) (hy : ¬ y = 0) (t : List Value) : m_alu i (.long y :: .long x :: t) = some (.long (f x y) :: t) := by
  have h1 : m_b32 i = none := by cases i <;> first | rfl | (simp only [m_d64, reduceCtorEq] at h)
  have h2 : m_d32 i = none := by cases i <;> first | rfl | (simp only [m_d64, reduceCtorEq] at h)
  have h3 : m_b64 i = none := by cases i <;> first | rfl | (simp only [m_d64, reduceCtorEq] at h)
  unfold m_alu; rw [h1]; simp only; rw [h2]; simp only; rw [h3]; simp only; rw [h]; simp only; rw [if_neg hy]
theorem okE_long {lo hi : Int} {x : Int64} (h1 : lo ≤ x.toInt) (h2 : x.toInt ≤ hi) : okE Γ sets 1 lo hi (.long x) := by
  unfold okE; simp; exact ⟨⟨_, rfl⟩, h1, h2⟩
theorem g_long {E : MI × Option FieldType} {x y : AV} {r : List AV} (hE : m_at MT S.1.1 S.1.2.1 = some E) (hst : S.1.2.2.2 = y :: x :: r) (kx : k_is x.2.1 1 = true) (ky : k_is y.2.1 1 = true) (hi : (m_b64 E.1.2.1).isSome = true ∨ ((m_d64 E.1.2.1).isSome = true ∧ (0 < y.2.2.1 ∨ y.2.2.2.1 < 0)))
    (h : Good Γ sets roles ms MT ro fty dfl vs0 F0 Q d (s_top (s_sum [] (s_up S)) (E.1.1 + E.1.2.2.1) S.1.2.2.1 ((S.2.2.2.2.2, 1, (l_iv E.1.2.1 x y).1, (l_iv E.1.2.1 x y).2, l_rl E.1.2.1 x y) :: r))) : Good Γ sets roles ms MT ro fty dfl vs0 F0 Q d S := by
  refine g_resS hE (fun vs lv cst F hall hsu hn hcs => ?_) (fun a ha => by rw [hst]; simp [ha]) h
  rw [hst] at hcs
  obtain ⟨w, t1, rfl, q2, q3⟩ := stk1 hcs
  obtain ⟨v, t2, rfl, q5, q6⟩ := stk1 q3
  obtain ⟨v', p1, p2, p9⟩ := hall x (mem_top (by rw [hst]; simp))
  obtain ⟨w', p3, p4, -⟩ := hall y (mem_top (by rw [hst]; simp))
  obtain rfl : v' = v := Option.some.inj (p1.symm.trans q5)
  obtain rfl : w' = w := Option.some.inj (p3.symm.trans q2)
  have n1 := p2.num (by have := (k_is_long p2 kx).2; omega)
  have n2 := p4.num (by have := (k_is_long p4 ky).2; omega)
  obtain ⟨a, rfl⟩ := (k_is_long p2 kx).1
  obtain ⟨b, rfl⟩ := (k_is_long p4 ky).1
  simp only [vz] at n1 n2
  rcases hi with hi | ⟨hi, hz⟩
  · obtain ⟨f, hf⟩ := Option.isSome_iff_exists.mp hi
    have hb := l_iv_ok (Or.inl hf) n1 n2
    exact ⟨.long (f a b), t2, one_alu (Or.inr (Or.inr (Or.inl hi))) (alu_b64 hf a b t2) F lv, q6, okE_long hb.1 hb.2, l_rl_ok (Or.inl hf) p1 n1 n2 p9, (fun q hq => by cases hq)⟩
  · obtain ⟨f, hf⟩ := Option.isSome_iff_exists.mp hi
    have hb := l_iv_ok (Or.inr hf) n1 n2
    have hne : ¬ b = 0 := by
      intro e
      subst e
      simp only [Int64.toInt_zero] at n2
      omega
    exact ⟨.long (f a b), t2, one_alu (Or.inr (Or.inr (Or.inr (Or.inl hi)))) (alu_d64 hf a b hne t2) F lv, q6, okE_long hb.1 hb.2, l_rl_ok (Or.inr hf) p1 n1 n2 p9, (fun q hq => by cases hq)⟩
end SxI
end
section
/-! SYMBOLIC RUNS, X: the stack's own instructions, stores into locals -/
noncomputable def x_stk (i : Instr) (st : List AV) : Option (List AV) := match i with
  | .dup => (match st with | a :: r => if a.2.1 = 1 then none else some (a :: a :: r) | _ => none)
  | .pop => (match st with | a :: r => if a.2.1 = 1 then none else some r | _ => none)
  | .pop2 => (match st with | a :: r => if a.2.1 = 1 then some r else none | _ => none)
  | .dup_x1 => (match st with | a :: b :: r => if a.2.1 = 1 ∨ b.2.1 = 1 then none else some (a :: b :: a :: r) | _ => none)
  | .dup_x2 => (match st with | a :: b :: c :: r => if a.2.1 = 1 ∨ b.2.1 = 1 ∨ c.2.1 = 1 then none else some (a :: b :: c :: a :: r) | _ => none)
  | .dup2 => (match st with | a :: b :: r => if a.2.1 = 1 ∨ b.2.1 = 1 then none else some (a :: b :: a :: b :: r) | _ => none)
  | _ => none
/-- a store: the local, and whether it is of two places -/
noncomputable def st_ix (i : Instr) : Option (Nat × Nat) := match i with
  | .istore i => some (i, 0)
  | .istore_n i => some (i, 0)
  | .lstore i => some (i, 1)
  | .lstore_n i => some (i, 1)
  | .astore i => some (i, 2)
  | .astore_n i => some (i, 2)
  | _ => none
section SxJ
variable {Γ : Nat → Option Nat} {sets : List (List Int)} {roles : List RD} {ms : Mods} {MT : List MM} {ro : Nat → Option MC} {fty : Nat → Nat → FieldType} {dfl : Nat → List Value} {vs0 : List Value} {F0 : MH} {Q : Option Value → MH → Prop} {d : Nat} {S : SS}
theorem okA_cat {vs : List Value} {a : AV} {v : Value} (h : okA Γ sets vs a) (hv : vs[a.1]? = some v) : (v.category = 2 ↔ a.2.1 = 1) := by
  obtain ⟨v', p1, p2, -⟩ := h
  obtain rfl : v' = v := Option.some.inj (p1.symm.trans hv)
  exact okE_cat p2
theorem okA_cat1 {vs : List Value} {a : AV} {v : Value} (h : okA Γ sets vs a) (hv : vs[a.1]? = some v) (hk : ¬ a.2.1 = 1) : v.category = 1 := by
  have := okA_cat h hv
  rcases lv_cat v with e | e
  · exact e
  · exact absurd (this.mp e) hk
/-- the stack is laid otherwise, of what is on it -/
theorem g_lay {E : MI × Option FieldType} {st1 : List AV} (hE : m_at MT S.1.1 S.1.2.1 = some E) (hin : ∀ a ∈ st1, a ∈ S.1.2.2.2)
    (hst : ∀ vs lv cst F, (∀ a ∈ s_av S, okA Γ sets vs a) → cst.map some = S.1.2.2.2.map (fun a => vs[a.1]?) → ∃ t, m_one ro fty dfl E.1 F lv cst = some (F, E.1.1 + E.1.2.2.1, lv, t) ∧ t.map some = st1.map (fun a => vs[a.1]?))
    (h : Good Γ sets roles ms MT ro fty dfl vs0 F0 Q d (s_top S (E.1.1 + E.1.2.2.1) S.1.2.2.1 st1)) : Good Γ sets roles ms MT ro fty dfl vs0 F0 Q d S := by
  intro vs f fs F hp hS hW hF
  obtain ⟨lv, cst, rfl, hl, hc1, hc2⟩ := hS.frame
  obtain ⟨t, h1, h2⟩ := hst vs lv cst F hS.1 hc1
  exact TT.one hE h1 (h vs (S.1.1, E.1.1 + E.1.2.2.1, lv, t) fs F hp (hS.top hl (fun b hb => hc2 b (hin b hb)) h2) hW hF)
theorem g_stk {E : MI × Option FieldType} {st1 : List AV} (hE : m_at MT S.1.1 S.1.2.1 = some E) (hx : x_stk E.1.2.1 S.1.2.2.2 = some st1)
    (h : Good Γ sets roles ms MT ro fty dfl vs0 F0 Q d (s_top S (E.1.1 + E.1.2.2.1) S.1.2.2.1 st1)) : Good Γ sets roles ms MT ro fty dfl vs0 F0 Q d S := by
  cases hi : E.1.2.1 <;> rw [hi] at hx <;> simp only [x_stk, reduceCtorEq] at hx
  case dup =>
    split at hx
    · rename_i a r hs
      split at hx
      · cases hx
      · rename_i hk
        cases hx
        refine g_lay hE (fun b hb => ?_) (fun vs lv cst F hall hc => ?_) h
        · rw [hs]; simp only [List.mem_cons] at hb ⊢; grind
        rw [hs] at hc
        obtain ⟨v, t, rfl, q1, q2⟩ := stk1 hc
        have hcat := okA_cat1 (hall a (mem_top (by rw [hs]; simp))) q1 hk
        exact ⟨v :: v :: t, one_alu (by rw [hi]; simp) (by rw [hi]; simp [m_alu, m_b32, m_d32, m_b64, m_d64, m_u32, m_stk, hcat]) F lv, by simp [q1, q2]⟩
    · cases hx
  case pop =>
    split at hx
    · rename_i a r hs
      split at hx
      · cases hx
      · rename_i hk
        cases hx
        refine g_lay hE (fun b hb => ?_) (fun vs lv cst F hall hc => ?_) h
        · rw [hs]; simp only [List.mem_cons] at hb ⊢; grind
        rw [hs] at hc
        obtain ⟨v, t, rfl, q1, q2⟩ := stk1 hc
        have hcat := okA_cat1 (hall a (mem_top (by rw [hs]; simp))) q1 hk
        exact ⟨t, one_alu (by rw [hi]; simp) (by rw [hi]; simp [m_alu, m_b32, m_d32, m_b64, m_d64, m_u32, m_stk, hcat]) F lv, q2⟩
    · cases hx
  case pop2 =>
    split at hx
    · rename_i a r hs
      split at hx
      · rename_i hk
        cases hx
        refine g_lay hE (fun b hb => ?_) (fun vs lv cst F hall hc => ?_) h
        · rw [hs]; simp only [List.mem_cons] at hb ⊢; grind
        rw [hs] at hc
        obtain ⟨v, t, rfl, q1, q2⟩ := stk1 hc
        have hcat := (okA_cat (hall a (mem_top (by rw [hs]; simp))) q1).mpr hk
        exact ⟨t, one_alu (by rw [hi]; simp) (by rw [hi]; simp [m_alu, m_b32, m_d32, m_b64, m_d64, m_u32, m_stk, hcat]) F lv, q2⟩
      · cases hx
    · cases hx
  case dup_x1 =>
    split at hx
    · rename_i a b r hs
      split at hx
      · cases hx
      · rename_i hk
        cases hx
        refine g_lay hE (fun c hb => ?_) (fun vs lv cst F hall hc => ?_) h
        · rw [hs]; simp only [List.mem_cons] at hb ⊢; grind
        rw [hs] at hc
        obtain ⟨v, t, rfl, q1, q2⟩ := stk1 hc
        obtain ⟨w, t, rfl, q3, q4⟩ := stk1 q2
        have c1 := okA_cat1 (hall a (mem_top (by rw [hs]; simp))) q1 (fun z => hk (Or.inl z))
        have c2 := okA_cat1 (hall b (mem_top (by rw [hs]; simp))) q3 (fun z => hk (Or.inr z))
        exact ⟨v :: w :: v :: t, one_alu (by rw [hi]; simp) (by rw [hi]; simp [m_alu, m_b32, m_d32, m_b64, m_d64, m_u32, m_stk, c1, c2]) F lv, by simp [q1, q3, q4]⟩
    · cases hx
  case dup_x2 =>
    split at hx
    · rename_i a b c r hs
      split at hx
      · cases hx
      · rename_i hk
        cases hx
        refine g_lay hE (fun c hb => ?_) (fun vs lv cst F hall hc => ?_) h
        · rw [hs]; simp only [List.mem_cons] at hb ⊢; grind
        rw [hs] at hc
        obtain ⟨v, t, rfl, q1, q2⟩ := stk1 hc
        obtain ⟨w, t, rfl, q3, q4⟩ := stk1 q2
        obtain ⟨u, t, rfl, q5, q6⟩ := stk1 q4
        have c1 := okA_cat1 (hall a (mem_top (by rw [hs]; simp))) q1 (fun z => hk (Or.inl z))
        have c2 := okA_cat1 (hall b (mem_top (by rw [hs]; simp))) q3 (fun z => hk (Or.inr (Or.inl z)))
        have c3 := okA_cat1 (hall c (mem_top (by rw [hs]; simp))) q5 (fun z => hk (Or.inr (Or.inr z)))
        exact ⟨v :: w :: u :: v :: t, one_alu (by rw [hi]; simp) (by rw [hi]; simp [m_alu, m_b32, m_d32, m_b64, m_d64, m_u32, m_stk, c1, c2, c3]) F lv, by simp [q1, q3, q5, q6]⟩
    · cases hx
  case dup2 =>
    split at hx
    · rename_i a b r hs
      split at hx
      · cases hx
      · rename_i hk
        cases hx
        refine g_lay hE (fun c hb => ?_) (fun vs lv cst F hall hc => ?_) h
        · rw [hs]; simp only [List.mem_cons] at hb ⊢; grind
        rw [hs] at hc
        obtain ⟨v, t, rfl, q1, q2⟩ := stk1 hc
        obtain ⟨w, t, rfl, q3, q4⟩ := stk1 q2
        have c1 := okA_cat1 (hall a (mem_top (by rw [hs]; simp))) q1 (fun z => hk (Or.inl z))
        have c2 := okA_cat1 (hall b (mem_top (by rw [hs]; simp))) q3 (fun z => hk (Or.inr z))
        exact ⟨v :: w :: v :: w :: t, one_alu (by rw [hi]; simp) (by rw [hi]; simp [m_alu, m_b32, m_d32, m_b64, m_d64, m_u32, m_stk, c1, c2]) F lv, by simp [q1, q3, q4]⟩
    · cases hx
/-- a shift by nothing -/
theorem g_shr0 {E : MI × Option FieldType} {x y : AV} {r : List AV} (hE : m_at MT S.1.1 S.1.2.1 = some E) (hi : E.1.2.1 = .ishr) (hst : S.1.2.2.2 = y :: x :: r) (kx : k_is x.2.1 0 = true) (hy : y.2.1 = 0 ∧ y.2.2.1 = 0 ∧ y.2.2.2.1 = 0)
    (h : Good Γ sets roles ms MT ro fty dfl vs0 F0 Q d (s_top S (E.1.1 + E.1.2.2.1) S.1.2.2.1 (x :: r))) : Good Γ sets roles ms MT ro fty dfl vs0 F0 Q d S := by
  refine g_lay hE (fun b hb => ?_) (fun vs lv cst F hall hc => ?_) h
  · rw [hst]; simp only [List.mem_cons] at hb ⊢; grind
  rw [hst] at hc
  obtain ⟨w, t1, rfl, q2, q3⟩ := stk1 hc
  obtain ⟨v, t2, rfl, q5, q6⟩ := stk1 q3
  obtain ⟨v', p1, p2, -⟩ := hall x (mem_top (by rw [hst]; simp))
  obtain ⟨w', p3, p4, -⟩ := hall y (mem_top (by rw [hst]; simp))
  obtain rfl : v' = v := Option.some.inj (p1.symm.trans q5)
  obtain rfl : w' = w := Option.some.inj (p3.symm.trans q2)
  obtain ⟨a, rfl⟩ := (k_is_int p2 kx).1
  have e1 := isC_spec (a := y) (by simp only [isC, hy.1, hy.2.1, hy.2.2]; rfl) p4
  rw [hy.2.1] at e1
  have e0 : Int32.ofInt 0 = 0 := rfl
  rw [e0] at e1
  subst e1
  refine ⟨.int a :: t2, one_alu (Or.inl (by rw [hi]; rfl)) (by rw [hi, alu_b32 (f := fun x y => x >>> (y &&& 31)) rfl a 0 t2]; simp only [sb_shr0]) F lv, ?_⟩
  simp [q5, q6]
theorem store_one {E : MI} {i c : Nat} {v : Value} (h : st_ix E.2.1 = some (i, c)) (hc : (c = 0 → isI v) ∧ (c = 1 → isJ v) ∧ (c = 2 → ∃ a, v = .ref a)) (F : MH) (lv : LVs) (t : List Value) : m_one ro fty dfl E F lv (v :: t) = some (F, E.1 + E.2.2.1, if c = 1 then m_put2 lv i v else m_put1 lv i v, t) := by
  obtain ⟨pc, ins, len, a0, b0, z0⟩ := E
  simp only at h
  cases ins <;> simp only [st_ix, Option.some.injEq, Prod.mk.injEq, reduceCtorEq] at h <;> obtain ⟨h1, h2⟩ := h <;> subst h1 <;> subst h2
  all_goals first
    | (obtain ⟨x, rfl⟩ := hc.1 rfl; rfl)
    | (obtain ⟨x, rfl⟩ := hc.2.1 rfl; rfl)
    | (obtain ⟨x, rfl⟩ := hc.2.2 rfl; rfl)
theorem m_get_put2 {lv : LVs} {i j : Nat} {v w : Value} (h : m_get lv j = some w) (hne : ¬ j = i) (hne2 : ¬ j = i + 1) (hc : ¬ (j + 1 = i ∧ w.category = 2)) : m_get (m_put2 lv i v) j = some w := by
  unfold m_get m_put2 at *
  cases hf : lv.find? (fun q => q.1 == j) with
  | none => rw [hf] at h; cases h
  | some q =>
    rw [hf] at h
    have e1 : q.2 = w := Option.some.inj h
    have e2 : q.1 = j := by have := List.find?_some hf; simpa using this
    have key : (lv.filter (fun q => !(q.1 == i) && (!(q.1 == i + 1) && !(q.1 + 1 == i && q.2.category == 2)))).find? (fun q => q.1 == j) = some q := by
      rw [List.find?_filter]
      rw [List.find?_eq_some_iff_append] at hf ⊢
      obtain ⟨h1, as, bs, h2, h3⟩ := hf
      refine ⟨?_, as, bs, h2, fun x hx => ?_⟩
      · rw [e2, e1]
        simp only [Bool.and_eq_true, Bool.not_eq_true', beq_eq_false_iff_ne, ne_eq, decide_eq_true_eq, beq_iff_eq, Bool.and_eq_false_iff]
        refine ⟨⟨hne, hne2, ?_⟩, trivial⟩
        by_cases q1 : j + 1 = i
        · exact Or.inr (fun z => hc ⟨q1, z⟩)
        · exact Or.inl q1
      · have := h3 x hx
        simp only [Bool.not_eq_true', beq_eq_false_iff_ne, ne_eq] at this
        simp only [this, beq_iff_eq, and_false, decide_false, Bool.not_false]
    rw [List.find?_cons]
    have hij : (i == j) = false := by simp only [beq_eq_false_iff_ne, ne_eq]; exact fun z => hne z.symm
    simp only [hij]
    rw [key]
    exact congrArg some e1
theorem m_get_same2 {lv : LVs} {i : Nat} {v : Value} : m_get (m_put2 lv i v) i = some v := by
  unfold m_get m_put2
  rw [List.find?_cons]
  simp
theorem lc_put1 {vs : List Value} {lc : List (Nat × AV)} {lv : LVs} {i : Nat} {a : AV} {v : Value} (hl : ∀ q ∈ lc, okA Γ sets vs q.2 ∧ ∃ v, vs[q.2.1]? = some v ∧ m_get lv q.1 = some v) (ha : okA Γ sets vs a) (hv : vs[a.1]? = some v) : ∀ q ∈ x_put1 lc i a, okA Γ sets vs q.2 ∧ ∃ w, vs[q.2.1]? = some w ∧ m_get (m_put1 lv i v) q.1 = some w := by
  intro q hq
  rcases List.mem_cons.mp hq with rfl | hq
  · exact ⟨ha, v, hv, m_get_same1⟩
  · obtain ⟨h1, h2⟩ := List.mem_filter.mp hq
    obtain ⟨q1, w, q2, q3⟩ := hl q h1
    simp only [Bool.and_eq_true, Bool.not_eq_true', beq_eq_false_iff_ne, ne_eq, Bool.and_eq_false_iff] at h2
    refine ⟨q1, w, q2, m_get_put1 q3 h2.1 ?_⟩
    rintro ⟨z1, z2⟩
    rcases h2.2 with z | z
    · exact z z1
    · exact z ((okA_cat q1 q2).mp z2)
theorem lc_put2 {vs : List Value} {lc : List (Nat × AV)} {lv : LVs} {i : Nat} {a : AV} {v : Value} (hl : ∀ q ∈ lc, okA Γ sets vs q.2 ∧ ∃ v, vs[q.2.1]? = some v ∧ m_get lv q.1 = some v) (ha : okA Γ sets vs a) (hv : vs[a.1]? = some v) : ∀ q ∈ x_put2 lc i a, okA Γ sets vs q.2 ∧ ∃ w, vs[q.2.1]? = some w ∧ m_get (m_put2 lv i v) q.1 = some w := by
  intro q hq
  rcases List.mem_cons.mp hq with rfl | hq
  · exact ⟨ha, v, hv, m_get_same2⟩
  · obtain ⟨h1, h2⟩ := List.mem_filter.mp hq
    obtain ⟨q1, w, q2, q3⟩ := hl q h1
    simp only [Bool.and_eq_true, Bool.not_eq_true', beq_eq_false_iff_ne, ne_eq, Bool.and_eq_false_iff] at h2
    refine ⟨q1, w, q2, m_get_put2 q3 h2.1 h2.2.1 ?_⟩
    rintro ⟨z1, z2⟩
    rcases h2.2.2 with z | z
    · exact z z1
    · exact z ((okA_cat q1 q2).mp z2)
theorem g_store {E : MI × Option FieldType} {i c : Nat} {a : AV} {r : List AV} (hE : m_at MT S.1.1 S.1.2.1 = some E) (hi : st_ix E.1.2.1 = some (i, c)) (hst : S.1.2.2.2 = a :: r) (hk : k_is a.2.1 c = true)
    (h : Good Γ sets roles ms MT ro fty dfl vs0 F0 Q d (s_top S (E.1.1 + E.1.2.2.1) (if c = 1 then x_put2 S.1.2.2.1 i a else x_put1 S.1.2.2.1 i a) r)) : Good Γ sets roles ms MT ro fty dfl vs0 F0 Q d S := by
  intro vs f fs F hp hS hW hF
  obtain ⟨lv, cst, rfl, hl, hc1, hc2⟩ := hS.frame
  rw [hst] at hc1
  obtain ⟨v, t, rfl, q1, q2⟩ := stk1 hc1
  have oa := hc2 a (by rw [hst]; simp)
  obtain ⟨v', p1, p2, -⟩ := id oa
  obtain rfl : v' = v := Option.some.inj (p1.symm.trans q1)
  refine TT.one hE (store_one hi ⟨fun e => ?_, fun e => ?_, fun e => ?_⟩ F lv t) ?_
  · subst e; exact (k_is_int p2 hk).1
  · subst e; exact (k_is_long p2 hk).1
  · subst e; obtain ⟨⟨x, e1, -⟩, -⟩ := k_is_ref p2 hk; exact ⟨x, e1⟩
  · refine h vs (S.1.1, E.1.1 + E.1.2.2.1, (if c = 1 then m_put2 lv i v' else m_put1 lv i v'), t) fs F hp (hS.top ?_ (fun b hb => hc2 b (by rw [hst]; simp [hb])) q2) hW hF
    split
    · exact lc_put2 hl oa q1
    · exact lc_put1 hl oa q1
end SxJ
end
section
/-! SYMBOLIC RUNS, XI: comparisons -/
noncomputable def BIG : Int := 1180591620717411303424
/-- in which bounds the difference is when a condition holds (or doesn't) -/
noncomputable def x_rng (c : ClassFile.Cond) (t : Bool) : List (Int × Int) := match c, t with
  | .eq, true => [(0, 0)]
  | .eq, false => [(-BIG, -1), (1, BIG)]
  | .ne, true => [(-BIG, -1), (1, BIG)]
  | .ne, false => [(0, 0)]
  | .lt, true => [(-BIG, -1)]
  | .lt, false => [(0, BIG)]
  | .ge, true => [(0, BIG)]
  | .ge, false => [(-BIG, -1)]
  | .gt, true => [(1, BIG)]
  | .gt, false => [(-BIG, 0)]
  | .le, true => [(-BIG, 0)]
  | .le, false => [(1, BIG)]
noncomputable def cz (c : ClassFile.Cond) (p q : Int) : Bool := match c with
  | .eq => decide (p = q)
  | .ne => decide (¬ p = q)
  | .lt => decide (p < q)
  | .ge => decide (q ≤ p)
  | .gt => decide (q < p)
  | .le => decide (p ≤ q)
/-- more is known of how a value differs from others -/
noncomputable def a_rel (id : Nat) (rs : List (Nat × Int × Int)) (a : AV) : AV := if a.1 = id then (a.1, a.2.1, a.2.2.1, a.2.2.2.1, (rs ++ a.2.2.2.2).take 8) else a
noncomputable def x_bas (x : AV) (lo hi : Int) : List (Nat × Int × Int) → SS → SS
  | [], S => S
  | r :: t, S => x_bas x lo hi t (s_map (a_cl r.1 (lo - r.2.2) (hi - r.2.1)) S)
/-- a difference that is one number is told of both -/
noncomputable def x_rr (x y : AV) (D : Int × Int) (S : SS) : SS := if D.1 = D.2 ∧ ¬ y.2.2.1 = y.2.2.2.1 then s_map (a_rel y.1 [(x.1, -D.1, -D.1)]) S else S
noncomputable def x_ref (x y : AV) (r : Int × Int) (S : SS) : Option SS :=
  let D := i_and (a_diff x y) r
  let xl := max x.2.2.1 (y.2.2.1 + D.1)
  let xh := min x.2.2.2.1 (y.2.2.2.1 + D.2)
  let yl := max y.2.2.1 (x.2.2.1 - D.2)
  let yh := min y.2.2.2.1 (x.2.2.2.1 - D.1)
  if D.1 ≤ D.2 ∧ xl ≤ xh ∧ yl ≤ yh then
    some (x_rr x y D (s_map (a_rel x.1 ((y.1, D.1, D.2) :: sh2 D y.2.2.2.2)) (x_bas y yl yh y.2.2.2.2 (x_bas x xl xh x.2.2.2.2 (s_map (a_cl y.1 yl yh) (s_map (a_cl x.1 xl xh) S))))))
  else none
where sh2 (D : Int × Int) (r : List (Nat × Int × Int)) : List (Nat × Int × Int) := r.map fun q => (q.1, q.2.1 + D.1, q.2.2 + D.2)
section SxK
variable {Γ : Nat → Option Nat} {sets : List (List Int)} {roles : List RD} {ms : Mods} {MT : List MM} {ro : Nat → Option MC} {fty : Nat → Nat → FieldType} {dfl : Nat → List Value} {vs0 : List Value} {F0 : MH} {Q : Option Value → MH → Prop} {d : Nat} {S : SS}
theorem cz_rng {c : ClassFile.Cond} {p q : Int} (hp : -9223372036854775808 ≤ p ∧ p ≤ 9223372036854775807) (hq : -9223372036854775808 ≤ q ∧ q ≤ 9223372036854775807) : ∃ r ∈ x_rng c (cz c p q), i_in (p - q) r := by
  have hb : BIG = 1180591620717411303424 := rfl
  cases c <;> simp only [cz]
  case eq =>
    by_cases h : p = q
    · rw [decide_eq_true h]; exact ⟨(0, 0), by simp [x_rng], by unfold i_in; simp only; omega⟩
    · rw [decide_eq_false h]
      rcases Int.lt_or_gt_of_ne h with g | g
      · exact ⟨(-BIG, -1), by simp [x_rng], by unfold i_in; simp only; omega⟩
      · exact ⟨(1, BIG), by simp [x_rng], by unfold i_in; simp only; omega⟩
  case ne =>
    by_cases h : p = q
    · rw [decide_eq_false (fun z => z h)]; exact ⟨(0, 0), by simp [x_rng], by unfold i_in; simp only; omega⟩
    · rw [decide_eq_true h]
      rcases Int.lt_or_gt_of_ne h with g | g
      · exact ⟨(-BIG, -1), by simp [x_rng], by unfold i_in; simp only; omega⟩
      · exact ⟨(1, BIG), by simp [x_rng], by unfold i_in; simp only; omega⟩
  case lt =>
    by_cases h : p < q
    · rw [decide_eq_true h]; exact ⟨(-BIG, -1), by simp [x_rng], by unfold i_in; simp only; omega⟩
    · rw [decide_eq_false h]; exact ⟨(0, BIG), by simp [x_rng], by unfold i_in; simp only; omega⟩
  case ge =>
    by_cases h : q ≤ p
    · rw [decide_eq_true h]; exact ⟨(0, BIG), by simp [x_rng], by unfold i_in; simp only; omega⟩
    · rw [decide_eq_false h]; exact ⟨(-BIG, -1), by simp [x_rng], by unfold i_in; simp only; omega⟩
  case gt =>
    by_cases h : q < p
    · rw [decide_eq_true h]; exact ⟨(1, BIG), by simp [x_rng], by unfold i_in; simp only; omega⟩
    · rw [decide_eq_false h]; exact ⟨(-BIG, 0), by simp [x_rng], by unfold i_in; simp only; omega⟩
  case le =>
    by_cases h : p ≤ q
    · rw [decide_eq_true h]; exact ⟨(-BIG, 0), by simp [x_rng], by unfold i_in; simp only; omega⟩
    · rw [decide_eq_false h]; exact ⟨(1, BIG), by simp [x_rng], by unfold i_in; simp only; omega⟩
theorem a_rel_id (id : Nat) (rs : List (Nat × Int × Int)) (a : AV) : (a_rel id rs a).1 = a.1 := by
  unfold a_rel; split <;> rfl
theorem x_bas_ok {vs : List Value} {f : CF} {fs : List CF} {F : MH} {x : AV} {v : Value} {lo hi : Int} (hl : lo ≤ vz v) (hh : vz v ≤ hi) : ∀ (rl : List (Nat × Int × Int)), (∀ r ∈ rl, ∃ w, vs[r.1]? = some w ∧ r.2.1 ≤ vz v - vz w ∧ vz v - vz w ≤ r.2.2) → ∀ {S : SS}, okS Γ sets ro vs S f fs F → okS Γ sets ro vs (x_bas x lo hi rl S) f fs F
  | [], _, S, h => h
  | r :: t, hr, S, h => by
    rw [x_bas]
    obtain ⟨w, g1, g2, g3⟩ := hr r List.mem_cons_self
    exact x_bas_ok hl hh t (fun q hq => hr q (List.mem_cons_of_mem _ hq)) (h.cl g1 (by omega) (by omega))
theorem rel_ok {vs : List Value} {f : CF} {fs : List CF} {F : MH} {id : Nat} {rs : List (Nat × Int × Int)} {v : Value} (h : okS Γ sets ro vs S f fs F) (hv : vs[id]? = some v) (hr : ∀ q ∈ rs, ∃ w, vs[q.1]? = some w ∧ q.2.1 ≤ vz v - vz w ∧ vz v - vz w ≤ q.2.2) : okS Γ sets ro vs (s_map (a_rel id rs) S) f fs F := by
  refine h.map _ (a_rel_id _ _) (fun a ha => ?_)
  have oa := h.1 a ha
  unfold a_rel
  split
  · rename_i he
    obtain ⟨u, e1, e2, e3⟩ := oa
    rw [he] at e1
    obtain rfl : u = v := Option.some.inj (e1.symm.trans hv)
    refine ⟨u, by simp only; rw [he]; exact e1, e2, fun q hq => ?_⟩
    rcases List.mem_append.mp (List.mem_of_mem_take hq) with hq | hq
    · exact hr q hq
    · exact e3 q hq
  · exact oa
theorem x_ref_ok {vs : List Value} {f : CF} {fs : List CF} {F : MH} {x y : AV} {v w : Value} {r : Int × Int} (h : okS Γ sets ro vs S f fs F) (hx : okA Γ sets vs x) (hy : okA Γ sets vs y) (nx : ¬ x.2.1 = 2) (ny : ¬ y.2.1 = 2) (hv : vs[x.1]? = some v) (hw : vs[y.1]? = some w) (hr : i_in (vz v - vz w) r) : ∃ S', x_ref x y r S = some S' ∧ okS Γ sets ro vs S' f fs F := by
  have hD : i_in (vz v - vz w) (i_and (a_diff x y) r) := (a_diff_ok hx hy nx ny hv hw).and hr
  unfold x_ref
  simp only
  generalize i_and (a_diff x y) r = D at hD ⊢
  obtain ⟨v', p1, p2, p3⟩ := hx
  obtain ⟨w', p4, p5, p6⟩ := hy
  obtain rfl : v' = v := Option.some.inj (p1.symm.trans hv)
  obtain rfl : w' = w := Option.some.inj (p4.symm.trans hw)
  have n1 := p2.num nx
  have n2 := p5.num ny
  unfold i_in at hD
  have c1 : max x.2.2.1 (y.2.2.1 + D.1) ≤ vz v' := by omega
  have c2 : vz v' ≤ min x.2.2.2.1 (y.2.2.2.1 + D.2) := by omega
  have c3 : max y.2.2.1 (x.2.2.1 - D.2) ≤ vz w' := by omega
  have c4 : vz w' ≤ min y.2.2.2.1 (x.2.2.2.1 - D.1) := by omega
  rw [if_pos ⟨by omega, by omega, by omega⟩]
  refine ⟨_, rfl, ?_⟩
  have h1 := (h.cl hv c1 c2).cl hw c3 c4
  have h2 := x_bas_ok (x := x) c1 c2 x.2.2.2.2 p3 h1
  have h3 := x_bas_ok (x := y) c3 c4 y.2.2.2.2 p6 h2
  have h4 := rel_ok (id := x.1) (rs := (y.1, D.1, D.2) :: x_ref.sh2 D y.2.2.2.2) h3 hv (fun q hq => by
    rcases List.mem_cons.mp hq with rfl | hq
    · exact ⟨w', hw, hD.1, hD.2⟩
    · obtain ⟨q0, k0, rfl⟩ := List.mem_map.mp hq
      obtain ⟨z, k1, k2, k3⟩ := p6 q0 k0
      exact ⟨z, k1, by simp only; omega, by simp only; omega⟩)
  unfold x_rr
  split
  · rename_i he
    exact rel_ok (id := y.1) h4 hw (fun q hq => by
      simp only [List.mem_cons, List.not_mem_nil, or_false] at hq
      subst hq
      exact ⟨v', hv, by simp only; omega, by simp only; omega⟩)
  · exact h4
/-- one way of a comparison; where it would only cut one number out, nothing is told -/
noncomputable def x_alt (S : SS) (l : List (Int × Int)) (x y : AV) (pc : Nat) (r : List AV) (d : Int × Int) : List SS := if l.length = 2 ∧ d.1 < 0 ∧ 0 < d.2 then [s_top S pc S.1.2.2.1 r] else l.filterMap (fun g => x_ref x y g (s_top S pc S.1.2.2.1 r))
/-- a comparison: all that may be behind it -/
noncomputable def x_cmp (S : SS) (c : ClassFile.Cond) (x y : AV) (t n : Nat) (r : List AV) : List SS := x_alt S (x_rng c true) x y t r (a_diff x y) ++ x_alt S (x_rng c false) x y n r (a_diff x y)
theorem x_cmp_ok {vs : List Value} {f : CF} {fs : List CF} {F : MH} {x y : AV} {v w : Value} {c : ClassFile.Cond} {t n : Nat} {r : List AV} {lv : LVs} {cst : List Value} (h : ∀ pc, okS Γ sets ro vs (s_top S pc S.1.2.2.1 r) (f.1, pc, lv, cst) fs F) (hx : okA Γ sets vs x) (hy : okA Γ sets vs y) (nx : ¬ x.2.1 = 2) (ny : ¬ y.2.1 = 2) (hv : vs[x.1]? = some v) (hw : vs[y.1]? = some w) (rv : -9223372036854775808 ≤ vz v ∧ vz v ≤ 9223372036854775807) (rw' : -9223372036854775808 ≤ vz w ∧ vz w ≤ 9223372036854775807) : ∃ S' ∈ x_cmp S c x y t n r, okS Γ sets ro vs S' (f.1, if cz c (vz v) (vz w) = true then t else n, lv, cst) fs F := by
  obtain ⟨g, hg1, hg2⟩ := cz_rng (c := c) rv rw'
  have alt : ∀ pc b, g ∈ x_rng c b → ∃ S' ∈ x_alt S (x_rng c b) x y pc r (a_diff x y), okS Γ sets ro vs S' (f.1, pc, lv, cst) fs F := by
    intro pc b hg
    unfold x_alt
    split
    · exact ⟨_, List.mem_cons_self, h pc⟩
    · obtain ⟨S', e1, e2⟩ := x_ref_ok (h pc) hx hy nx ny hv hw hg2
      exact ⟨S', List.mem_filterMap.mpr ⟨g, hg, e1⟩, e2⟩
  cases hb : cz c (vz v) (vz w) with
  | true =>
    rw [hb] at hg1
    rw [if_pos rfl]
    obtain ⟨S', e1, e2⟩ := alt t true hg1
    exact ⟨S', List.mem_append_left _ e1, e2⟩
  | false =>
    rw [hb] at hg1
    rw [if_neg (by decide)]
    obtain ⟨S', e1, e2⟩ := alt n false hg1
    exact ⟨S', List.mem_append_right _ e1, e2⟩
end SxK
end
section
/-! SYMBOLIC RUNS, XII: branches, switches, iinc -/
section SxL
variable {Γ : Nat → Option Nat} {sets : List (List Int)} {roles : List RD} {ms : Mods} {MT : List MM} {ro : Nat → Option MC} {fty : Nat → Nat → FieldType} {dfl : Nat → List Value} {vs0 : List Value} {F0 : MH} {Q : Option Value → MH → Prop} {d : Nat} {S : SS}
theorem cz_cmp (c : ClassFile.Cond) (a b : Int32) : m_cmp c a b = cz c a.toInt b.toInt := by
  cases c <;> simp only [m_cmp, cz, Int32.lt_iff_toInt_lt, Int32.le_iff_toInt_le, ← Int32.toInt_inj]
theorem one_br {E : MI} (h : (∃ o, E.2.1 = .goto o) ∨ (∃ c o, E.2.1 = .ifCond c o) ∨ (∃ c o, E.2.1 = .if_icmp c o) ∨ (∃ d lo hi o, E.2.1 = .tableswitch d lo hi o) ∨ (∃ d o, E.2.1 = .lookupswitch d o)) {st : List Value} {q : Nat × List Value} (hb : m_br E st = some q) (F : MH) (lv : LVs) : m_one ro fty dfl E F lv st = some (F, q.1, lv, q.2) := by
  obtain ⟨pc, i, len, a0, b0, z0⟩ := E
  simp only at h hb
  have h4 : m_alu i st = none := by
    rcases h with ⟨o, rfl⟩ | ⟨c, o, rfl⟩ | ⟨c, o, rfl⟩ | ⟨d, lo, hi, o, rfl⟩ | ⟨d, o, rfl⟩ <;> rfl
  unfold m_one
  have h1 : m_push (pc, i, len, a0, b0, z0) lv = none := by
    rcases h with ⟨o, rfl⟩ | ⟨c, o, rfl⟩ | ⟨c, o, rfl⟩ | ⟨d, lo, hi, o, rfl⟩ | ⟨d, o, rfl⟩ <;> rfl
  have h2 : m_cst (pc, i, len, a0, b0, z0) = none := by
    rcases h with ⟨o, rfl⟩ | ⟨c, o, rfl⟩ | ⟨c, o, rfl⟩ | ⟨d, lo, hi, o, rfl⟩ | ⟨d, o, rfl⟩ <;> rfl
  have h3 : m_store (pc, i, len, a0, b0, z0) lv st = none := by
    rcases h with ⟨o, rfl⟩ | ⟨c, o, rfl⟩ | ⟨c, o, rfl⟩ | ⟨d, lo, hi, o, rfl⟩ | ⟨d, o, rfl⟩ <;> rfl
  rw [h1, h2, h3]
  simp only
  rw [h4]
  simp only
  rw [hb]
theorem m_if_of {pc t : Nat} {off : Int} (ht : m_to pc off = some t) (b : Bool) (r : List Value) : m_if pc off b r = some (if b = true then t else pc + 3, r) := by
  unfold m_if; rw [ht]; rfl
theorem g_goto {E : MI × Option FieldType} {off : Int} {t : Nat} (hE : m_at MT S.1.1 S.1.2.1 = some E) (hi : E.1.2.1 = .goto off) (ht : m_to E.1.1 off = some t)
    (h : Good Γ sets roles ms MT ro fty dfl vs0 F0 Q d (s_top S t S.1.2.2.1 S.1.2.2.2)) : Good Γ sets roles ms MT ro fty dfl vs0 F0 Q d S := by
  intro vs f fs F hp hS hW hF
  obtain ⟨lv, cst, rfl, hl, hc1, hc2⟩ := hS.frame
  exact TT.one hE (one_br (Or.inl ⟨off, hi⟩) (q := (t, cst)) (by unfold m_br; rw [hi]; simp only; rw [ht]; rfl) F lv) (h vs (S.1.1, t, lv, cst) fs F hp (hS.top hl hc2 hc1) hW hF)
theorem g_icmp {E : MI × Option FieldType} {c : ClassFile.Cond} {off : Int} {t : Nat} {x y : AV} {r : List AV} (hE : m_at MT S.1.1 S.1.2.1 = some E) (hi : E.1.2.1 = .if_icmp c off) (ht : m_to E.1.1 off = some t) (hst : S.1.2.2.2 = y :: x :: r) (kx : k_is x.2.1 0 = true) (ky : k_is y.2.1 0 = true)
    (h : ∀ S' ∈ x_cmp S c x y t (E.1.1 + 3) r, Good Γ sets roles ms MT ro fty dfl vs0 F0 Q d S') : Good Γ sets roles ms MT ro fty dfl vs0 F0 Q d S := by
  intro vs f fs F hp hS hW hF
  obtain ⟨lv, cst, rfl, hl, hc1, hc2⟩ := hS.frame
  have ox := hc2 x (by rw [hst]; simp)
  have oy := hc2 y (by rw [hst]; simp)
  rw [hst] at hc1
  obtain ⟨w, t1, rfl, q2, q3⟩ := stk1 hc1
  obtain ⟨v, t2, rfl, q5, q6⟩ := stk1 q3
  obtain ⟨v', p1, p2, -⟩ := id ox
  obtain ⟨w', p3, p4, -⟩ := id oy
  obtain rfl : v' = v := Option.some.inj (p1.symm.trans q5)
  obtain rfl : w' = w := Option.some.inj (p3.symm.trans q2)
  have nx := (k_is_int p2 kx).2
  have ny := (k_is_int p4 ky).2
  obtain ⟨a, rfl⟩ := (k_is_int p2 kx).1
  obtain ⟨b, rfl⟩ := (k_is_int p4 ky).1
  have ra := z_rng a
  have rb := z_rng b
  obtain ⟨S', hm, ho⟩ := x_cmp_ok (S := S) (c := c) (t := t) (n := E.1.1 + 3) (f := (S.1.1, S.1.2.1, lv, Value.int b :: Value.int a :: t2)) (fun pc => hS.top (pc := pc) hl (fun b hb => hc2 b (by rw [hst]; simp [hb])) q6) ox oy nx ny q5 q2 (by simp only [vz]; omega) (by simp only [vz]; omega)
  refine TT.one hE (one_br (Or.inr (Or.inr (Or.inl ⟨c, off, hi⟩))) (q := (if cz c (vz (.int a)) (vz (.int b)) = true then t else E.1.1 + 3, t2)) (by unfold m_br; rw [hi]; simp only; rw [m_if_of ht, cz_cmp]; rfl) F lv) ?_
  exact h S' hm vs _ fs F hp ho hW hF
theorem g_if {E : MI × Option FieldType} {c : ClassFile.Cond} {off : Int} {t : Nat} {x : AV} {r : List AV} (hE : m_at MT S.1.1 S.1.2.1 = some E) (hi : E.1.2.1 = .ifCond c off) (ht : m_to E.1.1 off = some t) (hst : S.1.2.2.2 = x :: r) (kx : k_is x.2.1 0 = true)
    (h : ∀ S' ∈ x_cmp (s_up S) c x (S.2.2.2.2.2, 0, 0, 0, []) t (E.1.1 + 3) r, Good Γ sets roles ms MT ro fty dfl vs0 F0 Q d S') : Good Γ sets roles ms MT ro fty dfl vs0 F0 Q d S := by
  intro vs f fs F hp hS hW hF
  obtain ⟨lv, cst, rfl, hl, hc1, hc2⟩ := hS.frame
  have ox := hc2 x (by rw [hst]; simp)
  rw [hst] at hc1
  obtain ⟨v, t2, rfl, q5, q6⟩ := stk1 hc1
  obtain ⟨v', p1, p2, -⟩ := id ox
  obtain rfl : v' = v := Option.some.inj (p1.symm.trans q5)
  have nx := (k_is_int p2 kx).2
  obtain ⟨a, rfl⟩ := (k_is_int p2 kx).1
  have ra := z_rng a
  have hn := hS.2.2.2.2.2.2
  have e0 : (vs ++ [Value.int 0])[S.2.2.2.2.2]? = some (.int 0) := by rw [hn]; simp
  have oy : okA Γ sets (vs ++ [Value.int 0]) (S.2.2.2.2.2, 0, 0, 0, []) := ⟨_, e0, okE_int (by rw [Int32.toInt_zero]; exact Int.le_refl _) (by rw [Int32.toInt_zero]; exact Int.le_refl _), fun r hr => by cases hr⟩
  obtain ⟨S', hm, ho⟩ := x_cmp_ok (S := s_up S) (c := c) (t := t) (n := E.1.1 + 3) (f := (S.1.1, S.1.2.1, lv, Value.int a :: t2)) (vs := vs ++ [Value.int 0]) (r := r) (lv := lv) (cst := t2) (fun pc => (hS.up (.int 0)).top (pc := pc) (fun q hq => by obtain ⟨q1, w, q2, q3⟩ := hl q hq; exact ⟨q1.app _, w, get_app q2, q3⟩) (fun b hb => (hc2 b (by rw [hst]; simp [hb])).app _) (by
    rw [q6]
    apply List.map_congr_left
    intro b hb
    obtain ⟨w, hw⟩ := (hc2 b (by rw [hst]; simp [hb])).get
    rw [hw, get_app hw])) (ox.app _) oy nx (by simp) (get_app q5) e0 (by simp only [vz]; omega) (by simp only [vz, Int32.toInt_zero]; omega)
  refine TT.one hE (one_br (Or.inr (Or.inl ⟨c, off, hi⟩)) (q := (if cz c (vz (.int a)) (vz (.int 0)) = true then t else E.1.1 + 3, t2)) (by unfold m_br; rw [hi]; simp only; rw [m_if_of ht, cz_cmp]; rfl) F lv) ?_
  exact h S' hm (vs ++ [Value.int 0]) _ fs F (pre_app hp _) ho hW hF
theorem lg_cz (c : ClassFile.Cond) (a b : Int64) : m_cmp c (lg_cmp a b) 0 = cz c a.toInt b.toInt := by
  have key : lg_cmp a b = if b.toInt < a.toInt then 1 else if a.toInt = b.toInt then 0 else -1 := by
    unfold lg_cmp
    simp only [gt_iff_lt, Int64.lt_iff_toInt_lt, ← Int64.toInt_inj]
  rw [key, cz_cmp]
  split
  · have e : (1 : Int32).toInt = 1 := by decide
    rw [e, Int32.toInt_zero]
    cases c <;> simp only [cz] <;> apply decide_eq_decide.mpr <;> omega
  · split
    · rename_i he
      rw [Int32.toInt_zero, he]
      cases c <;> simp [cz]
    · have e : (-1 : Int32).toInt = -1 := by decide
      rw [e, Int32.toInt_zero]
      cases c <;> simp only [cz] <;> apply decide_eq_decide.mpr <;> omega
/-- longs are compared, and the branch behind it -/
theorem g_lcmp {E E2 : MI × Option FieldType} {c : ClassFile.Cond} {off : Int} {t : Nat} {x y : AV} {r : List AV} (hE : m_at MT S.1.1 S.1.2.1 = some E) (hi0 : E.1.2.1 = .lcmp) (hE2 : m_at MT S.1.1 (E.1.1 + E.1.2.2.1) = some E2) (hi : E2.1.2.1 = .ifCond c off) (ht : m_to E2.1.1 off = some t) (hst : S.1.2.2.2 = y :: x :: r) (kx : k_is x.2.1 1 = true) (ky : k_is y.2.1 1 = true)
    (h : ∀ S' ∈ x_cmp S c x y t (E2.1.1 + 3) r, Good Γ sets roles ms MT ro fty dfl vs0 F0 Q d S') : Good Γ sets roles ms MT ro fty dfl vs0 F0 Q d S := by
  intro vs f fs F hp hS hW hF
  obtain ⟨lv, cst, rfl, hl, hc1, hc2⟩ := hS.frame
  have ox := hc2 x (by rw [hst]; simp)
  have oy := hc2 y (by rw [hst]; simp)
  rw [hst] at hc1
  obtain ⟨w, t1, rfl, q2, q3⟩ := stk1 hc1
  obtain ⟨v, t2, rfl, q5, q6⟩ := stk1 q3
  obtain ⟨v', p1, p2, -⟩ := id ox
  obtain ⟨w', p3, p4, -⟩ := id oy
  obtain rfl : v' = v := Option.some.inj (p1.symm.trans q5)
  obtain rfl : w' = w := Option.some.inj (p3.symm.trans q2)
  have nx : ¬ x.2.1 = 2 := by have := (k_is_long p2 kx).2; omega
  have ny : ¬ y.2.1 = 2 := by have := (k_is_long p4 ky).2; omega
  obtain ⟨a, rfl⟩ := (k_is_long p2 kx).1
  obtain ⟨b, rfl⟩ := (k_is_long p4 ky).1
  obtain ⟨S', hm, ho⟩ := x_cmp_ok (S := S) (c := c) (t := t) (n := E2.1.1 + 3) (f := (S.1.1, S.1.2.1, lv, Value.long b :: Value.long a :: t2)) (fun pc => hS.top (pc := pc) hl (fun b hb => hc2 b (by rw [hst]; simp [hb])) q6) ox oy nx ny q5 q2 (z_rngL a) (z_rngL b)
  refine TT.one hE (one_alu (by rw [hi0]; simp) (st1 := .int (lg_cmp a b) :: t2) (by rw [hi0]; rfl) F lv) ?_
  refine TT.one hE2 (one_br (Or.inr (Or.inl ⟨c, off, hi⟩)) (q := (if cz c (vz (.long a)) (vz (.long b)) = true then t else E2.1.1 + 3, t2)) (by unfold m_br; rw [hi]; simp only; rw [m_if_of ht, lg_cz]; rfl) F lv) ?_
  exact h S' hm vs _ fs F hp ho hW hF
end SxL
end
section
/-! SYMBOLIC RUNS, XIII: switches, iinc -/
/-- the operand of a switch is between bounds: there -/
noncomputable def x_key (S : SS) (x : AV) (l h : Int) (t : Nat) (r : List AV) : SS := x_bas x l h x.2.2.2.2 (s_map (a_cl x.1 l h) (s_top S t S.1.2.2.1 r))
/-- a row of cases: key from here on -/
noncomputable def x_tb (S : SS) (pc : Nat) (x : AV) (r : List AV) : Int → List Int → Option (List SS)
  | _, [] => some []
  | k, o :: os => match m_to pc o, x_tb S pc x r (k + 1) os with
    | some t, some L => some (if x.2.2.1 ≤ k ∧ k ≤ x.2.2.2.1 then x_key S x k k t r :: L else L)
    | _, _ => none
noncomputable def x_lk (S : SS) (pc : Nat) (x : AV) (r : List AV) : List (Int × Int) → Option (List SS)
  | [] => some []
  | q :: qs => match m_to pc q.2, x_lk S pc x r qs with
    | some t, some L => some (if x.2.2.1 ≤ q.1 ∧ q.1 ≤ x.2.2.2.1 then x_key S x q.1 q.1 t r :: L else L)
    | _, _ => none
/-- all that may be behind a switch -/
noncomputable def x_sw (S : SS) (E : MI) (x : AV) (r : List AV) : Option (List SS) := match E.2.1 with
  | .tableswitch d lo hi offs => if hi < lo + offs.size then (match m_to E.1 d, x_tb S E.1 x r lo offs.toList with
    | some t, some L => some ((if x.2.2.1 < lo then [x_key S x x.2.2.1 (min x.2.2.2.1 (lo - 1)) t r] else []) ++ ((if hi < x.2.2.2.1 then [x_key S x (max x.2.2.1 (hi + 1)) x.2.2.2.1 t r] else []) ++ L))
    | _, _ => none) else none
  | .lookupswitch d ps => if (ps.toList.zip (ps.toList.drop 1)).all (fun q => decide (q.1.1 < q.2.1)) = true then (match m_to E.1 d, x_lk S E.1 x r ps.toList with
    | some t, some L => some (x_key S x x.2.2.1 x.2.2.2.1 t r :: L)
    | _, _ => none) else none
  | _ => none
section SxM
variable {Γ : Nat → Option Nat} {sets : List (List Int)} {roles : List RD} {ms : Mods} {MT : List MM} {ro : Nat → Option MC} {fty : Nat → Nat → FieldType} {dfl : Nat → List Value} {vs0 : List Value} {F0 : MH} {Q : Option Value → MH → Prop} {d : Nat} {S : SS}
theorem x_tb_ok {pc : Nat} {x : AV} {r : List AV} : ∀ (os : List Int) (k : Int) (L : List SS), x_tb S pc x r k os = some L → ∀ (j : Nat) (o : Int), os[j]? = some o → x.2.2.1 ≤ k + j → k + j ≤ x.2.2.2.1 → ∃ t, m_to pc o = some t ∧ x_key S x (k + j) (k + j) t r ∈ L
  | [], k, L, h, j, o, hj, _, _ => by simp at hj
  | o1 :: os, k, L, h, j, o, hj, h1, h2 => by
    rw [x_tb] at h
    split at h
    · rename_i t L1 ht hL
      cases h
      cases j with
      | zero =>
        simp only [List.getElem?_cons_zero, Option.some.injEq] at hj
        subst hj
        simp only [Int.natCast_zero, Int.add_zero] at h1 h2 ⊢
        rw [if_pos ⟨h1, h2⟩]
        exact ⟨t, ht, List.mem_cons_self⟩
      | succ j =>
        rw [List.getElem?_cons_succ] at hj
        have e : k + ((j + 1 : Nat) : Int) = k + 1 + (j : Int) := by omega
        rw [e] at h1 h2 ⊢
        obtain ⟨t2, g1, g2⟩ := x_tb_ok os (k + 1) L1 hL j o hj h1 h2
        refine ⟨t2, g1, ?_⟩
        split
        · exact List.mem_cons_of_mem _ g2
        · exact g2
    · cases h
theorem x_lk_ok {pc : Nat} {x : AV} {r : List AV} {z d : Int} (h1 : x.2.2.1 ≤ z) (h2 : z ≤ x.2.2.2.1) : ∀ (qs : List (Int × Int)) (L : List SS), x_lk S pc x r qs = some L → Op.lookupswitch.offset qs d z = d ∨ ∃ t, m_to pc (Op.lookupswitch.offset qs d z) = some t ∧ x_key S x z z t r ∈ L
  | [], L, h => Or.inl rfl
  | q :: qs, L, h => by
    rw [x_lk] at h
    split at h
    · rename_i t L1 ht hL
      cases h
      obtain ⟨a, o⟩ := q
      rw [Op.lookupswitch.offset_cons]
      by_cases e : a = z
      · rw [if_pos e]
        subst e
        simp only at ht ⊢
        exact Or.inr ⟨t, ht, by rw [if_pos ⟨h1, h2⟩]; exact List.mem_cons_self⟩
      · rw [if_neg e]
        rcases x_lk_ok (d := d) h1 h2 qs L1 hL with g | ⟨t2, g1, g2⟩
        · exact Or.inl g
        · refine Or.inr ⟨t2, g1, ?_⟩
          split
          · exact List.mem_cons_of_mem _ g2
          · exact g2
    · cases h
theorem g_sw {E : MI × Option FieldType} {x : AV} {r : List AV} {L : List SS} (hE : m_at MT S.1.1 S.1.2.1 = some E) (hst : S.1.2.2.2 = x :: r) (kx : k_is x.2.1 0 = true) (hL : x_sw S E.1 x r = some L)
    (h : ∀ S' ∈ L, Good Γ sets roles ms MT ro fty dfl vs0 F0 Q d S') : Good Γ sets roles ms MT ro fty dfl vs0 F0 Q d S := by
  intro vs f fs F hp hS hW hF
  obtain ⟨lv, cst, rfl, hl, hc1, hc2⟩ := hS.frame
  have ox := hc2 x (by rw [hst]; simp)
  rw [hst] at hc1
  obtain ⟨v, t2, rfl, q5, q6⟩ := stk1 hc1
  obtain ⟨v', p1, p2, p3⟩ := id ox
  obtain rfl : v' = v := Option.some.inj (p1.symm.trans q5)
  have nx := (k_is_int p2 kx).2
  have n1 := p2.num nx
  obtain ⟨a, rfl⟩ := (k_is_int p2 kx).1
  have fin : ∀ (l h2 : Int) (t : Nat), x_key S x l h2 t r ∈ L → l ≤ a.toInt → a.toInt ≤ h2 → m_br E.1 (.int a :: t2) = some (t, t2) → ((∃ d lo hi o, E.1.2.1 = .tableswitch d lo hi o) ∨ (∃ d o, E.1.2.1 = .lookupswitch d o)) → RR MT ro fty dfl d (S.1.1, S.1.2.1, lv, Value.int a :: t2) fs F Q := by
    intro l h2 t hm hl1 hh1 hb hk
    refine TT.one hE (one_br (Or.inr (Or.inr (Or.inr hk))) hb F lv) ?_
    refine h _ hm vs (S.1.1, t, lv, t2) fs F hp ?_ hW hF
    have h0 := hS.top (pc := t) hl (fun b hb => hc2 b (by rw [hst]; simp [hb])) q6
    exact x_bas_ok (x := x) (v := .int a) hl1 hh1 x.2.2.2.2 p3 (h0.cl q5 hl1 hh1)
  simp only [vz] at n1
  unfold x_sw at hL
  split at hL
  · rename_i dd lo hi offs hi0
    split at hL
    · rename_i hsz
      split at hL
      · rename_i t L1 ht hL1
        cases hL
        have hk : (∃ d lo hi o, E.1.2.1 = .tableswitch d lo hi o) ∨ (∃ d o, E.1.2.1 = .lookupswitch d o) := Or.inl ⟨dd, lo, hi, offs, hi0⟩
        by_cases c1 : a.toInt < lo
        · exact fin x.2.2.1 (min x.2.2.2.1 (lo - 1)) t (by rw [if_pos (by omega)]; simp) (by omega) (by omega) (by unfold m_br; rw [hi0]; simp only; rw [if_pos (Or.inl c1), ht]; rfl) hk
        by_cases c2 : hi < a.toInt
        · exact fin (max x.2.2.1 (hi + 1)) x.2.2.2.1 t (by rw [if_pos (show hi < x.2.2.2.1 by omega)]; simp) (by omega) (by omega) (by unfold m_br; rw [hi0]; simp only; rw [if_pos (Or.inr c2), ht]; rfl) hk
        have hj : (a.toInt - lo).toNat < offs.size := by omega
        have ho : offs.toList[(a.toInt - lo).toNat]? = some offs[(a.toInt - lo).toNat] := by rw [Array.getElem?_toList]; exact Array.getElem?_eq_getElem hj
        obtain ⟨t3, g1, g2⟩ := x_tb_ok offs.toList lo L1 hL1 _ _ ho (by omega) (by omega)
        have e : lo + ((a.toInt - lo).toNat : Int) = a.toInt := by omega
        rw [e] at g2
        refine fin a.toInt a.toInt t3 (List.mem_append_right _ (List.mem_append_right _ g2)) (Int.le_refl _) (Int.le_refl _) ?_ hk
        unfold m_br
        rw [hi0]
        simp only
        rw [if_neg (by omega), Array.getElem?_eq_getElem hj]
        simp only
        rw [g1]; rfl
      · cases hL
    · cases hL
  · rename_i dd ps hi0
    split at hL
    · rename_i hso
      split at hL
      · rename_i t L1 ht hL1
        cases hL
        have hk : (∃ d lo hi o, E.1.2.1 = .tableswitch d lo hi o) ∨ (∃ d o, E.1.2.1 = .lookupswitch d o) := Or.inr ⟨dd, ps, hi0⟩
        rcases x_lk_ok (d := dd) (z := a.toInt) n1.1 n1.2 ps.toList L1 hL1 with g | ⟨t3, g1, g2⟩
        · exact fin x.2.2.1 x.2.2.2.1 t List.mem_cons_self n1.1 n1.2 (by unfold m_br; rw [hi0]; simp only; rw [if_pos hso, g, ht]; rfl) hk
        · exact fin a.toInt a.toInt t3 (List.mem_cons_of_mem _ g2) (Int.le_refl _) (Int.le_refl _) (by unfold m_br; rw [hi0]; simp only; rw [if_pos hso, g1]; rfl) hk
      · cases hL
    · cases hL
  · cases hL
/-- a local grows -/
noncomputable def x_ic (a : AV) (c : Int) (n : Nat) : AV := if -2147483648 ≤ a.2.2.1 + c ∧ a.2.2.2.1 + c ≤ 2147483647 then (n, 0, a.2.2.1 + c, a.2.2.2.1 + c, (a.1, c, c) :: (sh c a.2.2.2.2).take 4) else (n, 0, -2147483648, 2147483647, [])
theorem g_iinc {E : MI × Option FieldType} {i : Nat} {c : Int} {a : AV} (hE : m_at MT S.1.1 S.1.2.1 = some E) (hi : E.1.2.1 = .iinc i c) (hc0 : -2147483648 ≤ c ∧ c ≤ 2147483647) (ha : x_get S.1.2.2.1 i = some a) (hk : k_is a.2.1 0 = true)
    (h : Good Γ sets roles ms MT ro fty dfl vs0 F0 Q d (s_top (s_up S) (E.1.1 + E.1.2.2.1) (x_put1 S.1.2.2.1 i (x_ic a c S.2.2.2.2.2)) S.1.2.2.2)) : Good Γ sets roles ms MT ro fty dfl vs0 F0 Q d S := by
  intro vs f fs F hp hS hW hF
  obtain ⟨lv, cst, rfl, hl, hc1, hc2⟩ := hS.frame
  obtain ⟨oa, v, hv, hg⟩ := hl _ (x_get_mem ha)
  simp only at oa hv hg
  obtain ⟨v', p1, p2, p3⟩ := oa
  obtain rfl : v' = v := Option.some.inj (p1.symm.trans hv)
  have n1 := p2.num (k_is_int p2 hk).2
  obtain ⟨x, rfl⟩ := (k_is_int p2 hk).1
  simp only [vz] at n1 p3
  have ec : (Int32.ofInt c).toInt = c := by rw [Int32.toInt_ofInt]; exact z_bm hc0.1 hc0.2
  have hn := hS.2.2.2.2.2.2
  have h1 : m_one ro fty dfl E.1 F lv cst = some (F, E.1.1 + E.1.2.2.1, m_put1 lv i (.int (x + Int32.ofInt c)), cst) := by
    obtain ⟨⟨pc, ins, len, a0, b0, z0⟩, rt⟩ := E
    simp only at hi
    subst hi
    simp only [m_one, m_push, m_cst, m_store, hg]
  refine TT.one hE h1 ?_
  refine h (vs ++ [.int (x + Int32.ofInt c)]) (S.1.1, E.1.1 + E.1.2.2.1, m_put1 lv i (.int (x + Int32.ofInt c)), cst) fs F (pre_app hp _) ((hS.up _).top (lc_put1 (fun q hq => by obtain ⟨q1, w, q2, q3⟩ := hl q hq; exact ⟨q1.app _, w, get_app q2, q3⟩) ?_ ?_) (fun b hb => (hc2 b hb).app _) ?_) hW hF
  · unfold x_ic
    split
    · rename_i hr
      have e := z_add (x := x) (y := Int32.ofInt c) (by omega) (by omega)
      refine ⟨.int (x + Int32.ofInt c), by simp only; rw [hn]; simp, okE_int (by simp only; omega) (by simp only; omega), fun q hq => ?_⟩
      rcases List.mem_cons.mp hq with rfl | hq
      · exact ⟨_, get_app p1, by simp only [vz]; omega, by simp only [vz]; omega⟩
      · obtain ⟨w, k1, k2, k3⟩ := sh_ok (x := a) (r := x + Int32.ofInt c) p3 (by omega) q hq
        exact ⟨w, get_app k1, k2, k3⟩
    · exact ⟨.int (x + Int32.ofInt c), by simp only; rw [hn]; simp, okE_int (z_rng _).1 (z_rng _).2, fun q hq => by cases hq⟩
  · unfold x_ic
    split <;> (simp only; rw [hn]; simp)
  · rw [hc1]
    apply List.map_congr_left
    intro b hb
    obtain ⟨w, hw⟩ := (hc2 b hb).get
    rw [hw, get_app hw]
end SxM
end
section
/-! SYMBOLIC RUNS, XIV: reads of cells -/
/-- what roles mean for addresses -/
noncomputable def GOK (Γ : Nat → Option Nat) (roles : List RD) : Prop := ∀ a r rd, Γ a = some r → roles[r]? = some rd → (rd.1 = 3 → ¬ a < KB) ∧ (rd.1 = 2 → a < KB ∧ 3 ≤ rd.2.1 ∧ rd.2.1 ≤ 6) ∧ (rd.1 = 1 → a < KB) ∧ (rd.1 = 0 → ¬ rd.2.1 = 99 → a < KB)
noncomputable def rdOK (E : MI) (rd : RD) : Bool := match E.2.1 with
  | .getfield _ => rd.1 == 0 && rd.2.1 == E.2.2.2.1
  | .iaload => (rd.1 == 1 || rd.1 == 3) && rd.2.1 == 0
  | .baload => (rd.1 == 1 && rd.2.1 == 1) || (rd.1 == 3 && rd.2.1 == 2)
  | .aaload => rd.1 == 2
  | _ => false
noncomputable def isGet (E : MI) : Bool := match E.2.1 with
  | .getfield _ => true
  | _ => false
section SxN
variable {Γ : Nat → Option Nat} {sets : List (List Int)} {roles : List RD} {ms : Mods} {MT : List MM} {ro : Nat → Option MC} {fty : Nat → Nat → FieldType} {dfl : Nat → List Value} {vs0 : List Value} {F0 : MH} {Q : Option Value → MH → Prop} {d : Nat} {S : SS}
theorem one_rd {E : MI} (h : (∃ i, E.2.1 = .getfield i) ∨ E.2.1 = .arraylength ∨ E.2.1 = .iaload ∨ E.2.1 = .baload ∨ E.2.1 = .aaload) {F : MH} {st st1 : List Value} (hb : m_rd ro F E st = some st1) (lv : LVs) : m_one ro fty dfl E F lv st = some (F, E.1 + E.2.2.1, lv, st1) := by
  obtain ⟨pc, i, len, a0, b0, z0⟩ := E
  simp only at h
  have h4 : m_alu i st = none := by rcases h with ⟨o, rfl⟩ | rfl | rfl | rfl | rfl <;> rfl
  have h5 : m_br (pc, i, len, a0, b0, z0) st = none := by rcases h with ⟨o, rfl⟩ | rfl | rfl | rfl | rfl <;> rfl
  unfold m_one
  have h1 : m_push (pc, i, len, a0, b0, z0) lv = none := by rcases h with ⟨o, rfl⟩ | rfl | rfl | rfl | rfl <;> rfl
  have h2 : m_cst (pc, i, len, a0, b0, z0) = none := by rcases h with ⟨o, rfl⟩ | rfl | rfl | rfl | rfl <;> rfl
  have h3 : m_store (pc, i, len, a0, b0, z0) lv st = none := by rcases h with ⟨o, rfl⟩ | rfl | rfl | rfl | rfl <;> rfl
  rw [h1, h2, h3]
  simp only
  rw [h4]
  simp only
  rw [h5]
  simp only
  rw [hb]
theorem m_in_of {x : Int32} {n : Nat} (h0 : 0 ≤ x.toInt) (h1 : x.toInt.toNat < n) : m_in x n = true := by
  simp only [m_in, decide_eq_true_eq]; omega
theorem getD_of {α : Type} {l : List α} {k : Nat} {v w : α} (h : l[k]? = some v) : l.getD k w = v := by
  rw [List.getD_eq_getElem?_getD, h]; rfl
/-- a read, out of what the cell holds -/
theorem rd_one {E : MI} {rd : RD} {c : MC} {F : MH} {a k : Nat} {v : Value} {x : Int32} (hG : GOK Γ roles) {r : Nat} (hr : Γ a = some r) (hrd : roles[r]? = some rd) (hok : rdOK E rd = true) (hc : okCell Γ sets rd c) (hm : m_cell ro F a = some c) (hv : (cont c)[k]? = some v) (hk : if isGet E = true then k = E.2.2.2.2.1 else 0 ≤ x.toInt ∧ x.toInt.toNat = k) (lv : LVs) (t : List Value) :
    m_one ro fty dfl E F lv (if isGet E = true then .ref a :: t else .int x :: .ref a :: t) = some (F, E.1 + E.2.2.1, lv, v :: t) := by
  obtain ⟨g1, g2, g3, g4⟩ := hG a r rd hr hrd
  obtain ⟨pc, i, len, a0, b0, z0⟩ := E
  unfold rdOK at hok
  simp only at hok
  have hx : x.toNatClampNeg = x.toInt.toNat := rfl
  split at hok
  · rename_i idx
    have hg : isGet (pc, Instr.getfield idx, len, a0, b0, z0) = true := rfl
    rw [if_pos hg] at hk ⊢
    simp only [Bool.and_eq_true, beq_iff_eq] at hok
    rcases hc with ⟨e, ⟨fs, rfl⟩, -⟩ | ⟨e, -⟩ | ⟨e, -⟩ | ⟨e, -⟩
    · refine one_rd (Or.inl ⟨idx, rfl⟩) ?_ lv
      simp only at hk
      have hv2 : fs[b0]? = some v := by rw [← hk]; exact hv
      simp only [m_rd, hm]
      rw [if_pos hok.2, hv2]
    · omega
    · omega
    · omega
  · have hg : isGet (pc, Instr.iaload, len, a0, b0, z0) = false := rfl
    rw [if_neg (by rw [hg]; decide)] at hk ⊢
    simp only [Bool.and_eq_true, Bool.or_eq_true, beq_iff_eq] at hok
    have key : ∀ xs, c = .inr (.inl (rd.2.1, xs)) → m_one ro fty dfl (pc, Instr.iaload, len, a0, b0, z0) F lv (.int x :: .ref a :: t) = some (F, pc + len, lv, v :: t) := by
      intro xs e
      subst e
      refine one_rd (Or.inr (Or.inr (Or.inl rfl))) ?_ lv
      have hv2 : (xs.map Value.int)[k]? = some v := hv
      rw [List.getElem?_map] at hv2
      cases hq : xs[k]? with
      | none => rw [hq] at hv2; cases hv2
      | some y =>
        rw [hq] at hv2
        cases hv2
        have hlt := (List.getElem?_eq_some_iff.mp hq).1
        simp only [m_rd, hm]
        rw [if_pos ⟨hok.2, m_in_of hk.1 (by omega)⟩, hx, hk.2, getD_of hq]
    rcases hc with ⟨e, -⟩ | ⟨e, ⟨xs, e2⟩, -⟩ | ⟨e, -⟩ | ⟨e, ⟨xs, e2, -⟩, -⟩
    · omega
    · exact key xs e2
    · omega
    · exact key xs e2
  · have hg : isGet (pc, Instr.baload, len, a0, b0, z0) = false := rfl
    rw [if_neg (by rw [hg]; decide)] at hk ⊢
    simp only [Bool.and_eq_true, Bool.or_eq_true, beq_iff_eq] at hok
    have key : ∀ xs, c = .inr (.inl (rd.2.1, xs)) → m_one ro fty dfl (pc, Instr.baload, len, a0, b0, z0) F lv (.int x :: .ref a :: t) = some (F, pc + len, lv, v :: t) := by
      intro xs e
      subst e
      refine one_rd (Or.inr (Or.inr (Or.inr (Or.inl rfl)))) ?_ lv
      have hv2 : (xs.map Value.int)[k]? = some v := hv
      rw [List.getElem?_map] at hv2
      cases hq : xs[k]? with
      | none => rw [hq] at hv2; cases hv2
      | some y =>
        rw [hq] at hv2
        cases hv2
        have hlt := (List.getElem?_eq_some_iff.mp hq).1
        simp only [m_rd, hm]
        rw [if_pos ⟨by omega, m_in_of hk.1 (by omega)⟩, hx, hk.2, getD_of hq]
    rcases hc with ⟨e, -⟩ | ⟨e, ⟨xs, e2⟩, -⟩ | ⟨e, -⟩ | ⟨e, ⟨xs, e2, -⟩, -⟩
    · omega
    · exact key xs e2
    · omega
    · exact key xs e2
  · have hg : isGet (pc, Instr.aaload, len, a0, b0, z0) = false := rfl
    rw [if_neg (by rw [hg]; decide)] at hk ⊢
    simp only [beq_iff_eq] at hok
    rcases hc with ⟨e, -⟩ | ⟨e, -⟩ | ⟨e, ⟨os, e2⟩, -⟩ | ⟨e, -⟩
    · omega
    · omega
    · subst e2
      refine one_rd (Or.inr (Or.inr (Or.inr (Or.inr rfl)))) ?_ lv
      have hv2 : (os.map va_rf)[k]? = some v := hv
      rw [List.getElem?_map] at hv2
      cases hq : os[k]? with
      | none => rw [hq] at hv2; cases hv2
      | some y =>
        rw [hq] at hv2
        cases hv2
        have hlt := (List.getElem?_eq_some_iff.mp hq).1
        obtain ⟨k1, k2, k3⟩ := g2 hok
        simp only [m_rd, hm]
        rw [if_pos ⟨k1, k2, k3, m_in_of hk.1 (by omega)⟩, hx, hk.2, getD_of hq]
    · omega
  · cases hok
/-- are two values the same? -/
noncomputable def x_eq (a b : AV) : Bool := a.1 == b.1 || (k_is a.2.1 0 && k_is b.2.1 0 && decide (0 ≤ (a_diff a b).1) && decide ((a_diff a b).2 ≤ 0))
theorem x_eq_ok {vs : List Value} {a b : AV} {v w : Value} (h : x_eq a b = true) (ha : okA Γ sets vs a) (hb : okA Γ sets vs b) (hv : vs[a.1]? = some v) (hw : vs[b.1]? = some w) : v = w := by
  simp only [x_eq, Bool.or_eq_true, beq_iff_eq, Bool.and_eq_true, decide_eq_true_eq] at h
  rcases h with h | ⟨⟨⟨h1, h2⟩, h3⟩, h4⟩
  · rw [h] at hv
    exact Option.some.inj (hv.symm.trans hw)
  · obtain ⟨v', p1, p2, -⟩ := id ha
    obtain ⟨w', p3, p4, -⟩ := id hb
    obtain rfl : v' = v := Option.some.inj (p1.symm.trans hv)
    obtain rfl : w' = w := Option.some.inj (p3.symm.trans hw)
    have hd := a_diff_ok ha hb (k_is_int p2 h1).2 (k_is_int p4 h2).2 hv hw
    obtain ⟨x, rfl⟩ := (k_is_int p2 h1).1
    obtain ⟨y, rfl⟩ := (k_is_int p4 h2).1
    simp only [i_in, vz] at hd
    have : x.toInt = y.toInt := by omega
    rw [Int32.toInt_inj.mp this]
/-- bounds that hold for several -/
noncomputable def j_e (e f : Nat × Int × Int) : Option (Nat × Int × Int) := if e = f then some e else if e.1 = 0 ∧ f.1 = 0 then some (0, min e.2.1 f.2.1, max e.2.2 f.2.2) else none
noncomputable def j_es : List (Nat × Int × Int) → Option (Nat × Int × Int)
  | [] => none
  | [e] => some e
  | e :: f :: t => match j_es (f :: t) with
    | some g => j_e e g
    | none => none
theorem j_e_ok {e f g : Nat × Int × Int} {v : Value} (h : j_e e f = some g) (ho : okE Γ sets e.1 e.2.1 e.2.2 v ∨ okE Γ sets f.1 f.2.1 f.2.2 v) : okE Γ sets g.1 g.2.1 g.2.2 v := by
  unfold j_e at h
  split at h
  · rename_i he
    cases h
    subst he
    rcases ho with h | h <;> exact h
  · split at h
    · rename_i hk
      cases h
      rcases ho with ho | ho
      · unfold okE at ho ⊢
        rw [if_pos hk.1] at ho
        simp only [if_true]
        exact ⟨ho.1, by omega, by omega⟩
      · unfold okE at ho ⊢
        rw [if_pos hk.2] at ho
        simp only [if_true]
        exact ⟨ho.1, by omega, by omega⟩
    · cases h
theorem j_es_ok {v : Value} : ∀ (l : List (Nat × Int × Int)) (g : Nat × Int × Int), j_es l = some g → (∃ e ∈ l, okE Γ sets e.1 e.2.1 e.2.2 v) → okE Γ sets g.1 g.2.1 g.2.2 v
  | [], g, h, _ => by cases h
  | [e], g, h, ho => by
    rw [j_es] at h
    cases h
    obtain ⟨e', he, ho⟩ := ho
    simp only [List.mem_cons, List.not_mem_nil, or_false] at he
    subst he
    exact ho
  | e :: f :: t, g, h, ho => by
    rw [j_es] at h
    split at h
    · rename_i g1 hg
      obtain ⟨e', he, ho⟩ := ho
      rcases List.mem_cons.mp he with rfl | he
      · exact j_e_ok h (Or.inl ho)
      · exact j_e_ok h (Or.inr (j_es_ok (f :: t) g1 hg ⟨e', he, ho⟩))
    · cases h
end SxN
end
section
/-! SYMBOLIC RUNS, XV: reads, as steps -/
noncomputable def s_fact (q : FA) (S : SS) : SS := (S.1, S.2.1, q :: S.2.2.1, S.2.2.2.1, S.2.2.2.2.1, S.2.2.2.2.2)
noncomputable def s_ef (q : EA) (S : SS) : SS := (S.1, S.2.1, S.2.2.1, q :: S.2.2.2.1, S.2.2.2.2.1, S.2.2.2.2.2)
noncomputable def x_new (S : SS) (e : Nat × Int × Int) : AV := (S.2.2.2.2.2, e.1, e.2.1, e.2.2, [])
/-- a place that is known -/
noncomputable def x_rdC (roles : List RD) (S : SS) (E : MI) (p : AV) (k : Nat) (r : List AV) : Option SS :=
  if p.2.1 = 2 ∧ ¬ k = 5000 then (match roles[p.2.2.1.toNat]? with
    | some rd => if rdOK E rd = true ∧ ¬ rd.1 = 3 then (match S.2.2.1.find? (fun q => q.1 == p.1 && q.2.2.1 == k) with
        | some q => some (s_top S (E.1 + E.2.2.1) S.1.2.2.1 (q.2.2.2 :: r))
        | none => (match rd.2.2[k]? with
          | some e => some (s_top (s_fact (p.1, p.2.2.1.toNat, k, x_new S e) (s_up S)) (E.1 + E.2.2.1) S.1.2.2.1 (x_new S e :: r))
          | none => none)) else none
    | none => none) else none
/-- a place that is a symbol is in the row -/
noncomputable def x_ln (S : SS) (p i : AV) (rd : RD) : Bool := if rd.1 = 3 then (match S.2.2.1.find? (fun q => q.1 == p.1 && q.2.2.1 == 5000) with | some q => k_is q.2.2.2.2.1 0 && decide ((a_diff i q.2.2.2).2 ≤ -1) | none => false) else decide (i.2.2.2.1 < rd.2.2.length)
/-- a place that is a symbol -/
noncomputable def x_rdV (roles : List RD) (S : SS) (E : MI) (p i : AV) (r : List AV) : Option SS :=
  if p.2.1 = 2 ∧ 0 ≤ i.2.2.1 then (match roles[p.2.2.1.toNat]? with
    | some rd => if rdOK E rd = true ∧ x_ln S p i rd = true then
        (match S.2.2.2.1.find? (fun q => q.1 == p.1 && x_eq q.2.2.1 i) with
        | some q => some (s_top S (E.1 + E.2.2.1) S.1.2.2.1 (q.2.2.2 :: r))
        | none => (match j_es (if rd.1 = 3 then rd.2.2 else (rd.2.2.drop i.2.2.1.toNat).take (i.2.2.2.1 - i.2.2.1 + 1).toNat) with
          | some e => some (s_top (s_ef (p.1, p.2.2.1.toNat, i, x_new S e) (s_up S)) (E.1 + E.2.2.1) S.1.2.2.1 (x_new S e :: r))
          | none => none)) else none
    | none => none) else none
noncomputable def x_r3 (roles : List RD) (p : AV) : Bool := match roles[p.2.2.1.toNat]? with | some rd => rd.1 == 3 | none => true
noncomputable def x_rd (roles : List RD) (S : SS) (E : MI) : Option SS :=
  if isGet E = true then (match S.1.2.2.2 with | p :: r => x_rdC roles S E p E.2.2.2.2.1 r | _ => none)
  else (match S.1.2.2.2 with
    | i :: p :: r => if k_is i.2.1 0 = true then (if isC i = true ∧ 0 ≤ i.2.2.1 ∧ x_r3 roles p = false then x_rdC roles S E p i.2.2.1.toNat r else x_rdV roles S E p i r) else none
    | _ => none)
section SxO
variable {Γ : Nat → Option Nat} {sets : List (List Int)} {roles : List RD} {ms : Mods} {MT : List MM} {ro : Nat → Option MC} {fty : Nat → Nat → FieldType} {dfl : Nat → List Value} {vs0 : List Value} {F0 : MH} {Q : Option Value → MH → Prop} {d : Nat} {S : SS}
theorem okS.fact {vs : List Value} {f : CF} {fs : List CF} {F : MH} (h : okS Γ sets ro vs S f fs F) {q : FA} (hq : okFa Γ ro F vs q) (ha : okA Γ sets vs q.2.2.2) : okS Γ sets ro vs (s_fact q S) f fs F := by
  obtain ⟨h1, h2, h3, h4, h5, h6, h7⟩ := h
  refine ⟨fun a hm => ?_, h2, h3, fun q' hq' => ?_, h5, h6, h7⟩
  · simp only [s_av, s_fact, List.map_cons, List.mem_append, List.mem_cons] at hm
    rcases hm with hm | hm | (rfl | hm) | hm
    · exact h1 a (List.mem_append_left _ hm)
    · exact h1 a (List.mem_append_right _ (List.mem_append_left _ hm))
    · exact ha
    · exact h1 a (List.mem_append_right _ (List.mem_append_right _ (List.mem_append_left _ hm)))
    · exact h1 a (List.mem_append_right _ (List.mem_append_right _ (List.mem_append_right _ hm)))
  · rcases List.mem_cons.mp hq' with rfl | hq'
    · exact hq
    · exact h4 q' hq'
theorem okS.ef {vs : List Value} {f : CF} {fs : List CF} {F : MH} (h : okS Γ sets ro vs S f fs F) {q : EA} (hq : okEa Γ ro F vs q) (hi : okA Γ sets vs q.2.2.1) (ha : okA Γ sets vs q.2.2.2) : okS Γ sets ro vs (s_ef q S) f fs F := by
  obtain ⟨h1, h2, h3, h4, h5, h6, h7⟩ := h
  refine ⟨fun a hm => ?_, h2, h3, h4, fun q' hq' => ?_, h6, h7⟩
  · simp only [s_av, s_ef, List.flatMap_cons, List.mem_append, List.mem_cons, List.not_mem_nil, or_false] at hm
    rcases hm with hm | hm | hm | (rfl | rfl) | hm
    · exact h1 a (List.mem_append_left _ hm)
    · exact h1 a (List.mem_append_right _ (List.mem_append_left _ hm))
    · exact h1 a (List.mem_append_right _ (List.mem_append_right _ (List.mem_append_left _ hm)))
    · exact hi
    · exact ha
    · exact h1 a (List.mem_append_right _ (List.mem_append_right _ (List.mem_append_right _ hm)))
  · rcases List.mem_cons.mp hq' with rfl | hq'
    · exact hq
    · exact h5 q' hq'
theorem okCell_get {rd : RD} {c : MC} (h : okCell Γ sets rd c) (h3 : ¬ rd.1 = 3) : okL Γ sets rd.2.2 (cont c) := by
  rcases h with ⟨-, -, h⟩ | ⟨-, -, h⟩ | ⟨-, -, h⟩ | ⟨h, -⟩
  · exact h
  · exact h
  · exact h
  · exact absurd h h3
/-- what a read needs: the machine's step, for the value that is there -/
theorem rdC_ok (hG : GOK Γ roles) {E : MI × Option FieldType} (hE : m_at MT S.1.1 S.1.2.1 = some E) {p : AV} {k : Nat} {r : List AV} {S1 : SS} (hx : x_rdC roles S E.1 p k r = some S1) (hin : ∀ a ∈ r, a ∈ S.1.2.2.2) (hpm : p ∈ S.1.2.2.2)
    (hop : ∀ vs cst, (∀ a ∈ s_av S, okA Γ sets vs a) → cst.map some = S.1.2.2.2.map (fun a => vs[a.1]?) → ∃ a x t, cst = (if isGet E.1 = true then .ref a :: t else .int x :: .ref a :: t) ∧ vs[p.1]? = some (.ref a) ∧ t.map some = r.map (fun a => vs[a.1]?) ∧ (if isGet E.1 = true then k = E.1.2.2.2.2.1 else 0 ≤ x.toInt ∧ x.toInt.toNat = k))
    (h : Good Γ sets roles ms MT ro fty dfl vs0 F0 Q d S1) : Good Γ sets roles ms MT ro fty dfl vs0 F0 Q d S := by
  intro vs f fs F hp hS hW hF
  obtain ⟨lv, cst, rfl, hl, hc1, hc2⟩ := hS.frame
  obtain ⟨a, x, t, rfl, q1, q2, q3⟩ := hop vs cst hS.1 hc1
  have hn := hS.2.2.2.2.2.2
  unfold x_rdC at hx
  split at hx
  · rename_i hp2
    split at hx
    · rename_i rd hrd
      split at hx
      · rename_i hok
        obtain ⟨v0, e1, e2, -⟩ := hc2 p hpm
        obtain rfl : v0 = .ref a := Option.some.inj (e1.symm.trans q1)
        unfold okE at e2
        rw [if_neg (by omega), if_neg (by omega), if_pos hp2.1] at e2
        obtain ⟨a', e3, hΓ⟩ := e2
        cases e3
        obtain ⟨c, hm, hcell⟩ := hW a _ rd hΓ hrd
        split at hx
        · rename_i q hq
          cases hx
          have hqm := List.mem_of_find?_eq_some hq
          have hqp := List.find?_some hq
          simp only [Bool.and_eq_true, beq_iff_eq] at hqp
          obtain ⟨a2, c2, v, g1, g2, g3, g4, g5⟩ := hS.2.2.2.1 q hqm
          rw [hqp.1, q1] at g1
          cases g1
          cases hm.symm.trans g3
          rw [hqp.2, if_neg hp2.2] at g5
          refine TT.one hE (rd_one hG hΓ hrd hok.1 hcell hm g5 q3 lv t) ?_
          refine h vs (S.1.1, E.1.1 + E.1.2.2.1, lv, v :: t) fs F hp (hS.top hl (fun b hb => ?_) ?_) hW hF
          · rcases List.mem_cons.mp hb with rfl | hb
            · exact hS.1 _ (mem_fact hqm)
            · exact hc2 b (hin b hb)
          · simp only [List.map_cons, List.cons.injEq]
            exact ⟨g4.symm, q2⟩
        · split at hx
          · rename_i e he
            cases hx
            obtain ⟨v, g1, g2⟩ := (okCell_get hcell hok.2).2 k e he
            refine TT.one hE (rd_one hG hΓ hrd hok.1 hcell hm g1 q3 lv t) ?_
            have e0 : (vs ++ [v])[S.2.2.2.2.2]? = some v := by rw [hn]; simp
            have oa : okA Γ sets (vs ++ [v]) (x_new S e) := ⟨v, e0, g2, fun q hq => by cases hq⟩
            have hS1 := (hS.up v).fact (q := (p.1, p.2.2.1.toNat, k, x_new S e)) ⟨a, c, v, get_app q1, hΓ, hm, e0, by rw [if_neg hp2.2]; exact g1⟩ oa
            refine h (vs ++ [v]) (S.1.1, E.1.1 + E.1.2.2.1, lv, v :: t) fs F (pre_app hp v) (hS1.top (fun q hq => ?_) (fun b hb => ?_) ?_) hW hF
            · obtain ⟨q1, w, q2, q3⟩ := hl q hq
              exact ⟨q1.app _, w, get_app q2, q3⟩
            · rcases List.mem_cons.mp hb with rfl | hb
              · exact oa
              · exact (hc2 b (hin b hb)).app _
            · simp only [List.map_cons, List.cons.injEq]
              refine ⟨e0.symm, ?_⟩
              rw [q2]
              apply List.map_congr_left
              intro b hb
              obtain ⟨w, hw⟩ := (hc2 b (hin b hb)).get
              rw [hw, get_app hw]
          · cases hx
      · cases hx
    · cases hx
  · cases hx
theorem rdV_ok (hG : GOK Γ roles) {E : MI × Option FieldType} (hE : m_at MT S.1.1 S.1.2.1 = some E) {p i : AV} {r : List AV} {S1 : SS} (hx : x_rdV roles S E.1 p i r = some S1) (hst : S.1.2.2.2 = i :: p :: r) (ki : k_is i.2.1 0 = true) (hng : isGet E.1 = false)
    (h : Good Γ sets roles ms MT ro fty dfl vs0 F0 Q d S1) : Good Γ sets roles ms MT ro fty dfl vs0 F0 Q d S := by
  intro vs f fs F hp hS hW hF
  obtain ⟨lv, cst, rfl, hl, hc1, hc2⟩ := hS.frame
  have hin : ∀ a ∈ r, a ∈ S.1.2.2.2 := fun a ha => by rw [hst]; simp [ha]
  have op := hc2 p (by rw [hst]; simp)
  have oi := hc2 i (by rw [hst]; simp)
  rw [hst] at hc1
  obtain ⟨w, t1, rfl, k2, k3⟩ := stk1 hc1
  obtain ⟨v1, t, rfl, k5, q2⟩ := stk1 k3
  obtain ⟨w', p1, p2, -⟩ := id oi
  obtain rfl : w' = w := Option.some.inj (p1.symm.trans k2)
  have ni := p2.num (k_is_int p2 ki).2
  obtain ⟨x, rfl⟩ := (k_is_int p2 ki).1
  simp only [vz] at ni
  have hn := hS.2.2.2.2.2.2
  unfold x_rdV at hx
  split at hx
  · rename_i hp2
    split at hx
    · rename_i rd hrd
      split at hx
      · rename_i hok
        obtain ⟨v0, e1, e2, -⟩ := id op
        obtain rfl : v0 = v1 := Option.some.inj (e1.symm.trans k5)
        unfold okE at e2
        rw [if_neg (by omega), if_neg (by omega), if_pos hp2.1] at e2
        obtain ⟨a, rfl, hΓ⟩ := e2
        obtain ⟨c, hm, hcell⟩ := hW a _ rd hΓ hrd
        have hx0 : 0 ≤ x.toInt := by omega
        have step : ∀ v, (cont c)[x.toInt.toNat]? = some v → m_one ro fty dfl E.1 F lv (.int x :: .ref a :: t) = some (F, E.1.1 + E.1.2.2.1, lv, v :: t) := by
          intro v hv
          have := rd_one (fty := fty) (dfl := dfl) (E := E.1) (x := x) hG hΓ hrd hok.1 hcell hm hv (by rw [if_neg (by rw [hng]; decide)]; exact ⟨hx0, rfl⟩) lv t
          rw [if_neg (by rw [hng]; decide)] at this
          exact this
        split at hx
        · rename_i q hq
          cases hx
          have hqm := List.mem_of_find?_eq_some hq
          have hqp := List.find?_some hq
          simp only [Bool.and_eq_true, beq_iff_eq] at hqp
          obtain ⟨a2, c2, y, v, g1, g2, g3, g4, g5, g6, g7⟩ := hS.2.2.2.2.1 q hqm
          rw [hqp.1, k5] at g1
          cases g1
          cases hm.symm.trans g3
          have hxy := x_eq_ok hqp.2 (hS.1 _ (mem_ef1 hqm)) oi g4 k2
          cases hxy
          refine TT.one hE (step v g7) ?_
          refine h vs (S.1.1, E.1.1 + E.1.2.2.1, lv, v :: t) fs F hp (hS.top hl (fun b hb => ?_) ?_) hW hF
          · rcases List.mem_cons.mp hb with rfl | hb
            · exact hS.1 _ (mem_ef2 hqm)
            · exact hc2 b (hin b hb)
          · simp only [List.map_cons, List.cons.injEq]
            exact ⟨g6.symm, q2⟩
        · split at hx
          · rename_i e he
            cases hx
            have hval : ∃ v, (cont c)[x.toInt.toNat]? = some v ∧ okE Γ sets e.1 e.2.1 e.2.2 v := by
              by_cases h3 : rd.1 = 3
              · have hok2 := hok.2
                unfold x_ln at hok2
                rw [if_pos h3] at hok2 he
                split at hok2
                · rename_i q hq
                  simp only [Bool.and_eq_true, decide_eq_true_eq] at hok2
                  have hqm := List.mem_of_find?_eq_some hq
                  have hqp := List.find?_some hq
                  simp only [Bool.and_eq_true, beq_iff_eq] at hqp
                  obtain ⟨a2, c2, v, g1, g2, g3, g4, g5⟩ := hS.2.2.2.1 q hqm
                  rw [hqp.1, k5] at g1
                  cases g1
                  cases hm.symm.trans g3
                  rw [hqp.2, if_pos rfl] at g5
                  subst g5
                  have oq := hS.1 _ (mem_fact hqm)
                  obtain ⟨w2, z1, z2, -⟩ := id oq
                  obtain rfl : w2 = _ := Option.some.inj (z1.symm.trans g4)
                  have hd := a_diff_ok oi oq (k_is_int p2 ki).2 (k_is_int z2 hok2.1).2 k2 g4
                  rcases hcell with ⟨ee, -⟩ | ⟨ee, -⟩ | ⟨ee, -⟩ | ⟨-, ⟨xs, e4, e5⟩, e6, e7, e8⟩
                  · omega
                  · omega
                  · omega
                  · subst e4
                    have hcl : clen (.inr (.inl (rd.2.1, xs))) = xs.length := by simp [clen, cont]
                    rw [hcl] at hd
                    have hlen : (Int32.ofNat xs.length).toInt = (xs.length : Int) := nI_toInt (n := xs.length) (by omega)
                    simp only [i_in, vz, hlen] at hd
                    have hlt : x.toInt.toNat < (cont (.inr (.inl (rd.2.1, xs)))).length := by simp only [cont, List.length_map]; omega
                    refine ⟨_, List.getElem?_eq_getElem hlt, ?_⟩
                    rw [e7] at he
                    rw [j_es] at he
                    cases he
                    exact e8 _ (List.getElem_mem hlt)
                · cases hok2
              · have hok2 := hok.2
                unfold x_ln at hok2
                rw [if_neg h3] at hok2 he
                simp only [decide_eq_true_eq] at hok2
                obtain ⟨l1, l2⟩ := okCell_get hcell h3
                have hlt : x.toInt.toNat < rd.2.2.length := by omega
                obtain ⟨v, g1, g2⟩ := l2 x.toInt.toNat _ (List.getElem?_eq_getElem hlt)
                refine ⟨v, g1, j_es_ok _ e he ⟨_, ?_, g2⟩⟩
                rw [List.mem_iff_getElem?]
                refine ⟨x.toInt.toNat - i.2.2.1.toNat, ?_⟩
                rw [List.getElem?_take, if_pos (by omega), List.getElem?_drop, show i.2.2.1.toNat + (x.toInt.toNat - i.2.2.1.toNat) = x.toInt.toNat by omega]
                exact List.getElem?_eq_getElem hlt
            obtain ⟨v, g1, g2⟩ := hval
            refine TT.one hE (step v g1) ?_
            have e0 : (vs ++ [v])[S.2.2.2.2.2]? = some v := by rw [hn]; simp
            have oa : okA Γ sets (vs ++ [v]) (x_new S e) := ⟨v, e0, g2, fun q hq => by cases hq⟩
            have hS1 := (hS.up v).ef (q := (p.1, p.2.2.1.toNat, i, x_new S e)) ⟨a, c, x, v, get_app k5, hΓ, hm, get_app k2, hx0, e0, g1⟩ (oi.app _) oa
            refine h (vs ++ [v]) (S.1.1, E.1.1 + E.1.2.2.1, lv, v :: t) fs F (pre_app hp v) (hS1.top (fun q hq => ?_) (fun b hb => ?_) ?_) hW hF
            · obtain ⟨q1, w, q2, q3⟩ := hl q hq
              exact ⟨q1.app _, w, get_app q2, q3⟩
            · rcases List.mem_cons.mp hb with rfl | hb
              · exact oa
              · exact (hc2 b (hin b hb)).app _
            · simp only [List.map_cons, List.cons.injEq]
              refine ⟨e0.symm, ?_⟩
              rw [q2]
              apply List.map_congr_left
              intro b hb
              obtain ⟨w, hw⟩ := (hc2 b (hin b hb)).get
              rw [hw, get_app hw]
          · cases hx
      · cases hx
    · cases hx
  · cases hx
end SxO
end
