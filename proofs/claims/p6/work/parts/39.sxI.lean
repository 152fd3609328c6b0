/-! SYMBOLIC RUNS, IX: longs -/
section SxI
variable {Γ : Nat → Option Nat} {sets : List (List Int)} {roles : List RD} {ms : Mods} {MT : List MM} {ro : Nat → Option MC} {fty : Nat → Nat → FieldType} {dfl : Nat → List Value} {vs0 : List Value} {F0 : MH} {Q : Option Value → MH → Prop} {d : Nat} {S : SS}
theorem z_bmL {z : Int} (h1 : -9223372036854775808 ≤ z) (h2 : z ≤ 9223372036854775807) : z.bmod (2 ^ 64) = z := by
  unfold Int.bmod
  simp only
  split <;> omega
theorem z_lN {x : Int64} (h : 0 ≤ x.toInt) : ∃ j : Nat, j < 2 ^ 63 ∧ x = lN j ∧ (j : Int) = x.toInt := by
  have h0 : ¬ x < 0 := by rw [Int64.lt_iff_toInt_lt, Int64.toInt_zero]; omega
  obtain ⟨j, hj, e⟩ := pk_lOf h0
  exact ⟨j, hj, e, by rw [e, pk_lT hj]⟩
theorem z_divL {x y : Int64} (hx : 0 ≤ x.toInt) (hy : 1 ≤ y.toInt) : (x / y).toInt = x.toInt / y.toInt := by
  obtain ⟨j, h1, h2, h3⟩ := z_lN hx
  obtain ⟨k, g1, g2, g3⟩ := z_lN (x := y) (by omega)
  have hk : 0 < k := by omega
  rw [h2, g2, pk_lDiv h1 hk g1, pk_lT (Nat.lt_of_le_of_lt (Nat.div_le_self _ _) h1), pk_lT h1, pk_lT g1]
  exact Int.natCast_ediv j k
theorem z_remL {x y : Int64} (hx : 0 ≤ x.toInt) (hy : 1 ≤ y.toInt) : (x - x / y * y).toInt = x.toInt % y.toInt := by
  obtain ⟨j, h1, h2, h3⟩ := z_lN hx
  obtain ⟨k, g1, g2, g3⟩ := z_lN (x := y) (by omega)
  have hk : 0 < k := by omega
  rw [h2, g2, pk_lRem h1 hk g1, pk_lT (Nat.lt_of_le_of_lt (Nat.mod_le _ _) h1), pk_lT h1, pk_lT g1]
  exact Int.natCast_emod j k
def r_l (l h : Int) : Int × Int := if -9223372036854775808 ≤ l ∧ h ≤ 9223372036854775807 then (l, h) else (-9223372036854775808, 9223372036854775807)
theorem r_l_ok {l h : Int} {x : Int64} (hx : (-9223372036854775808 ≤ l ∧ h ≤ 9223372036854775807) → l ≤ x.toInt ∧ x.toInt ≤ h) : (r_l l h).1 ≤ x.toInt ∧ x.toInt ≤ (r_l l h).2 := by
  unfold r_l
  split
  · rename_i q; exact hx q
  · exact z_rngL x
/-- bounds of what two longs come to -/
def l_iv (i : Instr) (x y : AV) : Int × Int := match i with
  | .ladd => r_l (x.2.2.1 + y.2.2.1) (x.2.2.2.1 + y.2.2.2.1)
  | .lsub => r_l (x.2.2.1 - y.2.2.2.1) (x.2.2.2.1 - y.2.2.1)
  | .lmul => if 0 ≤ x.2.2.1 ∧ 0 ≤ y.2.2.1 then r_l (x.2.2.1 * y.2.2.1) (x.2.2.2.1 * y.2.2.2.1) else (-9223372036854775808, 9223372036854775807)
  | .ldiv => if 0 ≤ x.2.2.1 ∧ 1 ≤ y.2.2.1 then (0, x.2.2.2.1) else (-9223372036854775808, 9223372036854775807)
  | .lrem => if 0 ≤ x.2.2.1 ∧ 1 ≤ y.2.2.1 then (0, y.2.2.2.1 - 1) else (-9223372036854775808, 9223372036854775807)
  | _ => (-9223372036854775808, 9223372036854775807)
theorem l_iv_ok {i : Instr} {f : Int64 → Int64 → Int64} {x y : AV} {a b : Int64} (hf : m_b64 i = some f ∨ m_d64 i = some f) (n1 : x.2.2.1 ≤ a.toInt ∧ a.toInt ≤ x.2.2.2.1) (n2 : y.2.2.1 ≤ b.toInt ∧ b.toInt ≤ y.2.2.2.1) : (l_iv i x y).1 ≤ (f a b).toInt ∧ (f a b).toInt ≤ (l_iv i x y).2 := by
  have hA := z_rngL a
  have hB := z_rngL b
  cases i <;> simp only [m_b64, m_d64, reduceCtorEq, or_false, false_or, Option.some.injEq] at hf <;> subst hf <;> simp only [l_iv]
  case ladd => exact r_l_ok fun q => by rw [Int64.toInt_add, z_bmL (by omega) (by omega)]; omega
  case lsub => exact r_l_ok fun q => by rw [Int64.toInt_sub, z_bmL (by omega) (by omega)]; omega
  case lmul =>
    split
    · rename_i hq
      have p1 : x.2.2.1 * y.2.2.1 ≤ a.toInt * b.toInt := Int.mul_le_mul n1.1 n2.1 hq.2 (by omega)
      have p2 : a.toInt * b.toInt ≤ x.2.2.2.1 * y.2.2.2.1 := Int.mul_le_mul n1.2 n2.2 (by omega) (by omega)
      exact r_l_ok fun q => by rw [Int64.toInt_mul, z_bmL (by omega) (by omega)]; exact ⟨p1, p2⟩
    · exact z_rngL _
  case ldiv =>
    split
    · rename_i hq
      have e := z_divL (x := a) (y := b) (by omega) (by omega)
      have p1 : 0 ≤ a.toInt / b.toInt := Int.ediv_nonneg (by omega) (by omega)
      have p2 : a.toInt / b.toInt ≤ a.toInt := Int.ediv_le_self _ (by omega)
      exact ⟨by rw [e]; exact p1, by rw [e]; simp only; omega⟩
    · exact z_rngL _
  case lrem =>
    split
    · rename_i hq
      have e := z_remL (x := a) (y := b) (by omega) (by omega)
      have p1 := Int.emod_nonneg a.toInt (b := b.toInt) (by omega)
      have p2 := Int.emod_lt_of_pos a.toInt (b := b.toInt) (by omega)
      exact ⟨by rw [e]; exact p1, by rw [e]; simp only; omega⟩
    · exact z_rngL _
  all_goals exact z_rngL _
/-- how a sum of longs differs from what is added to -/
def l_rl (i : Instr) (x y : AV) : List (Nat × Int × Int) := match i with
  | .ladd => if y.2.2.1 = y.2.2.2.1 ∧ -9223372036854775808 ≤ x.2.2.1 + y.2.2.1 ∧ x.2.2.2.1 + y.2.2.2.1 ≤ 9223372036854775807 then (x.1, y.2.2.1, y.2.2.1) :: (x.2.2.2.2.take 4).map (fun q => (q.1, q.2.1 + y.2.2.1, q.2.2 + y.2.2.1)) else []
  | _ => []
theorem l_rl_ok {i : Instr} {f : Int64 → Int64 → Int64} {x y : AV} {vs : List Value} {a b : Int64} (hf : m_b64 i = some f ∨ m_d64 i = some f) (hx : vs[x.1]? = some (.long a)) (n1 : x.2.2.1 ≤ a.toInt ∧ a.toInt ≤ x.2.2.2.1) (n2 : y.2.2.1 ≤ b.toInt ∧ b.toInt ≤ y.2.2.2.1) (hr : ∀ q ∈ x.2.2.2.2, ∃ w, vs[q.1]? = some w ∧ q.2.1 ≤ a.toInt - vz w ∧ a.toInt - vz w ≤ q.2.2) : ∀ q ∈ l_rl i x y, ∃ w, vs[q.1]? = some w ∧ q.2.1 ≤ vz (.long (f a b)) - vz w ∧ vz (.long (f a b)) - vz w ≤ q.2.2 := by
  intro q hq
  unfold l_rl at hq
  split at hq
  · split at hq
    · rename_i hc
      simp only [m_b64, m_d64, reduceCtorEq, or_false, Option.some.injEq] at hf
      subst hf
      have e : (a + b).toInt = a.toInt + b.toInt := by rw [Int64.toInt_add, z_bmL (by omega) (by omega)]
      rcases List.mem_cons.mp hq with rfl | hq
      · exact ⟨_, hx, by simp only [vz, e]; omega, by simp only [vz, e]; omega⟩
      · obtain ⟨r, h1, rfl⟩ := List.mem_map.mp hq
        obtain ⟨w, g1, g2, g3⟩ := hr r (List.mem_of_mem_take h1)
        have e2 : vz (.long (a + b)) = a.toInt + b.toInt := e
        exact ⟨w, g1, by simp only [e2]; omega, by simp only [e2]; omega⟩
    · cases hq
  · cases hq
theorem alu_b64 {i : Instr} {f : Int64 → Int64 → Int64} (h : m_b64 i = some f) (x y : Int64) (t : List Value) : m_alu i (.long y :: .long x :: t) = some (.long (f x y) :: t) := by
  have h1 : m_b32 i = none := by cases i <;> first | rfl | (simp only [m_b64, reduceCtorEq] at h)
  have h2 : m_d32 i = none := by cases i <;> first | rfl | (simp only [m_b64, reduceCtorEq] at h)
  unfold m_alu; rw [h1]; simp only; rw [h2]; simp only; rw [h]
theorem alu_d64 {i : Instr} {f : Int64 → Int64 → Int64} (h : m_d64 i = some f) (x y : Int64) (hy : ¬ y = 0) (t : List Value) : m_alu i (.long y :: .long x :: t) = some (.long (f x y) :: t) := by
  have h1 : m_b32 i = none := by cases i <;> first | rfl | (simp only [m_d64, reduceCtorEq] at h)
  have h2 : m_d32 i = none := by cases i <;> first | rfl | (simp only [m_d64, reduceCtorEq] at h)
  have h3 : m_b64 i = none := by cases i <;> first | rfl | (simp only [m_d64, reduceCtorEq] at h)
  unfold m_alu; rw [h1]; simp only; rw [h2]; simp only; rw [h3]; simp only; rw [h]; simp only; rw [if_neg hy]
theorem okE_long {lo hi : Int} {x : Int64} (h1 : lo ≤ x.toInt) (h2 : x.toInt ≤ hi) : okE Γ sets 1 lo hi (.long x) := by
  unfold okE; simp; exact ⟨⟨_, rfl⟩, h1, h2⟩
theorem g_long {E : MI × Option FieldType} {x y : AV} {r : List AV} (hE : m_at MT S.1.1 S.1.2.1 = some E) (hst : S.1.2.2.2 = y :: x :: r) (kx : k_is x.2.1 1 = true) (ky : k_is y.2.1 1 = true) (hi : (m_b64 E.1.2.1).isSome = true ∨ ((m_d64 E.1.2.1).isSome = true ∧ (0 < y.2.2.1 ∨ y.2.2.2.1 < 0)))
    (h : Good Γ sets roles ms MT ro fty dfl vs0 F0 Q d (s_top (s_sum [] (s_up S)) (E.1.1 + E.1.2.2.1) S.1.2.2.1 ((S.2.2.2.2.2, 1, (l_iv E.1.2.1 x y).1, (l_iv E.1.2.1 x y).2, l_rl E.1.2.1 x y) :: r))) : Good Γ sets roles ms MT ro fty dfl vs0 F0 Q d S := by
  refine g_resS hE (fun vs lv cst F hall hsu hn hcs => ?_) (fun a ha => by rw [hst]; simp [ha]) h
  rw [hst] at hcs
  obtain ⟨w, t1, rfl, q2, q3⟩ := stk1 hcs
  obtain ⟨v, t2, rfl, q5, q6⟩ := stk1 q3
  obtain ⟨v', p1, p2, p9⟩ := hall x (mem_top (by rw [hst]; simp))
  obtain ⟨w', p3, p4, -⟩ := hall y (mem_top (by rw [hst]; simp))
  obtain rfl : v' = v := Option.some.inj (p1.symm.trans q5)
  obtain rfl : w' = w := Option.some.inj (p3.symm.trans q2)
  have n1 := p2.num (by have := (k_is_long p2 kx).2; omega)
  have n2 := p4.num (by have := (k_is_long p4 ky).2; omega)
  obtain ⟨a, rfl⟩ := (k_is_long p2 kx).1
  obtain ⟨b, rfl⟩ := (k_is_long p4 ky).1
  simp only [vz] at n1 n2
  rcases hi with hi | ⟨hi, hz⟩
  · obtain ⟨f, hf⟩ := Option.isSome_iff_exists.mp hi
    have hb := l_iv_ok (Or.inl hf) n1 n2
    exact ⟨.long (f a b), t2, one_alu (Or.inr (Or.inr (Or.inl hi))) (alu_b64 hf a b t2) F lv, q6, okE_long hb.1 hb.2, l_rl_ok (Or.inl hf) p1 n1 n2 p9, (fun q hq => by cases hq)⟩
  · obtain ⟨f, hf⟩ := Option.isSome_iff_exists.mp hi
    have hb := l_iv_ok (Or.inr hf) n1 n2
    have hne : ¬ b = 0 := by
      intro e
      subst e
      simp only [Int64.toInt_zero] at n2
      omega
    exact ⟨.long (f a b), t2, one_alu (Or.inr (Or.inr (Or.inr (Or.inl hi)))) (alu_d64 hf a b hne t2) F lv, q6, okE_long hb.1 hb.2, l_rl_ok (Or.inr hf) p1 n1 n2 p9, (fun q hq => by cases hq)⟩
end SxI
