/-! SYMBOLIC RUNS, VIII: one operand, longs, the stack's own instructions, locals -/
section SxH
variable {Γ : Nat → Option Nat} {sets : List (List Int)} {roles : List RD} {ms : Mods} {MT : List MM} {ro : Nat → Option MC} {fty : Nat → Nat → FieldType} {dfl : Nat → List Value} {vs0 : List Value} {F0 : MH} {Q : Option Value → MH → Prop} {d : Nat} {S : SS}
theorem z_i2b (x : Int32) : -128 ≤ x.toInt8.toInt32.toInt ∧ x.toInt8.toInt32.toInt ≤ 127 ∧ (-128 ≤ x.toInt → x.toInt ≤ 127 → x.toInt8.toInt32.toInt = x.toInt) := by
  have e1 : x.toInt8.toInt32.toInt = x.toInt8.toInt := Int8.toInt_toInt32 _
  have e2 : x.toInt8.toInt = x.toInt.bmod (2 ^ 8) := Int32.toInt_toInt8 x
  rw [e1, e2]
  unfold Int.bmod
  simp only
  refine ⟨?_, ?_, fun _ _ => ?_⟩ <;> split <;> omega
theorem z_i2s (x : Int32) : -32768 ≤ x.toInt16.toInt32.toInt ∧ x.toInt16.toInt32.toInt ≤ 32767 ∧ (-32768 ≤ x.toInt → x.toInt ≤ 32767 → x.toInt16.toInt32.toInt = x.toInt) := by
  have e1 : x.toInt16.toInt32.toInt = x.toInt16.toInt := Int16.toInt_toInt32 _
  have e2 : x.toInt16.toInt = x.toInt.bmod (2 ^ 16) := Int32.toInt_toInt16 x
  rw [e1, e2]
  unfold Int.bmod
  simp only
  refine ⟨?_, ?_, fun _ _ => ?_⟩ <;> split <;> omega
theorem z_i2c (x : Int32) : 0 ≤ ((x.toUInt32 % 65536).toInt32).toInt ∧ ((x.toUInt32 % 65536).toInt32).toInt ≤ 65535 ∧ (0 ≤ x.toInt → x.toInt ≤ 65535 → ((x.toUInt32 % 65536).toInt32).toInt = x.toInt) := by
  rw [pk_char, nI_toInt (Nat.lt_of_lt_of_le (Nat.mod_lt _ (by decide)) (by decide))]
  refine ⟨by omega, by omega, fun h1 h2 => ?_⟩
  obtain ⟨j, g1, g2, g3⟩ := z_nI h1
  rw [g2, pk_tn (by omega), nI_toInt g1]
  omega
/-- one int: what comes of it -/
def x_un (i : Instr) (x : AV) (n : Nat) : Option AV := match i with
  | .i2l => some (n, 1, x.2.2.1, x.2.2.2.1, (x.1, 0, 0) :: x.2.2.2.2)
  | .i2b => if -128 ≤ x.2.2.1 ∧ x.2.2.2.1 ≤ 127 then some (n, 0, x.2.2.1, x.2.2.2.1, [(x.1, 0, 0)]) else some (n, 0, -128, 127, [])
  | .i2s => if -32768 ≤ x.2.2.1 ∧ x.2.2.2.1 ≤ 32767 then some (n, 0, x.2.2.1, x.2.2.2.1, [(x.1, 0, 0)]) else some (n, 0, -32768, 32767, [])
  | .i2c => if 0 ≤ x.2.2.1 ∧ x.2.2.2.1 ≤ 65535 then some (n, 0, x.2.2.1, x.2.2.2.1, [(x.1, 0, 0)]) else some (n, 0, 0, 65535, [])
  | _ => none
theorem alu_u32 {i : Instr} {f : Int32 → Value} (h : m_u32 i = some f) (x : Int32) (t : List Value) : m_alu i (.int x :: t) = some (f x :: t) := by
  have h1 : m_b32 i = none := by cases i <;> first | rfl | (simp only [m_u32, reduceCtorEq] at h)
  have h2 : m_d32 i = none := by cases i <;> first | rfl | (simp only [m_u32, reduceCtorEq] at h)
  have h3 : m_b64 i = none := by cases i <;> first | rfl | (simp only [m_u32, reduceCtorEq] at h)
  have h4 : m_d64 i = none := by cases i <;> first | rfl | (simp only [m_u32, reduceCtorEq] at h)
  unfold m_alu; rw [h1]; simp only; rw [h2]; simp only; rw [h3]; simp only; rw [h4]; simp only; rw [h]
theorem g_un {E : MI × Option FieldType} {x a : AV} {r : List AV} (hE : m_at MT S.1.1 S.1.2.1 = some E) (hst : S.1.2.2.2 = x :: r) (kx : k_is x.2.1 0 = true) (ha : x_un E.1.2.1 x S.2.2.2.2.2 = some a)
    (h : Good Γ sets roles ms MT ro fty dfl vs0 F0 Q d (s_top (s_sum [] (s_up S)) (E.1.1 + E.1.2.2.1) S.1.2.2.1 (a :: r))) : Good Γ sets roles ms MT ro fty dfl vs0 F0 Q d S := by
  have key : ∃ (k : Nat) (lo hi : Int) (rl : List (Nat × Int × Int)), a = (S.2.2.2.2.2, k, lo, hi, rl) ∧ ∀ vs lv cst F, (∀ a ∈ s_av S, okA Γ sets vs a) → (∀ q ∈ S.2.2.2.2.1, okSu vs q) → S.2.2.2.2.2 = vs.length → cst.map some = S.1.2.2.2.map (fun a => vs[a.1]?) → ∃ v t, m_one ro fty dfl E.1 F lv cst = some (F, E.1.1 + E.1.2.2.1, lv, v :: t) ∧ t.map some = r.map (fun a => vs[a.1]?) ∧ okE Γ sets k lo hi v ∧ (∀ q ∈ rl, ∃ w, vs[q.1]? = some w ∧ q.2.1 ≤ vz v - vz w ∧ vz v - vz w ≤ q.2.2) ∧ ∀ q ∈ ([] : List (Nat × Nat × Nat)), okSu (vs ++ [v]) q := by
    have val : ∀ vs cst, (∀ a ∈ s_av S, okA Γ sets vs a) → cst.map some = S.1.2.2.2.map (fun a => vs[a.1]?) → ∃ a t, cst = .int a :: t ∧ vs[x.1]? = some (.int a) ∧ t.map some = r.map (fun a => vs[a.1]?) ∧ x.2.2.1 ≤ a.toInt ∧ a.toInt ≤ x.2.2.2.1 ∧ ∀ q ∈ x.2.2.2.2, ∃ w, vs[q.1]? = some w ∧ q.2.1 ≤ a.toInt - vz w ∧ a.toInt - vz w ≤ q.2.2 := by
      intro vs cst hall hc
      rw [hst] at hc
      obtain ⟨v, t2, rfl, q5, q6⟩ := stk1 hc
      have ox : okA Γ sets vs x := hall x (mem_top (by rw [hst]; simp))
      obtain ⟨v', p1, p2, p3⟩ := ox
      obtain rfl : v' = v := Option.some.inj (p1.symm.trans q5)
      have n1 := p2.num (k_is_int p2 kx).2
      obtain ⟨a, rfl⟩ := (k_is_int p2 kx).1
      exact ⟨a, t2, rfl, q5, q6, n1.1, n1.2, p3⟩
    have same : ∀ (vs : List Value) (z a : Int32), vs[x.1]? = some (.int a) → z.toInt = a.toInt → ∀ q ∈ [(x.1, (0 : Int), (0 : Int))], ∃ w, vs[q.1]? = some w ∧ q.2.1 ≤ vz (.int z) - vz w ∧ vz (.int z) - vz w ≤ q.2.2 := by
      intro vs z a h1 h2 q hq
      rcases List.mem_cons.mp hq with rfl | hq
      · exact ⟨_, h1, by simp only [vz]; omega, by simp only [vz]; omega⟩
      · cases hq
    have nil : ∀ (v : Value) (vs : List Value), ∀ q ∈ ([] : List (Nat × Int × Int)), ∃ w, vs[q.1]? = some w ∧ q.2.1 ≤ vz v - vz w ∧ vz v - vz w ≤ q.2.2 := fun v vs q hq => by cases hq
    have nil2 : ∀ (vs : List Value), ∀ q ∈ ([] : List (Nat × Nat × Nat)), okSu vs q := fun vs q hq => by cases hq
    cases hi : E.1.2.1 <;> rw [hi] at ha <;> simp only [x_un, reduceCtorEq] at ha
    case i2l =>
      cases ha
      refine ⟨_, _, _, _, rfl, fun vs lv cst F hall hsu hn hcs => ?_⟩
      obtain ⟨a, t, rfl, q1, q2, q3, q4, q5⟩ := val vs cst hall hcs
      have e : a.toInt64.toInt = a.toInt := Int32.toInt_toInt64 a
      refine ⟨.long a.toInt64, t, one_alu (Or.inr (Or.inr (Or.inr (Or.inr (Or.inl (by rw [hi]; rfl)))))) (by rw [hi]; rfl) F lv, q2, ?_, fun q hq => ?_, nil2 _⟩
      · unfold okE; simp; exact ⟨⟨_, rfl⟩, by simp only [vz]; omega, by simp only [vz]; omega⟩
      · rcases List.mem_cons.mp hq with rfl | hq
        · exact ⟨_, q1, by simp only [vz]; omega, by simp only [vz]; omega⟩
        · obtain ⟨w, e1, e2, e3⟩ := q5 q hq
          exact ⟨w, e1, by simp only [vz] at e2 e3 ⊢; omega, by simp only [vz] at e2 e3 ⊢; omega⟩
    case i2b =>
      split at ha
      · rename_i hr
        cases ha
        refine ⟨_, _, _, _, rfl, fun vs lv cst F hall hsu hn hcs => ?_⟩
        obtain ⟨a, t, rfl, q1, q2, q3, q4, q5⟩ := val vs cst hall hcs
        have e := (z_i2b a).2.2 (by omega) (by omega)
        exact ⟨.int a.toInt8.toInt32, t, one_alu (Or.inr (Or.inr (Or.inr (Or.inr (Or.inl (by rw [hi]; rfl)))))) (by rw [hi]; rfl) F lv, q2, okE_int (by omega) (by omega), same vs _ a q1 e, nil2 _⟩
      · cases ha
        refine ⟨_, _, _, _, rfl, fun vs lv cst F hall hsu hn hcs => ?_⟩
        obtain ⟨a, t, rfl, q1, q2, q3, q4, q5⟩ := val vs cst hall hcs
        exact ⟨.int a.toInt8.toInt32, t, one_alu (Or.inr (Or.inr (Or.inr (Or.inr (Or.inl (by rw [hi]; rfl)))))) (by rw [hi]; rfl) F lv, q2, okE_int (z_i2b a).1 (z_i2b a).2.1, nil _ _, nil2 _⟩
    case i2s =>
      split at ha
      · rename_i hr
        cases ha
        refine ⟨_, _, _, _, rfl, fun vs lv cst F hall hsu hn hcs => ?_⟩
        obtain ⟨a, t, rfl, q1, q2, q3, q4, q5⟩ := val vs cst hall hcs
        have e := (z_i2s a).2.2 (by omega) (by omega)
        exact ⟨.int a.toInt16.toInt32, t, one_alu (Or.inr (Or.inr (Or.inr (Or.inr (Or.inl (by rw [hi]; rfl)))))) (by rw [hi]; rfl) F lv, q2, okE_int (by omega) (by omega), same vs _ a q1 e, nil2 _⟩
      · cases ha
        refine ⟨_, _, _, _, rfl, fun vs lv cst F hall hsu hn hcs => ?_⟩
        obtain ⟨a, t, rfl, q1, q2, q3, q4, q5⟩ := val vs cst hall hcs
        exact ⟨.int a.toInt16.toInt32, t, one_alu (Or.inr (Or.inr (Or.inr (Or.inr (Or.inl (by rw [hi]; rfl)))))) (by rw [hi]; rfl) F lv, q2, okE_int (z_i2s a).1 (z_i2s a).2.1, nil _ _, nil2 _⟩
    case i2c =>
      split at ha
      · rename_i hr
        cases ha
        refine ⟨_, _, _, _, rfl, fun vs lv cst F hall hsu hn hcs => ?_⟩
        obtain ⟨a, t, rfl, q1, q2, q3, q4, q5⟩ := val vs cst hall hcs
        have e := (z_i2c a).2.2 (by omega) (by omega)
        exact ⟨.int (a.toUInt32 % 65536).toInt32, t, one_alu (Or.inr (Or.inr (Or.inr (Or.inr (Or.inl (by rw [hi]; rfl)))))) (by rw [hi]; rfl) F lv, q2, okE_int (by omega) (by omega), same vs _ a q1 e, nil2 _⟩
      · cases ha
        refine ⟨_, _, _, _, rfl, fun vs lv cst F hall hsu hn hcs => ?_⟩
        obtain ⟨a, t, rfl, q1, q2, q3, q4, q5⟩ := val vs cst hall hcs
        exact ⟨.int (a.toUInt32 % 65536).toInt32, t, one_alu (Or.inr (Or.inr (Or.inr (Or.inr (Or.inl (by rw [hi]; rfl)))))) (by rw [hi]; rfl) F lv, q2, okE_int (z_i2c a).1 (z_i2c a).2.1, nil _ _, nil2 _⟩
  obtain ⟨k, lo, hi2, rl, e1, e2⟩ := key
  rw [e1] at h
  exact g_resS hE e2 (fun a ha => by rw [hst]; simp [ha]) h
end SxH
