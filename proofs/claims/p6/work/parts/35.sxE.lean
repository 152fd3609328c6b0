/-! SYMBOLIC RUNS, V: arithmetic of bounds is right -/
section SxE
variable {Γ : Nat → Option Nat} {sets : List (List Int)} {vs : List Value} {ro : Nat → Option MC}
theorem full_ok (x : Int32) : (-2147483648 : Int) ≤ x.toInt ∧ x.toInt ≤ 2147483647 ∧ ∀ r ∈ ([] : List (Nat × Int × Int)), ∃ w, vs[r.1]? = some w ∧ r.2.1 ≤ x.toInt - vz w ∧ x.toInt - vz w ≤ r.2.2 :=
  ⟨(z_rng x).1, (z_rng x).2, fun r hr => by cases hr⟩
theorem sh_ok {x : AV} {a : Int32} {c : Int} {r : Int32} (hx : ∀ q ∈ x.2.2.2.2, ∃ w, vs[q.1]? = some w ∧ q.2.1 ≤ a.toInt - vz w ∧ a.toInt - vz w ≤ q.2.2) (hr : r.toInt = a.toInt + c) : ∀ q ∈ (sh c x.2.2.2.2).take 4, ∃ w, vs[q.1]? = some w ∧ q.2.1 ≤ r.toInt - vz w ∧ r.toInt - vz w ≤ q.2.2 := by
  intro q hq
  obtain ⟨q0, h0, rfl⟩ := List.mem_map.mp (List.mem_of_mem_take hq)
  obtain ⟨w, g1, g2, g3⟩ := hx q0 h0
  exact ⟨w, g1, by simp only; omega, by simp only; omega⟩
theorem b_iv_ok {i : Instr} {f : Int32 → Int32 → Int32} {x y : AV} {a b : Int32} (hf : m_b32 i = some f ∨ m_d32 i = some f) (hx : okA Γ sets vs x) (hy : okA Γ sets vs y) (kx : k_is x.2.1 0 = true) (ky : k_is y.2.1 0 = true) (hv : vs[x.1]? = some (.int a)) (hw : vs[y.1]? = some (.int b)) :
    (b_iv i x y).1.1 ≤ (f a b).toInt ∧ (f a b).toInt ≤ (b_iv i x y).1.2 ∧ ∀ r ∈ (b_iv i x y).2, ∃ w, vs[r.1]? = some w ∧ r.2.1 ≤ (f a b).toInt - vz w ∧ (f a b).toInt - vz w ≤ r.2.2 := by
  have hx0 := hx
  have hy0 := hy
  obtain ⟨v, g1, g2, g3⟩ := hx
  obtain ⟨w, k1, k2, k3⟩ := hy
  obtain rfl : v = .int a := Option.some.inj (g1.symm.trans hv)
  obtain rfl : w = .int b := Option.some.inj (k1.symm.trans hw)
  have nx := (k_is_int g2 kx).2
  have ny := (k_is_int k2 ky).2
  have n1 := g2.num nx
  have n2 := k2.num ny
  simp only [vz] at n1 n2 g3 k3
  have hA := z_rng a
  have hB := z_rng b
  cases i <;> simp only [m_b32, m_d32, reduceCtorEq, or_false, false_or, Option.some.injEq] at hf <;> subst hf <;> simp only [b_iv]
  case iadd =>
    split
    · rename_i hq
      have e := z_add (x := a) (y := b) (by omega) (by omega)
      refine ⟨by simp only; omega, by simp only; omega, ?_⟩
      simp only
      split
      · rename_i hc
        intro r hr
        rcases List.mem_cons.mp hr with rfl | hr
        · exact ⟨_, g1, by simp only [vz]; omega, by simp only [vz]; omega⟩
        · exact sh_ok g3 (by omega) r hr
      · split
        · rename_i hc
          intro r hr
          rcases List.mem_cons.mp hr with rfl | hr
          · exact ⟨_, k1, by simp only [vz]; omega, by simp only [vz]; omega⟩
          · exact sh_ok k3 (by omega) r hr
        · intro r hr
          rcases List.mem_cons.mp hr with rfl | hr
          · exact ⟨_, g1, by simp only [vz]; omega, by simp only [vz]; omega⟩
          · cases hr
    · exact full_ok _
  case isub =>
    split
    · rename_i hq
      have e := z_sub (x := a) (y := b) (by omega) (by omega)
      have hd := a_diff_ok hx0 hy0 nx ny hv hw
      simp only [i_in, vz] at hd
      refine ⟨by simp only; omega, by simp only; omega, ?_⟩
      simp only
      split
      · rename_i hc
        intro r hr
        rcases List.mem_cons.mp hr with rfl | hr
        · exact ⟨_, g1, by simp only [vz]; omega, by simp only [vz]; omega⟩
        · exact sh_ok g3 (by omega) r hr
      · intro r hr
        rcases List.mem_cons.mp hr with rfl | hr
        · exact ⟨_, g1, by simp only [vz]; omega, by simp only [vz]; omega⟩
        · cases hr
    · exact full_ok _
  case imul =>
    split
    · rename_i hq
      have p1 : x.2.2.1 * y.2.2.1 ≤ a.toInt * b.toInt := Int.mul_le_mul n1.1 n2.1 hq.2 (by omega)
      have p2 : a.toInt * b.toInt ≤ x.2.2.2.1 * y.2.2.2.1 := Int.mul_le_mul n1.2 n2.2 (by omega) (by omega)
      have := r_i_ok (l := x.2.2.1 * y.2.2.1) (h := x.2.2.2.1 * y.2.2.2.1) (x := a * b) (fun q => by rw [z_mul (by omega) (by omega)]; exact ⟨p1, p2⟩)
      exact ⟨this.1, this.2, fun r hr => by cases hr⟩
    · exact full_ok _
  case iand =>
    split
    · rename_i hq
      have := z_and (x := a) (y := b) (by omega)
      exact ⟨by simp only; omega, by simp only; omega, fun r hr => by cases hr⟩
    · split
      · have := z_andc (x := a) (y := b) (by omega)
        exact ⟨by simp only; omega, by simp only; omega, fun r hr => by cases hr⟩
      · exact full_ok _
  case idiv =>
    split
    · rename_i hq
      have e := z_div (x := a) (y := b) (by omega) (by omega)
      split
      · rename_i hc
        have hb : b.toInt = y.2.2.1 := by omega
        rw [hb] at e
        have p1 := Int.ediv_le_ediv (c := y.2.2.1) (by omega) n1.1
        have p2 := Int.ediv_le_ediv (c := y.2.2.1) (by omega) n1.2
        exact ⟨by rw [e]; exact p1, by rw [e]; exact p2, fun r hr => by cases hr⟩
      · have p1 : 0 ≤ a.toInt / b.toInt := Int.ediv_nonneg (by omega) (by omega)
        have p2 : a.toInt / b.toInt ≤ a.toInt := Int.ediv_le_self _ (by omega)
        exact ⟨by rw [e]; exact p1, by rw [e]; simp only; omega, fun r hr => by cases hr⟩
    · exact full_ok _
  case irem =>
    split
    · rename_i hq
      have e := z_rem (x := a) (y := b) (by omega) (by omega)
      split
      · rename_i hc
        have p : a.toInt % b.toInt = a.toInt := Int.emod_eq_of_lt (by omega) (by omega)
        rw [p] at e
        refine ⟨by rw [e]; exact n1.1, by rw [e]; exact n1.2, fun r hr => ?_⟩
        rcases List.mem_cons.mp hr with rfl | hr
        · exact ⟨_, g1, by simp only [vz]; omega, by simp only [vz]; omega⟩
        · cases hr
      · split
        · rename_i hk
          have ea : x.2.2.1 = a.toInt := by omega
          have eb : y.2.2.1 = b.toInt := by omega
          exact ⟨by rw [e, ea, eb]; exact Int.le_refl _, by rw [e, ea, eb]; exact Int.le_refl _, fun r hr => by cases hr⟩
        have p1 := Int.emod_nonneg a.toInt (b := b.toInt) (by omega)
        have p2 := Int.emod_lt_of_pos a.toInt (b := b.toInt) (by omega)
        have p4 : 0 ≤ b.toInt * (a.toInt / b.toInt) := Int.mul_nonneg (by omega) (Int.ediv_nonneg (by omega) (by omega))
        have p3 : a.toInt % b.toInt ≤ a.toInt := by have := Int.emod_add_mul_ediv a.toInt b.toInt; omega
        exact ⟨by rw [e]; exact p1, by rw [e]; simp only; omega, fun r hr => by cases hr⟩
    · exact full_ok _
  all_goals exact full_ok _
end SxE
