/-! SYMBOLIC RUNS, VII: arithmetic steps -/
def s_sum (su : List (Nat × Nat × Nat)) (S : SS) : SS := (S.1, S.2.1, S.2.2.1, S.2.2.2.1, su ++ S.2.2.2.2.1, S.2.2.2.2.2)
/-- how a sum differs from another sum that is told -/
def x_sr (S : SS) (x y : AV) : List (Nat × Nat × Nat) → List (Nat × Int × Int)
  | [] => []
  | q :: t => if q.1 = x.1 then (match (s_av S).find? (fun b => b.1 == q.2.1 && !(b.2.1 == 2)) with
      | some b => (q.2.2, (a_diff y b).1, (a_diff y b).2) :: x_sr S x y t
      | none => x_sr S x y t) else x_sr S x y t
/-- bounds by what is told of others -/
def x_sc (S : SS) : List (Nat × Int × Int) → Int × Int → Int × Int
  | [], p => p
  | q :: t, p => match (s_av S).find? (fun b => b.1 == q.1 && !(b.2.1 == 2)) with
      | some b => x_sc S t (max p.1 (b.2.2.1 + q.2.1), min p.2 (b.2.2.2.1 + q.2.2))
      | none => x_sc S t p
/-- what sums that are told say of a new one -/
def x_pr (S : SS) (i : Instr) (x y : AV) : List (Nat × Int × Int) := match i with | .iadd => if -2147483648 ≤ x.2.2.1 + y.2.2.1 ∧ x.2.2.2.1 + y.2.2.2.1 ≤ 2147483647 then x_sr S x y S.2.2.2.2.1 else [] | _ => []
/-- two ints: what comes of them -/
def x_bin (S : SS) (i : Instr) (x y : AV) : AV × List (Nat × Nat × Nat) :=
  match m_b32 i with
  | some f => if isC x && isC y then ((S.2.2.2.2.2, 0, (f (Int32.ofInt x.2.2.1) (Int32.ofInt y.2.2.1)).toInt, (f (Int32.ofInt x.2.2.1) (Int32.ofInt y.2.2.1)).toInt, []), [])
    else ((S.2.2.2.2.2, 0, (x_sc S (x_pr S i x y) (b_iv i x y).1).1, (x_sc S (x_pr S i x y) (b_iv i x y).1).2, x_pr S i x y ++ (b_iv i x y).2),
      (match i with | .isub => if -2147483648 ≤ x.2.2.1 - y.2.2.2.1 ∧ x.2.2.2.1 - y.2.2.1 ≤ 2147483647 then [(y.1, S.2.2.2.2.2, x.1)] else [] | _ => []))
  | none => match m_d32 i with
    | some f => if isC x && isC y then ((S.2.2.2.2.2, 0, (f (Int32.ofInt x.2.2.1) (Int32.ofInt y.2.2.1)).toInt, (f (Int32.ofInt x.2.2.1) (Int32.ofInt y.2.2.1)).toInt, []), []) else ((S.2.2.2.2.2, 0, (b_iv i x y).1.1, (b_iv i x y).1.2, (b_iv i x y).2), [])
    | none => ((0, 0, 0, 0, []), [])
section SxG
variable {Γ : Nat → Option Nat} {sets : List (List Int)} {roles : List RD} {ms : Mods} {MT : List MM} {ro : Nat → Option MC} {fty : Nat → Nat → FieldType} {dfl : Nat → List Value} {vs0 : List Value} {F0 : MH} {Q : Option Value → MH → Prop} {d : Nat} {S : SS}
theorem okS.sum {vs : List Value} {f : CF} {fs : List CF} {F : MH} (h : okS Γ sets ro vs S f fs F) {su : List (Nat × Nat × Nat)} (hs : ∀ q ∈ su, okSu vs q) : okS Γ sets ro vs (s_sum su S) f fs F := by
  obtain ⟨h1, h2, h3, h4, h5, h6, h7⟩ := h
  exact ⟨h1, h2, h3, h4, h5, fun q hq => (List.mem_append.mp hq).elim (hs q) (h6 q), h7⟩
theorem x_sr_ok {vs : List Value} {x y : AV} {a b : Int32} (hall : ∀ c ∈ s_av S, okA Γ sets vs c) (hy : okA Γ sets vs y) (ny : ¬ y.2.1 = 2) (hv : vs[x.1]? = some (.int a)) (hw : vs[y.1]? = some (.int b)) (hr : -2147483648 ≤ a.toInt + b.toInt ∧ a.toInt + b.toInt ≤ 2147483647) : ∀ (su : List (Nat × Nat × Nat)), (∀ q ∈ su, okSu vs q) → ∀ r ∈ x_sr S x y su, ∃ w, vs[r.1]? = some w ∧ r.2.1 ≤ (a + b).toInt - vz w ∧ (a + b).toInt - vz w ≤ r.2.2
  | [], _, r, hr => by cases hr
  | q :: t, hsu, r, hr1 => by
    have ih := x_sr_ok hall hy ny hv hw hr t (fun q hq => hsu q (List.mem_cons_of_mem _ hq))
    rw [x_sr] at hr1
    split at hr1
    · rename_i he
      split at hr1
      · rename_i c hc
        rcases List.mem_cons.mp hr1 with rfl | hr1
        · obtain ⟨u, v, w, g1, g2, g3, g4⟩ := hsu q List.mem_cons_self
          have hcm := List.mem_of_find?_eq_some hc
          have hcp := List.find?_some hc
          simp only [Bool.and_eq_true, beq_iff_eq, Bool.not_eq_true', beq_eq_false_iff_ne, ne_eq] at hcp
          rw [he, hv] at g1
          cases g1
          have hd := a_diff_ok hy (hall c hcm) ny hcp.2 hw (by rw [hcp.1]; exact g2)
          have e := z_add hr.1 hr.2
          simp only [i_in, vz] at hd
          simp only [vz] at g4
          exact ⟨w, g3, by simp only [vz]; omega, by simp only [vz]; omega⟩
        · exact ih r hr1
      · exact ih r hr1
    · exact ih r hr1
theorem x_sc_ok {vs : List Value} {z : Value} (hall : ∀ c ∈ s_av S, okA Γ sets vs c) : ∀ (rl : List (Nat × Int × Int)) (p : Int × Int), (∀ r ∈ rl, ∃ w, vs[r.1]? = some w ∧ r.2.1 ≤ vz z - vz w ∧ vz z - vz w ≤ r.2.2) → p.1 ≤ vz z ∧ vz z ≤ p.2 → (x_sc S rl p).1 ≤ vz z ∧ vz z ≤ (x_sc S rl p).2
  | [], p, _, hp => hp
  | q :: t, p, hr, hp => by
    rw [x_sc]
    split
    · rename_i b hb
      refine x_sc_ok hall t _ (fun r h => hr r (List.mem_cons_of_mem _ h)) ?_
      obtain ⟨w, g1, g2, g3⟩ := hr q List.mem_cons_self
      have hbm := List.mem_of_find?_eq_some hb
      have hbp := List.find?_some hb
      simp only [Bool.and_eq_true, beq_iff_eq, Bool.not_eq_true', beq_eq_false_iff_ne, ne_eq] at hbp
      obtain ⟨w', p1, p2, -⟩ := hall b hbm
      have n := p2.num hbp.2
      rw [hbp.1, g1] at p1
      cases p1
      constructor
      · simp only; omega
      · simp only; omega
    · exact x_sc_ok hall t _ (fun r h => hr r (List.mem_cons_of_mem _ h)) hp
theorem alu_b32 {i : Instr} {f : Int32 → Int32 → Int32} (h : m_b32 i = some f) (x y : Int32) (t : List Value) : m_alu i (.int y :: .int x :: t) = some (.int (f x y) :: t) := by
  unfold m_alu; rw [h]
theorem alu_d32 {i : Instr} {f : Int32 → Int32 → Int32} (h : m_d32 i = some f) (x y : Int32) (hy : ¬ y = 0) (t : List Value) : m_alu i (.int y :: .int x :: t) = some (.int (f x y) :: t) := by
  have h2 : m_b32 i = none := by cases i <;> first | rfl | (simp only [m_d32, reduceCtorEq] at h)
  unfold m_alu; rw [h2]; simp only; rw [h]; simp only; rw [if_neg hy]
theorem one_alu {E : MI} (h : (m_b32 E.2.1).isSome = true ∨ (m_d32 E.2.1).isSome = true ∨ (m_b64 E.2.1).isSome = true ∨ (m_d64 E.2.1).isSome = true ∨ (m_u32 E.2.1).isSome = true ∨ E.2.1 = .lcmp ∨ E.2.1 = .dup ∨ E.2.1 = .pop ∨ E.2.1 = .pop2 ∨ E.2.1 = .dup_x1 ∨ E.2.1 = .dup_x2 ∨ E.2.1 = .dup2) {st st1 : List Value} (ha : m_alu E.2.1 st = some st1) (F : MH) (lv : LVs) : m_one ro fty dfl E F lv st = some (F, E.1 + E.2.2.1, lv, st1) := by
  obtain ⟨pc, i, len, a0, b0, z0⟩ := E
  simp only at h ha
  unfold m_one
  have h1 : m_push (pc, i, len, a0, b0, z0) lv = none := by
    cases i <;> first | rfl | (simp [m_b32, m_d32, m_b64, m_d64, m_u32] at h)
  have h2 : m_cst (pc, i, len, a0, b0, z0) = none := by
    cases i <;> first | rfl | (simp [m_b32, m_d32, m_b64, m_d64, m_u32] at h)
  have h3 : m_store (pc, i, len, a0, b0, z0) lv st = none := by
    cases i <;> first | rfl | (simp [m_b32, m_d32, m_b64, m_d64, m_u32] at h)
  rw [h1, h2, h3]
  simp only
  rw [ha]
/-- a result, and sums -/
theorem g_resS {E : MI × Option FieldType} {r : List AV} {k : Nat} {lo hi : Int} {rl : List (Nat × Int × Int)} {su : List (Nat × Nat × Nat)} (hE : m_at MT S.1.1 S.1.2.1 = some E)
    (hst : ∀ vs lv cst F, (∀ a ∈ s_av S, okA Γ sets vs a) → (∀ q ∈ S.2.2.2.2.1, okSu vs q) → S.2.2.2.2.2 = vs.length → cst.map some = S.1.2.2.2.map (fun a => vs[a.1]?) → ∃ v t, m_one ro fty dfl E.1 F lv cst = some (F, E.1.1 + E.1.2.2.1, lv, v :: t) ∧ t.map some = r.map (fun a => vs[a.1]?) ∧ okE Γ sets k lo hi v ∧ (∀ q ∈ rl, ∃ w, vs[q.1]? = some w ∧ q.2.1 ≤ vz v - vz w ∧ vz v - vz w ≤ q.2.2) ∧ ∀ q ∈ su, okSu (vs ++ [v]) q)
    (hr : ∀ a ∈ r, a ∈ S.1.2.2.2) (h : Good Γ sets roles ms MT ro fty dfl vs0 F0 Q d (s_top (s_sum su (s_up S)) (E.1.1 + E.1.2.2.1) S.1.2.2.1 ((S.2.2.2.2.2, k, lo, hi, rl) :: r))) : Good Γ sets roles ms MT ro fty dfl vs0 F0 Q d S := by
  intro vs f fs F hp hS hW hF
  obtain ⟨lv, cst, rfl, hl, hc1, hc2⟩ := hS.frame
  have hn := hS.2.2.2.2.2.2
  obtain ⟨v, t, h1, h2, h3, h4, h5⟩ := hst vs lv cst F hS.1 hS.2.2.2.2.2.1 hn hc1
  refine TT.one hE h1 ?_
  refine h (vs ++ [v]) (S.1.1, E.1.1 + E.1.2.2.1, lv, v :: t) fs F (pre_app hp v) (((hS.up v).sum h5).top (fun q hq => ?_) (fun b hb => ?_) ?_) hW hF
  · obtain ⟨q1, w, q2, q3⟩ := hl q hq
    exact ⟨q1.app _, w, get_app q2, q3⟩
  · rcases List.mem_cons.mp hb with rfl | hb
    · exact ⟨v, by rw [hn]; simp, h3, fun q hq => by obtain ⟨w, e1, e2⟩ := h4 q hq; exact ⟨w, get_app e1, e2⟩⟩
    · exact (hc2 b (hr b hb)).app _
  · simp only [List.map_cons, List.cons.injEq]
    refine ⟨by rw [hn]; simp, ?_⟩
    rw [h2]
    apply List.map_congr_left
    intro b hb
    obtain ⟨w, hw⟩ := (hc2 b (hr b hb)).get
    rw [hw, get_app hw]
theorem okE_int {lo hi : Int} {x : Int32} (h1 : lo ≤ x.toInt) (h2 : x.toInt ≤ hi) : okE Γ sets 0 lo hi (.int x) := by
  unfold okE; simp only [if_true]; exact ⟨⟨_, rfl⟩, h1, h2⟩
theorem g_bin {E : MI × Option FieldType} {x y : AV} {r : List AV} (hE : m_at MT S.1.1 S.1.2.1 = some E) (hst : S.1.2.2.2 = y :: x :: r) (kx : k_is x.2.1 0 = true) (ky : k_is y.2.1 0 = true) (hi : (m_b32 E.1.2.1).isSome = true ∨ ((m_d32 E.1.2.1).isSome = true ∧ (0 < y.2.2.1 ∨ y.2.2.2.1 < 0)))
    (h : Good Γ sets roles ms MT ro fty dfl vs0 F0 Q d (s_top (s_sum (x_bin S E.1.2.1 x y).2 (s_up S)) (E.1.1 + E.1.2.2.1) S.1.2.2.1 ((x_bin S E.1.2.1 x y).1 :: r))) : Good Γ sets roles ms MT ro fty dfl vs0 F0 Q d S := by
  have key : ∃ (lo hi : Int) (rl : List (Nat × Int × Int)) (su : List (Nat × Nat × Nat)), x_bin S E.1.2.1 x y = ((S.2.2.2.2.2, 0, lo, hi, rl), su) ∧ ∀ vs lv cst F, (∀ a ∈ s_av S, okA Γ sets vs a) → (∀ q ∈ S.2.2.2.2.1, okSu vs q) → S.2.2.2.2.2 = vs.length → cst.map some = S.1.2.2.2.map (fun a => vs[a.1]?) → ∃ v t, m_one ro fty dfl E.1 F lv cst = some (F, E.1.1 + E.1.2.2.1, lv, v :: t) ∧ t.map some = r.map (fun a => vs[a.1]?) ∧ okE Γ sets 0 lo hi v ∧ (∀ q ∈ rl, ∃ w, vs[q.1]? = some w ∧ q.2.1 ≤ vz v - vz w ∧ vz v - vz w ≤ q.2.2) ∧ ∀ q ∈ su, okSu (vs ++ [v]) q := by
    have val : ∀ vs cst, (∀ a ∈ s_av S, okA Γ sets vs a) → cst.map some = S.1.2.2.2.map (fun a => vs[a.1]?) → ∃ a b t, cst = .int b :: .int a :: t ∧ vs[x.1]? = some (.int a) ∧ vs[y.1]? = some (.int b) ∧ t.map some = r.map (fun a => vs[a.1]?) ∧ okA Γ sets vs x ∧ okA Γ sets vs y := by
      intro vs cst hall hc
      rw [hst] at hc
      obtain ⟨w, t1, rfl, q2, q3⟩ := stk1 hc
      obtain ⟨v, t2, rfl, q5, q6⟩ := stk1 q3
      have ox : okA Γ sets vs x := hall x (mem_top (by rw [hst]; simp))
      have oy : okA Γ sets vs y := hall y (mem_top (by rw [hst]; simp))
      obtain ⟨v', p1, p2, -⟩ := id ox
      obtain ⟨w', p3, p4, -⟩ := id oy
      obtain rfl : v' = v := Option.some.inj (p1.symm.trans q5)
      obtain rfl : w' = w := Option.some.inj (p3.symm.trans q2)
      obtain ⟨a, rfl⟩ := (k_is_int p2 kx).1
      obtain ⟨b, rfl⟩ := (k_is_int p4 ky).1
      exact ⟨a, b, t2, rfl, q5, q2, q6, ox, oy⟩
    have cst_exact : ∀ (f : Int32 → Int32 → Int32), (isC x && isC y) = true → ∀ vs a b, okA Γ sets vs x → okA Γ sets vs y → vs[x.1]? = some (.int a) → vs[y.1]? = some (.int b) → f a b = f (Int32.ofInt x.2.2.1) (Int32.ofInt y.2.2.1) := by
      intro f hc vs a b ox oy q1 q2
      simp only [Bool.and_eq_true] at hc
      obtain ⟨v', p1, p2, -⟩ := ox
      obtain ⟨w', p3, p4, -⟩ := oy
      have e1 := isC_spec hc.1 p2
      have e2 := isC_spec hc.2 p4
      rw [p1] at q1; rw [p3] at q2
      cases q1; cases q2
      cases e1; cases e2
      rfl
    rcases hi with hi | ⟨hi, hz⟩
    · obtain ⟨f, hf⟩ := Option.isSome_iff_exists.mp hi
      unfold x_bin
      rw [hf]
      simp only
      by_cases hc : (isC x && isC y) = true
      · rw [if_pos hc]
        refine ⟨_, _, _, _, rfl, fun vs lv cst F hall hsu hn hcs => ?_⟩
        obtain ⟨a, b, t, rfl, q1, q2, q3, ox, oy⟩ := val vs cst hall hcs
        refine ⟨.int (f a b), t, one_alu (Or.inl hi) (alu_b32 hf a b t) F lv, q3, ?_, (fun q hq => by cases hq), (fun q hq => by cases hq)⟩
        rw [cst_exact f hc vs a b ox oy q1 q2]
        exact okE_int (Int.le_refl _) (Int.le_refl _)
      · rw [if_neg hc]
        refine ⟨_, _, _, _, rfl, fun vs lv cst F hall hsu hn hcs => ?_⟩
        obtain ⟨a, b, t, rfl, q1, q2, q3, ox, oy⟩ := val vs cst hall hcs
        have hb := b_iv_ok (Or.inl hf) ox oy kx ky q1 q2
        obtain ⟨v', p1, p2, -⟩ := id ox
        obtain ⟨w', p3, p4, -⟩ := id oy
        have nx := (k_is_int p2 kx).2
        have ny := (k_is_int p4 ky).2
        have n1 := p2.num nx
        have n2 := p4.num ny
        rw [q1] at p1; rw [q2] at p3
        cases p1; cases p3
        simp only [vz] at n1 n2
        have hpr : ∀ q ∈ x_pr S E.1.2.1 x y, ∃ w, vs[q.1]? = some w ∧ q.2.1 ≤ vz (.int (f a b)) - vz w ∧ vz (.int (f a b)) - vz w ≤ q.2.2 := by
          intro q hq
          unfold x_pr at hq
          split at hq
          · rename_i hEq
            split at hq
            · rw [hEq] at hf
              cases hf
              exact x_sr_ok hall oy ny q1 q2 (by omega) _ hsu q hq
            · cases hq
          · cases hq
        have hsc := x_sc_ok (z := .int (f a b)) hall (x_pr S E.1.2.1 x y) (b_iv E.1.2.1 x y).1 hpr ⟨hb.1, hb.2.1⟩
        refine ⟨.int (f a b), t, one_alu (Or.inl hi) (alu_b32 hf a b t) F lv, q3, okE_int hsc.1 hsc.2, fun q hq => ?_, fun q hq => ?_⟩
        · rcases List.mem_append.mp hq with hq | hq
          · exact hpr q hq
          · exact hb.2.2 q hq
        · split at hq
          · rename_i hEq
            split at hq
            · rw [hEq] at hf
              cases hf
              rcases List.mem_cons.mp hq with rfl | hq
              · have e := z_sub (x := a) (y := b) (by omega) (by omega)
                exact ⟨.int b, .int (a - b), .int a, get_app q2, (by rw [hn]; simp), get_app q1, (by simp only [vz]; omega)⟩
              · cases hq
            · cases hq
          · cases hq
    · obtain ⟨f, hf⟩ := Option.isSome_iff_exists.mp hi
      have hf2 : m_b32 E.1.2.1 = none := by
        cases hEq : E.1.2.1 <;> rw [hEq] at hf <;> first | rfl | (simp only [m_d32, reduceCtorEq] at hf)
      unfold x_bin
      rw [hf2]
      simp only
      rw [hf]
      simp only
      have nz : ∀ vs b, okA Γ sets vs y → vs[y.1]? = some (.int b) → ¬ b = 0 := by
        intro vs b oy q2 e
        subst e
        obtain ⟨w', p3, p4, -⟩ := oy
        have n2 := p4.num (k_is_int p4 ky).2
        rw [q2] at p3; cases p3
        simp only [vz, Int32.toInt_zero] at n2
        omega
      by_cases hc : (isC x && isC y) = true
      · rw [if_pos hc]
        refine ⟨_, _, _, _, rfl, fun vs lv cst F hall hsu hn hcs => ?_⟩
        obtain ⟨a, b, t, rfl, q1, q2, q3, ox, oy⟩ := val vs cst hall hcs
        refine ⟨.int (f a b), t, one_alu (Or.inr (Or.inl hi)) (alu_d32 hf a b (nz vs b oy q2) t) F lv, q3, ?_, (fun q hq => by cases hq), (fun q hq => by cases hq)⟩
        rw [cst_exact f hc vs a b ox oy q1 q2]
        exact okE_int (Int.le_refl _) (Int.le_refl _)
      · rw [if_neg hc]
        refine ⟨_, _, _, _, rfl, fun vs lv cst F hall hsu hn hcs => ?_⟩
        obtain ⟨a, b, t, rfl, q1, q2, q3, ox, oy⟩ := val vs cst hall hcs
        have hb := b_iv_ok (Or.inr hf) ox oy kx ky q1 q2
        exact ⟨.int (f a b), t, one_alu (Or.inr (Or.inl hi)) (alu_d32 hf a b (nz vs b oy q2) t) F lv, q3, okE_int hb.1 hb.2.1, (fun q hq => hb.2.2 q hq), (fun q hq => by cases hq)⟩
  obtain ⟨lo, hi2, rl, su, e1, e2⟩ := key
  rw [e1] at h
  exact g_resS hE e2 (fun a ha => by rw [hst]; simp [ha]) h
end SxG
