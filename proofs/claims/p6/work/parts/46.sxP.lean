/-! SYMBOLIC RUNS, XVI: reads together, lengths; is a value within bounds -/
def x_al (roles : List RD) (S : SS) (E : MI) : Option SS := match E.2.1, S.1.2.2.2 with
  | .arraylength, p :: r => if p.2.1 = 2 then (match roles[p.2.2.1.toNat]? with
      | some rd => if rd.1 = 3 then (match S.2.2.1.find? (fun q => q.1 == p.1 && q.2.2.1 == 5000) with
          | some q => some (s_top S (E.1 + E.2.2.1) S.1.2.2.1 (q.2.2.2 :: r))
          | none => some (s_top (s_fact (p.1, p.2.2.1.toNat, 5000, x_new S (0, 0, 320)) (s_up S)) (E.1 + E.2.2.1) S.1.2.2.1 (x_new S (0, 0, 320) :: r))) else none
      | none => none) else none
  | _, _ => none
/-- is a value of these bounds? -/
def x_sub (sets : List (List Int)) (v : AV) (e : Nat × Int × Int) : Bool :=
  if e.1 = 0 then k_is v.2.1 0 && decide (e.2.1 ≤ v.2.2.1 ∧ v.2.2.2.1 ≤ e.2.2)
  else if e.1 = 1 then decide (v.2.1 = 1 ∧ e.2.1 ≤ v.2.2.1 ∧ v.2.2.2.1 ≤ e.2.2)
  else if e.1 = 2 then decide (v.2.1 = 2 ∧ v.2.2.1.toNat = e.2.1.toNat)
  else if 10 ≤ e.1 then decide (e.2.1 ≤ v.2.2.1 ∧ v.2.2.2.1 ≤ e.2.2) && (decide (v.2.1 = e.1) || (isC v && (sets.getD (e.1 - 10) []).contains v.2.2.1))
  else false
section SxP
variable {Γ : Nat → Option Nat} {sets : List (List Int)} {roles : List RD} {ms : Mods} {MT : List MM} {ro : Nat → Option MC} {fty : Nat → Nat → FieldType} {dfl : Nat → List Value} {vs0 : List Value} {F0 : MH} {Q : Option Value → MH → Prop} {d : Nat} {S : SS}
theorem x_sub_ok {v : AV} {e : Nat × Int × Int} {w : Value} (h : x_sub sets v e = true) (ho : okE Γ sets v.2.1 v.2.2.1 v.2.2.2.1 w) : okE Γ sets e.1 e.2.1 e.2.2 w := by
  unfold x_sub at h
  unfold okE
  by_cases h0 : e.1 = 0
  · rw [if_pos h0] at h ⊢
    simp only [Bool.and_eq_true, decide_eq_true_eq] at h
    have n := ho.num (k_is_int ho h.1).2
    exact ⟨(k_is_int ho h.1).1, by omega, by omega⟩
  rw [if_neg h0] at h ⊢
  by_cases h1 : e.1 = 1
  · rw [if_pos h1] at h ⊢
    simp only [decide_eq_true_eq] at h
    have n := ho.num (by omega)
    have hk : k_is v.2.1 1 = true := by rw [h.1]; rfl
    exact ⟨(k_is_long ho hk).1, by omega, by omega⟩
  rw [if_neg h1] at h ⊢
  by_cases h2 : e.1 = 2
  · rw [if_pos h2] at h ⊢
    simp only [decide_eq_true_eq] at h
    have hk : k_is v.2.1 2 = true := by rw [h.1]; rfl
    obtain ⟨⟨a, e1, e2⟩, -⟩ := k_is_ref ho hk
    exact ⟨a, e1, by rw [e2, h.2]⟩
  rw [if_neg h2] at h ⊢
  by_cases h10 : 10 ≤ e.1
  · rw [if_pos h10] at h ⊢
    simp only [Bool.and_eq_true, decide_eq_true_eq, Bool.or_eq_true] at h
    obtain ⟨hb, hc | ⟨hc, hd⟩⟩ := h
    · unfold okE at ho
      rw [hc, if_neg h0, if_neg h1, if_neg h2, if_pos h10] at ho
      exact ⟨ho.1, by omega, by omega, ho.2.2.2⟩
    · have e1 := isC_spec hc ho
      have n := ho.num (by simp only [isC, Bool.and_eq_true, beq_iff_eq] at hc; omega)
      have hz : vz w = v.2.2.1 := by
        simp only [isC, Bool.and_eq_true, beq_iff_eq] at hc
        omega
      refine ⟨⟨_, e1⟩, by omega, by omega, ?_⟩
      rw [hz]
      exact List.contains_iff_mem.mp hd
  · rw [if_neg h10] at h; cases h
theorem g_rd (hG : GOK Γ roles) {E : MI × Option FieldType} {S1 : SS} (hE : m_at MT S.1.1 S.1.2.1 = some E) (hx : x_rd roles S E.1 = some S1)
    (h : Good Γ sets roles ms MT ro fty dfl vs0 F0 Q d S1) : Good Γ sets roles ms MT ro fty dfl vs0 F0 Q d S := by
  unfold x_rd at hx
  split at hx
  · rename_i hg
    split at hx
    · rename_i p r hst
      have hp2 : p.2.1 = 2 := by
        unfold x_rdC at hx
        split at hx
        · rename_i q; exact q.1
        · cases hx
      refine rdC_ok hG hE hx (fun a ha => by rw [hst]; simp [ha]) (by rw [hst]; simp) (fun vs cst hall hc => ?_) h
      rw [hst] at hc
      obtain ⟨v, t, rfl, q1, q2⟩ := stk1 hc
      obtain ⟨v', p1, p2, -⟩ := hall p (mem_top (by rw [hst]; simp))
      obtain rfl : v' = v := Option.some.inj (p1.symm.trans q1)
      obtain ⟨⟨a, rfl, -⟩, -⟩ := k_is_ref p2 (by rw [hp2]; rfl)
      exact ⟨a, 0, t, by rw [if_pos hg], q1, q2, by rw [if_pos hg]⟩
    · cases hx
  · rename_i hg
    have hg0 : isGet E.1 = false := by cases hq : isGet E.1 <;> simp_all
    split at hx
    · rename_i i p r hst
      split at hx
      · rename_i ki
        split at hx
        · rename_i hc0
          have hp2 : p.2.1 = 2 := by
            unfold x_rdC at hx
            split at hx
            · rename_i q; exact q.1
            · cases hx
          refine rdC_ok hG hE hx (fun a ha => by rw [hst]; simp [ha]) (by rw [hst]; simp) (fun vs cst hall hc => ?_) h
          rw [hst] at hc
          obtain ⟨w, t1, rfl, k2, k3⟩ := stk1 hc
          obtain ⟨v, t, rfl, q1, q2⟩ := stk1 k3
          obtain ⟨v', p1, p2, -⟩ := hall p (mem_top (by rw [hst]; simp))
          obtain rfl : v' = v := Option.some.inj (p1.symm.trans q1)
          obtain ⟨w', p3, p4, -⟩ := hall i (mem_top (by rw [hst]; simp))
          obtain rfl : w' = w := Option.some.inj (p3.symm.trans k2)
          obtain ⟨⟨a, rfl, -⟩, -⟩ := k_is_ref p2 (by rw [hp2]; rfl)
          have n := p4.num (k_is_int p4 ki).2
          obtain ⟨x, rfl⟩ := (k_is_int p4 ki).1
          have hci := hc0.1
          simp only [isC, Bool.and_eq_true, beq_iff_eq] at hci
          simp only [vz] at n
          refine ⟨a, x, t, by rw [if_neg hg], q1, q2, ?_⟩
          rw [if_neg hg]
          have : x.toInt = i.2.2.1 := by omega
          rw [this]
          exact ⟨hc0.2.1, rfl⟩
        · exact rdV_ok hG hE hx hst ki hg0 h
      · cases hx
    · cases hx
theorem g_al (hG : GOK Γ roles) {E : MI × Option FieldType} {S1 : SS} (hE : m_at MT S.1.1 S.1.2.1 = some E) (hx : x_al roles S E.1 = some S1)
    (h : Good Γ sets roles ms MT ro fty dfl vs0 F0 Q d S1) : Good Γ sets roles ms MT ro fty dfl vs0 F0 Q d S := by
  intro vs f fs F hp hS hW hF
  obtain ⟨lv, cst, rfl, hl, hc1, hc2⟩ := hS.frame
  have hn := hS.2.2.2.2.2.2
  unfold x_al at hx
  split at hx
  · rename_i p r hi hst
    have hin : ∀ a ∈ r, a ∈ S.1.2.2.2 := fun a ha => by rw [hst]; simp [ha]
    have op := hc2 p (by rw [hst]; simp)
    rw [hst] at hc1
    obtain ⟨v1, t, rfl, k5, q2⟩ := stk1 hc1
    split at hx
    · rename_i hp2
      split at hx
      · rename_i rd hrd
        split at hx
        · rename_i h3
          obtain ⟨v0, e1, e2, -⟩ := id op
          obtain rfl : v0 = v1 := Option.some.inj (e1.symm.trans k5)
          obtain ⟨⟨a, rfl, hΓ⟩, -⟩ := k_is_ref e2 (by rw [hp2]; rfl)
          obtain ⟨c, hm, hcell⟩ := hW a _ rd hΓ hrd
          have hKB := (hG a _ rd hΓ hrd).1 h3
          rcases hcell with ⟨ee, -⟩ | ⟨ee, -⟩ | ⟨ee, -⟩ | ⟨-, ⟨xs, e4, e5⟩, -⟩
          · omega
          · omega
          · omega
          subst e4
          have hro : ro (a - KB) = some (.inr (.inl (rd.2.1, xs))) := by unfold m_cell at hm; rw [if_neg hKB] at hm; exact hm
          have step : m_one ro fty dfl E.1 F lv (.ref a :: t) = some (F, E.1.1 + E.1.2.2.1, lv, .int (Int32.ofNat xs.length) :: t) := by
            refine one_rd (Or.inr (Or.inl hi)) ?_ lv
            unfold m_rd
            rw [hi]
            simp only
            rw [if_neg hKB, hro]
          have hcl : clen (.inr (.inl (rd.2.1, xs))) = xs.length := by simp [clen, cont]
          have hlen : (Int32.ofNat xs.length).toInt = (xs.length : Int) := nI_toInt (n := xs.length) (by omega)
          split at hx
          · rename_i q hq
            cases hx
            have hqm := List.mem_of_find?_eq_some hq
            have hqp := List.find?_some hq
            simp only [Bool.and_eq_true, beq_iff_eq] at hqp
            obtain ⟨a2, c2, v, g1, g2, g3, g4, g5⟩ := hS.2.2.2.1 q hqm
            rw [hqp.1, k5] at g1
            cases g1
            cases hm.symm.trans g3
            rw [hqp.2, if_pos rfl, hcl] at g5
            refine TT.one hE step ?_
            refine h vs (S.1.1, E.1.1 + E.1.2.2.1, lv, .int (Int32.ofNat xs.length) :: t) fs F hp (hS.top hl (fun b hb => ?_) ?_) hW hF
            · rcases List.mem_cons.mp hb with rfl | hb
              · exact hS.1 _ (mem_fact hqm)
              · exact hc2 b (hin b hb)
            · simp only [List.map_cons, List.cons.injEq]
              rw [g5] at g4
              exact ⟨g4.symm, q2⟩
          · cases hx
            refine TT.one hE step ?_
            have e0 : (vs ++ [Value.int (Int32.ofNat xs.length)])[S.2.2.2.2.2]? = some (.int (Int32.ofNat xs.length)) := by rw [hn]; simp
            have oa : okA Γ sets (vs ++ [Value.int (Int32.ofNat xs.length)]) (x_new S (0, 0, 320)) := ⟨_, e0, okE_int (by show (0 : Int) ≤ _; omega) (by show _ ≤ (320 : Int); omega), fun q hq => by cases hq⟩
            have hS1 := (hS.up (.int (Int32.ofNat xs.length))).fact (q := (p.1, p.2.2.1.toNat, 5000, x_new S (0, 0, 320))) ⟨a, _, _, get_app k5, hΓ, hm, e0, by rw [if_pos rfl, hcl]⟩ oa
            refine h _ (S.1.1, E.1.1 + E.1.2.2.1, lv, .int (Int32.ofNat xs.length) :: t) fs F (pre_app hp _) (hS1.top (fun q hq => ?_) (fun b hb => ?_) ?_) hW hF
            · obtain ⟨q1, w, q2, q3⟩ := hl q hq
              exact ⟨q1.app _, w, get_app q2, q3⟩
            · rcases List.mem_cons.mp hb with rfl | hb
              · exact oa
              · exact (hc2 b (hin b hb)).app _
            · simp only [List.map_cons, List.cons.injEq]
              refine ⟨e0.symm, ?_⟩
              rw [q2]
              apply List.map_congr_left
              intro b hb
              obtain ⟨w, hw⟩ := (hc2 b (hin b hb)).get
              rw [hw, get_app hw]
        · cases hx
      · cases hx
    · cases hx
  · cases hx
end SxP
