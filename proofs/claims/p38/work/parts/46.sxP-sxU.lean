section
/-! SYMBOLIC RUNS, XVI: reads together, lengths; is a value within bounds -/
noncomputable def x_al (roles : List RD) (S : SS) (E : MI) : Option SS := match E.2.1, S.1.2.2.2 with
  | .arraylength, p :: r => if p.2.1 = 2 then (match roles[p.2.2.1.toNat]? with
      | some rd => if rd.1 = 3 then (match S.2.2.1.find? (fun q => q.1 == p.1 && q.2.2.1 == 5000) with
          | some q => some (s_top S (E.1 + E.2.2.1) S.1.2.2.1 (q.2.2.2 :: r))
          | none => some (s_top (s_fact (p.1, p.2.2.1.toNat, 5000, x_new S (0, 0, 320)) (s_up S)) (E.1 + E.2.2.1) S.1.2.2.1 (x_new S (0, 0, 320) :: r))) else none
      | none => none) else none
  | _, _ => none
/-- is a value of these bounds? -/
noncomputable def x_sub (sets : List (List Int)) (v : AV) (e : Nat × Int × Int) : Bool :=
  if e.1 = 0 then k_is v.2.1 0 && decide (e.2.1 ≤ v.2.2.1 ∧ v.2.2.2.1 ≤ e.2.2)
  else if e.1 = 1 then decide (v.2.1 = 1 ∧ e.2.1 ≤ v.2.2.1 ∧ v.2.2.2.1 ≤ e.2.2)
  else if e.1 = 2 then decide (v.2.1 = 2 ∧ v.2.2.1.toNat = e.2.1.toNat)
  else if 10 ≤ e.1 then decide (e.2.1 ≤ v.2.2.1 ∧ v.2.2.2.1 ≤ e.2.2) && (decide (v.2.1 = e.1) || (isC v && (sets.getD (e.1 - 10) []).contains v.2.2.1))
  else false
section SxP
variable {Γ : Nat → Option Nat} {sets : List (List Int)} {roles : List RD} {ms : Mods} {MT : List MM} {ro : Nat → Option MC} {fty : Nat → Nat → FieldType} {dfl : Nat → List Value} {vs0 : List Value} {F0 : MH} {Q : Option Value → MH → Prop} {d : Nat} {S : SS}
theorem x_sub_ok {v : AV} {e : Nat × Int × Int} {w : Value} (h : x_sub sets v e = true) (ho : okE Γ sets v.2.1 v.2.2.1 v.2.2.2.1 w) : okE Γ sets e.1 e.2.1 e.2.2 w := by
  unfold x_sub at h
  unfold okE
  by_cases h0 : e.1 = 0
  · rw [if_pos h0] at h ⊢
    simp only [Bool.and_eq_true, decide_eq_true_eq] at h
    have n := ho.num (k_is_int ho h.1).2
    exact ⟨(k_is_int ho h.1).1, by omega, by omega⟩
  rw [if_neg h0] at h ⊢
  by_cases h1 : e.1 = 1
  · rw [if_pos h1] at h ⊢
    simp only [decide_eq_true_eq] at h
    have n := ho.num (by omega)
    have hk : k_is v.2.1 1 = true := by rw [h.1]; rfl
    exact ⟨(k_is_long ho hk).1, by omega, by omega⟩
  rw [if_neg h1] at h ⊢
  by_cases h2 : e.1 = 2
  · rw [if_pos h2] at h ⊢
    simp only [decide_eq_true_eq] at h
    have hk : k_is v.2.1 2 = true := by rw [h.1]; rfl
    obtain ⟨⟨a, e1, e2⟩, -⟩ := k_is_ref ho hk
    exact ⟨a, e1, by rw [e2, h.2]⟩
  rw [if_neg h2] at h ⊢
  by_cases h10 : 10 ≤ e.1
  · rw [if_pos h10] at h ⊢
    simp only [Bool.and_eq_true, decide_eq_true_eq, Bool.or_eq_true] at h
    obtain ⟨hb, hc | ⟨hc, hd⟩⟩ := h
    · unfold okE at ho
      rw [hc, if_neg h0, if_neg h1, if_neg h2, if_pos h10] at ho
      exact ⟨ho.1, by omega, by omega, ho.2.2.2⟩
    · have e1 := isC_spec hc ho
      have n := ho.num (by simp only [isC, Bool.and_eq_true, beq_iff_eq] at hc; omega)
      have hz : vz w = v.2.2.1 := by
        simp only [isC, Bool.and_eq_true, beq_iff_eq] at hc
        omega
      refine ⟨⟨_, e1⟩, by omega, by omega, ?_⟩
      rw [hz]
      exact List.contains_iff_mem.mp hd
  · rw [if_neg h10] at h; cases h
theorem g_rd (hG : GOK Γ roles) {E : MI × Option FieldType} {S1 : SS} (hE : m_at MT S.1.1 S.1.2.1 = some E) (hx : x_rd roles S E.1 = some S1)
    (h : Good Γ sets roles ms MT ro fty dfl vs0 F0 Q d S1) : Good Γ sets roles ms MT ro fty dfl vs0 F0 Q d S := by
  unfold x_rd at hx
  split at hx
  · rename_i hg
    split at hx
    · rename_i p r hst
      have hp2 : p.2.1 = 2 := by
        unfold x_rdC at hx
        split at hx
        · rename_i q; exact q.1
        · cases hx
      refine rdC_ok hG hE hx (fun a ha => by rw [hst]; simp [ha]) (by rw [hst]; simp) (fun vs cst hall hc => ?_) h
      rw [hst] at hc
      obtain ⟨v, t, rfl, q1, q2⟩ := stk1 hc
      obtain ⟨v', p1, p2, -⟩ := hall p (mem_top (by rw [hst]; simp))
      obtain rfl : v' = v := Option.some.inj (p1.symm.trans q1)
      obtain ⟨⟨a, rfl, -⟩, -⟩ := k_is_ref p2 (by rw [hp2]; rfl)
      exact ⟨a, 0, t, by rw [if_pos hg], q1, q2, by rw [if_pos hg]⟩
    · cases hx
  · rename_i hg
    have hg0 : isGet E.1 = false := by cases hq : isGet E.1 <;> simp_all
    split at hx
    · rename_i i p r hst
      split at hx
      · rename_i ki
        split at hx
        · rename_i hc0
          have hp2 : p.2.1 = 2 := by
            unfold x_rdC at hx
            split at hx
            · rename_i q; exact q.1
            · cases hx
          refine rdC_ok hG hE hx (fun a ha => by rw [hst]; simp [ha]) (by rw [hst]; simp) (fun vs cst hall hc => ?_) h
          rw [hst] at hc
          obtain ⟨w, t1, rfl, k2, k3⟩ := stk1 hc
          obtain ⟨v, t, rfl, q1, q2⟩ := stk1 k3
          obtain ⟨v', p1, p2, -⟩ := hall p (mem_top (by rw [hst]; simp))
          obtain rfl : v' = v := Option.some.inj (p1.symm.trans q1)
          obtain ⟨w', p3, p4, -⟩ := hall i (mem_top (by rw [hst]; simp))
          obtain rfl : w' = w := Option.some.inj (p3.symm.trans k2)
          obtain ⟨⟨a, rfl, -⟩, -⟩ := k_is_ref p2 (by rw [hp2]; rfl)
          have n := p4.num (k_is_int p4 ki).2
          obtain ⟨x, rfl⟩ := (k_is_int p4 ki).1
          have hci := hc0.1
          simp only [isC, Bool.and_eq_true, beq_iff_eq] at hci
          simp only [vz] at n
          refine ⟨a, x, t, by rw [if_neg hg], q1, q2, ?_⟩
          rw [if_neg hg]
          have : x.toInt = i.2.2.1 := by omega
          rw [this]
          exact ⟨hc0.2.1, rfl⟩
        · exact rdV_ok hG hE hx hst ki hg0 h
      · cases hx
    · cases hx
theorem g_al (hG : GOK Γ roles) {E : MI × Option FieldType} {S1 : SS} (hE : m_at MT S.1.1 S.1.2.1 = some E) (hx : x_al roles S E.1 = some S1)
    (h : Good Γ sets roles ms MT ro fty dfl vs0 F0 Q d S1) : Good Γ sets roles ms MT ro fty dfl vs0 F0 Q d S := by
  intro vs f fs F hp hS hW hF
  obtain ⟨lv, cst, rfl, hl, hc1, hc2⟩ := hS.frame
  have hn := hS.2.2.2.2.2.2
  unfold x_al at hx
  split at hx
  · rename_i p r hi hst
    have hin : ∀ a ∈ r, a ∈ S.1.2.2.2 := fun a ha => by rw [hst]; simp [ha]
    have op := hc2 p (by rw [hst]; simp)
    rw [hst] at hc1
    obtain ⟨v1, t, rfl, k5, q2⟩ := stk1 hc1
    split at hx
    · rename_i hp2
      split at hx
      · rename_i rd hrd
        split at hx
        · rename_i h3
          obtain ⟨v0, e1, e2, -⟩ := id op
          obtain rfl : v0 = v1 := Option.some.inj (e1.symm.trans k5)
          obtain ⟨⟨a, rfl, hΓ⟩, -⟩ := k_is_ref e2 (by rw [hp2]; rfl)
          obtain ⟨c, hm, hcell⟩ := hW a _ rd hΓ hrd
          have hKB := (hG a _ rd hΓ hrd).1 h3
          rcases hcell with ⟨ee, -⟩ | ⟨ee, -⟩ | ⟨ee, -⟩ | ⟨-, ⟨xs, e4, e5⟩, -⟩
          · omega
          · omega
          · omega
          subst e4
          have hro : ro (a - KB) = some (.inr (.inl (rd.2.1, xs))) := by unfold m_cell at hm; rw [if_neg hKB] at hm; exact hm
          have step : m_one ro fty dfl E.1 F lv (.ref a :: t) = some (F, E.1.1 + E.1.2.2.1, lv, .int (Int32.ofNat xs.length) :: t) := by
            refine one_rd (Or.inr (Or.inl hi)) ?_ lv
            unfold m_rd
            rw [hi]
            simp only
            rw [if_neg hKB, hro]
          have hcl : clen (.inr (.inl (rd.2.1, xs))) = xs.length := by simp [clen, cont]
          have hlen : (Int32.ofNat xs.length).toInt = (xs.length : Int) := nI_toInt (n := xs.length) (by omega)
          split at hx
          · rename_i q hq
            cases hx
            have hqm := List.mem_of_find?_eq_some hq
            have hqp := List.find?_some hq
            simp only [Bool.and_eq_true, beq_iff_eq] at hqp
            obtain ⟨a2, c2, v, g1, g2, g3, g4, g5⟩ := hS.2.2.2.1 q hqm
            rw [hqp.1, k5] at g1
            cases g1
            cases hm.symm.trans g3
            rw [hqp.2, if_pos rfl, hcl] at g5
            refine TT.one hE step ?_
            refine h vs (S.1.1, E.1.1 + E.1.2.2.1, lv, .int (Int32.ofNat xs.length) :: t) fs F hp (hS.top hl (fun b hb => ?_) ?_) hW hF
            · rcases List.mem_cons.mp hb with rfl | hb
              · exact hS.1 _ (mem_fact hqm)
              · exact hc2 b (hin b hb)
            · simp only [List.map_cons, List.cons.injEq]
              rw [g5] at g4
              exact ⟨g4.symm, q2⟩
          · cases hx
            refine TT.one hE step ?_
            have e0 : (vs ++ [Value.int (Int32.ofNat xs.length)])[S.2.2.2.2.2]? = some (.int (Int32.ofNat xs.length)) := by rw [hn]; simp
            have oa : okA Γ sets (vs ++ [Value.int (Int32.ofNat xs.length)]) (x_new S (0, 0, 320)) := ⟨_, e0, okE_int (by show (0 : Int) ≤ _; omega) (by show _ ≤ (320 : Int); omega), fun q hq => by cases hq⟩
            have hS1 := (hS.up (.int (Int32.ofNat xs.length))).fact (q := (p.1, p.2.2.1.toNat, 5000, x_new S (0, 0, 320))) ⟨a, _, _, get_app k5, hΓ, hm, e0, by rw [if_pos rfl, hcl]⟩ oa
            refine h _ (S.1.1, E.1.1 + E.1.2.2.1, lv, .int (Int32.ofNat xs.length) :: t) fs F (pre_app hp _) (hS1.top (fun q hq => ?_) (fun b hb => ?_) ?_) hW hF
            · obtain ⟨q1, w, q2, q3⟩ := hl q hq
              exact ⟨q1.app _, w, get_app q2, q3⟩
            · rcases List.mem_cons.mp hb with rfl | hb
              · exact oa
              · exact (hc2 b (hin b hb)).app _
            · simp only [List.map_cons, List.cons.injEq]
              refine ⟨e0.symm, ?_⟩
              rw [q2]
              apply List.map_congr_left
              intro b hb
              obtain ⟨w, hw⟩ := (hc2 b (hin b hb)).get
              rw [hw, get_app hw]
        · cases hx
      · cases hx
    · cases hx
  · cases hx
end SxP
end
section
/-! SYMBOLIC RUNS, XVII: writes -/
noncomputable def ftOK (ty : FieldType) (v : AV) : Bool := match ty with
  | .int => k_is v.2.1 0
  | .boolean => k_is v.2.1 0 && decide (0 ≤ v.2.2.1 ∧ v.2.2.2.1 ≤ 1)
  | .long => v.2.1 == 1
  | .object _ => v.2.1 == 2
  | .array _ => v.2.1 == 2
  | _ => false
noncomputable def wrOK (fty : Nat → Nat → FieldType) (E : MI) (rd : RD) (v : AV) : Bool := match E.2.1 with
  | .putfield _ => rd.1 == 0 && rd.2.1 == E.2.2.2.1 && !(rd.2.1 == 99) && ftOK (fty E.2.2.2.1 E.2.2.2.2.1) v
  | .iastore => rd.1 == 1 && rd.2.1 == 0 && k_is v.2.1 0
  | .bastore => rd.1 == 1 && rd.2.1 == 1 && (k_is v.2.1 0 && decide (0 ≤ v.2.2.1 ∧ v.2.2.2.1 ≤ 1))
  | _ => false
noncomputable def isPut (E : MI) : Bool := match E.2.1 with
  | .putfield _ => true
  | _ => false
noncomputable def s_wrt (rid role l h : Nat) (i v : AV) (S : SS) : SS := (S.1, S.2.1, (if l = h then [(rid, role, l, v)] else []) ++ S.2.2.1.filter (fun q => !(q.2.1 == role && decide (l ≤ q.2.2.1) && decide (q.2.2.1 ≤ h))), (if l = h then [] else [(rid, role, i, v)]) ++ S.2.2.2.1.filter (fun q => !(q.2.1 == role)), S.2.2.2.2.1, S.2.2.2.2.2)
/-- a write to a place, or to one of several -/
noncomputable def x_w1 (sets : List (List Int)) (roles : List RD) (fty : Nat → Nat → FieldType) (ms : Mods) (S : SS) (E : MI) (p i v : AV) (l h : Nat) (r : List AV) : Option SS :=
  if p.2.1 = 2 ∧ h < 5000 ∧ l ≤ h then (match roles[p.2.2.1.toNat]? with
    | some rd => if wrOK fty E rd v = true ∧ h < rd.2.2.length ∧ ((rd.2.2.drop l).take (h - l + 1)).all (x_sub sets v) = true ∧ (ms.any fun q => q.1 == p.2.2.1.toNat && decide (q.2.1 ≤ l) && decide (h ≤ q.2.2)) = true then
        some (s_top (s_wrt p.1 p.2.2.1.toNat l h i v S) (E.1 + E.2.2.1) S.1.2.2.1 r) else none
    | none => none) else none
noncomputable def x_wr (sets : List (List Int)) (roles : List RD) (fty : Nat → Nat → FieldType) (ms : Mods) (S : SS) (E : MI) : Option SS :=
  if isPut E = true then (match S.1.2.2.2 with | v :: p :: r => x_w1 sets roles fty ms S E p p v E.2.2.2.2.1 E.2.2.2.2.1 r | _ => none)
  else (match S.1.2.2.2 with
    | v :: i :: p :: r => if k_is i.2.1 0 = true ∧ 0 ≤ i.2.2.1 then x_w1 sets roles fty ms S E p i v i.2.2.1.toNat i.2.2.2.1.toNat r else none
    | _ => none)
section SxQ
variable {Γ : Nat → Option Nat} {sets : List (List Int)} {roles : List RD} {ms : Mods} {MT : List MM} {ro : Nat → Option MC} {fty : Nat → Nat → FieldType} {dfl : Nat → List Value} {vs0 : List Value} {F0 : MH} {Q : Option Value → MH → Prop} {d : Nat} {S : SS}
theorem one_wr {E : MI} (h : (∃ i, E.2.1 = .putfield i) ∨ E.2.1 = .iastore ∨ E.2.1 = .bastore) {F : MH} {st : List Value} {q : MH × List Value} (hb : m_wr fty dfl F E st = some q) (lv : LVs) : m_one ro fty dfl E F lv st = some (q.1, E.1 + E.2.2.1, lv, q.2) := by
  obtain ⟨pc, i, len, a0, b0, z0⟩ := E
  simp only at h
  have h4 : m_alu i st = none := by rcases h with ⟨o, rfl⟩ | rfl | rfl <;> rfl
  have h5 : m_br (pc, i, len, a0, b0, z0) st = none := by rcases h with ⟨o, rfl⟩ | rfl | rfl <;> rfl
  have h6 : m_rd ro F (pc, i, len, a0, b0, z0) st = none := by rcases h with ⟨o, rfl⟩ | rfl | rfl <;> rfl
  unfold m_one
  have h1 : m_push (pc, i, len, a0, b0, z0) lv = none := by rcases h with ⟨o, rfl⟩ | rfl | rfl <;> rfl
  have h2 : m_cst (pc, i, len, a0, b0, z0) = none := by rcases h with ⟨o, rfl⟩ | rfl | rfl <;> rfl
  have h3 : m_store (pc, i, len, a0, b0, z0) lv st = none := by rcases h with ⟨o, rfl⟩ | rfl | rfl <;> rfl
  rw [h1, h2, h3]
  simp only
  rw [h4]
  simp only
  rw [h5]
  simp only
  rw [h6]
  simp only
  rw [hb]
theorem b01 {x : Int32} (h0 : 0 ≤ x.toInt) (h1 : x.toInt ≤ 1) : x = 0 ∨ x = 1 := by
  rcases (show x.toInt = 0 ∨ x.toInt = 1 by omega) with e | e
  · exact Or.inl (z_of x e)
  · exact Or.inr (z_of x e)
theorem ftOK_ok {ty : FieldType} {v : AV} {w : Value} (h : ftOK ty v = true) (ho : okE Γ sets v.2.1 v.2.2.1 v.2.2.2.1 w) : narrow ty w = w ∧ fits ty w = true := by
  unfold ftOK at h
  split at h
  · obtain ⟨x, rfl⟩ := (k_is_int ho h).1; exact ⟨rfl, rfl⟩
  · simp only [Bool.and_eq_true, decide_eq_true_eq] at h
    have n := ho.num (k_is_int ho h.1).2
    obtain ⟨x, rfl⟩ := (k_is_int ho h.1).1
    simp only [vz] at n
    rcases b01 (x := x) (by omega) (by omega) with rfl | rfl <;> exact ⟨by decide, by decide⟩
  · have hk : k_is v.2.1 1 = true := by simpa [k_is] using h
    obtain ⟨x, rfl⟩ := (k_is_long ho hk).1; exact ⟨rfl, rfl⟩
  · have hk : k_is v.2.1 2 = true := by simpa [k_is] using h
    obtain ⟨⟨x, rfl, -⟩, -⟩ := k_is_ref ho hk; exact ⟨rfl, rfl⟩
  · have hk : k_is v.2.1 2 = true := by simpa [k_is] using h
    obtain ⟨⟨x, rfl, -⟩, -⟩ := k_is_ref ho hk; exact ⟨rfl, rfl⟩
  · cases h
/-- a write, out of the cell -/
theorem wr_one {E : MI} {rd : RD} {c : MC} {F : MH} {a k : Nat} {w : Value} {v : AV} {x : Int32} (hG : GOK Γ roles) {r : Nat} (hr : Γ a = some r) (hrd : roles[r]? = some rd) (hok : wrOK fty E rd v = true) (hc : okCell Γ sets rd c) (hm : m_cell ro F a = some c) (hv : okE Γ sets v.2.1 v.2.2.1 v.2.2.2.1 w) (hlt : k < rd.2.2.length) (hk : if isPut E = true then k = E.2.2.2.2.1 else 0 ≤ x.toInt ∧ x.toInt.toNat = k) (lv : LVs) (t : List Value) :
    a < KB ∧ ∃ c', m_one ro fty dfl E F lv (if isPut E = true then w :: .ref a :: t else w :: .int x :: .ref a :: t) = some (F.set a c', E.1 + E.2.2.1, lv, t) ∧ cont c' = (cont c).set k w ∧ (okL Γ sets rd.2.2 (cont c') → okCell Γ sets rd c') := by
  obtain ⟨g1, g2, g3, g4⟩ := hG a r rd hr hrd
  obtain ⟨pc, i, len, a0, b0, z0⟩ := E
  unfold wrOK at hok
  simp only at hok
  have hx : x.toNatClampNeg = x.toInt.toNat := rfl
  split at hok
  · rename_i idx
    have hg : isPut (pc, Instr.putfield idx, len, a0, b0, z0) = true := rfl
    rw [if_pos hg] at hk ⊢
    simp only [Bool.and_eq_true, beq_iff_eq, Bool.not_eq_true', beq_eq_false_iff_ne, ne_eq] at hok
    obtain ⟨⟨⟨o1, o2⟩, o3⟩, o4⟩ := hok
    have hKB := g4 o1 o3
    rcases hc with ⟨e, ⟨fs, rfl⟩, hL⟩ | ⟨e, -⟩ | ⟨e, -⟩ | ⟨e, -⟩
    · have hF : F[a]? = some (.inl (rd.2.1, fs)) := by unfold m_cell at hm; rw [if_pos hKB] at hm; exact hm
      obtain ⟨n1, n2⟩ := ftOK_ok o4 hv
      simp only at hk
      have hl : b0 < fs.length := by have := hL.1; simp only [cont] at this; omega
      refine ⟨hKB, .inl (rd.2.1, fs.set b0 w), ?_, by simp only [cont, hk], fun h => Or.inl ⟨o1, ⟨_, rfl⟩, h⟩⟩
      refine one_wr (Or.inl ⟨idx, rfl⟩) ?_ lv (q := (F.set a (.inl (rd.2.1, fs.set b0 w)), t))
      simp only [m_wr, hF]
      rw [if_pos ⟨hKB, o2, hl, by rw [o2]; exact n1, by rw [o2]; exact n2⟩]
    · omega
    · omega
    · omega
  · have hg : isPut (pc, Instr.iastore, len, a0, b0, z0) = false := rfl
    rw [if_neg (by rw [hg]; decide)] at hk ⊢
    simp only [Bool.and_eq_true, beq_iff_eq] at hok
    obtain ⟨⟨o1, o2⟩, o3⟩ := hok
    have hKB := g3 o1
    obtain ⟨y, rfl⟩ := (k_is_int hv o3).1
    rcases hc with ⟨e, -⟩ | ⟨e, ⟨xs, rfl⟩, hL⟩ | ⟨e, -⟩ | ⟨e, -⟩
    · omega
    · have hF : F[a]? = some (.inr (.inl (rd.2.1, xs))) := by unfold m_cell at hm; rw [if_pos hKB] at hm; exact hm
      have hl : k < xs.length := by have := hL.1; simp only [cont, List.length_map] at this; omega
      refine ⟨hKB, .inr (.inl (rd.2.1, xs.set k y)), ?_, by simp only [cont, List.map_set], fun h => Or.inr (Or.inl ⟨o1, ⟨_, rfl⟩, h⟩)⟩
      refine one_wr (Or.inr (Or.inl rfl)) ?_ lv (q := (F.set a (.inr (.inl (rd.2.1, xs.set k y))), t))
      simp only [m_wr, hF]
      rw [if_pos ⟨hKB, o2, m_in_of hk.1 (by omega)⟩, hx, hk.2]
    · omega
    · omega
  · have hg : isPut (pc, Instr.bastore, len, a0, b0, z0) = false := rfl
    rw [if_neg (by rw [hg]; decide)] at hk ⊢
    simp only [Bool.and_eq_true, beq_iff_eq, decide_eq_true_eq] at hok
    obtain ⟨⟨o1, o2⟩, o3, o4⟩ := hok
    have hKB := g3 o1
    have n := hv.num (k_is_int hv o3).2
    obtain ⟨y, rfl⟩ := (k_is_int hv o3).1
    simp only [vz] at n
    have hy : vp_nar .boolean y = y := by rcases b01 (x := y) (by omega) (by omega) with rfl | rfl <;> decide
    rcases hc with ⟨e, -⟩ | ⟨e, ⟨xs, rfl⟩, hL⟩ | ⟨e, -⟩ | ⟨e, -⟩
    · omega
    · have hF : F[a]? = some (.inr (.inl (rd.2.1, xs))) := by unfold m_cell at hm; rw [if_pos hKB] at hm; exact hm
      have hl : k < xs.length := by have := hL.1; simp only [cont, List.length_map] at this; omega
      refine ⟨hKB, .inr (.inl (rd.2.1, xs.set k y)), ?_, by simp only [cont, List.map_set], fun h => Or.inr (Or.inl ⟨o1, ⟨_, rfl⟩, h⟩)⟩
      refine one_wr (Or.inr (Or.inr rfl)) ?_ lv (q := (F.set a (.inr (.inl (rd.2.1, xs.set k y))), t))
      simp only [m_wr, hF]
      rw [if_pos ⟨hKB, o2, m_in_of hk.1 (by omega)⟩, hx, hk.2, hy]
    · omega
    · omega
  · cases hok
theorem cell_set {F : MH} {a b : Nat} {c c' : MC} (ha : a < KB) (hc : m_cell ro F a = some c) : m_cell ro (F.set a c') b = if b = a then some c' else m_cell ro F b := by
  unfold m_cell at hc ⊢
  rw [if_pos ha] at hc
  have hl := (List.getElem?_eq_some_iff.mp hc).1
  by_cases hb : b = a
  · subst hb
    rw [if_pos rfl, if_pos ha, List.getElem?_set_self hl]
  · rw [if_neg hb]
    split
    · rw [List.getElem?_set_ne (Ne.symm hb)]
    · rfl
theorem g_w1 (hG : GOK Γ roles) {E : MI × Option FieldType} (hE : m_at MT S.1.1 S.1.2.1 = some E) {p i v : AV} {l h : Nat} {r : List AV} {S1 : SS} (hx : x_w1 sets roles fty ms S E.1 p i v l h r = some S1) (hin : ∀ a ∈ r, a ∈ S.1.2.2.2) (hpm : p ∈ S.1.2.2.2) (him : i ∈ S.1.2.2.2) (hvm : v ∈ S.1.2.2.2)
    (hop : ∀ vs cst, (∀ a ∈ s_av S, okA Γ sets vs a) → cst.map some = S.1.2.2.2.map (fun a => vs[a.1]?) → ∃ a w x t k, cst = (if isPut E.1 = true then w :: .ref a :: t else w :: .int x :: .ref a :: t) ∧ vs[p.1]? = some (.ref a) ∧ vs[v.1]? = some w ∧ t.map some = r.map (fun a => vs[a.1]?) ∧ l ≤ k ∧ k ≤ h ∧ (if isPut E.1 = true then k = E.1.2.2.2.2.1 else (0 ≤ x.toInt ∧ x.toInt.toNat = k) ∧ vs[i.1]? = some (.int x)) ∧ (isPut E.1 = true → l = h))
    (hgd : Good Γ sets roles ms MT ro fty dfl vs0 F0 Q d S1) : Good Γ sets roles ms MT ro fty dfl vs0 F0 Q d S := by
  intro vs f fs F hp hS hW hF
  obtain ⟨lv, cst, rfl, hl, hc1, hc2⟩ := hS.frame
  obtain ⟨a, w, x, t, k, rfl, q1, qv, q2, kl, kh, q3, q4⟩ := hop vs cst hS.1 hc1
  unfold x_w1 at hx
  split at hx
  · rename_i hp2
    split at hx
    · rename_i rd hrd
      split at hx
      · rename_i hok
        obtain ⟨o1, o2, o3, o4⟩ := hok
        cases hx
        obtain ⟨v0, e1, e2, -⟩ := hc2 p hpm
        obtain rfl : v0 = .ref a := Option.some.inj (e1.symm.trans q1)
        obtain ⟨⟨a', e3, hΓ⟩, -⟩ := k_is_ref e2 (by rw [hp2.1]; rfl)
        cases e3
        obtain ⟨c, hm, hcell⟩ := hW a _ rd hΓ hrd
        obtain ⟨w0, e4, e5, -⟩ := id (hc2 v hvm)
        obtain rfl : w0 = w := Option.some.inj (e4.symm.trans qv)
        have h3 : ¬ rd.1 = 3 := by
          intro e
          unfold wrOK at o1
          split at o1 <;> simp [e] at o1
        have hcl := okCell_get hcell h3
        obtain ⟨hKB, c', s1, s2, s3⟩ := wr_one (ro := ro) (dfl := dfl) (x := x) (k := k) hG hΓ hrd o1 hcell hm e5 (by omega) (by
          cases hq : isPut E.1 with
          | true => rw [hq] at q3; simpa using q3
          | false => rw [hq] at q3; simp at q3 ⊢; exact q3.1) lv t
        have hkey : ∀ j e, rd.2.2[j]? = some e → l ≤ j → j ≤ h → okE Γ sets e.1 e.2.1 e.2.2 w0 := by
          intro j e he j1 j2
          have hm2 : e ∈ (rd.2.2.drop l).take (h - l + 1) := by
            rw [List.mem_iff_getElem?]
            refine ⟨j - l, ?_⟩
            rw [List.getElem?_take, if_pos (by omega), List.getElem?_drop, show l + (j - l) = j by omega]
            exact he
          exact x_sub_ok (List.all_eq_true.mp o3 e hm2) e5
        have hL' : okL Γ sets rd.2.2 (cont c') := by
          rw [s2]
          refine ⟨by rw [List.length_set]; exact hcl.1, fun j e he => ?_⟩
          rw [List.getElem?_set]
          by_cases hj : k = j
          · subst hj
            have : k < (cont c).length := by rw [hcl.1]; omega
            rw [if_pos rfl, if_pos this]
            exact ⟨w0, rfl, hkey k e he kl kh⟩
          · rw [if_neg hj]
            exact hcl.2 j e he
        have hcell' := s3 hL'
        have hW' : WT Γ sets roles ro (F.set a c') := by
          intro b r2 rd2 hb hb2
          rw [cell_set hKB hm]
          by_cases hba : b = a
          · subst hba
            rw [if_pos rfl]
            rw [hΓ] at hb
            cases hb
            rw [hrd] at hb2
            cases hb2
            exact ⟨c', rfl, hcell'⟩
          · rw [if_neg hba]
            exact hW b r2 rd2 hb hb2
        have hlen : clen c' = clen c := by unfold clen; rw [s2, List.length_set]
        have hF' : FRm Γ ro ms F0 (F.set a c') := by
          intro b r2 j c0 c1 hb hj hb0 hb1
          rw [cell_set hKB hm] at hb1
          by_cases hba : b = a
          · subst hba
            rw [if_pos rfl] at hb1
            cases hb1
            rw [hΓ] at hb
            cases hb
            obtain ⟨f1, f2⟩ := hF b _ j c0 c hΓ hj hb0 hm
            refine ⟨?_, hlen.trans f2⟩
            rw [s2, List.getElem?_set_ne, f1]
            intro e
            subst e
            obtain ⟨q, hq, hq2⟩ := List.any_eq_true.mp o4
            simp only [Bool.and_eq_true, beq_iff_eq, decide_eq_true_eq] at hq2
            have : inM ms p.2.2.1.toNat k = true := List.any_eq_true.mpr ⟨q, hq, by simp only [Bool.and_eq_true, beq_iff_eq, decide_eq_true_eq]; omega⟩
            rw [this] at hj
            cases hj
          · rw [if_neg hba] at hb1
            exact hF b r2 j c0 c1 hb hj hb0 hb1
        refine TT.one hE s1 ?_
        refine hgd vs (S.1.1, E.1.1 + E.1.2.2.1, lv, t) fs (F.set a c') hp ?_ hW' hF'
        have hS' : okS Γ sets ro vs (s_wrt p.1 p.2.2.1.toNat l h i v S) (S.1.1, S.1.2.1, lv, (if isPut E.1 = true then w0 :: .ref a :: t else w0 :: .int x :: .ref a :: t)) fs (F.set a c') := by
          obtain ⟨h1, h2, h3, h4, h5, h6, h7⟩ := hS
          refine ⟨fun b hb => ?_, h2, h3, fun q hq => ?_, fun q hq => ?_, h6, h7⟩
          · simp only [s_av, s_wrt, List.map_append, List.flatMap_append, List.mem_append] at hb
            rcases hb with hb | hb | (hb | hb) | (hb | hb)
            · exact h1 b (List.mem_append_left _ hb)
            · exact h1 b (List.mem_append_right _ (List.mem_append_left _ hb))
            · split at hb
              · simp only [List.map_cons, List.map_nil, List.mem_cons, List.not_mem_nil, or_false] at hb
                subst hb
                exact hc2 _ hvm
              · simp at hb
            · obtain ⟨q, hq, rfl⟩ := List.mem_map.mp hb
              exact h1 _ (mem_fact ((List.mem_filter.mp hq).1))
            · split at hb
              · simp at hb
              · simp only [List.flatMap_cons, List.flatMap_nil, List.append_nil, List.mem_cons, List.not_mem_nil, or_false] at hb
                rcases hb with rfl | rfl
                · exact hc2 _ him
                · exact hc2 _ hvm
            · obtain ⟨q, hq, hq2⟩ := List.mem_flatMap.mp hb
              exact h1 _ (List.mem_append_right _ (List.mem_append_right _ (List.mem_append_right _ (List.mem_flatMap.mpr ⟨q, (List.mem_filter.mp hq).1, hq2⟩))))
          · rcases List.mem_append.mp hq with hq | hq
            · split at hq
              · rename_i hlh
                simp only [List.mem_cons, List.not_mem_nil, or_false] at hq
                subst hq
                have hkl : k = l := by omega
                refine ⟨a, c', w0, q1, hΓ, by rw [cell_set hKB hm, if_pos rfl], qv, ?_⟩
                simp only
                rw [if_neg (by omega), s2, ← hkl, List.getElem?_set_self (by rw [hcl.1]; omega)]
              · cases hq
            · obtain ⟨hq1, hq2⟩ := List.mem_filter.mp hq
              obtain ⟨b, cb, u, g1, g2, g3, g4, g5⟩ := h4 q hq1
              simp only [Bool.not_eq_true', Bool.and_eq_false_iff, beq_eq_false_iff_ne, ne_eq, decide_eq_false_iff_not] at hq2
              by_cases hba : b = a
              · subst hba
                have g2' := Option.some.inj (hΓ.symm.trans g2)
                cases hm.symm.trans g3
                refine ⟨b, c', u, g1, g2, by rw [cell_set hKB hm, if_pos rfl], g4, ?_⟩
                split at g5
                · rename_i e5000
                  rw [if_pos e5000, hlen]; exact g5
                · rename_i e5000
                  rw [if_neg e5000, s2, List.getElem?_set_ne (by
                    rcases hq2 with (z | z) | z
                    · exact absurd g2'.symm z
                    · omega
                    · omega)]
                  exact g5
              · exact ⟨b, cb, u, g1, g2, by rw [cell_set hKB hm, if_neg hba]; exact g3, g4, g5⟩
          · rcases List.mem_append.mp hq with hq | hq
            · split at hq
              · cases hq
              · rename_i hlh
                simp only [List.mem_cons, List.not_mem_nil, or_false] at hq
                subst hq
                have hnp : isPut E.1 = false := by
                  cases hq : isPut E.1 with
                  | true => exact absurd (q4 hq) hlh
                  | false => rfl
                rw [if_neg (by rw [hnp]; decide)] at q3
                refine ⟨a, c', x, w0, q1, hΓ, by rw [cell_set hKB hm, if_pos rfl], q3.2, q3.1.1, qv, ?_⟩
                rw [s2, q3.1.2, List.getElem?_set_self (by rw [hcl.1]; omega)]
            · obtain ⟨hq1, hq2⟩ := List.mem_filter.mp hq
              obtain ⟨b, cb, y, u, g1, g2, g3, g4, g5, g6, g7⟩ := h5 q hq1
              simp only [Bool.not_eq_true', beq_eq_false_iff_ne, ne_eq] at hq2
              have hba : ¬ b = a := by
                intro e
                subst e
                rw [hΓ] at g2
                exact hq2 (Option.some.inj g2).symm
              exact ⟨b, cb, y, u, g1, g2, by rw [cell_set hKB hm, if_neg hba]; exact g3, g4, g5, g6, g7⟩
        exact hS'.top hl (fun b hb => hc2 b (hin b hb)) q2
      · cases hx
    · cases hx
  · cases hx
theorem g_wr (hG : GOK Γ roles) {E : MI × Option FieldType} (hE : m_at MT S.1.1 S.1.2.1 = some E) {S1 : SS} (hx : x_wr sets roles fty ms S E.1 = some S1) (hgd : Good Γ sets roles ms MT ro fty dfl vs0 F0 Q d S1) : Good Γ sets roles ms MT ro fty dfl vs0 F0 Q d S := by
  unfold x_wr at hx
  split at hx
  · rename_i hput
    split at hx
    · rename_i v p r hst
      have hv : v ∈ S.1.2.2.2 := by rw [hst]; simp
      have hp : p ∈ S.1.2.2.2 := by rw [hst]; simp
      have hx0 := hx
      unfold x_w1 at hx0
      split at hx0
      · rename_i hp2
        refine g_w1 hG hE hx (fun a ha => by rw [hst]; simp [ha]) hp hp hv (fun vs cst hA hc => ?_) hgd
        rw [hst] at hc
        obtain ⟨w, t, rfl, e1, e2⟩ := stk1 hc
        obtain ⟨u, t, rfl, e3, e4⟩ := stk1 e2
        obtain ⟨u', e5, e6, -⟩ := hA p (mem_top hp)
        obtain rfl : u' = u := Option.some.inj (e5.symm.trans e3)
        obtain ⟨⟨a', e7, -⟩, -⟩ := k_is_ref e6 (by rw [hp2.1]; rfl)
        subst e7
        refine ⟨a', w, 0, t, E.1.2.2.2.2.1, by rw [if_pos hput], e3, e1, e4, Nat.le_refl _, Nat.le_refl _, by rw [if_pos hput], fun _ => rfl⟩
      · cases hx0
    · cases hx
  · rename_i hput
    split at hx
    · rename_i v i p r hst
      split at hx
      · rename_i hi
        have hv : v ∈ S.1.2.2.2 := by rw [hst]; simp
        have hp : p ∈ S.1.2.2.2 := by rw [hst]; simp
        have hi2 : i ∈ S.1.2.2.2 := by rw [hst]; simp
        have hx0 := hx
        unfold x_w1 at hx0
        split at hx0
        · rename_i hp2
          refine g_w1 hG hE hx (fun a ha => by rw [hst]; simp [ha]) hp hi2 hv (fun vs cst hA hc => ?_) hgd
          rw [hst] at hc
          obtain ⟨w, t, rfl, e1, e2⟩ := stk1 hc
          obtain ⟨y, t, rfl, e3, e4⟩ := stk1 e2
          obtain ⟨u, t, rfl, f3, f4⟩ := stk1 e4
          obtain ⟨u', e5, e6, -⟩ := hA p (mem_top hp)
          obtain rfl : u' = u := Option.some.inj (e5.symm.trans f3)
          obtain ⟨⟨a', e7, -⟩, -⟩ := k_is_ref e6 (by rw [hp2.1]; rfl)
          subst e7
          obtain ⟨y', e5, e6, -⟩ := hA i (mem_top hi2)
          obtain rfl : y' = y := Option.some.inj (e5.symm.trans e3)
          have n := e6.num (k_is_int e6 hi.1).2
          obtain ⟨z, e7⟩ := (k_is_int e6 hi.1).1
          subst e7
          simp only [vz] at n
          refine ⟨a', w, z, t, z.toInt.toNat, by rw [if_neg hput], f3, e1, f4, by omega, by omega, by rw [if_neg hput]; exact ⟨⟨by omega, rfl⟩, e3⟩, fun e => absurd e hput⟩
        · cases hx0
      · cases hx
    · cases hx
end SxQ
end
section
/-! SYMBOLIC RUNS, XVIII: calls and returns -/
noncomputable def catA (a : AV) : Nat := if a.2.1 = 1 then 2 else 1
noncomputable def x_args : Nat → List AV → List (Nat × AV)
  | _, [] => []
  | i, a :: t => (i, a) :: x_args (i + catA a) t
noncomputable def x_rcv (roles : List RD) (E : MI) (as : List AV) : Bool := match E.2.1 with
  | .invokestatic _ => true
  | .invokespecial _ => (match as with | p :: _ => decide (1 ≤ E.2.2.2.2.1) && (p.2.1 == 2 && (match roles[p.2.2.1.toNat]? with | some rd => rd.1 == 0 && !(rd.2.1 == 99) | none => false)) | _ => false)
  | .invokevirtual _ => (match as with | p :: _ => decide (1 ≤ E.2.2.2.2.1) && (p.2.1 == 2 && (match roles[p.2.2.1.toNat]? with | some rd => rd.1 == 0 && decide ((rd.2.1 : Int) = E.2.2.2.2.2) | none => false)) | _ => false)
  | _ => false
noncomputable def x_call (MT : List MM) (roles : List RD) (S : SS) (E : MI) : Option SS :=
  if E.2.2.2.2.1 ≤ S.1.2.2.2.length ∧ ((S.1.2.2.2.drop E.2.2.2.2.1).map catA).sum ≤ 8 ∧ ¬ E.2.2.2.1 = 9999 ∧ ¬ E.2.2.2.1 = 9998 ∧ x_rcv roles E (S.1.2.2.2.take E.2.2.2.2.1).reverse = true then
    (match MT[E.2.2.2.1]? with
    | some M => if 0 < E.2.2.2.1 ∧ ((S.1.2.2.2.take E.2.2.2.2.1).reverse.map catA).sum ≤ M.2.2.1 then
        some ((E.2.2.2.1, 0, x_args 0 (S.1.2.2.2.take E.2.2.2.2.1).reverse, []), (S.1.1, S.1.2.1, S.1.2.2.1, S.1.2.2.2.drop E.2.2.2.2.1) :: S.2.1, S.2.2) else none
    | none => none) else none
noncomputable def rtOK (ty : FieldType) (v : AV) : Bool := ftOK ty v || (match ty with
  | .byte => k_is v.2.1 0 && decide (-128 ≤ v.2.2.1 ∧ v.2.2.2.1 ≤ 127)
  | .char => k_is v.2.1 0 && decide (0 ≤ v.2.2.1 ∧ v.2.2.2.1 ≤ 65535)
  | _ => false)
/-- what is returned: none: no return -/
noncomputable def x_ret (rt : Option FieldType) (i : Instr) (st : List AV) : Option (Option AV) := match i with
  | .ireturn => (match st with | [a] => (match rt with | some ty => if k_is a.2.1 0 = true ∧ rtOK ty a = true then some (some a) else none | none => none) | _ => none)
  | .lreturn => (match st with | [a] => if a.2.1 = 1 ∧ rt = some .long then some (some a) else none | _ => none)
  | .return_ => (match st with | [] => if rt = none then some none else none | _ => none)
  | _ => none
noncomputable def x_pop (S : SS) (r : Option AV) : Option SS := match S.2.1 with
  | g :: gs => some ((g.1, g.2.1 + 3, g.2.2.1, r.toList ++ g.2.2.2), gs, S.2.2)
  | [] => none
section SxR
variable {Γ : Nat → Option Nat} {sets : List (List Int)} {roles : List RD} {ms : Mods} {MT : List MM} {ro : Nat → Option MC} {fty : Nat → Nat → FieldType} {dfl : Nat → List Value} {vs0 : List Value} {F0 : MH} {Q : Option Value → MH → Prop} {d : Nat} {S : SS}
theorem cat_one {vs : List Value} {a : AV} {v : Value} (h : okA Γ sets vs a) (hv : vs[a.1]? = some v) : v.category = catA a := by
  unfold catA
  split
  · rename_i e; exact (okA_cat h hv).mpr e
  · rename_i e; exact okA_cat1 h hv e
theorem cat_all {vs : List Value} : ∀ {as : List AV} {ws : List Value}, ws.map some = as.map (fun a => vs[a.1]?) → (∀ a ∈ as, okA Γ sets vs a) → ws.map (fun v => v.category) = as.map catA
  | [], [], _, _ => rfl
  | a :: as, [], h, _ => by simp at h
  | [], w :: ws, h, _ => by simp at h
  | a :: as, w :: ws, h, ho => by
    simp only [List.map_cons, List.cons.injEq] at h ⊢
    exact ⟨cat_one (ho a List.mem_cons_self) h.1.symm, cat_all h.2 (fun b hb => ho b (List.mem_cons_of_mem _ hb))⟩
theorem args_ok {vs : List Value} : ∀ {as : List AV} {ws : List Value} {i : Nat}, ws.map some = as.map (fun a => vs[a.1]?) → (∀ a ∈ as, okA Γ sets vs a) → ∀ q ∈ x_args i as, okA Γ sets vs q.2 ∧ i ≤ q.1 ∧ ∃ v, vs[q.2.1]? = some v ∧ m_get (lv_args i ws) q.1 = some v
  | [], _, _, _, _, q, hq => by simp [x_args] at hq
  | a :: as, [], _, h, _, _, _ => by simp at h
  | a :: as, w :: ws, i, h, ho, q, hq => by
    simp only [List.map_cons, List.cons.injEq] at h
    simp only [x_args, List.mem_cons] at hq
    have hc := cat_one (ho a List.mem_cons_self) h.1.symm
    rcases hq with rfl | hq
    · exact ⟨ho a List.mem_cons_self, Nat.le_refl _, w, h.1.symm, by simp [m_get, lv_args]⟩
    · obtain ⟨h1, h2, v, h3, h4⟩ := args_ok (i := i + catA a) h.2 (fun b hb => ho b (List.mem_cons_of_mem _ hb)) q hq
      have hp : 1 ≤ catA a := by unfold catA; split <;> omega
      refine ⟨h1, by omega, v, h3, ?_⟩
      simp only [m_get, lv_args, hc, List.find?_cons] at h4 ⊢
      have hne : (i == q.1) = false := by simp; omega
      rw [hne]
      have he : (if catA a = 2 then i + 2 else i + 1) = i + catA a := by unfold catA; split <;> simp
      rw [he]; exact h4
theorem one_inv {E : MI} (h : (∃ i, E.2.1 = .invokestatic i) ∨ (∃ i, E.2.1 = .invokespecial i) ∨ (∃ i, E.2.1 = .invokevirtual i)) (F : MH) (lv : LVs) (st : List Value) (rt : Option FieldType) : m_one ro fty dfl E F lv st = none ∧ m_ret rt E st = none := by
  obtain ⟨pc, i, len, a0, b0, z0⟩ := E
  simp only at h
  rcases h with ⟨o, rfl⟩ | ⟨o, rfl⟩ | ⟨o, rfl⟩ <;> exact ⟨rfl, rfl⟩
theorem rcv_inv {E : MI} {as : List AV} (h : x_rcv roles E as = true) : (∃ i, E.2.1 = .invokestatic i) ∨ (∃ i, E.2.1 = .invokespecial i) ∨ (∃ i, E.2.1 = .invokevirtual i) := by
  unfold x_rcv at h
  split at h
  · rename_i i e; exact Or.inl ⟨i, e⟩
  · rename_i i e; exact Or.inr (Or.inl ⟨i, e⟩)
  · rename_i i e; exact Or.inr (Or.inr ⟨i, e⟩)
  · cases h
theorem inv_ok (hG : GOK Γ roles) {E : MI} {vs : List Value} {F : MH} (hW : WT Γ sets roles ro F) {st : List AV} {cst : List Value} (hr : x_rcv roles E (st.take E.2.2.2.2.1).reverse = true) (hc : cst.map some = st.map (fun a => vs[a.1]?)) (ho : ∀ a ∈ st, okA Γ sets vs a) (hn : E.2.2.2.2.1 ≤ st.length) (h8 : ((st.drop E.2.2.2.2.1).map catA).sum ≤ 8) :
    m_inv ro F E cst = some (E.2.2.2.1, (cst.take E.2.2.2.2.1).reverse, cst.drop E.2.2.2.2.1) := by
  obtain ⟨pc, i, len, a0, n, z0⟩ := E
  simp only at hr hn h8 ⊢
  have hlen : cst.length = st.length := by have := congrArg List.length hc; simpa using this
  have hd : ((cst.drop n).map (fun v => v.category)).sum ≤ 8 := by
    rw [cat_all (as := st.drop n) (by rw [List.map_drop, List.map_drop, hc]) (fun a ha => ho a (List.mem_of_mem_drop ha))]; exact h8
  have ht : (cst.take n).reverse.map some = (st.take n).reverse.map (fun a => vs[a.1]?) := by
    rw [List.map_reverse, List.map_reverse, List.map_take, List.map_take, hc]
  have hta : ∀ a ∈ (st.take n).reverse, okA Γ sets vs a := fun a ha => ho a (List.mem_of_mem_take (List.mem_reverse.mp ha))
  unfold x_rcv at hr
  simp only at hr
  split at hr
  · simp only [m_inv]
    rw [if_pos ⟨by omega, hd⟩]
  · split at hr
    · rename_i p as' has
      simp only [Bool.and_eq_true, decide_eq_true_eq, beq_iff_eq] at hr
      obtain ⟨r1, r2, r3⟩ := hr
      rw [has] at ht hta
      obtain ⟨v, t, e1, e2, e3⟩ := stk1 ht
      obtain ⟨v', e4, e5, -⟩ := hta p List.mem_cons_self
      obtain rfl : v' = v := Option.some.inj (e4.symm.trans e2)
      obtain ⟨⟨a, e6, hΓ⟩, -⟩ := k_is_ref e5 (by rw [r2]; rfl)
      subst e6
      split at r3
      · rename_i rd hrd
        simp only [Bool.and_eq_true, beq_iff_eq, Bool.not_eq_true', beq_eq_false_iff_ne, ne_eq] at r3
        have hKB := (hG a _ rd hΓ hrd).2.2.2 r3.1 r3.2
        simp only [m_inv, m_iv]
        rw [if_pos ⟨r1, by omega, hd⟩, e1]
        simp only
        rw [if_pos (by simpa using hKB)]
      · cases r3
    · cases hr
  · split at hr
    · rename_i p as' has
      simp only [Bool.and_eq_true, decide_eq_true_eq, beq_iff_eq] at hr
      obtain ⟨r1, r2, r3⟩ := hr
      rw [has] at ht hta
      obtain ⟨v, t, e1, e2, e3⟩ := stk1 ht
      obtain ⟨v', e4, e5, -⟩ := hta p List.mem_cons_self
      obtain rfl : v' = v := Option.some.inj (e4.symm.trans e2)
      obtain ⟨⟨a, e6, hΓ⟩, -⟩ := k_is_ref e5 (by rw [r2]; rfl)
      subst e6
      split at r3
      · rename_i rd hrd
        simp only [Bool.and_eq_true, beq_iff_eq, decide_eq_true_eq] at r3
        obtain ⟨c, hm, hcell⟩ := hW a _ rd hΓ hrd
        have hrc : ∃ fs, c = .inl (rd.2.1, fs) := by
          rcases hcell with ⟨-, h, -⟩ | ⟨e, -⟩ | ⟨e, -⟩ | ⟨e, -⟩
          · exact h
          all_goals (have := r3.1; omega)
        obtain ⟨fs, rfl⟩ := hrc
        simp only [m_inv, m_iv]
        rw [if_pos ⟨r1, by omega, hd⟩, e1]
        simp only
        rw [if_pos (by simp only [m_rc, hm]; simpa using r3.2)]
      · cases r3
    · cases hr
  · cases hr
theorem g_call (hG : GOK Γ roles) {E : MI × Option FieldType} (hE : m_at MT S.1.1 S.1.2.1 = some E) {S1 : SS} (hx : x_call MT roles S E.1 = some S1) (h : Good Γ sets roles ms MT ro fty dfl vs0 F0 Q d S1) : Good Γ sets roles ms MT ro fty dfl vs0 F0 Q (d + 1) S := by
  intro vs f fs F hp hS hW hF
  obtain ⟨lv, cst, rfl, hl, hc1, hc2⟩ := hS.frame
  unfold x_call at hx
  split at hx
  · rename_i hc
    obtain ⟨n1, n2, n3, n4, n5⟩ := hc
    split at hx
    · rename_i M hM
      split at hx
      · rename_i hr
        cases hx
        have hinv := inv_ok (ro := ro) hG hW n5 hc1 hc2 n1 n2
        obtain ⟨o1, o2⟩ := one_inv (ro := ro) (fty := fty) (dfl := dfl) (rcv_inv n5) F lv cst E.2
        have ht : (cst.take E.1.2.2.2.2.1).reverse.map some = (S.1.2.2.2.take E.1.2.2.2.2.1).reverse.map (fun a => vs[a.1]?) := by
          rw [List.map_reverse, List.map_reverse, List.map_take, List.map_take, hc1]
        have hta : ∀ a ∈ (S.1.2.2.2.take E.1.2.2.2.2.1).reverse, okA Γ sets vs a := fun a ha => hc2 a (List.mem_of_mem_take (List.mem_reverse.mp ha))
        have hroom : m_room MT E.1.2.2.2.1 (cst.take E.1.2.2.2.2.1).reverse = true := by
          unfold m_room
          rw [hM]
          simp only [decide_eq_true_eq]
          refine ⟨hr.1, ?_⟩
          rw [cat_all ht hta]; exact hr.2
        refine TT.call hE o1 o2 hinv n3 n4 hroom ?_
        have hk := h vs (E.1.2.2.2.1, 0, lv_args 0 (cst.take E.1.2.2.2.2.1).reverse, []) ((S.1.1, S.1.2.1, lv, cst.drop E.1.2.2.2.2.1) :: fs) F hp ?_ hW hF
        · exact hk
        · obtain ⟨h1, h2, h3, h4, h5, h6, h7⟩ := hS
          have hA := fun q hq => args_ok (i := 0) ht hta q hq
          refine ⟨fun b hb => ?_, ⟨rfl, rfl, fun q hq => (hA q hq).2.2, rfl⟩, ⟨⟨rfl, rfl, fun q hq => (hl q hq).2, ?_⟩, h3⟩, h4, h5, h6, h7⟩
          · simp only [s_av, s_avF, List.append_nil, List.flatMap_cons, List.mem_append] at hb
            rcases hb with hb | ((hb | hb) | hb) | hb
            · obtain ⟨q, hq, rfl⟩ := List.mem_map.mp hb
              exact (hA q hq).1
            · exact h1 b (List.mem_append_left _ (List.mem_append_left _ hb))
            · exact hc2 b (List.mem_of_mem_drop hb)
            · exact h1 b (List.mem_append_right _ (List.mem_append_left _ hb))
            · exact h1 b (List.mem_append_right _ (List.mem_append_right _ (List.mem_append.mpr hb)))
          · rw [List.map_drop, List.map_drop, hc1]
      · cases hx
    · cases hx
  · cases hx
theorem rtOK_ok {ty : FieldType} {v : AV} {w : Value} (h : rtOK ty v = true) (hk : k_is v.2.1 0 = true) (ho : okE Γ sets v.2.1 v.2.2.1 v.2.2.2.1 w) : narrow ty w = w := by
  unfold rtOK at h
  simp only [Bool.or_eq_true] at h
  rcases h with h | h
  · exact (ftOK_ok h ho).1
  · have n := ho.num (k_is_int ho hk).2
    obtain ⟨x, rfl⟩ := (k_is_int ho hk).1
    simp only [vz] at n
    split at h
    · simp only [Bool.and_eq_true, decide_eq_true_eq] at h
      have h1 := (z_i2b x).2.2 (by omega) (by omega)
      have h2 : x.toInt8.toInt32 = x := Int32.toInt_inj.mp h1
      show Value.int x.toInt8.toInt32 = Value.int x
      rw [h2]
    · simp only [Bool.and_eq_true, decide_eq_true_eq] at h
      have h1 := (z_i2c x).2.2 (by omega) (by omega)
      have h2 : (x.toUInt32 % 65536).toInt32 = x := Int32.toInt_inj.mp h1
      show Value.int (x.toUInt32 % 65536).toInt32 = Value.int x
      rw [h2]
    · cases h
theorem ret_one {E : MI} {rt : Option FieldType} {vs : List Value} {st : List AV} {cst : List Value} {r : Option AV} (hx : x_ret rt E.2.1 st = some r) (hc : cst.map some = st.map (fun a => vs[a.1]?)) (ho : ∀ a ∈ st, okA Γ sets vs a) (F : MH) (lv : LVs) :
    m_one ro fty dfl E F lv cst = none ∧ ∃ v, m_ret rt E cst = some v ∧ v.toList.map some = r.toList.map (fun a => vs[a.1]?) ∧ ∀ a ∈ r.toList, a ∈ st := by
  obtain ⟨pc, i, len, a0, n, z0⟩ := E
  unfold x_ret at hx
  simp only at hx
  split at hx
  · split at hx
    · rename_i a
      split at hx
      · rename_i ty
        split at hx
        · rename_i hk
          cases hx
          obtain ⟨v, t, rfl, e2, e3⟩ := stk1 hc
          obtain ⟨v', e4, e5, -⟩ := ho a List.mem_cons_self
          obtain rfl : v' = v := Option.some.inj (e4.symm.trans e2)
          have hn := rtOK_ok hk.2 hk.1 e5
          obtain ⟨x, rfl⟩ := (k_is_int e5 hk.1).1
          have : t = [] := by simpa using e3
          subst this
          refine ⟨rfl, some (.int x), ?_, by simp [e2], by simp⟩
          simp only [m_ret]
          rw [if_pos hn]
        · cases hx
      · cases hx
    · cases hx
  · split at hx
    · rename_i a
      split at hx
      · rename_i hk
        cases hx
        obtain ⟨v, t, rfl, e2, e3⟩ := stk1 hc
        obtain ⟨v', e4, e5, -⟩ := ho a List.mem_cons_self
        obtain rfl : v' = v := Option.some.inj (e4.symm.trans e2)
        obtain ⟨x, rfl⟩ := (k_is_long e5 (by rw [hk.1]; rfl)).1
        have : t = [] := by simpa using e3
        subst this
        refine ⟨rfl, some (.long x), ?_, by simp [e2], by simp⟩
        simp only [m_ret]
        rw [if_pos hk.2]
      · cases hx
    · cases hx
  · split at hx
    · split at hx
      · rename_i hk
        cases hx
        have : cst = [] := by simpa using hc
        subst this
        refine ⟨rfl, none, ?_, rfl, by simp⟩
        simp only [m_ret]
        rw [if_pos hk]
      · cases hx
    · cases hx
  · cases hx
/-- a return to a frame below -/
theorem g_ret {E : MI × Option FieldType} (hE : m_at MT S.1.1 S.1.2.1 = some E) {r : Option AV} {S1 : SS} (hx : x_ret E.2 E.1.2.1 S.1.2.2.2 = some r) (hp1 : x_pop S r = some S1) (h : Good Γ sets roles ms MT ro fty dfl vs0 F0 Q (d + 1) S1) : Good Γ sets roles ms MT ro fty dfl vs0 F0 Q d S := by
  intro vs f fs F hp hS hW hF
  obtain ⟨lv, cst, rfl, hl, hc1, hc2⟩ := hS.frame
  obtain ⟨o1, v, o2, o3, o4⟩ := ret_one (ro := ro) (fty := fty) (dfl := dfl) hx hc1 hc2 F lv
  unfold x_pop at hp1
  split at hp1
  · rename_i g gs hg
    cases hp1
    obtain ⟨h1, h2, h3, h4, h5, h6, h7⟩ := hS
    rw [hg] at h3
    cases fs with
    | nil => exact h3.elim
    | cons cf cfs =>
      obtain ⟨⟨k1, k2, k3, k4⟩, k5⟩ := h3
      refine TT.ret hE o1 o2 ?_
      have hk := h vs (cf.1, cf.2.1 + 3, cf.2.2.1, v.toList ++ cf.2.2.2) cfs F hp ?_ hW hF
      · exact hk
      · refine ⟨fun b hb => ?_, ⟨k1, by show g.2.1 + 3 = _; rw [k2], k3, ?_⟩, k5, h4, h5, h6, h7⟩
        · simp only [s_av, s_avF, List.mem_append] at hb
          rcases hb with (hb | hb | hb) | hb | hb
          · exact h1 b (List.mem_append_right _ (List.mem_append_left _ (by rw [hg]; exact List.mem_append_left _ (List.mem_append_left _ hb))))
          · exact hc2 b (o4 b hb)
          · exact h1 b (List.mem_append_right _ (List.mem_append_left _ (by rw [hg]; exact List.mem_append_left _ (List.mem_append_right _ hb))))
          · exact h1 b (List.mem_append_right _ (List.mem_append_left _ (by rw [hg]; exact List.mem_append_right _ hb)))
          · exact h1 b (List.mem_append_right _ (List.mem_append_right _ (List.mem_append.mpr hb)))
        · simp only [List.map_append]
          rw [o3, k4]
  · cases hp1
/-- the last return -/
theorem g_end {E : MI × Option FieldType} (hE : m_at MT S.1.1 S.1.2.1 = some E) {r : Option AV} (hx : x_ret E.2 E.1.2.1 S.1.2.2.2 = some r) (hnil : S.2.1 = [])
    (h : ∀ vs f F v, (∃ t, vs = vs0 ++ t) → okS Γ sets ro vs S f [] F → WT Γ sets roles ro F → FRm Γ ro ms F0 F → v.toList.map some = r.toList.map (fun a => vs[a.1]?) → (∀ a ∈ r.toList, okA Γ sets vs a) → Q v F) : Good Γ sets roles ms MT ro fty dfl vs0 F0 Q d S := by
  intro vs f fs F hp hS hW hF
  have hfs : fs = [] := by
    have := hS.2.2.1
    rw [hnil] at this
    cases fs with
    | nil => rfl
    | cons a b => exact this.elim
  subst hfs
  have hS0 := hS
  obtain ⟨lv, cst, rfl, hl, hc1, hc2⟩ := hS.frame
  obtain ⟨o1, v, o2, o3, o4⟩ := ret_one (ro := ro) (fty := fty) (dfl := dfl) hx hc1 hc2 F lv
  exact TT.ret hE o1 o2 (h vs _ F v hp hS0 hW hF o3 (fun a ha => hc2 a (o4 a ha)))
end SxR
end
section
/-! SYMBOLIC RUNS, XIX: one step of a state, all kinds together; the greater of two; values told apart -/
noncomputable def x_df (S : SS) (E : MI) : Option (List SS) :=
  if ((m_b32 E.2.1).isSome || (m_d32 E.2.1).isSome) = true then (match S.1.2.2.2 with
    | y :: x :: r => if k_is x.2.1 0 = true ∧ k_is y.2.1 0 = true ∧ ((m_b32 E.2.1).isSome = true ∨ ((m_d32 E.2.1).isSome = true ∧ (0 < y.2.2.1 ∨ y.2.2.2.1 < 0))) then
        some [s_top (s_sum (x_bin S E.2.1 x y).2 (s_up S)) (E.1 + E.2.2.1) S.1.2.2.1 ((x_bin S E.2.1 x y).1 :: r)] else none
    | _ => none)
  else if ((m_b64 E.2.1).isSome || (m_d64 E.2.1).isSome) = true then (match S.1.2.2.2 with
    | y :: x :: r => if k_is x.2.1 1 = true ∧ k_is y.2.1 1 = true ∧ ((m_b64 E.2.1).isSome = true ∨ ((m_d64 E.2.1).isSome = true ∧ (0 < y.2.2.1 ∨ y.2.2.2.1 < 0))) then
        some [s_top (s_sum [] (s_up S)) (E.1 + E.2.2.1) S.1.2.2.1 ((S.2.2.2.2.2, 1, (l_iv E.2.1 x y).1, (l_iv E.2.1 x y).2, l_rl E.2.1 x y) :: r)] else none
    | _ => none)
  else match x_stk E.2.1 S.1.2.2.2 with
    | some st1 => some [s_top S (E.1 + E.2.2.1) S.1.2.2.1 st1]
    | none => (match S.1.2.2.2 with
      | x :: r => if k_is x.2.1 0 = true then (match x_un E.2.1 x S.2.2.2.2.2 with
          | some a => some [s_top (s_sum [] (s_up S)) (E.1 + E.2.2.1) S.1.2.2.1 (a :: r)]
          | none => none) else none
      | _ => none)
noncomputable def x_st2 (sets : List (List Int)) (roles : List RD) (fty : Nat → Nat → FieldType) (MT : List MM) (ms : Mods) (S : SS) (E : MI) : Option (List SS) := match E.2.1 with
  | .goto off => (match m_to E.1 off with | some t => some [s_top S t S.1.2.2.1 S.1.2.2.2] | none => none)
  | .if_icmp c off => (match m_to E.1 off, S.1.2.2.2 with
    | some t, y :: x :: r => if k_is x.2.1 0 = true ∧ k_is y.2.1 0 = true then (if (isC x && isC y) = true then some [s_top S (if cz c x.2.2.1 y.2.2.1 = true then t else E.1 + 3) S.1.2.2.1 r] else some (x_cmp S c x y t (E.1 + 3) r)) else none
    | _, _ => none)
  | .ifCond c off => (match m_to E.1 off, S.1.2.2.2 with
    | some t, x :: r => if k_is x.2.1 0 = true then (if isC x = true then some [s_top S (if cz c x.2.2.1 0 = true then t else E.1 + 3) S.1.2.2.1 r] else some (x_cmp (s_up S) c x (S.2.2.2.2.2, 0, 0, 0, []) t (E.1 + 3) r)) else none
    | _, _ => none)
  | .lcmp => (match m_at MT S.1.1 (E.1 + E.2.2.1), S.1.2.2.2 with
    | some E2, y :: x :: r => (match E2.1.2.1 with
      | .ifCond c off => (match m_to E2.1.1 off with
        | some t => if k_is x.2.1 1 = true ∧ k_is y.2.1 1 = true then some (x_cmp S c x y t (E2.1.1 + 3) r) else none
        | none => none)
      | _ => none)
    | _, _ => none)
  | .iinc i c => (match x_get S.1.2.2.1 i with
    | some a => if k_is a.2.1 0 = true ∧ -2147483648 ≤ c ∧ c ≤ 2147483647 then some [s_top (s_up S) (E.1 + E.2.2.1) (x_put1 S.1.2.2.1 i (x_ic a c S.2.2.2.2.2)) S.1.2.2.2] else none
    | none => none)
  | .tableswitch _ _ _ _ => (match S.1.2.2.2 with | x :: r => if k_is x.2.1 0 = true then x_sw S E x r else none | _ => none)
  | .lookupswitch _ _ => (match S.1.2.2.2 with | x :: r => if k_is x.2.1 0 = true then x_sw S E x r else none | _ => none)
  | .getfield _ => (x_rd roles S E).map fun s => [s]
  | .iaload => (x_rd roles S E).map fun s => [s]
  | .baload => (x_rd roles S E).map fun s => [s]
  | .aaload => (x_rd roles S E).map fun s => [s]
  | .arraylength => (x_al roles S E).map fun s => [s]
  | .putfield _ => (x_wr sets roles fty ms S E).map fun s => [s]
  | .iastore => (x_wr sets roles fty ms S E).map fun s => [s]
  | .bastore => (x_wr sets roles fty ms S E).map fun s => [s]
  | .ishr => (match S.1.2.2.2 with
    | y :: x :: r => if k_is x.2.1 0 = true ∧ y.2.1 = 0 ∧ y.2.2.1 = 0 ∧ y.2.2.2.1 = 0 then some [s_top S (E.1 + E.2.2.1) S.1.2.2.1 (x :: r)] else x_df S E
    | _ => none)
  | .invokestatic _ => none
  | .invokevirtual _ => none
  | .invokespecial _ => none
  | .ireturn => none
  | .lreturn => none
  | .return_ => none
  | _ => x_df S E
noncomputable def x_stp (Γ : Nat → Option Nat) (sets : List (List Int)) (roles : List RD) (fty : Nat → Nat → FieldType) (MT : List MM) (ms : Mods) (S : SS) (E : MI) : Option (List SS) :=
  match l_ix E.2.1 with
  | some ic => (match x_get S.1.2.2.1 ic.1 with
    | some a => if k_is a.2.1 ic.2 = true then some [s_top S (E.1 + E.2.2.1) S.1.2.2.1 (a :: S.1.2.2.2)] else none
    | none => none)
  | none => match c_val E with
    | some v => (match c_av Γ S.2.2.2.2.2 v with | some a => some [s_top (s_up S) (E.1 + E.2.2.1) S.1.2.2.1 (a :: S.1.2.2.2)] | none => none)
    | none => match st_ix E.2.1 with
      | some ic => (match S.1.2.2.2 with
        | a :: r => if k_is a.2.1 ic.2 = true then some [s_top S (E.1 + E.2.2.1) (if ic.2 = 1 then x_put2 S.1.2.2.1 ic.1 a else x_put1 S.1.2.2.1 ic.1 a) r] else none
        | _ => none)
      | none => x_st2 sets roles fty MT ms S E
noncomputable def x_max (S : SS) (E : MI) : Option SS :=
  match E.2.1, S.1.2.2.2 with
  | .invokestatic _, y :: x :: r => if E.2.2.2.1 = 9998 ∧ E.2.2.2.2.1 = 2 ∧ k_is x.2.1 0 = true ∧ k_is y.2.1 0 = true ∧ (r.map catA).sum ≤ 8 then
      some (s_top (s_up S) (S.1.2.1 + 3) S.1.2.2.1 ((S.2.2.2.2.2, 0, max x.2.2.1 y.2.2.1, max x.2.2.2.1 y.2.2.2.1, []) :: r)) else none
  | _, _ => none
noncomputable def x_cs (sets : List (List Int)) (a : AV) : List Int := if a.2.1 = 0 then (List.range (a.2.2.2.1 - a.2.2.1 + 1).toNat).map (fun (i : Nat) => a.2.2.1 + (i : Int)) else (sets.getD (a.2.1 - 10) []).filter (fun c => decide (a.2.2.1 ≤ c ∧ c ≤ a.2.2.2.1))
section SxS
variable {Γ : Nat → Option Nat} {sets : List (List Int)} {roles : List RD} {ms : Mods} {MT : List MM} {ro : Nat → Option MC} {fty : Nat → Nat → FieldType} {dfl : Nat → List Value} {vs0 : List Value} {F0 : MH} {Q : Option Value → MH → Prop} {d : Nat} {S : SS}
theorem g_df {E : MI × Option FieldType} (hE : m_at MT S.1.1 S.1.2.1 = some E) {L : List SS} (hx : x_df S E.1 = some L) (h : ∀ S' ∈ L, Good Γ sets roles ms MT ro fty dfl vs0 F0 Q d S') : Good Γ sets roles ms MT ro fty dfl vs0 F0 Q d S := by
  unfold x_df at hx
  split at hx
  · split at hx
    · rename_i y x r hst
      split at hx
      · rename_i hk
        cases hx
        exact g_bin hE hst hk.1 hk.2.1 hk.2.2 (h _ List.mem_cons_self)
      · cases hx
    · cases hx
  · split at hx
    · split at hx
      · rename_i y x r hst
        split at hx
        · rename_i hk
          cases hx
          exact g_long hE hst hk.1 hk.2.1 hk.2.2 (h _ List.mem_cons_self)
        · cases hx
      · cases hx
    · split at hx
      · rename_i st1 hs
        cases hx
        exact g_stk hE hs (h _ List.mem_cons_self)
      · split at hx
        · rename_i x r hst
          split at hx
          · rename_i hk
            split at hx
            · rename_i a ha
              cases hx
              exact g_un hE hst hk ha (h _ List.mem_cons_self)
            · cases hx
          · cases hx
        · cases hx
theorem isC_z {x : AV} {a : Int32} (h : isC x = true) (ho : okE Γ sets x.2.1 x.2.2.1 x.2.2.2.1 (.int a)) : a.toInt = x.2.2.1 := by
  simp only [isC, Bool.and_eq_true, beq_iff_eq] at h
  have n := ho.num (by omega)
  simp only [vz] at n
  omega
theorem g_icmpC {E : MI × Option FieldType} {c : ClassFile.Cond} {off : Int} {t : Nat} {x y : AV} {r : List AV} (hE : m_at MT S.1.1 S.1.2.1 = some E) (hi : E.1.2.1 = .if_icmp c off) (ht : m_to E.1.1 off = some t) (hst : S.1.2.2.2 = y :: x :: r) (kx : k_is x.2.1 0 = true) (ky : k_is y.2.1 0 = true) (cx : isC x = true) (cy : isC y = true)
    (h : Good Γ sets roles ms MT ro fty dfl vs0 F0 Q d (s_top S (if cz c x.2.2.1 y.2.2.1 = true then t else E.1.1 + 3) S.1.2.2.1 r)) : Good Γ sets roles ms MT ro fty dfl vs0 F0 Q d S := by
  intro vs f fs F hp hS hW hF
  obtain ⟨lv, cst, rfl, hl, hc1, hc2⟩ := hS.frame
  have ox := hc2 x (by rw [hst]; simp)
  have oy := hc2 y (by rw [hst]; simp)
  rw [hst] at hc1
  obtain ⟨w, t1, rfl, q2, q3⟩ := stk1 hc1
  obtain ⟨v, t2, rfl, q5, q6⟩ := stk1 q3
  obtain ⟨v', p1, p2, -⟩ := id ox
  obtain ⟨w', p3, p4, -⟩ := id oy
  obtain rfl : v' = v := Option.some.inj (p1.symm.trans q5)
  obtain rfl : w' = w := Option.some.inj (p3.symm.trans q2)
  obtain ⟨a, rfl⟩ := (k_is_int p2 kx).1
  obtain ⟨b, rfl⟩ := (k_is_int p4 ky).1
  refine TT.one hE (one_br (Or.inr (Or.inr (Or.inl ⟨c, off, hi⟩))) (q := (if cz c x.2.2.1 y.2.2.1 = true then t else E.1.1 + 3, t2)) (by unfold m_br; rw [hi]; simp only; rw [m_if_of ht, cz_cmp, isC_z cx p2, isC_z cy p4]) F lv) ?_
  exact h vs (S.1.1, _, lv, t2) fs F hp (hS.top hl (fun b hb => hc2 b (by rw [hst]; simp [hb])) q6) hW hF
theorem g_ifC {E : MI × Option FieldType} {c : ClassFile.Cond} {off : Int} {t : Nat} {x : AV} {r : List AV} (hE : m_at MT S.1.1 S.1.2.1 = some E) (hi : E.1.2.1 = .ifCond c off) (ht : m_to E.1.1 off = some t) (hst : S.1.2.2.2 = x :: r) (kx : k_is x.2.1 0 = true) (cx : isC x = true)
    (h : Good Γ sets roles ms MT ro fty dfl vs0 F0 Q d (s_top S (if cz c x.2.2.1 0 = true then t else E.1.1 + 3) S.1.2.2.1 r)) : Good Γ sets roles ms MT ro fty dfl vs0 F0 Q d S := by
  intro vs f fs F hp hS hW hF
  obtain ⟨lv, cst, rfl, hl, hc1, hc2⟩ := hS.frame
  have ox := hc2 x (by rw [hst]; simp)
  rw [hst] at hc1
  obtain ⟨v, t2, rfl, q5, q6⟩ := stk1 hc1
  obtain ⟨v', p1, p2, -⟩ := id ox
  obtain rfl : v' = v := Option.some.inj (p1.symm.trans q5)
  obtain ⟨a, rfl⟩ := (k_is_int p2 kx).1
  refine TT.one hE (one_br (Or.inr (Or.inl ⟨c, off, hi⟩)) (q := (if cz c x.2.2.1 0 = true then t else E.1.1 + 3, t2)) (by unfold m_br; rw [hi]; simp only; rw [m_if_of ht, cz_cmp, isC_z cx p2, Int32.toInt_zero]) F lv) ?_
  exact h vs (S.1.1, _, lv, t2) fs F hp (hS.top hl (fun b hb => hc2 b (by rw [hst]; simp [hb])) q6) hW hF
theorem map_one {o : Option SS} {L : List SS} (h : (o.map fun s => [s]) = some L) : ∃ s, o = some s ∧ L = [s] := by
  cases o with
  | none => cases h
  | some s => exact ⟨s, rfl, by simpa using h.symm⟩
theorem g_st2 (hG : GOK Γ roles) {E : MI × Option FieldType} (hE : m_at MT S.1.1 S.1.2.1 = some E) {L : List SS} (hx : x_st2 sets roles fty MT ms S E.1 = some L) (h : ∀ S' ∈ L, Good Γ sets roles ms MT ro fty dfl vs0 F0 Q d S') : Good Γ sets roles ms MT ro fty dfl vs0 F0 Q d S := by
  unfold x_st2 at hx
  split at hx
  · rename_i off hi
    split at hx
    · rename_i t ht
      cases hx
      exact g_goto hE hi ht (h _ List.mem_cons_self)
    · cases hx
  · rename_i c off hi
    split at hx
    · rename_i t y x r ht hst
      split at hx
      · rename_i hk
        split at hx
        · rename_i hc
          cases hx
          simp only [Bool.and_eq_true] at hc
          exact g_icmpC hE hi ht hst hk.1 hk.2 hc.1 hc.2 (h _ List.mem_cons_self)
        · cases hx
          exact g_icmp hE hi ht hst hk.1 hk.2 h
      · cases hx
    · cases hx
  · rename_i c off hi
    split at hx
    · rename_i t x r ht hst
      split at hx
      · rename_i hk
        split at hx
        · rename_i hc
          cases hx
          exact g_ifC hE hi ht hst hk hc (h _ List.mem_cons_self)
        · cases hx
          exact g_if hE hi ht hst hk h
      · cases hx
    · cases hx
  · rename_i hi
    split at hx
    · rename_i E2 y x r hE2 hst
      split at hx
      · rename_i c off hi2
        split at hx
        · rename_i t ht
          split at hx
          · rename_i hk
            cases hx
            exact g_lcmp hE hi hE2 hi2 ht hst hk.1 hk.2 h
          · cases hx
        · cases hx
      · cases hx
    · cases hx
  · rename_i i c hi
    split at hx
    · rename_i a ha
      split at hx
      · rename_i hk
        cases hx
        exact g_iinc hE hi hk.2 ha hk.1 (h _ List.mem_cons_self)
      · cases hx
    · cases hx
  · split at hx
    · rename_i x r hst
      split at hx
      · rename_i hk; exact g_sw hE hst hk hx h
      · cases hx
    · cases hx
  · split at hx
    · rename_i x r hst
      split at hx
      · rename_i hk; exact g_sw hE hst hk hx h
      · cases hx
    · cases hx
  · obtain ⟨s, e1, rfl⟩ := map_one hx; exact g_rd hG hE e1 (h _ List.mem_cons_self)
  · obtain ⟨s, e1, rfl⟩ := map_one hx; exact g_rd hG hE e1 (h _ List.mem_cons_self)
  · obtain ⟨s, e1, rfl⟩ := map_one hx; exact g_rd hG hE e1 (h _ List.mem_cons_self)
  · obtain ⟨s, e1, rfl⟩ := map_one hx; exact g_rd hG hE e1 (h _ List.mem_cons_self)
  · obtain ⟨s, e1, rfl⟩ := map_one hx; exact g_al hG hE e1 (h _ List.mem_cons_self)
  · obtain ⟨s, e1, rfl⟩ := map_one hx; exact g_wr hG hE e1 (h _ List.mem_cons_self)
  · obtain ⟨s, e1, rfl⟩ := map_one hx; exact g_wr hG hE e1 (h _ List.mem_cons_self)
  · obtain ⟨s, e1, rfl⟩ := map_one hx; exact g_wr hG hE e1 (h _ List.mem_cons_self)
  · rename_i hi
    split at hx
    · rename_i y x r hst
      split at hx
      · rename_i hk
        cases hx
        exact g_shr0 hE hi hst hk.1 hk.2 (h _ List.mem_cons_self)
      · exact g_df hE hx h
    · cases hx
  · cases hx
  · cases hx
  · cases hx
  · cases hx
  · cases hx
  · cases hx
  · exact g_df hE hx h
theorem g_stp (hG : GOK Γ roles) {E : MI × Option FieldType} (hE : m_at MT S.1.1 S.1.2.1 = some E) {L : List SS} (hx : x_stp Γ sets roles fty MT ms S E.1 = some L) (h : ∀ S' ∈ L, Good Γ sets roles ms MT ro fty dfl vs0 F0 Q d S') : Good Γ sets roles ms MT ro fty dfl vs0 F0 Q d S := by
  unfold x_stp at hx
  split at hx
  · rename_i ic hi
    split at hx
    · rename_i a ha
      split at hx
      · rename_i hk
        cases hx
        exact g_load hE hi ha hk (h _ List.mem_cons_self)
      · cases hx
    · cases hx
  · split at hx
    · rename_i v hv
      split at hx
      · rename_i a ha
        cases hx
        exact g_const hE hv ha (h _ List.mem_cons_self)
      · cases hx
    · split at hx
      · rename_i ic hi
        split at hx
        · rename_i a r hst
          split at hx
          · rename_i hk
            cases hx
            exact g_store hE hi hst hk (h _ List.mem_cons_self)
          · cases hx
        · cases hx
      · exact g_st2 hG hE hx h
theorem g_max {E : MI × Option FieldType} (hE : m_at MT S.1.1 S.1.2.1 = some E) {S1 : SS} (hx : x_max S E.1 = some S1) (h : Good Γ sets roles ms MT ro fty dfl vs0 F0 Q d S1) : Good Γ sets roles ms MT ro fty dfl vs0 F0 Q d S := by
  intro vs f fs F hp hS hW hF
  obtain ⟨lv, cst, rfl, hl, hc1, hc2⟩ := hS.frame
  unfold x_max at hx
  split at hx
  · rename_i o y x r hi hst
    split at hx
    · rename_i hk
      cases hx
      obtain ⟨k1, k2, k3, k4, k5⟩ := hk
      have hst' := hst
      rw [hst] at hc1
      obtain ⟨w, t, rfl, e1, e2⟩ := stk1 hc1
      obtain ⟨v, t, rfl, e3, e4⟩ := stk1 e2
      have hym : y ∈ S.1.2.2.2 := by rw [hst]; simp
      have hxm : x ∈ S.1.2.2.2 := by rw [hst]; simp
      have hr : ∀ a ∈ r, a ∈ S.1.2.2.2 := fun a ha => by rw [hst]; simp [ha]
      obtain ⟨w', f1, f2, -⟩ := hc2 y hym
      obtain rfl : w' = w := Option.some.inj (f1.symm.trans e1)
      obtain ⟨v', f3, f4, -⟩ := hc2 x hxm
      obtain rfl : v' = v := Option.some.inj (f3.symm.trans e3)
      have n1 := f2.num (k_is_int f2 k4).2
      have n2 := f4.num (k_is_int f4 k3).2
      obtain ⟨b, rfl⟩ := (k_is_int f2 k4).1
      obtain ⟨a, rfl⟩ := (k_is_int f4 k3).1
      simp only [vz] at n1 n2
      obtain ⟨o1, o2⟩ := one_inv (ro := ro) (fty := fty) (dfl := dfl) (Or.inl ⟨o, hi⟩) F lv (.int b :: .int a :: t) E.2
      have hd : (t.map (fun v => v.category)).sum ≤ 8 := by
        rw [cat_all e4 (fun a ha => hc2 a (hr a ha))]; exact k5
      have hinv : m_inv ro F E.1 (.int b :: .int a :: t) = some (9998, [.int a, .int b], t) := by
        obtain ⟨⟨pc, i, len, a0, n, z0⟩, rt⟩ := E
        simp only at hi k1 k2
        subst hi
        subst k1
        subst k2
        simp only [m_inv]
        rw [if_pos ⟨by simp, by simpa using hd⟩]
        rfl
      refine TT.maxi hE o1 o2 hinv rfl rfl ?_
      have hn := hS.2.2.2.2.2.2
      have hz : (if a < b then b else a).toInt = max a.toInt b.toInt := by
        by_cases hab : a < b
        · rw [if_pos hab]; have := Int32.lt_iff_toInt_lt.mp hab; omega
        · rw [if_neg hab]; have hge : ¬ a.toInt < b.toInt := fun q => hab (Int32.lt_iff_toInt_lt.mpr q); omega
      refine h (vs ++ [.int (if a < b then b else a)]) (S.1.1, S.1.2.1 + 3, lv, .int (if a < b then b else a) :: t) fs F (pre_app hp _) ((hS.up _).top (fun q hq => ?_) (fun c hc => ?_) ?_) hW hF
      · obtain ⟨q1, w, q2, q3⟩ := hl q hq
        exact ⟨q1.app _, w, get_app q2, q3⟩
      · rcases List.mem_cons.mp hc with rfl | hc
        · refine ⟨.int (if a < b then b else a), by simp only; rw [hn]; simp, ?_, fun q hq => by cases hq⟩
          simp only [okE, if_pos, vz]
          refine ⟨⟨_, rfl⟩, ?_, ?_⟩ <;> rw [hz] <;> omega
        · exact (hc2 c (hr c hc)).app _
      · simp only [List.map_cons, List.cons.injEq]
        refine ⟨by rw [hn]; simp, ?_⟩
        rw [e4]
        apply List.map_congr_left
        intro b hb
        obtain ⟨w, hw⟩ := (hc2 b (hr b hb)).get
        rw [hw, get_app hw]
    · cases hx
  · cases hx
/-- a value of few that it may be: each for itself -/
theorem g_spl {a : AV} (ha : a ∈ s_av S) (hk : k_is a.2.1 0 = true) (h : ∀ c ∈ x_cs sets a, Good Γ sets roles ms MT ro fty dfl vs0 F0 Q d (s_map (a_cl a.1 c c) S)) : Good Γ sets roles ms MT ro fty dfl vs0 F0 Q d S := by
  intro vs f fs F hp hS hW hF
  obtain ⟨v, h1, h2, -⟩ := hS.1 a ha
  have n := h2.num (k_is_int h2 hk).2
  have hm : vz v ∈ x_cs sets a := by
    unfold x_cs
    split
    · rename_i h0
      refine List.mem_map.mpr ⟨(vz v - a.2.2.1).toNat, List.mem_range.mpr (by omega), by omega⟩
    · rename_i h0
      have h10 : 10 ≤ a.2.1 := by simp only [k_is, if_pos] at hk; simp at hk; omega
      unfold okE at h2
      rw [if_neg h0, if_neg (by omega), if_neg (by omega), if_pos h10] at h2
      exact List.mem_filter.mpr ⟨h2.2.2.2, by simpa using n⟩
  exact h _ hm vs f fs F hp (hS.cl h1 (Int.le_refl _) (Int.le_refl _)) hW hF
end SxS
end
section
/-! SYMBOLIC RUNS, XX: nodes: what is told of a place of the code -/
/-- method, pc, depth, stage; symbols, locals, stack, facts; facts on places that are symbols, sums, where each symbol is found (0 local, 1 stack, 2 fact, 3 ghost), ghosts; rank, what may change, new symbols of the end, where they are found (0 the result, 1 a fact); the result, facts of the end -/
abbrev ND : Type := (Nat × Nat × Nat × Nat) × (List AV × (List (Nat × Nat)) × List Nat × (List (Nat × Nat × Nat × Nat))) × ((List (Nat × Nat × Nat × Nat)) × (List (Nat × Nat × Nat)) × (List (Nat × Nat × Nat)) × (List (Nat × Nat))) × ((Int × List (Int × Nat)) × Mods × List AV × (List (Nat × Nat × Nat))) × (Option Nat × (List (Nat × Nat × Nat × Nat)) × List (List AV × (List (Nat × Nat × Nat)) × Option Nat × (List (Nat × Nat × Nat × Nat))))
noncomputable def ND.mi (N : ND) : Nat := N.1.1
noncomputable def ND.pc (N : ND) : Nat := N.1.2.1
noncomputable def ND.dep (N : ND) : Nat := N.1.2.2.1
noncomputable def ND.stg (N : ND) : Nat := N.1.2.2.2
noncomputable def ND.pa (N : ND) : List AV := N.2.1.1
noncomputable def ND.lc (N : ND) : List (Nat × Nat) := N.2.1.2.1
noncomputable def ND.st (N : ND) : List Nat := N.2.1.2.2.1
noncomputable def ND.fa (N : ND) : List (Nat × Nat × Nat × Nat) := N.2.1.2.2.2
noncomputable def ND.ea (N : ND) : List (Nat × Nat × Nat × Nat) := N.2.2.1.1
noncomputable def ND.su (N : ND) : List (Nat × Nat × Nat) := N.2.2.1.2.1
noncomputable def ND.bs (N : ND) : List (Nat × Nat × Nat) := N.2.2.1.2.2.1
noncomputable def ND.gh (N : ND) : List (Nat × Nat) := N.2.2.1.2.2.2
noncomputable def ND.rk (N : ND) : Int × List (Int × Nat) := N.2.2.2.1.1
noncomputable def ND.ms (N : ND) : Mods := N.2.2.2.1.2.1
noncomputable def ND.xp (N : ND) : List AV := N.2.2.2.1.2.2.1
noncomputable def ND.xb (N : ND) : List (Nat × Nat × Nat) := N.2.2.2.1.2.2.2
noncomputable def ND.xr (N : ND) : Option Nat := N.2.2.2.2.1
noncomputable def ND.xf (N : ND) : List (Nat × Nat × Nat × Nat) := N.2.2.2.2.2.1
/-- the same node with another end -/
noncomputable def ND.wi (N : ND) (a : List AV × (List (Nat × Nat × Nat)) × Option Nat × (List (Nat × Nat × Nat × Nat))) : ND := (N.1, N.2.1, N.2.2.1, (N.2.2.2.1.1, N.2.2.2.1.2.1, a.1, a.2.1), (a.2.2.1, a.2.2.2, []))
/-- a node with each of its ends -/
noncomputable def ND.alts (N : ND) : List ND := N :: N.2.2.2.2.2.2.map N.wi
theorem ND.alt_pa {N M : ND} (h : M ∈ N.alts) : M.pa = N.pa := by
  rcases List.mem_cons.mp h with rfl | h
  · rfl
  · obtain ⟨a, -, rfl⟩ := List.mem_map.mp h
    rfl
theorem ND.alt_ms {N M : ND} (h : M ∈ N.alts) : M.ms = N.ms := by
  rcases List.mem_cons.mp h with rfl | h
  · rfl
  · obtain ⟨a, -, rfl⟩ := List.mem_map.mp h
    rfl
noncomputable def a0 : AV := (0, 0, 0, 0, [])
noncomputable def n_av (N : ND) (j : Nat) : AV := N.pa.getD j a0
noncomputable def n_st (N : ND) : SS := ((N.mi, N.pc, N.lc.map (fun q => (q.1, n_av N q.2)), N.st.map (n_av N)), [], N.fa.map (fun q => (q.1, q.2.1, q.2.2.1, n_av N q.2.2.2)), N.ea.map (fun q => (q.1, q.2.1, n_av N q.2.2.1, n_av N q.2.2.2)), N.su, N.pa.length)
noncomputable def n_wf (N : ND) : Bool := N.pa.map (fun a => a.1) == List.range N.pa.length && (N.lc.all (fun q => decide (q.2 < N.pa.length)) && (N.st.all (fun j => decide (j < N.pa.length)) && (N.fa.all (fun q => decide (q.2.2.2 < N.pa.length)) && (N.ea.all (fun q => decide (q.2.2.1 < N.pa.length ∧ q.2.2.2 < N.pa.length)) && N.xp.map (fun a => a.1) == (List.range N.xp.length).map (fun i => N.pa.length + i)))))
noncomputable def okN (Γ : Nat → Option Nat) (sets : List (List Int)) (ro : Nat → Option MC) (N : ND) (vs : List Value) (f : CF) (F : MH) : Prop := okS Γ sets ro vs (n_st N) f [] F ∧ ∀ a ∈ N.pa, okA Γ sets vs a
noncomputable def n_post (Γ : Nat → Option Nat) (sets : List (List Int)) (roles : List RD) (ro : Nat → Option MC) (N : ND) (vs : List Value) (F0 : MH) (v : Option Value) (F1 : MH) : Prop :=
  WT Γ sets roles ro F1 ∧ FRm Γ ro N.ms F0 F1 ∧ ∃ t, t.length = N.xp.length ∧ v.toList.map some = N.xr.toList.map (fun j => (vs ++ t)[j]?) ∧ (∀ a ∈ N.xp, okA Γ sets (vs ++ t) a) ∧ ∀ q ∈ N.xf, okFa Γ ro F1 (vs ++ t) (q.1, q.2.1, q.2.2.1, (q.2.2.2, 0, 0, 0, []))
/-- one of the ends of a node -/
noncomputable def n_posts (Γ : Nat → Option Nat) (sets : List (List Int)) (roles : List RD) (ro : Nat → Option MC) (N : ND) (vs : List Value) (F0 : MH) (v : Option Value) (F1 : MH) : Prop := ∃ M ∈ N.alts, n_post Γ sets roles ro M vs F0 v F1
noncomputable def n_wfA (N : ND) : Bool := N.alts.all n_wf
theorem wfA_wf {N : ND} (h : n_wfA N = true) : n_wf N = true := List.all_eq_true.mp h N List.mem_cons_self
/-- a fact, also one that only the role tells -/
noncomputable def x_mat (roles : List RD) (S : SS) (p : AV) (k : Nat) : Option (SS × AV) :=
  if p.2.1 = 2 then (match S.2.2.1.find? (fun q => q.1 == p.1 && q.2.2.1 == k) with
    | some q => some (S, q.2.2.2)
    | none => (match roles[p.2.2.1.toNat]? with
      | some rd => if rd.1 = 3 then (if k = 5000 then some (s_fact (p.1, p.2.2.1.toNat, k, x_new S (0, 0, 320)) (s_up S), x_new S (0, 0, 320)) else none)
        else if k = 5000 then none else (match rd.2.2[k]? with
        | some e => some (s_fact (p.1, p.2.2.1.toNat, k, x_new S e) (s_up S), x_new S e)
        | none => none)
      | none => none)) else none
noncomputable def x_b1 (roles : List RD) (N : ND) (S : SS) (m : List AV) (b : Nat × Nat × Nat) : Option (SS × AV) :=
  if b.1 = 0 then (x_get S.1.2.2.1 b.2.1).map fun a => (S, a)
  else if b.1 = 1 then (S.1.2.2.2[b.2.1]?).map fun a => (S, a)
  else if b.1 = 2 then (match m[b.2.1]? with | some p => x_mat roles S p b.2.2 | none => none)
  else (match N.gh.find? (fun q => q.1 == b.2.1) with | some q => (N.pa[q.2]?).map fun a => (S, a) | none => none)
noncomputable def x_bs (roles : List RD) (N : ND) : List (Nat × Nat × Nat) → SS → List AV → Option (SS × List AV)
  | [], S, m => some (S, m)
  | b :: t, S, m => match x_b1 roles N S m b with | some q => x_bs roles N t q.1 (m ++ [q.2]) | none => none
/-- values m are as symbol a asks -/
noncomputable def x_ent (sets : List (List Int)) (m : List AV) (a : AV) : Bool := match m[a.1]? with
  | some b => x_sub sets b (a.2.1, a.2.2.1, a.2.2.2.1) && a.2.2.2.2.all (fun r => match m[r.1]? with
    | some c => !(b.2.1 == 2) && (!(c.2.1 == 2) && decide (r.2.1 ≤ (a_diff b c).1 ∧ (a_diff b c).2 ≤ r.2.2))
    | none => false)
  | none => false
noncomputable def x_has (S : SS) (m : List AV) (q : Nat × Nat × Nat × Nat) : Bool := match m[q.1]?, m[q.2.2.2]? with
  | some p, some b => S.2.2.1.any (fun g => g.1 == p.1 && (g.2.1 == q.2.1 && (g.2.2.1 == q.2.2.1 && x_eq g.2.2.2 b)))
  | _, _ => false
noncomputable def x_hasE (S : SS) (m : List AV) (q : Nat × Nat × Nat × Nat) : Bool := match m[q.1]?, m[q.2.2.1]?, m[q.2.2.2]? with
  | some p, some i, some b => S.2.2.2.1.any (fun g => g.1 == p.1 && (g.2.1 == q.2.1 && (x_eq g.2.2.1 i && x_eq g.2.2.2 b)))
  | _, _, _ => false
noncomputable def x_hasS (S : SS) (m : List AV) (q : Nat × Nat × Nat) : Bool := match m[q.1]?, m[q.2.1]?, m[q.2.2]? with
  | some a, some b, some c => S.2.2.2.2.1.any (fun g => g.1 == a.1 && ((g.2.1 == b.1 || (!(b.2.1 == 2) && b.2.2.2.2.any (fun r => r.1 == g.2.1 && decide (r.2.1 = 0 ∧ r.2.2 = 0)))) && g.2.2 == c.1))
  | _, _, _ => false
noncomputable def x_eqs (m : List AV) : List AV → List Nat → Bool
  | [], [] => true
  | a :: s, j :: t => (match m[j]? with | some b => x_eq a b | none => false) && x_eqs m s t
  | _, _ => false
noncomputable def x_mt (sets : List (List Int)) (M : ND) (S : SS) (m : List AV) : Bool :=
  decide (M.mi = S.1.1 ∧ M.pc = S.1.2.1 ∧ m.length = M.pa.length) && (M.pa.all (x_ent sets m) && (M.lc.all (fun q => match x_get S.1.2.2.1 q.1, m[q.2]? with | some a, some b => x_eq a b | _, _ => false) && (x_eqs m S.1.2.2.2 M.st && (M.fa.all (x_has S m) && (M.ea.all (x_hasE S m) && M.su.all (x_hasS S m))))))
section SxT
variable {Γ : Nat → Option Nat} {sets : List (List Int)} {roles : List RD} {ms : Mods} {MT : List MM} {ro : Nat → Option MC} {fty : Nat → Nat → FieldType} {dfl : Nat → List Value} {vs0 : List Value} {F0 : MH} {Q : Option Value → MH → Prop} {d : Nat} {S : SS}
theorem mat_ok {p a : AV} {k : Nat} {S1 : SS} {vs : List Value} {f : CF} {fs : List CF} {F : MH} (hx : x_mat roles S p k = some (S1, a)) (hS : okS Γ sets ro vs S f fs F) (hW : WT Γ sets roles ro F) (hp : okA Γ sets vs p) : ∃ t, okS Γ sets ro (vs ++ t) S1 f fs F ∧ okA Γ sets (vs ++ t) a ∧ S1.1 = S.1 ∧ S1.2.1 = S.2.1 := by
  unfold x_mat at hx
  split at hx
  · rename_i hk
    split at hx
    · rename_i q hq
      cases hx
      exact ⟨[], by rw [List.append_nil]; exact hS, by rw [List.append_nil]; exact hS.1 _ (mem_fact (List.mem_of_find?_eq_some hq)), rfl, rfl⟩
    · obtain ⟨u, e1, e2, -⟩ := hp
      obtain ⟨⟨b, rfl, hΓ⟩, -⟩ := k_is_ref e2 (by rw [hk]; rfl)
      have hn := hS.2.2.2.2.2.2
      split at hx
      · rename_i rd hrd
        obtain ⟨c, hm, hcell⟩ := hW b _ rd hΓ hrd
        split at hx
        · rename_i h3
          split at hx
          · rename_i h5
            cases hx
            have e0 : (vs ++ [Value.int (Int32.ofNat (clen c))])[S.2.2.2.2.2]? = some (Value.int (Int32.ofNat (clen c))) := by rw [hn]; simp
            have hl : clen c ≤ 320 := by
              rcases hcell with ⟨e, -⟩ | ⟨e, -⟩ | ⟨e, -⟩ | ⟨-, ⟨xs, rfl, hxs⟩, -⟩
              · omega
              · omega
              · omega
              · simpa [clen, cont] using hxs
            have oa : okA Γ sets (vs ++ [Value.int (Int32.ofNat (clen c))]) (x_new S (0, 0, 320)) := by
              refine ⟨_, e0, ?_, fun q hq => by cases hq⟩
              have hz : (Int32.ofNat (clen c)).toInt = (clen c : Int) := nI_toInt (Nat.lt_of_le_of_lt hl (by decide))
              refine ⟨⟨_, rfl⟩, ?_, ?_⟩ <;> simp only [x_new, vz] <;> rw [hz] <;> omega
            refine ⟨[Value.int (Int32.ofNat (clen c))], (hS.up _).fact ⟨b, c, _, get_app e1, hΓ, hm, e0, by simp only [h5, if_pos]⟩ oa, oa, rfl, rfl⟩
          · cases hx
        · rename_i h3
          split at hx
          · cases hx
          · rename_i h5
            split at hx
            · rename_i e he
              cases hx
              obtain ⟨v, g1, g2⟩ := (okCell_get hcell h3).2 k e he
              have e0 : (vs ++ [v])[S.2.2.2.2.2]? = some v := by rw [hn]; simp
              have oa : okA Γ sets (vs ++ [v]) (x_new S e) := ⟨v, e0, g2, fun q hq => by cases hq⟩
              exact ⟨[v], (hS.up v).fact ⟨b, c, v, get_app e1, hΓ, hm, e0, by simp only; rw [if_neg h5]; exact g1⟩ oa, oa, rfl, rfl⟩
            · cases hx
      · cases hx
  · cases hx
theorem b1_ok {N : ND} {m : List AV} {b : Nat × Nat × Nat} {q : SS × AV} {vs : List Value} {f : CF} {fs : List CF} {F : MH} (hx : x_b1 roles N S m b = some q) (hS : okS Γ sets ro vs S f fs F) (hW : WT Γ sets roles ro F) (hm : ∀ a ∈ m, okA Γ sets vs a) (hN : ∀ a ∈ N.pa, okA Γ sets vs a) : ∃ t, okS Γ sets ro (vs ++ t) q.1 f fs F ∧ okA Γ sets (vs ++ t) q.2 ∧ q.1.1 = S.1 ∧ q.1.2.1 = S.2.1 := by
  obtain ⟨S1, a⟩ := q
  unfold x_b1 at hx
  split at hx
  · cases hg : x_get S.1.2.2.1 b.2.1 with
    | none => rw [hg] at hx; cases hx
    | some c =>
      rw [hg] at hx
      cases hx
      exact ⟨[], by rw [List.append_nil]; exact hS, by rw [List.append_nil]; exact hS.1 _ (mem_loc (x_get_mem hg)), rfl, rfl⟩
  · split at hx
    · cases hg : S.1.2.2.2[b.2.1]? with
      | none => rw [hg] at hx; cases hx
      | some c =>
        rw [hg] at hx
        cases hx
        exact ⟨[], by rw [List.append_nil]; exact hS, by rw [List.append_nil]; exact hS.1 _ (mem_top (List.mem_of_getElem? hg)), rfl, rfl⟩
    · split at hx
      · split at hx
        · rename_i p hp
          exact mat_ok hx hS hW (hm p (List.mem_of_getElem? hp))
        · cases hx
      · split at hx
        · rename_i q hq
          cases hg : N.pa[q.2]? with
          | none => rw [hg] at hx; cases hx
          | some c =>
            rw [hg] at hx
            cases hx
            exact ⟨[], by rw [List.append_nil]; exact hS, by rw [List.append_nil]; exact hN _ (List.mem_of_getElem? hg), rfl, rfl⟩
        · cases hx
theorem bs_ok {N : ND} {f : CF} {fs : List CF} {F : MH} (hW : WT Γ sets roles ro F) : ∀ (bs : List (Nat × Nat × Nat)) (S : SS) (m : List AV) (q : SS × List AV) (vs : List Value), x_bs roles N bs S m = some q → okS Γ sets ro vs S f fs F → (∀ a ∈ m, okA Γ sets vs a) → (∀ a ∈ N.pa, okA Γ sets vs a) → ∃ t, okS Γ sets ro (vs ++ t) q.1 f fs F ∧ (∀ a ∈ q.2, okA Γ sets (vs ++ t) a) ∧ q.1.1 = S.1 ∧ q.1.2.1 = S.2.1
  | [], S, m, q, vs, hx, hS, hm, hN => by
    cases hx
    exact ⟨[], by rw [List.append_nil]; exact hS, by rw [List.append_nil]; exact hm, rfl, rfl⟩
  | b :: bs, S, m, q, vs, hx, hS, hm, hN => by
    rw [x_bs] at hx
    split at hx
    · rename_i q1 hq1
      obtain ⟨t, h1, h2, h3, h4⟩ := b1_ok hq1 hS hW hm hN
      obtain ⟨t2, g1, g2, g3, g4⟩ := bs_ok hW bs q1.1 (m ++ [q1.2]) q (vs ++ t) hx h1 (fun a ha => by
        rcases List.mem_append.mp ha with ha | ha
        · exact (hm a ha).app _
        · simp only [List.mem_cons, List.not_mem_nil, or_false] at ha
          subst ha; exact h2) (fun a ha => (hN a ha).app _)
      rw [List.append_assoc] at g1 g2
      exact ⟨t ++ t2, g1, g2, g3.trans h3, g4.trans h4⟩
    · cases hx
/-- the values of m -/
theorem vals_of {vs : List Value} : ∀ (m : List AV), (∀ a ∈ m, okA Γ sets vs a) → ∃ ws : List Value, ws.map some = m.map (fun a => vs[a.1]?)
  | [], _ => ⟨[], rfl⟩
  | a :: m, h => by
    obtain ⟨ws, hw⟩ := vals_of m (fun b hb => h b (List.mem_cons_of_mem _ hb))
    obtain ⟨v, hv⟩ := (h a List.mem_cons_self).get
    exact ⟨v :: ws, by simp only [List.map_cons, hw, hv]⟩
theorem vals_get {vs ws : List Value} {m : List AV} (h : ws.map some = m.map (fun a => vs[a.1]?)) {j : Nat} {b : AV} (hb : m[j]? = some b) : ∃ v, ws[j]? = some v ∧ vs[b.1]? = some v := by
  have h1 : (ws.map some)[j]? = (m.map (fun a => vs[a.1]?))[j]? := by rw [h]
  rw [List.getElem?_map, List.getElem?_map, hb] at h1
  cases hw : ws[j]? with
  | none => rw [hw] at h1; simp at h1
  | some v => rw [hw] at h1; simp at h1; exact ⟨v, rfl, h1.symm⟩
theorem vals_len {vs ws : List Value} {m : List AV} (h : ws.map some = m.map (fun a => vs[a.1]?)) : ws.length = m.length := by
  have := congrArg List.length h
  simpa using this
theorem ent_ok {vs ws : List Value} {m : List AV} (h : ws.map some = m.map (fun a => vs[a.1]?)) (hm : ∀ a ∈ m, okA Γ sets vs a) {a : AV} (hx : x_ent sets m a = true) : okA Γ sets ws a := by
  unfold x_ent at hx
  split at hx
  · rename_i b hb
    simp only [Bool.and_eq_true] at hx
    obtain ⟨v, h1, h2⟩ := vals_get h hb
    have ob := hm b (List.mem_of_getElem? hb)
    have ob' := ob
    obtain ⟨v', g1, g2, -⟩ := ob
    obtain rfl : v' = v := Option.some.inj (g1.symm.trans h2)
    refine ⟨v', h1, x_sub_ok hx.1 g2, fun r hr => ?_⟩
    have hr2 := List.all_eq_true.mp hx.2 r hr
    split at hr2
    · rename_i c hc
      simp only [Bool.and_eq_true, Bool.not_eq_true', beq_eq_false_iff_ne, ne_eq, decide_eq_true_eq] at hr2
      obtain ⟨w, k1, k2⟩ := vals_get h hc
      have hd := a_diff_ok ob' (hm c (List.mem_of_getElem? hc)) hr2.1 hr2.2.1 h2 k2
      simp only [i_in] at hd
      exact ⟨w, k1, by omega, by omega⟩
    · cases hr2
  · cases hx
theorem av_mem {N : ND} {j : Nat} (h : j < N.pa.length) : n_av N j ∈ N.pa := by
  unfold n_av
  rw [List.getD_eq_getElem?_getD, List.getElem?_eq_getElem h]
  exact List.getElem_mem h
theorem wf_id {N : ND} (h : n_wf N = true) {j : Nat} (hj : j < N.pa.length) : (n_av N j).1 = j := by
  unfold n_wf at h
  simp only [Bool.and_eq_true, beq_iff_eq] at h
  have h1 : (N.pa.map (fun a => a.1))[j]? = (List.range N.pa.length)[j]? := by rw [h.1]
  rw [List.getElem?_map, List.getElem?_eq_getElem hj, List.getElem?_range hj] at h1
  unfold n_av
  rw [List.getD_eq_getElem?_getD, List.getElem?_eq_getElem hj]
  simpa using h1
theorem st_av {N : ND} (h : n_wf N = true) {a : AV} (ha : a ∈ s_av (n_st N)) : a ∈ N.pa := by
  have h0 := h
  unfold n_wf at h
  simp only [Bool.and_eq_true, List.all_eq_true, decide_eq_true_eq] at h
  obtain ⟨-, w1, w2, w3, w4, -⟩ := h
  simp only [s_av, s_avF, n_st, List.mem_append, List.map_map, List.flatMap_nil, List.not_mem_nil, false_or] at ha
  rcases ha with (ha | ha) | ha | ha
  · obtain ⟨q, hq, rfl⟩ := List.mem_map.mp ha
    exact av_mem (w1 q hq)
  · obtain ⟨q, hq, rfl⟩ := List.mem_map.mp ha
    exact av_mem (w2 q hq)
  · obtain ⟨q, hq, rfl⟩ := List.mem_map.mp ha
    exact av_mem (w3 q hq)
  · obtain ⟨q, hq, hq2⟩ := List.mem_flatMap.mp ha
    obtain ⟨q0, hq0, rfl⟩ := List.mem_map.mp hq
    simp only [List.mem_cons, List.not_mem_nil, or_false] at hq2
    rcases hq2 with rfl | rfl
    · exact av_mem (w4 q0 hq0).1
    · exact av_mem (w4 q0 hq0).2
theorem has_ok {vs ws : List Value} {m : List AV} {f : CF} {fs : List CF} {F : MH} (h : ws.map some = m.map (fun a => vs[a.1]?)) (hm : ∀ a ∈ m, okA Γ sets vs a) (hS : okS Γ sets ro vs S f fs F) {q : Nat × Nat × Nat × Nat} (hx : x_has S m q = true) : okFa Γ ro F ws (q.1, q.2.1, q.2.2.1, (q.2.2.2, 0, 0, 0, [])) := by
  unfold x_has at hx
  split at hx
  · rename_i p b hp hb
    obtain ⟨g, hg, hg2⟩ := List.any_eq_true.mp hx
    simp only [Bool.and_eq_true, beq_iff_eq] at hg2
    obtain ⟨a, c, v, g1, g2, g3, g4, g5⟩ := hS.2.2.2.1 g hg
    obtain ⟨u, k1, k2⟩ := vals_get h hp
    obtain ⟨w, k3, k4⟩ := vals_get h hb
    rw [hg2.1, k2] at g1
    cases g1
    have := x_eq_ok hg2.2.2.2 (hS.1 _ (mem_fact hg)) (hm b (List.mem_of_getElem? hb)) g4 k4
    subst this
    rw [hg2.2.1] at g2
    rw [hg2.2.2.1] at g5
    exact ⟨a, c, v, k1, g2, g3, k3, g5⟩
  · cases hx
theorem mt_ok {M : ND} {m : List AV} {vs ws : List Value} {f : CF} {fs : List CF} {F : MH} (hwf : n_wf M = true) (hx : x_mt sets M S m = true) (hS : okS Γ sets ro vs S f fs F) (hm : ∀ a ∈ m, okA Γ sets vs a) (h : ws.map some = m.map (fun a => vs[a.1]?)) : okN Γ sets ro M ws f F := by
  unfold x_mt at hx
  simp only [Bool.and_eq_true, decide_eq_true_eq, List.all_eq_true] at hx
  obtain ⟨⟨c1, c2, c3⟩, c4, c5, c6, c7, c8, c9⟩ := hx
  have hpa : ∀ a ∈ M.pa, okA Γ sets ws a := fun a ha => ent_ok h hm (c4 a ha)
  have hid : ∀ {j : Nat} {b : AV}, m[j]? = some b → (n_av M j).1 = j := by
    intro j b hb
    have hl := (List.getElem?_eq_some_iff.mp hb).1
    exact wf_id hwf (by omega)
  obtain ⟨lv, cst, rfl, hl, hc1, hc2⟩ := hS.frame
  refine ⟨⟨fun a ha => hpa a (st_av hwf ha), ⟨c1, c2, fun q hq => ?_, ?_⟩, trivial, fun q hq => ?_, fun q hq => ?_, fun q hq => ?_, ?_⟩, hpa⟩
  · obtain ⟨q0, hq0, rfl⟩ := List.mem_map.mp hq
    have hq1 := c5 q0 hq0
    split at hq1
    · rename_i a b ha hb
      obtain ⟨w, k3, k4⟩ := vals_get h hb
      obtain ⟨oa, v, hv, hg⟩ := hl _ (x_get_mem ha)
      have := x_eq_ok hq1 oa (hm b (List.mem_of_getElem? hb)) hv k4
      subst this
      exact ⟨v, by simp only [hid hb]; exact k3, hg⟩
    · cases hq1
  · have key : ∀ (s : List AV) (t : List Nat) (cs : List Value), x_eqs m s t = true → (∀ a ∈ s, okA Γ sets vs a) → cs.map some = s.map (fun a => vs[a.1]?) → cs.map some = (t.map (n_av M)).map (fun a => ws[a.1]?) := by
      intro s
      induction s with
      | nil =>
        intro t cs he _ hcs
        cases t with
        | nil => exact hcs
        | cons j t => cases he
      | cons a s ih =>
        intro t cs he ho hcs
        cases t with
        | nil => cases he
        | cons j t =>
          simp only [x_eqs, Bool.and_eq_true] at he
          obtain ⟨v, cs, rfl, e1, e2⟩ := stk1 hcs
          have h1 := he.1
          split at h1
          · rename_i b hb
            obtain ⟨w, k3, k4⟩ := vals_get h hb
            have := x_eq_ok h1 (ho a List.mem_cons_self) (hm b (List.mem_of_getElem? hb)) e1 k4
            subst this
            simp only [List.map_cons, List.cons.injEq]
            exact ⟨by rw [hid hb, k3], ih t cs he.2 (fun b hb => ho b (List.mem_cons_of_mem _ hb)) e2⟩
          · cases h1
    exact key _ _ _ c6 hc2 hc1
  · obtain ⟨q0, hq0, rfl⟩ := List.mem_map.mp hq
    have := has_ok h hm hS (c7 q0 hq0)
    obtain ⟨a, c, v, g1, g2, g3, g4, g5⟩ := this
    have hlt : q0.2.2.2 < M.pa.length := by
      unfold n_wf at hwf
      simp only [Bool.and_eq_true, List.all_eq_true, decide_eq_true_eq] at hwf
      exact hwf.2.2.2.1 q0 hq0
    exact ⟨a, c, v, g1, g2, g3, by simp only [wf_id hwf hlt]; exact g4, g5⟩
  · obtain ⟨q0, hq0, rfl⟩ := List.mem_map.mp hq
    have hx := c8 q0 hq0
    unfold x_hasE at hx
    split at hx
    · rename_i p i b hp hi hb
      obtain ⟨g, hg, hg2⟩ := List.any_eq_true.mp hx
      simp only [Bool.and_eq_true, beq_iff_eq] at hg2
      obtain ⟨a, c, x, v, g1, g2, g3, g4, g5, g6, g7⟩ := hS.2.2.2.2.1 g hg
      obtain ⟨u, k1, k2⟩ := vals_get h hp
      obtain ⟨w, k3, k4⟩ := vals_get h hb
      obtain ⟨y, k5, k6⟩ := vals_get h hi
      rw [hg2.1, k2] at g1
      cases g1
      have e1 := x_eq_ok hg2.2.2.2 (hS.1 _ (mem_ef2 hg)) (hm b (List.mem_of_getElem? hb)) g6 k4
      subst e1
      have e2 := x_eq_ok hg2.2.2.1 (hS.1 _ (mem_ef1 hg)) (hm i (List.mem_of_getElem? hi)) g4 k6
      subst e2
      rw [hg2.2.1] at g2
      exact ⟨a, c, x, v, k1, g2, g3, by simp only [hid hi]; exact k5, g5, by simp only [hid hb]; exact k3, g7⟩
    · cases hx
  · have hx := c9 q hq
    unfold x_hasS at hx
    split at hx
    · rename_i a b c ha hb hc
      obtain ⟨g, hg, hg2⟩ := List.any_eq_true.mp hx
      simp only [Bool.and_eq_true, Bool.or_eq_true, beq_iff_eq] at hg2
      obtain ⟨u, v, w, g1, g2, g3, g4⟩ := hS.2.2.2.2.2.1 g hg
      obtain ⟨u', k1, k2⟩ := vals_get h ha
      obtain ⟨v', k3, k4⟩ := vals_get h hb
      obtain ⟨w', k5, k6⟩ := vals_get h hc
      rw [hg2.1, k2] at g1
      rw [hg2.2.2, k6] at g3
      cases g1
      cases g3
      have hz : vz v = vz v' := by
        rcases hg2.2.1 with e | ⟨-, e⟩
        · rw [e, k4] at g2
          cases g2; rfl
        · obtain ⟨r, hr, hr2⟩ := List.any_eq_true.mp e
          simp only [Bool.and_eq_true, beq_iff_eq, decide_eq_true_eq] at hr2
          obtain ⟨z, z1, z2, z3⟩ := hm b (List.mem_of_getElem? hb)
          obtain rfl : z = v' := Option.some.inj (z1.symm.trans k4)
          obtain ⟨y, y1, y2, y3⟩ := z3 r hr
          rw [hr2.1, g2] at y1
          cases y1
          omega
      exact ⟨u, v', w, k1, k3, k5, by omega⟩
    · cases hx
  · show M.pa.length = ws.length
    rw [vals_len h, c3]
end SxT
end
section
/-! SYMBOLIC RUNS, XXI: a node is used; what is told of the end; ranks -/
noncomputable def x_tid (M : ND) (m : List AV) (n j : Nat) : Nat := if j < M.pa.length then (m.getD j a0).1 else n + (j - M.pa.length)
noncomputable def x_tav (M : ND) (m : List AV) (n : Nat) (a : AV) : AV := (x_tid M m n a.1, a.2.1, a.2.2.1, a.2.2.2.1, a.2.2.2.2.map (fun r => (x_tid M m n r.1, r.2)) ++ (a.2.2.2.2.flatMap (fun r => if r.1 < M.pa.length then (m.getD r.1 a0).2.2.2.2.map (fun q => (q.1, q.2.1 + r.2.1, q.2.2 + r.2.2)) else [])).take 8)
noncomputable def x_xav (M : ND) (m : List AV) (n j : Nat) : AV := if j < M.pa.length then m.getD j a0 else x_tav M m n (M.xp.getD (j - M.pa.length) a0)
/-- the state behind a node -/
noncomputable def x_aft (M : ND) (m : List AV) (S : SS) : SS := (S.1, S.2.1, M.xf.map (fun q => (x_tid M m S.2.2.2.2.2 q.1, q.2.1, q.2.2.1, x_xav M m S.2.2.2.2.2 q.2.2.2)) ++ S.2.2.1.filter (fun q => !(inM M.ms q.2.1 q.2.2.1)), S.2.2.2.1.filter (fun q => !(M.ms.any (fun r => r.1 == q.2.1))), S.2.2.2.2.1, S.2.2.2.2.2 + M.xp.length)
noncomputable def x_msub (a b : Mods) : Bool := a.all (fun q => b.any (fun p => p.1 == q.1 && decide (p.2.1 ≤ q.2.1 ∧ q.2.2 ≤ p.2.2)))
noncomputable def rsum : List (Int × Nat) → List Value → Int
  | [], _ => 0
  | q :: t, vs => q.1 * vz (vs.getD q.2 .null) + rsum t vs
noncomputable def n_mes (N : ND) (vs : List Value) : Nat := (N.rk.1 + rsum N.rk.2 vs).toNat
noncomputable def mU (w : Int) (b : Int × Int) : Int := max (w * b.1) (w * b.2)
/-- a bound of minus the sum -/
noncomputable def x_ubO (pa : List AV) : List (Int × Nat) → Option Int
  | [] => some 0
  | q :: t => match pa[q.2]?, x_ubO pa t with
    | some b, some z => if b.2.1 = 2 then none else some (mU (-q.1) (b.2.2.1, b.2.2.2.1) + z)
    | _, _ => none
/-- a bound of the new sum less the old -/
noncomputable def x_ub (m pa : List AV) : List (Int × Nat) → List (Int × Nat) → Option Int
  | [], t => x_ubO pa t
  | q :: s, [] => (match m[q.2]?, x_ub m pa s [] with
    | some a, some z => if a.2.1 = 2 then none else some (mU q.1 (a.2.2.1, a.2.2.2.1) + z)
    | _, _ => none)
  | q :: s, p :: t => (match m[q.2]?, pa[p.2]?, x_ub m pa s t with
    | some a, some b, some z => if a.2.1 = 2 ∨ b.2.1 = 2 then none else if q.1 = p.1 then some (mU q.1 (a_diff a b) + z) else some (mU q.1 (a.2.2.1, a.2.2.2.1) + (mU (-p.1) (b.2.2.1, b.2.2.2.1) + z))
    | _, _, _ => none)
noncomputable def x_rk (N M : ND) (m : List AV) : Bool := match x_ub m N.pa M.rk.2 N.rk.2, x_ubO N.pa N.rk.2 with
  | some z, some l => decide (M.rk.1 - N.rk.1 + z ≤ -1 ∧ 1 ≤ N.rk.1 - l)
  | _, _ => false
noncomputable def x_ap (sets : List (List Int)) (roles : List RD) (N M : ND) (d : Nat) (S : SS) : Option (List (SS × Option AV)) :=
  if M.pc = S.1.2.1 ∧ M.mi = S.1.1 ∧ M.dep ≤ d ∧ M.stg ≤ N.stg then (match x_bs roles N M.bs S [] with
    | some q => if (x_mt sets M q.1 q.2 && ((decide (M.stg < N.stg) || x_rk N M q.2) && x_msub M.ms N.ms)) = true then some (M.alts.map (fun M' => (x_aft M' q.2 q.1, M'.xr.map (x_xav M' q.2 q.1.2.2.2.2.2)))) else none
    | none => none) else none
/-- an address that has a role has a cell that is told, or never one -/
noncomputable def RK (Γ : Nat → Option Nat) (roles : List RD) (ro : Nat → Option MC) : Prop := ∀ a r, Γ a = some r → (∃ rd, roles[r]? = some rd) ∨ ∀ F, m_cell ro F a = none
section SxU
variable {Γ : Nat → Option Nat} {sets : List (List Int)} {roles : List RD} {ms : Mods} {MT : List MM} {ro : Nat → Option MC} {fty : Nat → Nat → FieldType} {dfl : Nat → List Value} {vs0 : List Value} {F0 : MH} {Q : Option Value → MH → Prop} {d : Nat} {S : SS}
theorem tid_ok {M : ND} {m : List AV} {vs ws t : List Value} (h : ws.map some = m.map (fun a => vs[a.1]?)) (hl : m.length = M.pa.length) {j : Nat} {v : Value} (hv : (ws ++ t)[j]? = some v) : (vs ++ t)[x_tid M m vs.length j]? = some v := by
  have hwl := vals_len h
  unfold x_tid
  split
  · rename_i hj
    rw [List.getElem?_append_left (by omega)] at hv
    have hb : m[j]? = some m[j] := List.getElem?_eq_getElem (by omega)
    obtain ⟨w, h1, h2⟩ := vals_get h hb
    cases h1.symm.trans hv
    rw [List.getD_eq_getElem?_getD, hb]
    exact get_app h2
  · rename_i hj
    rw [List.getElem?_append_right (by omega)] at hv
    rw [List.getElem?_append_right (by omega)]
    rw [show vs.length + (j - M.pa.length) - vs.length = j - ws.length by omega]
    exact hv
theorem tav_ok {M : ND} {m : List AV} {vs ws t : List Value} (h : ws.map some = m.map (fun a => vs[a.1]?)) (hm : ∀ a ∈ m, okA Γ sets vs a) (hl : m.length = M.pa.length) {a : AV} (ha : okA Γ sets (ws ++ t) a) : okA Γ sets (vs ++ t) (x_tav M m vs.length a) := by
  obtain ⟨v, h1, h2, h3⟩ := ha
  refine ⟨v, tid_ok h hl h1, h2, fun r hr => ?_⟩
  rcases List.mem_append.mp hr with hr | hr
  · obtain ⟨r0, hr0, rfl⟩ := List.mem_map.mp hr
    obtain ⟨w, g1, g2⟩ := h3 r0 hr0
    exact ⟨w, tid_ok h hl g1, g2⟩
  · obtain ⟨r0, hr0, hr⟩ := List.mem_flatMap.mp (List.mem_of_mem_take hr)
    split at hr
    · rename_i hlt
      obtain ⟨q, hq, rfl⟩ := List.mem_map.mp hr
      obtain ⟨w, g1, g2⟩ := h3 r0 hr0
      have g3 := tid_ok h hl g1
      have hlt2 : r0.1 < m.length := by omega
      have hb : m.getD r0.1 a0 = m[r0.1] := by rw [List.getD_eq_getElem?_getD, List.getElem?_eq_getElem hlt2]; rfl
      simp only [x_tid, if_pos hlt] at g3
      rw [hb] at g3 hq
      obtain ⟨v', k1, -, k3⟩ := hm _ (List.getElem_mem hlt2)
      rw [get_app k1] at g3
      cases g3
      obtain ⟨u, j1, j2⟩ := k3 q hq
      exact ⟨u, get_app j1, by simp only; omega, by simp only; omega⟩
    · cases hr
theorem wf_xp {M : ND} (h : n_wf M = true) {i : Nat} (hi : i < M.xp.length) : (M.xp.getD i a0).1 = M.pa.length + i := by
  unfold n_wf at h
  simp only [Bool.and_eq_true, beq_iff_eq] at h
  have h1 : (M.xp.map (fun a => a.1))[i]? = ((List.range M.xp.length).map (fun i => M.pa.length + i))[i]? := by rw [h.2.2.2.2.2]
  rw [List.getElem?_map, List.getElem?_map, List.getElem?_eq_getElem hi, List.getElem?_range hi] at h1
  rw [List.getD_eq_getElem?_getD, List.getElem?_eq_getElem hi]
  simpa using h1
theorem xav_ok {M : ND} (hwf : n_wf M = true) {m : List AV} {vs ws t : List Value} (h : ws.map some = m.map (fun a => vs[a.1]?)) (hm : ∀ a ∈ m, okA Γ sets vs a) (hl : m.length = M.pa.length) (ht : t.length = M.xp.length) (hxp : ∀ a ∈ M.xp, okA Γ sets (ws ++ t) a) {j : Nat} {v : Value} (hv : (ws ++ t)[j]? = some v) : okA Γ sets (vs ++ t) (x_xav M m vs.length j) ∧ (vs ++ t)[(x_xav M m vs.length j).1]? = some v := by
  have hwl := vals_len h
  have hlt := (List.getElem?_eq_some_iff.mp hv).1
  rw [List.length_append] at hlt
  have h0 := tid_ok (M := M) h hl hv
  unfold x_xav
  unfold x_tid at h0
  split
  · rename_i hj
    rw [if_pos hj] at h0
    refine ⟨?_, h0⟩
    have hb : m[j]? = some m[j] := List.getElem?_eq_getElem (by omega)
    rw [List.getD_eq_getElem?_getD, hb]
    exact (hm _ (List.getElem_mem _)).app _
  · rename_i hj
    rw [if_neg hj] at h0
    have hi : j - M.pa.length < M.xp.length := by omega
    have hmem : M.xp.getD (j - M.pa.length) a0 ∈ M.xp := by
      rw [List.getD_eq_getElem?_getD, List.getElem?_eq_getElem hi]
      exact List.getElem_mem _
    refine ⟨tav_ok h hm hl (hxp _ hmem), ?_⟩
    simp only [x_tav]
    rw [wf_xp hwf hi, show M.pa.length + (j - M.pa.length) = j by omega]
    unfold x_tid
    rw [if_neg hj]
    exact h0
theorem fa_keep (hR : RK Γ roles ro) {vs : List Value} {F F1 : MH} {q : FA} (h : okFa Γ ro F vs q) (hi : inM ms q.2.1 q.2.2.1 = false) (hF : FRm Γ ro ms F F1) (hW : WT Γ sets roles ro F1) : okFa Γ ro F1 vs q := by
  obtain ⟨a, c, v, g1, g2, g3, g4, g5⟩ := h
  obtain ⟨rd, hrd⟩ := (hR a _ g2).resolve_right (fun z => by rw [z F] at g3; cases g3)
  obtain ⟨c1, k1, -⟩ := hW a _ rd g2 hrd
  obtain ⟨k2, k3⟩ := hF a _ _ c c1 g2 hi g3 k1
  refine ⟨a, c1, v, g1, g2, k1, g4, ?_⟩
  rw [k2, k3]
  exact g5
theorem ea_keep (hR : RK Γ roles ro) {vs : List Value} {F F1 : MH} {q : EA} (h : okEa Γ ro F vs q) (hi : (ms.any (fun r => r.1 == q.2.1)) = false) (hF : FRm Γ ro ms F F1) (hW : WT Γ sets roles ro F1) : okEa Γ ro F1 vs q := by
  obtain ⟨a, c, x, v, g1, g2, g3, g4, g5, g6, g7⟩ := h
  obtain ⟨rd, hrd⟩ := (hR a _ g2).resolve_right (fun z => by rw [z F] at g3; cases g3)
  obtain ⟨c1, k1, -⟩ := hW a _ rd g2 hrd
  have hi2 : inM ms q.2.1 x.toInt.toNat = false := by
    unfold inM
    rw [List.any_eq_false] at hi ⊢
    intro p hp
    have := hi p hp
    simp only [Bool.and_eq_true, beq_iff_eq] at this ⊢
    exact fun z => this z.1.1
  obtain ⟨k2, -⟩ := hF a _ _ c c1 g2 hi2 g3 k1
  exact ⟨a, c1, x, v, g1, g2, k1, g4, g5, g6, by rw [k2]; exact g7⟩
theorem aft_ok (hR : RK Γ roles ro) {M : ND} (hwf : n_wf M = true) {m : List AV} {vs ws : List Value} {f : CF} {fs : List CF} {F F1 : MH} {v : Option Value} (h : ws.map some = m.map (fun a => vs[a.1]?)) (hm : ∀ a ∈ m, okA Γ sets vs a) (hl : m.length = M.pa.length) (hS : okS Γ sets ro vs S f fs F) (hP : n_post Γ sets roles ro M ws F v F1) :
    ∃ t, okS Γ sets ro (vs ++ t) (x_aft M m S) f fs F1 ∧ v.toList.map some = (M.xr.map (x_xav M m S.2.2.2.2.2)).toList.map (fun a => (vs ++ t)[a.1]?) ∧ ∀ a ∈ (M.xr.map (x_xav M m S.2.2.2.2.2)).toList, okA Γ sets (vs ++ t) a := by
  obtain ⟨p1, p2, t, p3, p4, p5, p6⟩ := hP
  obtain ⟨h1, h2, h3, h4, h5, h6, h7⟩ := hS
  refine ⟨t, ⟨fun a ha => ?_, h2.app (fun a ha => (h1 a (mem_top ha)).get) _, h3.app _ (fun f hf a ha => (h1 a (mem_rest hf ha)).get), fun q hq => ?_, fun q hq => ?_, fun q hq => ?_, ?_⟩, ?_, ?_⟩
  · simp only [s_av, x_aft, List.map_append, List.mem_append] at ha
    rcases ha with ha | ha | (ha | ha) | ha
    · exact (h1 a (List.mem_append_left _ ha)).app _
    · exact (h1 a (List.mem_append_right _ (List.mem_append_left _ ha))).app _
    · obtain ⟨q, hq, rfl⟩ := List.mem_map.mp ha
      obtain ⟨q0, hq0, rfl⟩ := List.mem_map.mp hq
      obtain ⟨a, c, v, g1, g2, g3, g4, g5⟩ := p6 q0 hq0
      simp only at g4 ⊢
      rw [h7]
      exact (xav_ok hwf h hm hl p3 p5 g4).1
    · obtain ⟨q, hq, rfl⟩ := List.mem_map.mp ha
      exact (h1 _ (mem_fact (List.mem_filter.mp hq).1)).app _
    · obtain ⟨q, hq, hq2⟩ := List.mem_flatMap.mp ha
      exact (h1 _ (List.mem_append_right _ (List.mem_append_right _ (List.mem_append_right _ (List.mem_flatMap.mpr ⟨q, (List.mem_filter.mp hq).1, hq2⟩))))).app _
  · simp only [x_aft, List.mem_append] at hq
    rcases hq with hq | hq
    · obtain ⟨q0, hq0, rfl⟩ := List.mem_map.mp hq
      obtain ⟨a, c, v, g1, g2, g3, g4, g5⟩ := p6 q0 hq0
      simp only at g1 g2 g4 g5
      rw [h7]
      exact ⟨a, c, v, tid_ok h hl g1, g2, g3, (xav_ok hwf h hm hl p3 p5 g4).2, g5⟩
    · obtain ⟨hq1, hq2⟩ := List.mem_filter.mp hq
      have := fa_keep hR (h4 q hq1) (by simpa using hq2) p2 p1
      obtain ⟨a, c, v, g1, g2, g3, g4, g5⟩ := this
      exact ⟨a, c, v, get_app g1, g2, g3, get_app g4, g5⟩
  · simp only [x_aft] at hq
    obtain ⟨hq1, hq2⟩ := List.mem_filter.mp hq
    have := ea_keep hR (h5 q hq1) (by
      cases hc : M.ms.any (fun r => r.1 == q.2.1) with
      | false => rfl
      | true => rw [hc] at hq2; cases hq2) p2 p1
    obtain ⟨a, c, x, v, g1, g2, g3, g4, g5, g6, g7⟩ := this
    exact ⟨a, c, x, v, get_app g1, g2, g3, get_app g4, g5, get_app g6, g7⟩
  · obtain ⟨u, v, w, g1, g2, g3, g4⟩ := h6 q hq
    exact ⟨u, v, w, get_app g1, get_app g2, get_app g3, g4⟩
  · show S.2.2.2.2.2 + M.xp.length = _
    rw [h7, List.length_append, p3]
  · rw [h7]
    cases hx : M.xr with
    | none => rw [hx] at p4; exact p4
    | some j =>
      rw [hx] at p4
      simp only [Option.toList, List.map_cons, List.map_nil, Option.map] at p4 ⊢
      cases v with
      | none => simp at p4
      | some w =>
        simp only [List.map_cons, List.map_nil, List.cons.injEq, and_true] at p4 ⊢
        exact (xav_ok hwf h hm hl p3 p5 p4.symm).2.symm
  · rw [h7]
    cases hx : M.xr with
    | none => intro a ha; cases ha
    | some j =>
      rw [hx] at p4
      intro a ha
      simp only [Option.toList, List.map_cons, List.map_nil, Option.map, List.mem_cons, List.not_mem_nil, or_false] at p4 ha
      subst ha
      cases v with
      | none => simp at p4
      | some w =>
        simp only [List.map_cons, List.map_nil, List.cons.injEq, and_true] at p4
        exact (xav_ok hwf h hm hl p3 p5 p4.symm).1
theorem fr_trans (hR : RK Γ roles ro) {ns : Mods} {F F1 : MH} (hs : x_msub ns ms = true) (h1 : FRm Γ ro ms F0 F) (hW : WT Γ sets roles ro F) (h2 : FRm Γ ro ns F F1) : FRm Γ ro ms F0 F1 := by
  intro a r k c0 c ha hi hc0 hc
  obtain ⟨rd, hrd⟩ := (hR a r ha).resolve_right (fun z => by rw [z F0] at hc0; cases hc0)
  obtain ⟨c1, k1, -⟩ := hW a r rd ha hrd
  have hi2 : inM ns r k = false := by
    cases hc : inM ns r k with
    | false => rfl
    | true =>
      obtain ⟨q, hq, hq2⟩ := List.any_eq_true.mp hc
      obtain ⟨p, hp, hp2⟩ := List.any_eq_true.mp (List.all_eq_true.mp hs q hq)
      simp only [Bool.and_eq_true, beq_iff_eq, decide_eq_true_eq] at hq2 hp2
      have : inM ms r k = true := List.any_eq_true.mpr ⟨p, hp, by simp only [Bool.and_eq_true, beq_iff_eq, decide_eq_true_eq]; omega⟩
      rw [this] at hi; cases hi
  obtain ⟨a1, a2⟩ := h1 a r k c0 c1 ha hi hc0 k1
  obtain ⟨b1, b2⟩ := h2 a r k c1 c ha hi2 k1 hc
  exact ⟨b1.trans a1, b2.trans a2⟩
theorem mU_ok {w x : Int} {b : Int × Int} (h : i_in x b) : w * x ≤ mU w b := by
  unfold mU
  rcases Int.le_total 0 w with hw | hw
  · have := Int.mul_le_mul_of_nonneg_left h.2 hw
    omega
  · have := Int.mul_le_mul_of_nonpos_left hw h.1
    omega
theorem getD_val {vs : List Value} {j : Nat} {v : Value} (h : vs[j]? = some v) : vs.getD j .null = v := by
  rw [List.getD_eq_getElem?_getD, h]; rfl
theorem ubO_ok {pa : List AV} {vs : List Value} (hpa : ∀ i b, pa[i]? = some b → okA Γ sets vs b ∧ b.1 = i) : ∀ (t : List (Int × Nat)) (z : Int), x_ubO pa t = some z → -(rsum t vs) ≤ z
  | [], z, h => by cases h; simp [rsum]
  | q :: t, z, h => by
    rw [x_ubO] at h
    split at h
    · rename_i b z1 hb hz
      split at h
      · cases h
      · rename_i hk
        cases h
        have ih := ubO_ok hpa t z1 hz
        obtain ⟨⟨v, e1, e2, -⟩, e3⟩ := hpa _ b hb
        rw [e3] at e1
        have n := e2.num hk
        rw [rsum, getD_val e1]
        have := mU_ok (w := -q.1) (x := vz v) (b := (b.2.2.1, b.2.2.2.1)) n
        rw [Int.neg_mul] at this
        omega
    · cases h
theorem ub_ok {m pa : List AV} {vs vs0 ws : List Value} (hpa : ∀ i b, pa[i]? = some b → okA Γ sets vs b ∧ b.1 = i) (hpre : ∀ i, i < pa.length → vs0[i]? = vs[i]?) (hm : ∀ a ∈ m, okA Γ sets vs a) (h : ws.map some = m.map (fun a => vs[a.1]?)) : ∀ (s t : List (Int × Nat)) (z : Int), x_ub m pa s t = some z → rsum s ws - rsum t vs0 ≤ z
  | [], t, z, hx => by
    rw [x_ub] at hx
    have hpa0 : ∀ i b, pa[i]? = some b → vs0[i]? = vs[i]? := fun i b hb => hpre i (List.getElem?_eq_some_iff.mp hb).1
    have key : ∀ (t : List (Int × Nat)) (z : Int), x_ubO pa t = some z → rsum t vs0 = rsum t vs := by
      intro t
      induction t with
      | nil => intro z _; rfl
      | cons q t ih =>
        intro z hz
        rw [x_ubO] at hz
        split at hz
        · rename_i b z1 hb hz1
          rw [rsum, rsum, ih z1 hz1, List.getD_eq_getElem?_getD, List.getD_eq_getElem?_getD, hpa0 _ b hb]
        · cases hz
    have := ubO_ok hpa t z hx
    rw [key t z hx]
    simp only [rsum]
    omega
  | q :: s, [], z, hx => by
    rw [x_ub] at hx
    split at hx
    · rename_i a z1 ha hz
      split at hx
      · cases hx
      · rename_i hk
        cases hx
        have ih := ub_ok hpa hpre hm h s [] z1 hz
        obtain ⟨v, h1, h2⟩ := vals_get h ha
        obtain ⟨v', g1, g2, -⟩ := hm a (List.mem_of_getElem? ha)
        obtain rfl : v' = v := Option.some.inj (g1.symm.trans h2)
        have n := g2.num hk
        simp only [rsum] at ih ⊢
        rw [getD_val h1]
        have := mU_ok (w := q.1) (x := vz v') (b := (a.2.2.1, a.2.2.2.1)) n
        omega
    · cases hx
  | q :: s, p :: t, z, hx => by
    rw [x_ub] at hx
    split at hx
    · rename_i a b z1 ha hb hz
      split at hx
      · cases hx
      · rename_i hk
        have ih := ub_ok hpa hpre hm h s t z1 hz
        obtain ⟨v, h1, h2⟩ := vals_get h ha
        have oa := hm a (List.mem_of_getElem? ha)
        have oa' := oa
        obtain ⟨v', g1, g2, -⟩ := oa
        obtain rfl : v' = v := Option.some.inj (g1.symm.trans h2)
        have na := g2.num (fun e => hk (Or.inl e))
        obtain ⟨ob, e3⟩ := hpa _ b hb
        have ob' := ob
        obtain ⟨w, e1, e2, -⟩ := ob
        have nb := e2.num (fun e => hk (Or.inr e))
        have e1' := e1
        rw [e3] at e1
        rw [← hpre p.2 (List.getElem?_eq_some_iff.mp hb).1] at e1
        rw [rsum, rsum, getD_val h1, getD_val e1]
        split at hx
        · rename_i hw
          cases hx
          have hd := a_diff_ok oa' ob' (fun e => hk (Or.inl e)) (fun e => hk (Or.inr e)) h2 e1'
          have := mU_ok (w := q.1) hd
          rw [Int.mul_sub] at this
          rw [← hw]
          omega
        · cases hx
          have u1 := mU_ok (w := q.1) (x := vz v') (b := (a.2.2.1, a.2.2.2.1)) na
          have u2 := mU_ok (w := -p.1) (x := vz w) (b := (b.2.2.1, b.2.2.2.1)) nb
          rw [Int.neg_mul] at u2
          omega
    · cases hx
theorem wf_pa {N : ND} (hwf : n_wf N = true) {vs : List Value} (hN : ∀ a ∈ N.pa, okA Γ sets vs a) : ∀ i b, N.pa[i]? = some b → okA Γ sets vs b ∧ b.1 = i := by
  intro i b hb
  refine ⟨hN b (List.mem_of_getElem? hb), ?_⟩
  have := wf_id hwf (List.getElem?_eq_some_iff.mp hb).1
  unfold n_av at this
  rw [List.getD_eq_getElem?_getD, hb] at this
  exact this
theorem rk_ok {N M : ND} (hwf : n_wf N = true) {m : List AV} {vs ws : List Value} (hN : ∀ a ∈ N.pa, okA Γ sets vs a) (hn : vs0.length = N.pa.length) (hp : ∃ t, vs = vs0 ++ t) (hm : ∀ a ∈ m, okA Γ sets vs a) (h : ws.map some = m.map (fun a => vs[a.1]?)) (hx : x_rk N M m = true) : n_mes M ws < n_mes N vs0 := by
  unfold x_rk at hx
  split at hx
  · rename_i z l hz hl
    simp only [decide_eq_true_eq] at hx
    obtain ⟨t, rfl⟩ := hp
    have hpre : ∀ i, i < N.pa.length → vs0[i]? = (vs0 ++ t)[i]? := fun i hi => by rw [List.getElem?_append_left (by omega)]
    have h1 := ub_ok (wf_pa hwf hN) hpre hm h _ _ z hz
    have h2 := ub_ok (m := []) (ws := []) (wf_pa hwf hN) hpre (fun a ha => by cases ha) rfl [] _ l (by rw [x_ub]; exact hl)
    simp only [rsum] at h2
    unfold n_mes
    omega
  · cases hx
end SxU
end
