/-! SYMBOLIC RUNS, XVII: writes -/
def ftOK (ty : FieldType) (v : AV) : Bool := match ty with
  | .int => k_is v.2.1 0
  | .boolean => k_is v.2.1 0 && decide (0 ≤ v.2.2.1 ∧ v.2.2.2.1 ≤ 1)
  | .long => v.2.1 == 1
  | .object _ => v.2.1 == 2
  | .array _ => v.2.1 == 2
  | _ => false
def wrOK (fty : Nat → Nat → FieldType) (E : MI) (rd : RD) (v : AV) : Bool := match E.2.1 with
  | .putfield _ => rd.1 == 0 && rd.2.1 == E.2.2.2.1 && !(rd.2.1 == 99) && ftOK (fty E.2.2.2.1 E.2.2.2.2.1) v
  | .iastore => rd.1 == 1 && rd.2.1 == 0 && k_is v.2.1 0
  | .bastore => rd.1 == 1 && rd.2.1 == 1 && (k_is v.2.1 0 && decide (0 ≤ v.2.2.1 ∧ v.2.2.2.1 ≤ 1))
  | _ => false
def isPut (E : MI) : Bool := match E.2.1 with
  | .putfield _ => true
  | _ => false
def s_wrt (rid role l h : Nat) (i v : AV) (S : SS) : SS := (S.1, S.2.1, (if l = h then [(rid, role, l, v)] else []) ++ S.2.2.1.filter (fun q => !(q.2.1 == role && decide (l ≤ q.2.2.1) && decide (q.2.2.1 ≤ h))), (if l = h then [] else [(rid, role, i, v)]) ++ S.2.2.2.1.filter (fun q => !(q.2.1 == role)), S.2.2.2.2.1, S.2.2.2.2.2)
/-- a write to a place, or to one of several -/
def x_w1 (sets : List (List Int)) (roles : List RD) (fty : Nat → Nat → FieldType) (ms : Mods) (S : SS) (E : MI) (p i v : AV) (l h : Nat) (r : List AV) : Option SS :=
  if p.2.1 = 2 ∧ h < 5000 ∧ l ≤ h then (match roles[p.2.2.1.toNat]? with
    | some rd => if wrOK fty E rd v = true ∧ h < rd.2.2.length ∧ ((rd.2.2.drop l).take (h - l + 1)).all (x_sub sets v) = true ∧ (ms.any fun q => q.1 == p.2.2.1.toNat && decide (q.2.1 ≤ l) && decide (h ≤ q.2.2)) = true then
        some (s_top (s_wrt p.1 p.2.2.1.toNat l h i v S) (E.1 + E.2.2.1) S.1.2.2.1 r) else none
    | none => none) else none
def x_wr (sets : List (List Int)) (roles : List RD) (fty : Nat → Nat → FieldType) (ms : Mods) (S : SS) (E : MI) : Option SS :=
  if isPut E = true then (match S.1.2.2.2 with | v :: p :: r => x_w1 sets roles fty ms S E p p v E.2.2.2.2.1 E.2.2.2.2.1 r | _ => none)
  else (match S.1.2.2.2 with
    | v :: i :: p :: r => if k_is i.2.1 0 = true ∧ 0 ≤ i.2.2.1 then x_w1 sets roles fty ms S E p i v i.2.2.1.toNat i.2.2.2.1.toNat r else none
    | _ => none)
section SxQ
variable {Γ : Nat → Option Nat} {sets : List (List Int)} {roles : List RD} {ms : Mods} {MT : List MM} {ro : Nat → Option MC} {fty : Nat → Nat → FieldType} {dfl : Nat → List Value} {vs0 : List Value} {F0 : MH} {Q : Option Value → MH → Prop} {d : Nat} {S : SS}
theorem one_wr {E : MI} (h : (∃ i, E.2.1 = .putfield i) ∨ E.2.1 = .iastore ∨ E.2.1 = .bastore) {F : MH} {st : List Value} {q : MH × List Value} (hb : m_wr fty dfl F E st = some q) (lv : LVs) : m_one ro fty dfl E F lv st = some (q.1, E.1 + E.2.2.1, lv, q.2) := by
  obtain ⟨pc, i, len, a0, b0, z0⟩ := E
  simp only at h
  have h4 : m_alu i st = none := by rcases h with ⟨o, rfl⟩ | rfl | rfl <;> rfl
  have h5 : m_br (pc, i, len, a0, b0, z0) st = none := by rcases h with ⟨o, rfl⟩ | rfl | rfl <;> rfl
  have h6 : m_rd ro F (pc, i, len, a0, b0, z0) st = none := by rcases h with ⟨o, rfl⟩ | rfl | rfl <;> rfl
  unfold m_one
  have h1 : m_push (pc, i, len, a0, b0, z0) lv = none := by rcases h with ⟨o, rfl⟩ | rfl | rfl <;> rfl
  have h2 : m_cst (pc, i, len, a0, b0, z0) = none := by rcases h with ⟨o, rfl⟩ | rfl | rfl <;> rfl
  have h3 : m_store (pc, i, len, a0, b0, z0) lv st = none := by rcases h with ⟨o, rfl⟩ | rfl | rfl <;> rfl
  rw [h1, h2, h3]
  simp only
  rw [h4]
  simp only
  rw [h5]
  simp only
  rw [h6]
  simp only
  rw [hb]
theorem b01 {x : Int32} (h0 : 0 ≤ x.toInt) (h1 : x.toInt ≤ 1) : x = 0 ∨ x = 1 := by
  rcases (show x.toInt = 0 ∨ x.toInt = 1 by omega) with e | e
  · exact Or.inl (z_of x e)
  · exact Or.inr (z_of x e)
theorem ftOK_ok {ty : FieldType} {v : AV} {w : Value} (h : ftOK ty v = true) (ho : okE Γ sets v.2.1 v.2.2.1 v.2.2.2.1 w) : narrow ty w = w ∧ fits ty w = true := by
  unfold ftOK at h
  split at h
  · obtain ⟨x, rfl⟩ := (k_is_int ho h).1; exact ⟨rfl, rfl⟩
  · simp only [Bool.and_eq_true, decide_eq_true_eq] at h
    have n := ho.num (k_is_int ho h.1).2
    obtain ⟨x, rfl⟩ := (k_is_int ho h.1).1
    simp only [vz] at n
    rcases b01 (x := x) (by omega) (by omega) with rfl | rfl <;> exact ⟨by decide, by decide⟩
  · have hk : k_is v.2.1 1 = true := by simpa [k_is] using h
    obtain ⟨x, rfl⟩ := (k_is_long ho hk).1; exact ⟨rfl, rfl⟩
  · have hk : k_is v.2.1 2 = true := by simpa [k_is] using h
    obtain ⟨⟨x, rfl, -⟩, -⟩ := k_is_ref ho hk; exact ⟨rfl, rfl⟩
  · have hk : k_is v.2.1 2 = true := by simpa [k_is] using h
    obtain ⟨⟨x, rfl, -⟩, -⟩ := k_is_ref ho hk; exact ⟨rfl, rfl⟩
  · cases h
/-- a write, out of the cell -/
theorem wr_one {E : MI} {rd : RD} {c : MC} {F : MH} {a k : Nat} {w : Value} {v : AV} {x : Int32} (hG : GOK Γ roles) {r : Nat} (hr : Γ a = some r) (hrd : roles[r]? = some rd) (hok : wrOK fty E rd v = true) (hc : okCell Γ sets rd c) (hm : m_cell ro F a = some c) (hv : okE Γ sets v.2.1 v.2.2.1 v.2.2.2.1 w) (hlt : k < rd.2.2.length) (hk : if isPut E = true then k = E.2.2.2.2.1 else 0 ≤ x.toInt ∧ x.toInt.toNat = k) (lv : LVs) (t : List Value) :
    a < KB ∧ ∃ c', m_one ro fty dfl E F lv (if isPut E = true then w :: .ref a :: t else w :: .int x :: .ref a :: t) = some (F.set a c', E.1 + E.2.2.1, lv, t) ∧ cont c' = (cont c).set k w ∧ (okL Γ sets rd.2.2 (cont c') → okCell Γ sets rd c') := by
  obtain ⟨g1, g2, g3, g4⟩ := hG a r rd hr hrd
  obtain ⟨pc, i, len, a0, b0, z0⟩ := E
  unfold wrOK at hok
  simp only at hok
  have hx : x.toNatClampNeg = x.toInt.toNat := rfl
  split at hok
  · rename_i idx
    have hg : isPut (pc, Instr.putfield idx, len, a0, b0, z0) = true := rfl
    rw [if_pos hg] at hk ⊢
    simp only [Bool.and_eq_true, beq_iff_eq, Bool.not_eq_true', beq_eq_false_iff_ne, ne_eq] at hok
    obtain ⟨⟨⟨o1, o2⟩, o3⟩, o4⟩ := hok
    have hKB := g4 o1 o3
    rcases hc with ⟨e, ⟨fs, rfl⟩, hL⟩ | ⟨e, -⟩ | ⟨e, -⟩ | ⟨e, -⟩
    · have hF : F[a]? = some (.inl (rd.2.1, fs)) := by unfold m_cell at hm; rw [if_pos hKB] at hm; exact hm
      obtain ⟨n1, n2⟩ := ftOK_ok o4 hv
      simp only at hk
      have hl : b0 < fs.length := by have := hL.1; simp only [cont] at this; omega
      refine ⟨hKB, .inl (rd.2.1, fs.set b0 w), ?_, by simp only [cont, hk], fun h => Or.inl ⟨o1, ⟨_, rfl⟩, h⟩⟩
      refine one_wr (Or.inl ⟨idx, rfl⟩) ?_ lv (q := (F.set a (.inl (rd.2.1, fs.set b0 w)), t))
      simp only [m_wr, hF]
      rw [if_pos ⟨hKB, o2, hl, by rw [o2]; exact n1, by rw [o2]; exact n2⟩]
    · omega
    · omega
    · omega
  · have hg : isPut (pc, Instr.iastore, len, a0, b0, z0) = false := rfl
    rw [if_neg (by rw [hg]; decide)] at hk ⊢
    simp only [Bool.and_eq_true, beq_iff_eq] at hok
    obtain ⟨⟨o1, o2⟩, o3⟩ := hok
    have hKB := g3 o1
    obtain ⟨y, rfl⟩ := (k_is_int hv o3).1
    rcases hc with ⟨e, -⟩ | ⟨e, ⟨xs, rfl⟩, hL⟩ | ⟨e, -⟩ | ⟨e, -⟩
    · omega
    · have hF : F[a]? = some (.inr (.inl (rd.2.1, xs))) := by unfold m_cell at hm; rw [if_pos hKB] at hm; exact hm
      have hl : k < xs.length := by have := hL.1; simp only [cont, List.length_map] at this; omega
      refine ⟨hKB, .inr (.inl (rd.2.1, xs.set k y)), ?_, by simp only [cont, List.map_set], fun h => Or.inr (Or.inl ⟨o1, ⟨_, rfl⟩, h⟩)⟩
      refine one_wr (Or.inr (Or.inl rfl)) ?_ lv (q := (F.set a (.inr (.inl (rd.2.1, xs.set k y))), t))
      simp only [m_wr, hF]
      rw [if_pos ⟨hKB, o2, m_in_of hk.1 (by omega)⟩, hx, hk.2]
    · omega
    · omega
  · have hg : isPut (pc, Instr.bastore, len, a0, b0, z0) = false := rfl
    rw [if_neg (by rw [hg]; decide)] at hk ⊢
    simp only [Bool.and_eq_true, beq_iff_eq, decide_eq_true_eq] at hok
    obtain ⟨⟨o1, o2⟩, o3, o4⟩ := hok
    have hKB := g3 o1
    have n := hv.num (k_is_int hv o3).2
    obtain ⟨y, rfl⟩ := (k_is_int hv o3).1
    simp only [vz] at n
    have hy : vp_nar .boolean y = y := by rcases b01 (x := y) (by omega) (by omega) with rfl | rfl <;> decide
    rcases hc with ⟨e, -⟩ | ⟨e, ⟨xs, rfl⟩, hL⟩ | ⟨e, -⟩ | ⟨e, -⟩
    · omega
    · have hF : F[a]? = some (.inr (.inl (rd.2.1, xs))) := by unfold m_cell at hm; rw [if_pos hKB] at hm; exact hm
      have hl : k < xs.length := by have := hL.1; simp only [cont, List.length_map] at this; omega
      refine ⟨hKB, .inr (.inl (rd.2.1, xs.set k y)), ?_, by simp only [cont, List.map_set], fun h => Or.inr (Or.inl ⟨o1, ⟨_, rfl⟩, h⟩)⟩
      refine one_wr (Or.inr (Or.inr rfl)) ?_ lv (q := (F.set a (.inr (.inl (rd.2.1, xs.set k y))), t))
      simp only [m_wr, hF]
      rw [if_pos ⟨hKB, o2, m_in_of hk.1 (by omega)⟩, hx, hk.2, hy]
    · omega
    · omega
  · cases hok
theorem cell_set {F : MH} {a b : Nat} {c c' : MC} (ha : a < KB) (hc : m_cell ro F a = some c) : m_cell ro (F.set a c') b = if b = a then some c' else m_cell ro F b := by
  unfold m_cell at hc ⊢
  rw [if_pos ha] at hc
  have hl := (List.getElem?_eq_some_iff.mp hc).1
  by_cases hb : b = a
  · subst hb
    rw [if_pos rfl, if_pos ha, List.getElem?_set_self hl]
  · rw [if_neg hb]
    split
    · rw [List.getElem?_set_ne (Ne.symm hb)]
    · rfl
theorem g_w1 (hG : GOK Γ roles) {E : MI × Option FieldType} (hE : m_at MT S.1.1 S.1.2.1 = some E) {p i v : AV} {l h : Nat} {r : List AV} {S1 : SS} (hx : x_w1 sets roles fty ms S E.1 p i v l h r = some S1) (hin : ∀ a ∈ r, a ∈ S.1.2.2.2) (hpm : p ∈ S.1.2.2.2) (him : i ∈ S.1.2.2.2) (hvm : v ∈ S.1.2.2.2)
    (hop : ∀ vs cst, (∀ a ∈ s_av S, okA Γ sets vs a) → cst.map some = S.1.2.2.2.map (fun a => vs[a.1]?) → ∃ a w x t k, cst = (if isPut E.1 = true then w :: .ref a :: t else w :: .int x :: .ref a :: t) ∧ vs[p.1]? = some (.ref a) ∧ vs[v.1]? = some w ∧ t.map some = r.map (fun a => vs[a.1]?) ∧ l ≤ k ∧ k ≤ h ∧ (if isPut E.1 = true then k = E.1.2.2.2.2.1 else (0 ≤ x.toInt ∧ x.toInt.toNat = k) ∧ vs[i.1]? = some (.int x)) ∧ (isPut E.1 = true → l = h))
    (hgd : Good Γ sets roles ms MT ro fty dfl vs0 F0 Q d S1) : Good Γ sets roles ms MT ro fty dfl vs0 F0 Q d S := by
  intro vs f fs F hp hS hW hF
  obtain ⟨lv, cst, rfl, hl, hc1, hc2⟩ := hS.frame
  obtain ⟨a, w, x, t, k, rfl, q1, qv, q2, kl, kh, q3, q4⟩ := hop vs cst hS.1 hc1
  unfold x_w1 at hx
  split at hx
  · rename_i hp2
    split at hx
    · rename_i rd hrd
      split at hx
      · rename_i hok
        obtain ⟨o1, o2, o3, o4⟩ := hok
        cases hx
        obtain ⟨v0, e1, e2, -⟩ := hc2 p hpm
        obtain rfl : v0 = .ref a := Option.some.inj (e1.symm.trans q1)
        obtain ⟨⟨a', e3, hΓ⟩, -⟩ := k_is_ref e2 (by rw [hp2.1]; rfl)
        cases e3
        obtain ⟨c, hm, hcell⟩ := hW a _ rd hΓ hrd
        obtain ⟨w0, e4, e5, -⟩ := id (hc2 v hvm)
        obtain rfl : w0 = w := Option.some.inj (e4.symm.trans qv)
        have h3 : ¬ rd.1 = 3 := by
          intro e
          unfold wrOK at o1
          split at o1 <;> simp [e] at o1
        have hcl := okCell_get hcell h3
        obtain ⟨hKB, c', s1, s2, s3⟩ := wr_one (ro := ro) (dfl := dfl) (x := x) (k := k) hG hΓ hrd o1 hcell hm e5 (by omega) (by
          cases hq : isPut E.1 with
          | true => rw [hq] at q3; simpa using q3
          | false => rw [hq] at q3; simp at q3 ⊢; exact q3.1) lv t
        have hkey : ∀ j e, rd.2.2[j]? = some e → l ≤ j → j ≤ h → okE Γ sets e.1 e.2.1 e.2.2 w0 := by
          intro j e he j1 j2
          have hm2 : e ∈ (rd.2.2.drop l).take (h - l + 1) := by
            rw [List.mem_iff_getElem?]
            refine ⟨j - l, ?_⟩
            rw [List.getElem?_take, if_pos (by omega), List.getElem?_drop, show l + (j - l) = j by omega]
            exact he
          exact x_sub_ok (List.all_eq_true.mp o3 e hm2) e5
        have hL' : okL Γ sets rd.2.2 (cont c') := by
          rw [s2]
          refine ⟨by rw [List.length_set]; exact hcl.1, fun j e he => ?_⟩
          rw [List.getElem?_set]
          by_cases hj : k = j
          · subst hj
            have : k < (cont c).length := by rw [hcl.1]; omega
            rw [if_pos rfl, if_pos this]
            exact ⟨w0, rfl, hkey k e he kl kh⟩
          · rw [if_neg hj]
            exact hcl.2 j e he
        have hcell' := s3 hL'
        have hW' : WT Γ sets roles ro (F.set a c') := by
          intro b r2 rd2 hb hb2
          rw [cell_set hKB hm]
          by_cases hba : b = a
          · subst hba
            rw [if_pos rfl]
            rw [hΓ] at hb
            cases hb
            rw [hrd] at hb2
            cases hb2
            exact ⟨c', rfl, hcell'⟩
          · rw [if_neg hba]
            exact hW b r2 rd2 hb hb2
        have hlen : clen c' = clen c := by unfold clen; rw [s2, List.length_set]
        have hF' : FRm Γ ro ms F0 (F.set a c') := by
          intro b r2 j c0 c1 hb hj hb0 hb1
          rw [cell_set hKB hm] at hb1
          by_cases hba : b = a
          · subst hba
            rw [if_pos rfl] at hb1
            cases hb1
            rw [hΓ] at hb
            cases hb
            obtain ⟨f1, f2⟩ := hF b _ j c0 c hΓ hj hb0 hm
            refine ⟨?_, hlen.trans f2⟩
            rw [s2, List.getElem?_set_ne, f1]
            intro e
            subst e
            obtain ⟨q, hq, hq2⟩ := List.any_eq_true.mp o4
            simp only [Bool.and_eq_true, beq_iff_eq, decide_eq_true_eq] at hq2
            have : inM ms p.2.2.1.toNat k = true := List.any_eq_true.mpr ⟨q, hq, by simp only [Bool.and_eq_true, beq_iff_eq, decide_eq_true_eq]; omega⟩
            rw [this] at hj
            cases hj
          · rw [if_neg hba] at hb1
            exact hF b r2 j c0 c1 hb hj hb0 hb1
        refine TT.one hE s1 ?_
        refine hgd vs (S.1.1, E.1.1 + E.1.2.2.1, lv, t) fs (F.set a c') hp ?_ hW' hF'
        have hS' : okS Γ sets ro vs (s_wrt p.1 p.2.2.1.toNat l h i v S) (S.1.1, S.1.2.1, lv, (if isPut E.1 = true then w0 :: .ref a :: t else w0 :: .int x :: .ref a :: t)) fs (F.set a c') := by
          obtain ⟨h1, h2, h3, h4, h5, h6, h7⟩ := hS
          refine ⟨fun b hb => ?_, h2, h3, fun q hq => ?_, fun q hq => ?_, h6, h7⟩
          · simp only [s_av, s_wrt, List.map_append, List.flatMap_append, List.mem_append] at hb
            rcases hb with hb | hb | (hb | hb) | (hb | hb)
            · exact h1 b (List.mem_append_left _ hb)
            · exact h1 b (List.mem_append_right _ (List.mem_append_left _ hb))
            · split at hb
              · simp only [List.map_cons, List.map_nil, List.mem_cons, List.not_mem_nil, or_false] at hb
                subst hb
                exact hc2 _ hvm
              · simp at hb
            · obtain ⟨q, hq, rfl⟩ := List.mem_map.mp hb
              exact h1 _ (mem_fact ((List.mem_filter.mp hq).1))
            · split at hb
              · simp at hb
              · simp only [List.flatMap_cons, List.flatMap_nil, List.append_nil, List.mem_cons, List.not_mem_nil, or_false] at hb
                rcases hb with rfl | rfl
                · exact hc2 _ him
                · exact hc2 _ hvm
            · obtain ⟨q, hq, hq2⟩ := List.mem_flatMap.mp hb
              exact h1 _ (List.mem_append_right _ (List.mem_append_right _ (List.mem_append_right _ (List.mem_flatMap.mpr ⟨q, (List.mem_filter.mp hq).1, hq2⟩))))
          · rcases List.mem_append.mp hq with hq | hq
            · split at hq
              · rename_i hlh
                simp only [List.mem_cons, List.not_mem_nil, or_false] at hq
                subst hq
                have hkl : k = l := by omega
                refine ⟨a, c', w0, q1, hΓ, by rw [cell_set hKB hm, if_pos rfl], qv, ?_⟩
                simp only
                rw [if_neg (by omega), s2, ← hkl, List.getElem?_set_self (by rw [hcl.1]; omega)]
              · cases hq
            · obtain ⟨hq1, hq2⟩ := List.mem_filter.mp hq
              obtain ⟨b, cb, u, g1, g2, g3, g4, g5⟩ := h4 q hq1
              simp only [Bool.not_eq_true', Bool.and_eq_false_iff, beq_eq_false_iff_ne, ne_eq, decide_eq_false_iff_not] at hq2
              by_cases hba : b = a
              · subst hba
                have g2' := Option.some.inj (hΓ.symm.trans g2)
                cases hm.symm.trans g3
                refine ⟨b, c', u, g1, g2, by rw [cell_set hKB hm, if_pos rfl], g4, ?_⟩
                split at g5
                · rename_i e5000
                  rw [if_pos e5000, hlen]; exact g5
                · rename_i e5000
                  rw [if_neg e5000, s2, List.getElem?_set_ne (by
                    rcases hq2 with (z | z) | z
                    · exact absurd g2'.symm z
                    · omega
                    · omega)]
                  exact g5
              · exact ⟨b, cb, u, g1, g2, by rw [cell_set hKB hm, if_neg hba]; exact g3, g4, g5⟩
          · rcases List.mem_append.mp hq with hq | hq
            · split at hq
              · cases hq
              · rename_i hlh
                simp only [List.mem_cons, List.not_mem_nil, or_false] at hq
                subst hq
                have hnp : isPut E.1 = false := by
                  cases hq : isPut E.1 with
                  | true => exact absurd (q4 hq) hlh
                  | false => rfl
                rw [if_neg (by rw [hnp]; decide)] at q3
                refine ⟨a, c', x, w0, q1, hΓ, by rw [cell_set hKB hm, if_pos rfl], q3.2, q3.1.1, qv, ?_⟩
                rw [s2, q3.1.2, List.getElem?_set_self (by rw [hcl.1]; omega)]
            · obtain ⟨hq1, hq2⟩ := List.mem_filter.mp hq
              obtain ⟨b, cb, y, u, g1, g2, g3, g4, g5, g6, g7⟩ := h5 q hq1
              simp only [Bool.not_eq_true', beq_eq_false_iff_ne, ne_eq] at hq2
              have hba : ¬ b = a := by
                intro e
                subst e
                rw [hΓ] at g2
                exact hq2 (Option.some.inj g2).symm
              exact ⟨b, cb, y, u, g1, g2, by rw [cell_set hKB hm, if_neg hba]; exact g3, g4, g5, g6, g7⟩
        exact hS'.top hl (fun b hb => hc2 b (hin b hb)) q2
      · cases hx
    · cases hx
  · cases hx
theorem g_wr (hG : GOK Γ roles) {E : MI × Option FieldType} (hE : m_at MT S.1.1 S.1.2.1 = some E) {S1 : SS} (hx : x_wr sets roles fty ms S E.1 = some S1) (hgd : Good Γ sets roles ms MT ro fty dfl vs0 F0 Q d S1) : Good Γ sets roles ms MT ro fty dfl vs0 F0 Q d S := by
  unfold x_wr at hx
  split at hx
  · rename_i hput
    split at hx
    · rename_i v p r hst
      have hv : v ∈ S.1.2.2.2 := by rw [hst]; simp
      have hp : p ∈ S.1.2.2.2 := by rw [hst]; simp
      have hx0 := hx
      unfold x_w1 at hx0
      split at hx0
      · rename_i hp2
        refine g_w1 hG hE hx (fun a ha => by rw [hst]; simp [ha]) hp hp hv (fun vs cst hA hc => ?_) hgd
        rw [hst] at hc
        obtain ⟨w, t, rfl, e1, e2⟩ := stk1 hc
        obtain ⟨u, t, rfl, e3, e4⟩ := stk1 e2
        obtain ⟨u', e5, e6, -⟩ := hA p (mem_top hp)
        obtain rfl : u' = u := Option.some.inj (e5.symm.trans e3)
        obtain ⟨⟨a', e7, -⟩, -⟩ := k_is_ref e6 (by rw [hp2.1]; rfl)
        subst e7
        refine ⟨a', w, 0, t, E.1.2.2.2.2.1, by rw [if_pos hput], e3, e1, e4, Nat.le_refl _, Nat.le_refl _, by rw [if_pos hput], fun _ => rfl⟩
      · cases hx0
    · cases hx
  · rename_i hput
    split at hx
    · rename_i v i p r hst
      split at hx
      · rename_i hi
        have hv : v ∈ S.1.2.2.2 := by rw [hst]; simp
        have hp : p ∈ S.1.2.2.2 := by rw [hst]; simp
        have hi2 : i ∈ S.1.2.2.2 := by rw [hst]; simp
        have hx0 := hx
        unfold x_w1 at hx0
        split at hx0
        · rename_i hp2
          refine g_w1 hG hE hx (fun a ha => by rw [hst]; simp [ha]) hp hi2 hv (fun vs cst hA hc => ?_) hgd
          rw [hst] at hc
          obtain ⟨w, t, rfl, e1, e2⟩ := stk1 hc
          obtain ⟨y, t, rfl, e3, e4⟩ := stk1 e2
          obtain ⟨u, t, rfl, f3, f4⟩ := stk1 e4
          obtain ⟨u', e5, e6, -⟩ := hA p (mem_top hp)
          obtain rfl : u' = u := Option.some.inj (e5.symm.trans f3)
          obtain ⟨⟨a', e7, -⟩, -⟩ := k_is_ref e6 (by rw [hp2.1]; rfl)
          subst e7
          obtain ⟨y', e5, e6, -⟩ := hA i (mem_top hi2)
          obtain rfl : y' = y := Option.some.inj (e5.symm.trans e3)
          have n := e6.num (k_is_int e6 hi.1).2
          obtain ⟨z, e7⟩ := (k_is_int e6 hi.1).1
          subst e7
          simp only [vz] at n
          refine ⟨a', w, z, t, z.toInt.toNat, by rw [if_neg hput], f3, e1, f4, by omega, by omega, by rw [if_neg hput]; exact ⟨⟨by omega, rfl⟩, e3⟩, fun e => absurd e hput⟩
        · cases hx0
      · cases hx
    · cases hx
end SxQ
