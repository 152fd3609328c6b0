/-! SYMBOLIC RUNS, XV: reads, as steps -/
def s_fact (q : FA) (S : SS) : SS := (S.1, S.2.1, q :: S.2.2.1, S.2.2.2.1, S.2.2.2.2.1, S.2.2.2.2.2)
def s_ef (q : EA) (S : SS) : SS := (S.1, S.2.1, S.2.2.1, q :: S.2.2.2.1, S.2.2.2.2.1, S.2.2.2.2.2)
def x_new (S : SS) (e : Nat × Int × Int) : AV := (S.2.2.2.2.2, e.1, e.2.1, e.2.2, [])
/-- a place that is known -/
def x_rdC (roles : List RD) (S : SS) (E : MI) (p : AV) (k : Nat) (r : List AV) : Option SS :=
  if p.2.1 = 2 ∧ ¬ k = 5000 then (match roles[p.2.2.1.toNat]? with
    | some rd => if rdOK E rd = true ∧ ¬ rd.1 = 3 then (match S.2.2.1.find? (fun q => q.1 == p.1 && q.2.2.1 == k) with
        | some q => some (s_top S (E.1 + E.2.2.1) S.1.2.2.1 (q.2.2.2 :: r))
        | none => (match rd.2.2[k]? with
          | some e => some (s_top (s_fact (p.1, p.2.2.1.toNat, k, x_new S e) (s_up S)) (E.1 + E.2.2.1) S.1.2.2.1 (x_new S e :: r))
          | none => none)) else none
    | none => none) else none
/-- a place that is a symbol is in the row -/
def x_ln (S : SS) (p i : AV) (rd : RD) : Bool := if rd.1 = 3 then (match S.2.2.1.find? (fun q => q.1 == p.1 && q.2.2.1 == 5000) with | some q => k_is q.2.2.2.2.1 0 && decide ((a_diff i q.2.2.2).2 ≤ -1) | none => false) else decide (i.2.2.2.1 < rd.2.2.length)
/-- a place that is a symbol -/
def x_rdV (roles : List RD) (S : SS) (E : MI) (p i : AV) (r : List AV) : Option SS :=
  if p.2.1 = 2 ∧ 0 ≤ i.2.2.1 then (match roles[p.2.2.1.toNat]? with
    | some rd => if rdOK E rd = true ∧ x_ln S p i rd = true then
        (match S.2.2.2.1.find? (fun q => q.1 == p.1 && x_eq q.2.2.1 i) with
        | some q => some (s_top S (E.1 + E.2.2.1) S.1.2.2.1 (q.2.2.2 :: r))
        | none => (match j_es (if rd.1 = 3 then rd.2.2 else (rd.2.2.drop i.2.2.1.toNat).take (i.2.2.2.1 - i.2.2.1 + 1).toNat) with
          | some e => some (s_top (s_ef (p.1, p.2.2.1.toNat, i, x_new S e) (s_up S)) (E.1 + E.2.2.1) S.1.2.2.1 (x_new S e :: r))
          | none => none)) else none
    | none => none) else none
def x_r3 (roles : List RD) (p : AV) : Bool := match roles[p.2.2.1.toNat]? with | some rd => rd.1 == 3 | none => true
def x_rd (roles : List RD) (S : SS) (E : MI) : Option SS :=
  if isGet E = true then (match S.1.2.2.2 with | p :: r => x_rdC roles S E p E.2.2.2.2.1 r | _ => none)
  else (match S.1.2.2.2 with
    | i :: p :: r => if k_is i.2.1 0 = true then (if isC i = true ∧ 0 ≤ i.2.2.1 ∧ x_r3 roles p = false then x_rdC roles S E p i.2.2.1.toNat r else x_rdV roles S E p i r) else none
    | _ => none)
section SxO
variable {Γ : Nat → Option Nat} {sets : List (List Int)} {roles : List RD} {ms : Mods} {MT : List MM} {ro : Nat → Option MC} {fty : Nat → Nat → FieldType} {dfl : Nat → List Value} {vs0 : List Value} {F0 : MH} {Q : Option Value → MH → Prop} {d : Nat} {S : SS}
theorem okS.fact {vs : List Value} {f : CF} {fs : List CF} {F : MH} (h : okS Γ sets ro vs S f fs F) {q : FA} (hq : okFa Γ ro F vs q) (ha : okA Γ sets vs q.2.2.2) : okS Γ sets ro vs (s_fact q S) f fs F := by
  obtain ⟨h1, h2, h3, h4, h5, h6, h7⟩ := h
  refine ⟨fun a hm => ?_, h2, h3, fun q' hq' => ?_, h5, h6, h7⟩
  · simp only [s_av, s_fact, List.map_cons, List.mem_append, List.mem_cons] at hm
    rcases hm with hm | hm | (rfl | hm) | hm
    · exact h1 a (List.mem_append_left _ hm)
    · exact h1 a (List.mem_append_right _ (List.mem_append_left _ hm))
    · exact ha
    · exact h1 a (List.mem_append_right _ (List.mem_append_right _ (List.mem_append_left _ hm)))
    · exact h1 a (List.mem_append_right _ (List.mem_append_right _ (List.mem_append_right _ hm)))
  · rcases List.mem_cons.mp hq' with rfl | hq'
    · exact hq
    · exact h4 q' hq'
theorem okS.ef {vs : List Value} {f : CF} {fs : List CF} {F : MH} (h : okS Γ sets ro vs S f fs F) {q : EA} (hq : okEa Γ ro F vs q) (hi : okA Γ sets vs q.2.2.1) (ha : okA Γ sets vs q.2.2.2) : okS Γ sets ro vs (s_ef q S) f fs F := by
  obtain ⟨h1, h2, h3, h4, h5, h6, h7⟩ := h
  refine ⟨fun a hm => ?_, h2, h3, h4, fun q' hq' => ?_, h6, h7⟩
  · simp only [s_av, s_ef, List.flatMap_cons, List.mem_append, List.mem_cons, List.not_mem_nil, or_false] at hm
    rcases hm with hm | hm | hm | (rfl | rfl) | hm
    · exact h1 a (List.mem_append_left _ hm)
    · exact h1 a (List.mem_append_right _ (List.mem_append_left _ hm))
    · exact h1 a (List.mem_append_right _ (List.mem_append_right _ (List.mem_append_left _ hm)))
    · exact hi
    · exact ha
    · exact h1 a (List.mem_append_right _ (List.mem_append_right _ (List.mem_append_right _ hm)))
  · rcases List.mem_cons.mp hq' with rfl | hq'
    · exact hq
    · exact h5 q' hq'
theorem okCell_get {rd : RD} {c : MC} (h : okCell Γ sets rd c) (h3 : ¬ rd.1 = 3) : okL Γ sets rd.2.2 (cont c) := by
  rcases h with ⟨-, -, h⟩ | ⟨-, -, h⟩ | ⟨-, -, h⟩ | ⟨h, -⟩
  · exact h
  · exact h
  · exact h
  · exact absurd h h3
/-- what a read needs: the machine's step, for the value that is there -/
theorem rdC_ok (hG : GOK Γ roles) {E : MI × Option FieldType} (hE : m_at MT S.1.1 S.1.2.1 = some E) {p : AV} {k : Nat} {r : List AV} {S1 : SS} (hx : x_rdC roles S E.1 p k r = some S1) (hin : ∀ a ∈ r, a ∈ S.1.2.2.2) (hpm : p ∈ S.1.2.2.2)
    (hop : ∀ vs cst, (∀ a ∈ s_av S, okA Γ sets vs a) → cst.map some = S.1.2.2.2.map (fun a => vs[a.1]?) → ∃ a x t, cst = (if isGet E.1 = true then .ref a :: t else .int x :: .ref a :: t) ∧ vs[p.1]? = some (.ref a) ∧ t.map some = r.map (fun a => vs[a.1]?) ∧ (if isGet E.1 = true then k = E.1.2.2.2.2.1 else 0 ≤ x.toInt ∧ x.toInt.toNat = k))
    (h : Good Γ sets roles ms MT ro fty dfl vs0 F0 Q d S1) : Good Γ sets roles ms MT ro fty dfl vs0 F0 Q d S := by
  intro vs f fs F hp hS hW hF
  obtain ⟨lv, cst, rfl, hl, hc1, hc2⟩ := hS.frame
  obtain ⟨a, x, t, rfl, q1, q2, q3⟩ := hop vs cst hS.1 hc1
  have hn := hS.2.2.2.2.2.2
  unfold x_rdC at hx
  split at hx
  · rename_i hp2
    split at hx
    · rename_i rd hrd
      split at hx
      · rename_i hok
        obtain ⟨v0, e1, e2, -⟩ := hc2 p hpm
        obtain rfl : v0 = .ref a := Option.some.inj (e1.symm.trans q1)
        unfold okE at e2
        rw [if_neg (by omega), if_neg (by omega), if_pos hp2.1] at e2
        obtain ⟨a', e3, hΓ⟩ := e2
        cases e3
        obtain ⟨c, hm, hcell⟩ := hW a _ rd hΓ hrd
        split at hx
        · rename_i q hq
          cases hx
          have hqm := List.mem_of_find?_eq_some hq
          have hqp := List.find?_some hq
          simp only [Bool.and_eq_true, beq_iff_eq] at hqp
          obtain ⟨a2, c2, v, g1, g2, g3, g4, g5⟩ := hS.2.2.2.1 q hqm
          rw [hqp.1, q1] at g1
          cases g1
          cases hm.symm.trans g3
          rw [hqp.2, if_neg hp2.2] at g5
          refine TT.one hE (rd_one hG hΓ hrd hok.1 hcell hm g5 q3 lv t) ?_
          refine h vs (S.1.1, E.1.1 + E.1.2.2.1, lv, v :: t) fs F hp (hS.top hl (fun b hb => ?_) ?_) hW hF
          · rcases List.mem_cons.mp hb with rfl | hb
            · exact hS.1 _ (mem_fact hqm)
            · exact hc2 b (hin b hb)
          · simp only [List.map_cons, List.cons.injEq]
            exact ⟨g4.symm, q2⟩
        · split at hx
          · rename_i e he
            cases hx
            obtain ⟨v, g1, g2⟩ := (okCell_get hcell hok.2).2 k e he
            refine TT.one hE (rd_one hG hΓ hrd hok.1 hcell hm g1 q3 lv t) ?_
            have e0 : (vs ++ [v])[S.2.2.2.2.2]? = some v := by rw [hn]; simp
            have oa : okA Γ sets (vs ++ [v]) (x_new S e) := ⟨v, e0, g2, fun q hq => by cases hq⟩
            have hS1 := (hS.up v).fact (q := (p.1, p.2.2.1.toNat, k, x_new S e)) ⟨a, c, v, get_app q1, hΓ, hm, e0, by rw [if_neg hp2.2]; exact g1⟩ oa
            refine h (vs ++ [v]) (S.1.1, E.1.1 + E.1.2.2.1, lv, v :: t) fs F (pre_app hp v) (hS1.top (fun q hq => ?_) (fun b hb => ?_) ?_) hW hF
            · obtain ⟨q1, w, q2, q3⟩ := hl q hq
              exact ⟨q1.app _, w, get_app q2, q3⟩
            · rcases List.mem_cons.mp hb with rfl | hb
              · exact oa
              · exact (hc2 b (hin b hb)).app _
            · simp only [List.map_cons, List.cons.injEq]
              refine ⟨e0.symm, ?_⟩
              rw [q2]
              apply List.map_congr_left
              intro b hb
              obtain ⟨w, hw⟩ := (hc2 b (hin b hb)).get
              rw [hw, get_app hw]
          · cases hx
      · cases hx
    · cases hx
  · cases hx
theorem rdV_ok (hG : GOK Γ roles) {E : MI × Option FieldType} (hE : m_at MT S.1.1 S.1.2.1 = some E) {p i : AV} {r : List AV} {S1 : SS} (hx : x_rdV roles S E.1 p i r = some S1) (hst : S.1.2.2.2 = i :: p :: r) (ki : k_is i.2.1 0 = true) (hng : isGet E.1 = false)
    (h : Good Γ sets roles ms MT ro fty dfl vs0 F0 Q d S1) : Good Γ sets roles ms MT ro fty dfl vs0 F0 Q d S := by
  intro vs f fs F hp hS hW hF
  obtain ⟨lv, cst, rfl, hl, hc1, hc2⟩ := hS.frame
  have hin : ∀ a ∈ r, a ∈ S.1.2.2.2 := fun a ha => by rw [hst]; simp [ha]
  have op := hc2 p (by rw [hst]; simp)
  have oi := hc2 i (by rw [hst]; simp)
  rw [hst] at hc1
  obtain ⟨w, t1, rfl, k2, k3⟩ := stk1 hc1
  obtain ⟨v1, t, rfl, k5, q2⟩ := stk1 k3
  obtain ⟨w', p1, p2, -⟩ := id oi
  obtain rfl : w' = w := Option.some.inj (p1.symm.trans k2)
  have ni := p2.num (k_is_int p2 ki).2
  obtain ⟨x, rfl⟩ := (k_is_int p2 ki).1
  simp only [vz] at ni
  have hn := hS.2.2.2.2.2.2
  unfold x_rdV at hx
  split at hx
  · rename_i hp2
    split at hx
    · rename_i rd hrd
      split at hx
      · rename_i hok
        obtain ⟨v0, e1, e2, -⟩ := id op
        obtain rfl : v0 = v1 := Option.some.inj (e1.symm.trans k5)
        unfold okE at e2
        rw [if_neg (by omega), if_neg (by omega), if_pos hp2.1] at e2
        obtain ⟨a, rfl, hΓ⟩ := e2
        obtain ⟨c, hm, hcell⟩ := hW a _ rd hΓ hrd
        have hx0 : 0 ≤ x.toInt := by omega
        have step : ∀ v, (cont c)[x.toInt.toNat]? = some v → m_one ro fty dfl E.1 F lv (.int x :: .ref a :: t) = some (F, E.1.1 + E.1.2.2.1, lv, v :: t) := by
          intro v hv
          have := rd_one (fty := fty) (dfl := dfl) (E := E.1) (x := x) hG hΓ hrd hok.1 hcell hm hv (by rw [if_neg (by rw [hng]; decide)]; exact ⟨hx0, rfl⟩) lv t
          rw [if_neg (by rw [hng]; decide)] at this
          exact this
        split at hx
        · rename_i q hq
          cases hx
          have hqm := List.mem_of_find?_eq_some hq
          have hqp := List.find?_some hq
          simp only [Bool.and_eq_true, beq_iff_eq] at hqp
          obtain ⟨a2, c2, y, v, g1, g2, g3, g4, g5, g6, g7⟩ := hS.2.2.2.2.1 q hqm
          rw [hqp.1, k5] at g1
          cases g1
          cases hm.symm.trans g3
          have hxy := x_eq_ok hqp.2 (hS.1 _ (mem_ef1 hqm)) oi g4 k2
          cases hxy
          refine TT.one hE (step v g7) ?_
          refine h vs (S.1.1, E.1.1 + E.1.2.2.1, lv, v :: t) fs F hp (hS.top hl (fun b hb => ?_) ?_) hW hF
          · rcases List.mem_cons.mp hb with rfl | hb
            · exact hS.1 _ (mem_ef2 hqm)
            · exact hc2 b (hin b hb)
          · simp only [List.map_cons, List.cons.injEq]
            exact ⟨g6.symm, q2⟩
        · split at hx
          · rename_i e he
            cases hx
            have hval : ∃ v, (cont c)[x.toInt.toNat]? = some v ∧ okE Γ sets e.1 e.2.1 e.2.2 v := by
              by_cases h3 : rd.1 = 3
              · have hok2 := hok.2
                unfold x_ln at hok2
                rw [if_pos h3] at hok2 he
                split at hok2
                · rename_i q hq
                  simp only [Bool.and_eq_true, decide_eq_true_eq] at hok2
                  have hqm := List.mem_of_find?_eq_some hq
                  have hqp := List.find?_some hq
                  simp only [Bool.and_eq_true, beq_iff_eq] at hqp
                  obtain ⟨a2, c2, v, g1, g2, g3, g4, g5⟩ := hS.2.2.2.1 q hqm
                  rw [hqp.1, k5] at g1
                  cases g1
                  cases hm.symm.trans g3
                  rw [hqp.2, if_pos rfl] at g5
                  subst g5
                  have oq := hS.1 _ (mem_fact hqm)
                  obtain ⟨w2, z1, z2, -⟩ := id oq
                  obtain rfl : w2 = _ := Option.some.inj (z1.symm.trans g4)
                  have hd := a_diff_ok oi oq (k_is_int p2 ki).2 (k_is_int z2 hok2.1).2 k2 g4
                  rcases hcell with ⟨ee, -⟩ | ⟨ee, -⟩ | ⟨ee, -⟩ | ⟨-, ⟨xs, e4, e5⟩, e6, e7, e8⟩
                  · omega
                  · omega
                  · omega
                  · subst e4
                    have hcl : clen (.inr (.inl (rd.2.1, xs))) = xs.length := by simp [clen, cont]
                    rw [hcl] at hd
                    have hlen : (Int32.ofNat xs.length).toInt = (xs.length : Int) := nI_toInt (n := xs.length) (by omega)
                    simp only [i_in, vz, hlen] at hd
                    have hlt : x.toInt.toNat < (cont (.inr (.inl (rd.2.1, xs)))).length := by simp only [cont, List.length_map]; omega
                    refine ⟨_, List.getElem?_eq_getElem hlt, ?_⟩
                    rw [e7] at he
                    rw [j_es] at he
                    cases he
                    exact e8 _ (List.getElem_mem hlt)
                · cases hok2
              · have hok2 := hok.2
                unfold x_ln at hok2
                rw [if_neg h3] at hok2 he
                simp only [decide_eq_true_eq] at hok2
                obtain ⟨l1, l2⟩ := okCell_get hcell h3
                have hlt : x.toInt.toNat < rd.2.2.length := by omega
                obtain ⟨v, g1, g2⟩ := l2 x.toInt.toNat _ (List.getElem?_eq_getElem hlt)
                refine ⟨v, g1, j_es_ok _ e he ⟨_, ?_, g2⟩⟩
                rw [List.mem_iff_getElem?]
                refine ⟨x.toInt.toNat - i.2.2.1.toNat, ?_⟩
                rw [List.getElem?_take, if_pos (by omega), List.getElem?_drop, show i.2.2.1.toNat + (x.toInt.toNat - i.2.2.1.toNat) = x.toInt.toNat by omega]
                exact List.getElem?_eq_getElem hlt
            obtain ⟨v, g1, g2⟩ := hval
            refine TT.one hE (step v g1) ?_
            have e0 : (vs ++ [v])[S.2.2.2.2.2]? = some v := by rw [hn]; simp
            have oa : okA Γ sets (vs ++ [v]) (x_new S e) := ⟨v, e0, g2, fun q hq => by cases hq⟩
            have hS1 := (hS.up v).ef (q := (p.1, p.2.2.1.toNat, i, x_new S e)) ⟨a, c, x, v, get_app k5, hΓ, hm, get_app k2, hx0, e0, g1⟩ (oi.app _) oa
            refine h (vs ++ [v]) (S.1.1, E.1.1 + E.1.2.2.1, lv, v :: t) fs F (pre_app hp v) (hS1.top (fun q hq => ?_) (fun b hb => ?_) ?_) hW hF
            · obtain ⟨q1, w, q2, q3⟩ := hl q hq
              exact ⟨q1.app _, w, get_app q2, q3⟩
            · rcases List.mem_cons.mp hb with rfl | hb
              · exact oa
              · exact (hc2 b (hin b hb)).app _
            · simp only [List.map_cons, List.cons.injEq]
              refine ⟨e0.symm, ?_⟩
              rw [q2]
              apply List.map_congr_left
              intro b hb
              obtain ⟨w, hw⟩ := (hc2 b (hin b hb)).get
              rw [hw, get_app hw]
          · cases hx
      · cases hx
    · cases hx
  · cases hx
end SxO
