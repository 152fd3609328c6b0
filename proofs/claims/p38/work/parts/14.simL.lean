/-! THE SMALL MACHINE IS THE MACHINE, XII: what the small machine answers, the machine answers -/
section SimL
variable {l : Launch} {rA : Nat → Nat} {sio : Value} {cA : Nat → ClassId} {dC : Nat → ClassId} {dI : Nat → Nat → Nat} {cls : List vw_C} {b0 : Nat} {strT : StrT} {nestT : NestT} {ro : Nat → Option MC}
theorem sim {MT : List MM} {ws : List Cond} {fty : Nat → Nat → FieldType} {dfl : Nat → List Value} (hMT : ∀ mi M, MT[mi]? = some M → bodyOK cls fty MT ws strT nestT M ∧ (0 < mi → callOK ws M)) (hgw : ∀ w ∈ ws, goodWord w = true) (hcl : clsOK cls fty dfl ws) (h99 : cls.length ≤ 99) (hmt : MT.length ≤ 9000) (hs : sioOK sio) (hrA : ∀ a, a < KB → rA a = b0 + a) (hr1 : ∀ j y, ro j = some y → j ≠ 100) :
    ∀ (n d mi : Nat) (M : MM) (F : MH) (pc : Nat) (lv : LVs) (st : List Value) (z : Option Value × MH), MT[mi]? = some M → ex MT ro fty dfl n d mi F pc lv st = some z → rowsOK F →
    ∀ {p : Program} {e : Env} {R : Room} {s : State} {m : MethodId} {args : Array Value} {below : List Frame} {meth : Method} {c : Code} {H : Heap} {locs : List Loc} {cells slots : Nat} {ls : Array Slot} {Q : State → Prop},
    p.tables.exec = Jvm.exec → c.code = M.2.1 → c.maxLocals = M.2.2.1 → s.vm.findClass M.1.cls = some m.cls → meth.name = M.1.name → (∀ w ∈ ws, w.before args s = true) → CTX cls strT nestT ro rA sio b0 dC dI cA s → lv_has ls M.2.2.1 (trl rA sio lv) → va_P (dC, dI) cls (wsF (trE rA sio cA) b0 F) H → va_S (fun q => b0 ≤ q) s.heap H locs → s.heap.size + cells = b0 + F.length → b0 + F.length ≤ H.size →
    d + 1 ≤ R.frames → 64 * (d + 1) ≤ R.locals → cells + z.2.length ≤ R.cells + F.length → slots + mz z.2 ≤ R.slots + mz F →
    (∀ (E : MI) (st1 : List Value) (H1 : Heap) (l1 : List Loc) (ls1 : Array Slot) (c1 s1 : Nat), E ∈ M.2.2.2.2 → m_ret M.2.2.2.1 E st1 = some z.1 → va_P (dC, dI) cls (wsF (trE rA sio cA) b0 z.2) H1 → b0 + z.2.length ≤ H1.size → va_S (fun q => b0 ≤ q) s.heap H1 l1 → c1 + F.length = cells + z.2.length → s1 + mz F = slots + mz z.2 → W p l e R s m args below meth c H1 l1 c1 s1 Q (F0 m E.1 ls1 (trs rA sio st1))) →
    W p l e R s m args below meth c H locs cells slots Q (F0 m pc ls (trs rA sio st)) := by
  intro n
  induction n with
  | zero => intro d mi M F pc lv st z _ h; cases h
  | succ n ih =>
    intro d mi M F pc lv st z hM h hR p e R s m args below meth c H locs cells slots ls Q hx hb hml hown hmn hts hX hl hP hS hI hsz hRf hRl hc1 hs1 hret
    obtain ⟨hbody, -⟩ := hMT mi M hM
    rw [ex] at h
    split at h
    · cases h
    · rename_i EE hat
      obtain ⟨E, rt⟩ := EE
      obtain ⟨M', hM', hE, hpc, hrt⟩ := m_at_spec hat
      cases hM.symm.trans hM'
      simp only at hE hpc hrt h
      subst hpc
      subst hrt
      obtain ⟨hok, hiv⟩ := hbody E hE
      split at h
      · rename_i q hq
        have hg1 := one_grow hq
        have hg2 := ex_grow _ _ _ _ _ _ _ _ h
        refine s_one hx hb hts hown hmn hs hok hcl h99 hX hrA hr1 hR hl hP hS hI hsz hq (by omega) (by omega) (fun H1 l1 ls1 c1 s1 g1 g2 g3 g4 g5 g6 => ?_)
        exact ih d mi M q.1 q.2.1 q.2.2.1 q.2.2.2 z hM h (hg1.2.2 hR) hx hb hml hown hmn hts hX g4 g1 g3 (by omega) g2 hRf hRl (by omega) (by omega) (fun E1 st1 H2 l2 ls2 c2 s2 k1 k2 k3 k4 k5 k6 k7 => hret E1 st1 H2 l2 ls2 c2 s2 k1 k2 k3 k4 k5 (by omega) (by omega))
      · split at h
        · rename_i v hv
          cases h
          exact hret E st H locs ls cells slots hE hv hP hsz hS rfl rfl
        · split at h
          · cases h
          · rename_i q hq
            split at h
            · rename_i h9
              split at h
              · rename_i a hq2
                split at h
                · rename_i ha
                  obtain ⟨hdg, hlen, -, -⟩ := hok
                  have hEi : ∃ idx, E.2.1 = .invokespecial idx ∧ E.2.2.2.1 = 9999 ∧ Cond.methodLink M.1.cls idx Lib.objectInit ∈ ws ∧ Cond.instanceMethod Lib.objectInit ∈ ws ∧ Cond.code Lib.objectInit ⟨#[0xb1]⟩ 1 none ∈ ws ∧ ∃ (aa : Nat) (As : List Value), q = (E.2.2.2.1, .ref aa :: As, st.drop E.2.2.2.2.1) ∧ st = As.reverse ++ .ref aa :: st.drop E.2.2.2.2.1 ∧ ((st.drop E.2.2.2.2.1).map fun v => v.category).sum ≤ 8 := by
                    unfold m_inv at hq
                    unfold invOK at hiv
                    split at hq
                    · rename_i idx hEq
                      rw [hEq] at hiv
                      split at hq
                      · cases hq; exact absurd h9 hiv.1
                      · cases hq
                    · rename_i idx hEq
                      rw [hEq] at hiv
                      obtain ⟨aa, As, e1, -, -, e4, e5⟩ := m_iv_spec hq
                      subst e1
                      rcases hiv with ⟨g1, g2, g3, g4, g5⟩ | ⟨g1, -⟩
                      · exact ⟨idx, hEq, g1, g3, g4, g5, aa, As, rfl, e4, e5⟩
                      · exact absurd h9 g1
                    · rename_i idx hEq
                      rw [hEq] at hiv
                      obtain ⟨aa, As, e1, -⟩ := m_iv_spec hq
                      subst e1
                      exact absurd h9 hiv.1
                    · cases hq
                  obtain ⟨idx, hEq, -, g3, g4, g5, aa, As, eq1, eq2, eq3⟩ := hEi
                  subst eq1
                  simp only at hq2 h
                  obtain ⟨rfl, rfl⟩ : aa = a ∧ As = [] := by simpa using hq2
                  rw [hEq] at hdg hlen
                  simp only [m_len] at hlen
                  have hl3 : E.2.2.1 = 3 := by omega
                  rw [hl3] at hdg
                  have hst : trs rA sio st = .ref (rA aa) :: trs rA sio (st.drop E.2.2.2.2.1) := by
                    conv => lhs; rw [eq2]
                    simp only [trs, List.reverse_nil, List.nil_append, List.map_cons, trv_ref rA sio ha]
                  rw [hst]
                  refine W.objInit hx hb hown (hts _ g3) (hts _ g4) (hts _ g5) rfl (by rw [hml]; exact hl.1) rfl hdg (by omega) ?_ ?_
                  · have h8 := cat_tr (rA := rA) hs (st.drop E.2.2.2.2.1)
                    rw [h8]
                    show 2 * 0 + _ + 12 ≤ R.locals
                    omega
                  · exact ih d mi M F (E.1 + 3) lv _ z hM h hR hx hb hml hown hmn hts hX hl hP hS hI hsz hRf hRl hc1 hs1 hret
                · cases h
              · cases h
            · rename_i h9
              split at h
              · rename_i h8
                split at h
                · rename_i x y hq2
                  obtain ⟨hdg, hlen, -, -⟩ := hok
                  have hEi : ∃ idx, E.2.1 = .invokestatic idx ∧ Cond.methodLink M.1.cls idx Lib.Math.max.name ∈ ws ∧ Cond.static Lib.Math.max.name ∈ ws ∧ Cond.initialized "java/lang/Math" ∈ ws ∧ Cond.code Lib.Math.max.name Lib.Math.max.code 2 (some .int) ∈ ws ∧ q.2.1 = (st.take 2).reverse ∧ q.2.2 = st.drop 2 ∧ 2 ≤ st.length ∧ ((st.drop 2).map fun v => v.category).sum ≤ 8 := by
                    unfold m_inv at hq
                    unfold invOK at hiv
                    split at hq
                    · rename_i idx hEq
                      rw [hEq] at hiv
                      split at hq
                      · rename_i hb2
                        cases hq
                        simp only at h8 hiv
                        obtain ⟨-, ⟨-, g2, g3, g4, g5, g6⟩ | ⟨M', g0, -⟩⟩ := hiv
                        · rw [g2] at hb2 ⊢
                          exact ⟨idx, hEq, g3, g4, g5, g6, rfl, rfl, hb2.1, hb2.2⟩
                        · rw [h8] at g0
                          have hlt := (List.getElem?_eq_some_iff.mp g0).1
                          exact absurd hlt (by omega)
                      · cases hq
                    · rename_i idx hEq
                      rw [hEq] at hiv
                      obtain ⟨aa, As, e1, -, -, e4, e5⟩ := m_iv_spec hq
                      subst e1
                      simp only at h8 hiv
                      rcases hiv with ⟨g1, -⟩ | ⟨-, M', g0, -⟩
                      · omega
                      · rw [h8] at g0
                        have hlt := (List.getElem?_eq_some_iff.mp g0).1
                        exact absurd hlt (by omega)
                    · rename_i idx hEq
                      rw [hEq] at hiv
                      obtain ⟨aa, As, e1, -⟩ := m_iv_spec hq
                      subst e1
                      simp only at h8 hiv
                      obtain ⟨-, M', g0, -⟩ := hiv
                      rw [h8] at g0
                      have hlt := (List.getElem?_eq_some_iff.mp g0).1
                      exact absurd hlt (by omega)
                    · cases hq
                  obtain ⟨idx, hEq, g3, g4, g5, g6, eq1, eq2, hlen2, h8c⟩ := hEi
                  rw [hEq] at hdg hlen
                  simp only [m_len] at hlen
                  have hl3 : E.2.2.1 = 3 := by omega
                  rw [hl3] at hdg
                  have hst0 : st = .int y :: .int x :: st.drop 2 := by
                    rw [eq1] at hq2
                    have e1 : st.take 2 = [.int y, .int x] := by
                      have := congrArg List.reverse hq2
                      simpa using this
                    have e2 := List.take_append_drop 2 st
                    rw [e1] at e2
                    exact e2.symm
                  have hst : trs rA sio st = .int y :: .int x :: trs rA sio (st.drop 2) := by
                    conv => lhs; rw [hst0]
                    rfl
                  rw [hst]
                  rw [eq2] at h
                  have hg2 := ex_grow _ _ _ _ _ _ _ _ h
                  refine va_mmax hx hb (hml.trans hl.1.symm) hown (hts _ g3) (hts _ g4) (hts _ g5) (hts _ g6) (by omega) ?_ (by omega) (by omega) hdg ?_
                  · have h8 := cat_tr (rA := rA) hs (st.drop 2)
                    rw [h8]
                    omega
                  · exact ih d mi M F (E.1 + 3) lv _ z hM h hR hx hb hml hown hmn hts hX hl hP hS hI hsz hRf hRl hc1 hs1 hret
                · cases h
              · rename_i h8
                split at h
                rotate_left
                · cases h
                rename_i hroom
                split at h
                · cases h
                · rename_i d'
                  split at h
                  · cases h
                  · rename_i z1 hz1
                    unfold m_room at hroom
                    split at hroom
                    · rename_i Mc hMc
                      simp only [decide_eq_true_eq] at hroom
                      obtain ⟨hbc, hcc⟩ := hMT _ _ hMc
                      obtain ⟨hcw, h45, hpl⟩ := hcc hroom.1
                      have hg1 := ex_grow _ _ _ _ _ _ _ _ hz1
                      have hg2 := ex_grow _ _ _ _ _ _ _ _ h
                      have hMet : Met l Mc.1 (Cond.code Mc.1 Mc.2.1 Mc.2.2.1 Mc.2.2.2.1 :: ws) ({ frames := d' + 1, cells := z1.2.length - F.length, slots := mz z1.2 - mz F, locals := 64 * (d' + 1) } : Room) (Pm cls strT nestT ro rA sio b0 dC dI cA q.2.1 F) (Qm cls rA sio b0 dC dI cA z1.1 z1.2) (z1.2.length - F.length) (mz z1.2 - mz F) (fun q => b0 ≤ q) := by
                        refine met_of hs hpl hroom.2 ?_
                        intro p2 e2 s2 m2 args2 below2 meth2 c2 ls2 hx2 hb2 hml2 hown2 hmn2 hr2 hlk2 hts2 hX2 hsz2 hP2 hl2
                        refine ih d' q.1 Mc F 0 (lv_args 0 q.2.1) [] z1 hMc hz1 hR hx2 hb2 hml2 hown2 hmn2 hts2 hX2 hl2 hP2 va_S.rf (by omega) (by omega) (Nat.le_refl _) (Nat.le_refl _) (by show 0 + z1.2.length ≤ z1.2.length - F.length + F.length; omega) (by show 0 + mz z1.2 ≤ mz z1.2 - mz F + mz F; omega) ?_
                        intro E1 st1 H1 l1 ls1 c1 s1 k1 k2 k3 k4 k5 k6 k7
                        obtain ⟨⟨q1, q2, -, -⟩, -⟩ := hbc E1 k1
                        obtain rfl : c1 = z1.2.length - F.length := by omega
                        obtain rfl : s1 = mz z1.2 - mz F := by omega
                        exact s_ret hx2 hb2 hr2 hlk2 q1 q2 k2 k3 k4 k5
                      refine s_inv hx hb hml hts hgw hown hs hok.1 hok.2.1 hl.1 hiv h99 hX hrA hr1 hP hS hI hsz hq h9 h8 hMc hcw h45 hMet (by omega) (by omega) ⟨by omega, by omega⟩ (fun H1 l1 g1 g2 g3 => ?_)
                      exact ih (d' + 1) mi M z1.2 (E.1 + 3) lv _ z hM h (hg1.2.2 hR) hx hb hml hown hmn hts hX hl g1 g3 (by omega) g2 hRf hRl (by omega) (by omega) (fun E1 st1 H2 l2 ls2 c2 s2 k1 k2 k3 k4 k5 k6 k7 => hret E1 st1 H2 l2 ls2 c2 s2 k1 k2 k3 k4 k5 (by omega) (by omega))
                    · cases hroom
end SimL
