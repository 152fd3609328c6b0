/-! THE SMALL MACHINE IS THE MACHINE, XI: the theorem -/
section SimK
variable {p : Program} {l : Launch} {e : Env} {R : Room} {s : State} {m : MethodId} {args : Array Value} {below : List Frame} {meth : Method} {c : Code} {H : Heap} {locs : List Loc} {cells slots : Nat} {Q : State → Prop}
variable {cc : ByteArray} {ls : Array Slot} {nL : Nat} {rA : Nat → Nat} {sio : Value} {cA : Nat → ClassId} {dC : Nat → ClassId} {dI : Nat → Nat → Nat} {cls : List vw_C} {b0 : Nat} {strT : StrT} {nestT : NestT} {ro : Nat → Option MC}
theorem cat_tr (hs : sioOK sio) (st : List Value) : ((trs rA sio st).map fun v => v.category) = st.map fun v => v.category := by
  simp only [trs, List.map_map]
  apply List.map_congr_left
  intro v _
  exact trv_cat hs v
theorem m_iv_spec {E : MI} {st : List Value} {ok : Nat → Bool} {q : Nat × List Value × List Value} (h : m_iv E st ok = some q) : ∃ (a : Nat) (As : List Value), q = (E.2.2.2.1, .ref a :: As, st.drop E.2.2.2.2.1) ∧ ok a = true ∧ As.length = E.2.2.2.2.1 - 1 ∧ st = As.reverse ++ .ref a :: st.drop E.2.2.2.2.1 ∧ ((st.drop E.2.2.2.2.1).map fun v => v.category).sum ≤ 8 := by
  unfold m_iv at h
  split at h
  · rename_i hq
    obtain ⟨h1, h2, h3⟩ := hq
    split at h
    · rename_i a As hr
      split at h
      · rename_i ho
        cases h
        have e1 : st.take E.2.2.2.2.1 = As.reverse ++ [.ref a] := by
          have := congrArg List.reverse hr
          simpa using this
        refine ⟨a, As, rfl, ho, ?_, ?_, h3⟩
        · have := congrArg List.length hr
          simp only [List.length_reverse, List.length_take, List.length_cons] at this
          omega
        · have e2 := List.take_append_drop E.2.2.2.2.1 st
          rw [e1] at e2
          simpa using e2.symm
      · cases h
    · cases h
  · cases h
theorem inv3_of {E : MI} {F : MH} {st : List Value} {q : Nat × List Value × List Value} (h : m_inv ro F E st = some q) : (∃ x, E.2.1 = .invokestatic x) ∨ (∃ x, E.2.1 = .invokespecial x) ∨ ∃ x, E.2.1 = .invokevirtual x := by
  unfold m_inv at h
  split at h
  · exact .inl ⟨_, by assumption⟩
  · exact .inr (.inl ⟨_, by assumption⟩)
  · exact .inr (.inr ⟨_, by assumption⟩)
  · cases h
/-- one call, out of the callee's contract -/
theorem s_inv (hx : p.tables.exec = Jvm.exec) (hb : c.code = cc) (hml : c.maxLocals = nL) {ws : List Cond} {own : String} (hts : ∀ w ∈ ws, w.before args s = true) (hgw : ∀ w ∈ ws, goodWord w = true) (hown : s.vm.findClass own = some m.cls) {MT : List MM} {E : MI} {F F1 : MH} {st : List Value} {q : Nat × List Value × List Value} {v : Option Value} {d mc ms : Nat} (hs : sioOK sio) (hdg : decode cc E.1 = .ok (E.2.1, E.2.2.1)) (hlen : m_len E.2.1 = 0 ∨ m_len E.2.1 = E.2.2.1) (hsl : ls.size = nL)
    (hok : invOK cls MT ws nestT own E) (h99 : cls.length ≤ 99) (hX : CTX cls strT nestT ro rA sio b0 dC dI cA s) (hrA : ∀ a, a < KB → rA a = b0 + a) (hr1 : ∀ j y, ro j = some y → j ≠ 100) (hP : va_P (dC, dI) cls (wsF (trE rA sio cA) b0 F) H) (hS : va_S (fun q => b0 ≤ q) s.heap H locs) (hI : s.heap.size + cells = b0 + F.length) (hsz : b0 + F.length ≤ H.size) (h : m_inv ro F E st = some q) (h9 : ¬ q.1 = 9999) (h8 : ¬ q.1 = 9998) {M : MM} (hM0 : MT[q.1]? = some M) (hcw : Cond.code M.1 M.2.1 M.2.2.1 M.2.2.2.1 ∈ ws) (h45 : M.2.2.1 ≤ 45)
    (hM : Met l M.1 (Cond.code M.1 M.2.1 M.2.2.1 M.2.2.2.1 :: ws) ({ frames := d + 1, cells := mc, slots := ms, locals := 64 * (d + 1) } : Room) (Pm cls strT nestT ro rA sio b0 dC dI cA q.2.1 F) (Qm cls rA sio b0 dC dI cA v F1) mc ms (fun q => b0 ≤ q))
    (hRf : d + 2 ≤ R.frames) (hRl : 64 * (d + 2) ≤ R.locals) (hf : cells + mc ≤ R.cells ∧ slots + ms ≤ R.slots)
    (k : ∀ (H1 : Heap) (l1 : List Loc), va_P (dC, dI) cls (wsF (trE rA sio cA) b0 F1) H1 → b0 + F1.length ≤ H1.size → va_S (fun q => b0 ≤ q) s.heap H1 l1 → W p l e R s m args below meth c H1 l1 (cells + mc) (slots + ms) Q (F0 m (E.1 + 3) ls (trs rA sio (v.toList ++ q.2.2)))) :
    W p l e R s m args below meth c H locs cells slots Q (F0 m E.1 ls (trs rA sio st)) := by
  refine W.size fun hz => ?_
  have hHs : H.size = b0 + F.length := by omega
  have hFix : CallFix p m c cc nL s args ws own := ⟨hx, hb, hml, hown, hts⟩
  have hG : GoodIn ws (Cond.code M.1 M.2.1 M.2.2.1 M.2.2.2.1 :: ws) := by
    intro w hw
    rcases List.mem_cons.mp hw with rfl | hw
    · exact ⟨hcw, good_of_word (hgw _ hcw)⟩
    · exact ⟨hw, good_of_word (hgw _ hw)⟩
  have hpc : ∀ U : State, U.heap = H → s.WarmedH U.vm → Pm cls strT nestT ro rA sio b0 dC dI cA q.2.1 F (trs rA sio q.2.1).toArray U := fun U hU hW => ⟨rfl, by rw [hU]; exact hHs, by rw [hU]; exact hP, hX.go hW (fun a ha hn => by rw [hU]; exact hS.2.1 a ha hn)⟩
  have hR : (({ frames := d + 1, cells := mc, slots := ms, locals := 64 * (d + 1) } : Room)).frames + 1 ≤ R.frames ∧ 8 + (M.2.2.1 + 11) + (({ frames := d + 1, cells := mc, slots := ms, locals := 64 * (d + 1) } : Room)).locals ≤ R.locals := ⟨hRf, by show 8 + (M.2.2.1 + 11) + 64 * (d + 1) ≤ R.locals; omega⟩
  have ek : ∀ r : List Value, trs rA sio (v.toList ++ r) = (v.map (trv rA sio)).toList ++ trs rA sio r := by
    intro r
    cases v <;> simp [trs]
  rw [ek] at k
  obtain ⟨pc, i, len, a0, b1, z⟩ := E
  simp only at hdg hlen hok h k ⊢
  rcases inv3_of h with ⟨idx, e0⟩ | ⟨idx, e0⟩ | ⟨idx, e0⟩
  · obtain rfl : i = .invokestatic idx := e0
    simp only [m_len] at hlen
    obtain rfl : len = 3 := by omega
    simp only [m_inv] at h
    simp only [invOK] at hok
    split at h
    · rename_i hq
      obtain ⟨hq1, hq2⟩ := hq
      cases h
      simp only at hM hM0 h9 h8 hpc k
      obtain ⟨-, g | ⟨M', g0, g1, g2, g3, g4, g5, g6⟩⟩ := hok
      · exact absurd g.1 h8
      cases hM0.symm.trans g0
      have hn : (trs rA sio (st.take b1).reverse).length = b1 := by simp only [trs, List.length_map, List.length_reverse, List.length_take]; omega
      have hst : trs rA sio st = (trs rA sio (st.take b1).reverse).reverse ++ trs rA sio (st.drop b1) := by
        simp only [trs, ← List.map_reverse, List.reverse_reverse, ← List.map_append, List.take_append_drop]
      have hW8 : 2 * (F0 m pc ls (trs rA sio st)).monitorRoom + ((trs rA sio (st.drop b1)).map fun v => v.category).sum ≤ 8 := by
        rw [cat_tr hs]; show 2 * 0 + _ ≤ 8; omega
      rcases g1 with g1 | ⟨host, g1⟩
      · refine s_callgo (va_runS (As := trs rA sio (st.take b1).reverse) (rest := trs rA sio (st.drop b1)) (n := b1) hFix hM ⟨callB_of b1 hts hG rfl rfl rfl (hts _ g3) (hts _ g1) ⟨g4, g5, g6⟩ hR, hts _ g2⟩ ⟨Pm_blind _ _, hpc⟩ rfl hn hsl hst hW8 hdg hf) hS k
      · refine s_callgo (va_runSN (As := trs rA sio (st.take b1).reverse) (rest := trs rA sio (st.drop b1)) (n := b1) (host := host) hFix hM ⟨va_cnB b1 hts hG rfl rfl rfl (hX.2.2.2.2.2.1 _ g1) (hts _ g3) ⟨g4, g5, g6⟩ hR, hts _ g2, trivial⟩ ⟨Pm_blind _ _, hpc⟩ rfl hn hsl hst hW8 hdg hf) hS k
    · cases h
  · obtain rfl : i = .invokespecial idx := e0
    simp only [m_len] at hlen
    obtain rfl : len = 3 := by omega
    simp only [m_inv] at h
    simp only [invOK] at hok
    obtain ⟨a, As, rfl, ho, hAl, hst0, hcat⟩ := m_iv_spec h
    simp only at hM hM0 h9 hpc k hAl hst0 hcat
    have ha : a < KB := by simpa using ho
    rcases hok with ⟨g, -⟩ | ⟨-, M', g0, g1, g2, g3, g4, g5, g6, g7, g8⟩
    · exact absurd g h9
    cases hM0.symm.trans g0
    have er : trs rA sio (.ref a :: As) = .ref (rA a) :: trs rA sio As := by
      show trv rA sio (.ref a) :: _ = _
      rw [trv_ref rA sio ha]; rfl
    have hn : (trs rA sio As).length = b1 - 1 := by simp only [trs, List.length_map]; exact hAl
    have hst : trs rA sio st = (trs rA sio As).reverse ++ .ref (rA a) :: trs rA sio (st.drop b1) := by
      conv => lhs; rw [hst0]
      simp only [trs, List.map_append, List.map_reverse, List.map_cons, trv_ref rA sio ha]
    have hW8 : 2 * (F0 m pc ls (trs rA sio st)).monitorRoom + ((trs rA sio (st.drop b1)).map fun v => v.category).sum ≤ 8 := by
      rw [cat_tr hs]; show 2 * 0 + _ ≤ 8; omega
    rw [er] at hpc
    rw [g1] at hM hG
    rcases g3 with g3 | ⟨host, g3⟩
    · refine s_callgo (va_runI (As := trs rA sio As) (b := rA a) (rest := trs rA sio (st.drop b1)) (n := b1 - 1) hFix hM (cwI (b1 - 1) hts hG rfl rfl rfl (hts _ g5) (hts _ g3) (hts _ g4) g2 ⟨g6, g7, g8⟩ hR) ⟨Pm_blind _ _, hpc⟩ rfl hn hsl hst hW8 hdg hf) hS k
    · refine s_callgo (va_runIN (As := trs rA sio As) (b := rA a) (rest := trs rA sio (st.drop b1)) (n := b1 - 1) (host := host) hFix hM ⟨va_cnB (b1 - 1) hts hG rfl rfl rfl (hX.2.2.2.2.2.1 _ g3) (hts _ g5) ⟨g6, g7, g8⟩ hR, g2, hts _ g4⟩ ⟨Pm_blind _ _, hpc⟩ rfl hn hsl hst hW8 hdg hf) hS k
  · obtain rfl : i = .invokevirtual idx := e0
    simp only [m_len] at hlen
    obtain rfl : len = 3 := by omega
    simp only [m_inv] at h
    simp only [invOK] at hok
    obtain ⟨a, As, rfl, ho, hAl, hst0, hcat⟩ := m_iv_spec h
    simp only at hM hM0 h9 hpc k hAl hst0 hcat
    obtain ⟨-, M', g0, g1, g2, g3, g4, g5, g6, g7, g8⟩ := hok
    cases hM0.symm.trans g0
    have hn : (trs rA sio As).length = b1 - 1 := by simp only [trs, List.length_map]; exact hAl
    have hW8 : 2 * (F0 m pc ls (trs rA sio st)).monitorRoom + ((trs rA sio (st.drop b1)).map fun v => v.category).sum ≤ 8 := by
      rw [cat_tr hs]; show 2 * 0 + _ ≤ 8; omega
    have key : ∀ aR : Nat, trv rA sio (.ref a) = .ref aR → (∃ cellB : Cell, H[aR]? = some cellB ∧ cellB.vm.isStatics = false ∧ s.vm.findClass M.1.cls = some cellB.cls) → W p l e R s m args below meth c H locs cells slots Q (F0 m pc ls (trs rA sio st)) := by
      intro aR eR hcell
      have er : trs rA sio (.ref a :: As) = .ref aR :: trs rA sio As := by
        show trv rA sio (.ref a) :: _ = _
        rw [eR]; rfl
      have hst : trs rA sio st = (trs rA sio As).reverse ++ .ref aR :: trs rA sio (st.drop b1) := by
        conv => lhs; rw [hst0]
        simp only [trs, List.map_append, List.map_reverse, List.map_cons, eR]
      rw [er] at hpc
      have hGV : GoodIn ws (wsV own idx M.1.cls M.1 (Cond.code M.1 M.2.1 M.2.2.1 M.2.2.2.1 :: ws)) := by
        intro w hw
        unfold wsV at hw
        rcases List.mem_append.mp hw with hw | hw
        · have : w ∈ ws := by
            simp only [List.mem_cons, List.not_mem_nil, or_false] at hw
            rcases hw with rfl | rfl | rfl | rfl
            · exact g1
            · exact g2
            · exact g3
            · exact g4
          exact ⟨this, good_of_word (hgw _ this)⟩
        · exact hG w hw
      refine s_callgo (va_runV (C := M.1.cls) (As := trs rA sio As) (b := aR) (rest := trs rA sio (st.drop b1)) (n := b1 - 1) hFix hM (cwV (b1 - 1) hts hGV rfl rfl rfl ⟨rfl, g5, g6, g7⟩ hR) ⟨Pm_blind _ _, hcell, hpc⟩ rfl hn hsl hst hW8 hdg hf) hS k
    unfold m_rc at ho
    split at ho
    · rename_i o hc
      simp only [decide_eq_true_eq] at ho
      unfold m_cell at hc
      split at hc
      · rename_i ha
        obtain ⟨ci, fs⟩ := o
        rcases g8 with ⟨ci', qq, e1, e2, e3⟩ | ⟨e1, e2⟩
        · have : ci' = ci := by simp only at ho; omega
          subst this
          rw [← e3] at key
          exact key (b0 + a) (by rw [trv_ref rA sio ha, hrA a ha]) (va_recv hX.1 hP e2 (s_cell hc))
        · obtain ⟨rr, g9, -⟩ := (hP a _ (s_cell hc))
          have := (List.getElem?_eq_some_iff.mp g9).1
          simp only at this ho
          omega
      · rename_i ha
        obtain ⟨h1, v0, h2, h3, -⟩ := hX.2.1 _ _ hc
        rcases g8 with ⟨ci', qq, e1, e2, e3⟩ | ⟨e1, e2⟩
        · have := (List.getElem?_eq_some_iff.mp e2).1
          omega
        · rw [e2] at key
          obtain ⟨cell, q1, q2, q3, -⟩ := h3.kept hS.2.1
          exact key _ (trv_ro hr1 ha hc) ⟨cell, q1, q2, q3⟩
    · cases ho
end SimK
