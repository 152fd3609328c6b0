/-! THE BLOCKS ARE THE LISTING -/
theorem incr_lt {E : MI} : ∀ {t : List MI}, incr (E :: t) = true → ∀ G ∈ t, E.1 < G.1
  | [], _, G, h => by cases h
  | H :: t, h, G, hG => by
    have h : (Nat.blt E.1 H.1 && incr (H :: t)) = true := h
    rw [Bool.and_eq_true] at h
    have h1 : E.1 < H.1 := by simpa [Nat.blt_eq] using h.1
    rcases List.mem_cons.mp hG with rfl | hG
    · exact h1
    · exact Nat.lt_trans h1 (incr_lt h.2 G hG)
theorem find_incr {E : MI} : ∀ {L : List MI}, incr L = true → E ∈ L → L.find? (fun G => G.1 == E.1) = some E
  | [], _, h => by cases h
  | G :: t, hi, h => by
    rcases List.mem_cons.mp h with rfl | h
    · rw [List.find?_cons]; simp
    · have h2 : G.1 < E.1 := incr_lt hi E h
      have hi : (hdLt G t && incr t) = true := hi
      rw [Bool.and_eq_true] at hi
      rw [List.find?_cons]
      have h3 : (G.1 == E.1) = false := by simp only [beq_eq_false_iff_ne, ne_eq]; omega
      rw [h3]
      exact find_incr hi.2 h
theorem getD_mem {α : Type} {l : List α} {i : Nat} {x : α} : l.getD i x ∈ l ∨ l.getD i x = x := by
  rw [List.getD_eq_getElem?_getD]
  cases h : l[i]? with
  | none => exact Or.inr rfl
  | some y => exact Or.inl (List.mem_of_getElem? h)
theorem t_at_ok {T : TB} {MT : List MM} (h1 : T.flatten.map (fun t => t.1) = List.range T.flatten.length) (h2 : T.flatten.map (fun t => ((t.2.1.map List.flatten).flatten, t.2.2)) = MT.map (fun M => (M.2.2.2.2, M.2.2.2.1))) (h3 : MT.all (fun M => incr M.2.2.2.2) = true) : ∀ mi pc E, t_at T mi pc = some E → m_at MT mi pc = some E := by
  intro mi pc E h
  unfold t_at at h
  generalize ht : (T.getD (mi / 16) []).getD (mi % 16) (0, [], none) = t at h
  obtain ⟨k, cs, rt⟩ := t
  simp only at h
  split at h
  · rename_i hk
    have hk : k = mi := Nat.eq_of_beq_eq_true hk
    split at h
    · rename_i G hG
      cases h
      have g1 : G ∈ (cs.getD (pc / 128) []).getD (pc / 16 % 8) [] := List.mem_of_find?_eq_some hG
      have g2 : G.1 = pc := Nat.eq_of_beq_eq_true (by simpa using List.find?_some hG)
      have g3 : G ∈ (cs.map List.flatten).flatten := by
        rcases getD_mem (l := cs.getD (pc / 128) []) (i := pc / 16 % 8) (x := []) with h | h
        · rcases getD_mem (l := cs) (i := pc / 128) (x := []) with q | q
          · exact List.mem_flatten.mpr ⟨_, List.mem_map.mpr ⟨_, q, rfl⟩, List.mem_flatten.mpr ⟨_, h, g1⟩⟩
          · rw [q] at h; cases h
        · rw [h] at g1; cases g1
      have g4 : (k, cs, rt) ∈ T.flatten := by
        rw [← ht]
        rcases getD_mem (l := T.getD (mi / 16) []) (i := mi % 16) (x := (0, [], none)) with h | h
        · rcases getD_mem (l := T) (i := mi / 16) (x := []) with q | q
          · exact List.mem_flatten.mpr ⟨_, q, h⟩
          · rw [q] at h; cases h
        · rw [h] at ht; cases ht; cases g3
      obtain ⟨j, hj⟩ := List.getElem?_of_mem g4
      have g5 : (T.flatten.map (fun t => t.1))[j]? = some k := by rw [List.getElem?_map, hj]; rfl
      rw [h1] at g5
      have hjl : j < T.flatten.length := (List.getElem?_eq_some_iff.mp hj).1
      rw [List.getElem?_range hjl] at g5
      have g6 : j = k := Option.some.inj g5
      have g7 : (T.flatten.map (fun t => ((t.2.1.map List.flatten).flatten, t.2.2)))[j]? = some ((cs.map List.flatten).flatten, rt) := by rw [List.getElem?_map, hj]; rfl
      rw [h2, List.getElem?_map] at g7
      cases hM : MT[j]? with
      | none => rw [hM] at g7; cases g7
      | some M =>
        rw [hM] at g7
        have g8 : (M.2.2.2.2, M.2.2.2.1) = ((cs.map List.flatten).flatten, rt) := Option.some.inj g7
        have e1 : M.2.2.2.2 = (cs.map List.flatten).flatten := congrArg Prod.fst g8
        have e2 : M.2.2.2.1 = rt := congrArg Prod.snd g8
        have g9 := List.all_eq_true.mp h3 M (List.mem_of_getElem? hM)
        unfold m_at
        rw [← hk, ← g6, hM]
        simp only
        rw [← g2, find_incr g9 (by rw [e1]; exact g3), e2]
        rfl
    · cases h
  · cases h
set_option maxRecDepth 100000 in
theorem tT_1 : tT.flatten.map (fun t => t.1) = List.range tT.flatten.length := by decide +kernel
set_option maxRecDepth 100000 in
theorem tT_2 : tT.flatten.map (fun t => ((t.2.1.map List.flatten).flatten, t.2.2)) = tMT.map (fun M => (M.2.2.2.2, M.2.2.2.1)) := rfl
set_option maxRecDepth 100000 in
theorem tT_3 : tMT.all (fun M => incr M.2.2.2.2) = true := by decide +kernel
theorem tT_ok : ∀ mi pc E, t_at tT mi pc = some E → m_at tMT mi pc = some E := t_at_ok tT_1 tT_2 tT_3
