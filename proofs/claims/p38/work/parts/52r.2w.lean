/-! WHAT RUNS ASK (written by a program) -/
/-- DoorPaintsModel.fault()I -/
theorem t_166_0 {xl : List Int32} {n : Nat} {ι : IS} {Q : Option Value → IS → Prop} {a0 : Nat} (h : Q (some (.int (ι a0 18))) ι) : PC xl (n + 1) 166 0 [(0, .ref a0)] [] ι Q := by
  refine PC.pr1 (k := 0) (pc' := 1) (lv' := [(0, .ref a0)]) (st' := [.ref a0]) rfl ?_
  refine PC.gI (ci := 9) (j := 18) rfl rfl (by decide) ?_
  exact PC.retI rfl h

/-- DoorPaintsModel.rule(I)I -/
theorem t_167_0 {xl : List Int32} {n : Nat} {ι : IS} {Q : Option Value → IS → Prop} {a0 : Nat} {x1 : Int32} (h : PC xl n 168 0 [(0, .ref a0)] [] ι (fun _ κ1 => PC xl n 167 11 [(0, .ref a0), (1, .int x1), (2, .int 0), (3, .int 0), (4, .int 0)] [] κ1 Q)) : PC xl (n + 1) 167 0 [(0, .ref a0), (1, .int x1)] [] ι Q := by
  refine PC.pr1 (k := 0) (pc' := 1) (lv' := [(0, .ref a0), (1, .int x1)]) (st' := [.ref a0]) rfl ?_
  refine (PC.callV (j := 168) (args := [.ref a0]) (rest := []) (M := cM168) rfl rfl rfl rfl rfl rfl (by decide) rfl rfl ?_).weak
  refine PC.imp h (fun _ κ1 h => ?_)
  refine PC.pr (k := 1) (pc' := 5) (lv' := [(0, .ref a0), (1, .int x1)]) (st' := [.int 0]) rfl ?_
  refine PC.pr (k := 1) (pc' := 6) (lv' := [(2, .int 0), (0, .ref a0), (1, .int x1)]) (st' := []) rfl ?_
  refine PC.pr (k := 1) (pc' := 7) (lv' := [(2, .int 0), (0, .ref a0), (1, .int x1)]) (st' := [.int 0]) rfl ?_
  refine PC.pr (k := 1) (pc' := 8) (lv' := [(3, .int 0), (2, .int 0), (0, .ref a0), (1, .int x1)]) (st' := []) rfl ?_
  refine PC.pr (k := 1) (pc' := 9) (lv' := [(3, .int 0), (2, .int 0), (0, .ref a0), (1, .int x1)]) (st' := [.int 0]) rfl ?_
  refine PC.pr (k := 1) (pc' := 11) (lv' := [(4, .int 0), (3, .int 0), (2, .int 0), (0, .ref a0), (1, .int x1)]) (st' := []) rfl ?_
  exact PC.lv (lvE.cons rfl (lvE.cons rfl (lvE.cons rfl (lvE.cons rfl (lvE.cons rfl (lvE.nil)))))) h
theorem t_167_11 {xl : List Int32} {n : Nat} {ι : IS} {Q : Option Value → IS → Prop} {a0 : Nat} {x1 : Int32} {x2 : Int32} {x3 : Int32} {x4 : Int32} (h : ((¬ x4 < (ι a0 4) → PC xl n 167 42 [(0, .ref a0), (1, .int x1), (2, .int x2), (3, .int x3), (4, .int 0)] [] ι Q) ∧ (x4 < (ι a0 4) → PC xl n 169 0 [(0, .ref a0), (1, .int x4), (2, .int 1)] [] ι (fun v1 κ1 => ∀ r1, v1 = some (.int r1) → PC xl n 167 11 [(0, .ref a0), (1, .int x1), (2, .int (x2 ||| (r1 <<< (x4 &&& 31)))), (3, .int x3), (4, .int (x4 + 1))] [] κ1 Q)))) : PC xl (n + 1) 167 11 [(0, .ref a0), (1, .int x1), (2, .int x2), (3, .int x3), (4, .int x4)] [] ι Q := by
  refine PC.pr1 (k := 0) (pc' := 13) (lv' := [(0, .ref a0), (1, .int x1), (2, .int x2), (3, .int x3), (4, .int x4)]) (st' := [.int x4]) rfl ?_
  refine PC.pr (k := 1) (pc' := 14) (lv' := [(0, .ref a0), (1, .int x1), (2, .int x2), (3, .int x3), (4, .int x4)]) (st' := [.ref a0, .int x4]) rfl ?_
  refine PC.gI (ci := 9) (j := 4) rfl rfl (by decide) ?_
  refine PC.if2 (t := 39) rfl rfl (fun c => ?_) (fun c => ?_)
  · have h := h.1 (cmp_ge.1.mp c)
    refine PC.pr (k := 1) (pc' := 40) (lv' := [(0, .ref a0), (1, .int x1), (2, .int x2), (3, .int x3), (4, .int x4)]) (st' := [.int 0]) rfl ?_
    refine PC.pr (k := 1) (pc' := 42) (lv' := [(4, .int 0), (0, .ref a0), (1, .int x1), (2, .int x2), (3, .int x3)]) (st' := []) rfl ?_
    exact PC.lv (lvE.cons rfl (lvE.cons rfl (lvE.cons rfl (lvE.cons rfl (lvE.cons rfl (lvE.nil)))))) h
  · have h := h.2 (cmp_ge.2.mp c)
    refine PC.pr (k := 1) (pc' := 21) (lv' := [(0, .ref a0), (1, .int x1), (2, .int x2), (3, .int x3), (4, .int x4)]) (st' := [.int x2]) rfl ?_
    refine PC.pr (k := 1) (pc' := 22) (lv' := [(0, .ref a0), (1, .int x1), (2, .int x2), (3, .int x3), (4, .int x4)]) (st' := [.ref a0, .int x2]) rfl ?_
    refine PC.pr (k := 1) (pc' := 24) (lv' := [(0, .ref a0), (1, .int x1), (2, .int x2), (3, .int x3), (4, .int x4)]) (st' := [.int x4, .ref a0, .int x2]) rfl ?_
    refine PC.pr (k := 1) (pc' := 25) (lv' := [(0, .ref a0), (1, .int x1), (2, .int x2), (3, .int x3), (4, .int x4)]) (st' := [.int 1, .int x4, .ref a0, .int x2]) rfl ?_
    refine (PC.callI (j := 169) (args := [.ref a0, .int x4, .int 1]) (rest := [.int x2]) (M := cM169) (ty := .int) rfl rfl rfl rfl rfl rfl (by decide) rfl rfl (by decide) ?_).weak
    refine PC.imp h (fun v1 κ1 h r1 hv => ?_)
    have h := h r1 hv
    refine PC.pr (k := 1) (pc' := 30) (lv' := [(0, .ref a0), (1, .int x1), (2, .int x2), (3, .int x3), (4, .int x4)]) (st' := [.int x4, .int r1, .int x2]) rfl ?_
    refine PC.pr (k := 1) (pc' := 31) (lv' := [(0, .ref a0), (1, .int x1), (2, .int x2), (3, .int x3), (4, .int x4)]) (st' := [.int (r1 <<< (x4 &&& 31)), .int x2]) rfl ?_
    refine PC.pr (k := 1) (pc' := 32) (lv' := [(0, .ref a0), (1, .int x1), (2, .int x2), (3, .int x3), (4, .int x4)]) (st' := [.int (x2 ||| (r1 <<< (x4 &&& 31)))]) rfl ?_
    refine PC.pr (k := 1) (pc' := 33) (lv' := [(2, .int (x2 ||| (r1 <<< (x4 &&& 31)))), (0, .ref a0), (1, .int x1), (3, .int x3), (4, .int x4)]) (st' := []) rfl ?_
    refine PC.pr (k := 1) (pc' := 36) (lv' := [(4, .int (x4 + 1)), (2, .int (x2 ||| (r1 <<< (x4 &&& 31)))), (0, .ref a0), (1, .int x1), (3, .int x3)]) (st' := []) rfl ?_
    refine PC.pr (k := 1) (pc' := 11) (lv' := [(4, .int (x4 + 1)), (2, .int (x2 ||| (r1 <<< (x4 &&& 31)))), (0, .ref a0), (1, .int x1), (3, .int x3)]) (st' := []) rfl ?_
    exact PC.lv (lvE.cons rfl (lvE.cons rfl (lvE.cons rfl (lvE.cons rfl (lvE.cons rfl (lvE.nil)))))) h
theorem t_167_42 {xl : List Int32} {n : Nat} {ι : IS} {Q : Option Value → IS → Prop} {a0 : Nat} {x1 : Int32} {x2 : Int32} {x3 : Int32} {x4 : Int32} (h : ((¬ x4 < (ι a0 3) → ((x1.toInt = 0 → Q (some (.int (ι a0 3))) ι) ∧ (x1.toInt = 1 → Q (some (.int (ι a0 4))) ι) ∧ (x1.toInt = 2 → (0 ≤ (52 : Int32).toInt → (52 : Int32).toInt < ln (rf a0 0) → Q (some (.int (ι (rf a0 0) (52 : Int32).toNatClampNeg))) ι)) ∧ (x1.toInt = 3 → Q (some (.int x2)) ι) ∧ (x1.toInt = 4 → PC xl n 171 0 [(0, .ref a0)] [] ι (fun v1 κ1 => ∀ r1, v1 = some (.int r1) → Q (some (.int r1)) κ1)) ∧ (x1.toInt = 5 → Q (some (.int x3)) ι) ∧ ((x1.toInt < 0 ∨ 5 < x1.toInt) → Q (some (.int (-1))) ι))) ∧ (x4 < (ι a0 3) → PC xl n 170 0 [(0, .ref a0), (1, .int x4), (2, .int 2)] [] ι (fun v2 κ2 => ∀ r2, v2 = some (.int r2) → PC xl n 167 42 [(0, .ref a0), (1, .int x1), (2, .int x2), (3, .int (x3 + r2)), (4, .int (x4 + 1))] [] κ2 Q)))) : PC xl (n + 1) 167 42 [(0, .ref a0), (1, .int x1), (2, .int x2), (3, .int x3), (4, .int x4)] [] ι Q := by
  refine PC.pr1 (k := 0) (pc' := 44) (lv' := [(0, .ref a0), (1, .int x1), (2, .int x2), (3, .int x3), (4, .int x4)]) (st' := [.int x4]) rfl ?_
  refine PC.pr (k := 1) (pc' := 45) (lv' := [(0, .ref a0), (1, .int x1), (2, .int x2), (3, .int x3), (4, .int x4)]) (st' := [.ref a0, .int x4]) rfl ?_
  refine PC.gI (ci := 9) (j := 3) rfl rfl (by decide) ?_
  refine PC.if2 (t := 67) rfl rfl (fun c => ?_) (fun c => ?_)
  · have h := h.1 (cmp_ge.1.mp c)
    refine PC.pr (k := 1) (pc' := 68) (lv' := [(0, .ref a0), (1, .int x1), (2, .int x2), (3, .int x3), (4, .int x4)]) (st' := [.int x1]) rfl ?_
    refine PC.tsw rfl (fun i off t ho ht hx => ?_) (fun t ht hx => ?_)
    · match i, ho, hx with
      | 0, ho, hx =>
        obtain rfl : (40 : Int) = off := Option.some.inj ho
        obtain rfl : 108 = t := Option.some.inj ht
        have h := h.1 (by simpa using hx)
        refine PC.pr (k := 1) (pc' := 109) (lv' := [(0, .ref a0), (1, .int x1), (2, .int x2), (3, .int x3), (4, .int x4)]) (st' := [.ref a0]) rfl ?_
        refine PC.gI (ci := 9) (j := 3) rfl rfl (by decide) ?_
        exact PC.retI rfl h
      | 1, ho, hx =>
        obtain rfl : (45 : Int) = off := Option.some.inj ho
        obtain rfl : 113 = t := Option.some.inj ht
        have h := h.2.1 (by simpa using hx)
        refine PC.pr (k := 1) (pc' := 114) (lv' := [(0, .ref a0), (1, .int x1), (2, .int x2), (3, .int x3), (4, .int x4)]) (st' := [.ref a0]) rfl ?_
        refine PC.gI (ci := 9) (j := 4) rfl rfl (by decide) ?_
        exact PC.retI rfl h
      | 2, ho, hx =>
        obtain rfl : (50 : Int) = off := Option.some.inj ho
        obtain rfl : 118 = t := Option.some.inj ht
        have h := h.2.2.1 (by simpa using hx)
        refine PC.pr (k := 1) (pc' := 119) (lv' := [(0, .ref a0), (1, .int x1), (2, .int x2), (3, .int x3), (4, .int x4)]) (st' := [.ref a0]) rfl ?_
        refine PC.gR (ci := 9) (j := 0) rfl rfl (by decide) ?_
        refine PC.pr (k := 1) (pc' := 124) (lv' := [(0, .ref a0), (1, .int x1), (2, .int x2), (3, .int x3), (4, .int x4)]) (st' := [.int 52, .ref (rf a0 0)]) rfl ?_
        refine PC.rd rfl (rf_lt _ _) (fun c1 c2 => ?_)
        have h := h c1 c2
        exact PC.retI rfl h
      | 3, ho, hx =>
        obtain rfl : (58 : Int) = off := Option.some.inj ho
        obtain rfl : 126 = t := Option.some.inj ht
        have h := h.2.2.2.1 (by simpa using hx)
        refine PC.pr (k := 1) (pc' := 127) (lv' := [(0, .ref a0), (1, .int x1), (2, .int x2), (3, .int x3), (4, .int x4)]) (st' := [.int x2]) rfl ?_
        exact PC.retI rfl h
      | 4, ho, hx =>
        obtain rfl : (60 : Int) = off := Option.some.inj ho
        obtain rfl : 128 = t := Option.some.inj ht
        have h := h.2.2.2.2.1 (by simpa using hx)
        refine PC.pr (k := 1) (pc' := 129) (lv' := [(0, .ref a0), (1, .int x1), (2, .int x2), (3, .int x3), (4, .int x4)]) (st' := [.ref a0]) rfl ?_
        refine (PC.callI (j := 171) (args := [.ref a0]) (rest := []) (M := cM171) (ty := .int) rfl rfl rfl rfl rfl rfl (by decide) rfl rfl (by decide) ?_).weak
        refine PC.imp h (fun v1 κ1 h r1 hv => ?_)
        have h := h r1 hv
        exact PC.retI rfl h
      | 5, ho, hx =>
        obtain rfl : (65 : Int) = off := Option.some.inj ho
        obtain rfl : 133 = t := Option.some.inj ht
        have h := h.2.2.2.2.2.1 (by simpa using hx)
        refine PC.pr (k := 1) (pc' := 134) (lv' := [(0, .ref a0), (1, .int x1), (2, .int x2), (3, .int x3), (4, .int x4)]) (st' := [.int x3]) rfl ?_
        exact PC.retI rfl h
      | i + 6, ho, hx => cases ho
    · obtain rfl : 135 = t := Option.some.inj ht
      have h := h.2.2.2.2.2.2 hx
      refine PC.pr (k := 1) (pc' := 136) (lv' := [(0, .ref a0), (1, .int x1), (2, .int x2), (3, .int x3), (4, .int x4)]) (st' := [.int (-1)]) rfl ?_
      exact PC.retI rfl h
  · have h := h.2 (cmp_ge.2.mp c)
    refine PC.pr (k := 1) (pc' := 52) (lv' := [(0, .ref a0), (1, .int x1), (2, .int x2), (3, .int x3), (4, .int x4)]) (st' := [.int x3]) rfl ?_
    refine PC.pr (k := 1) (pc' := 53) (lv' := [(0, .ref a0), (1, .int x1), (2, .int x2), (3, .int x3), (4, .int x4)]) (st' := [.ref a0, .int x3]) rfl ?_
    refine PC.pr (k := 1) (pc' := 55) (lv' := [(0, .ref a0), (1, .int x1), (2, .int x2), (3, .int x3), (4, .int x4)]) (st' := [.int x4, .ref a0, .int x3]) rfl ?_
    refine PC.pr (k := 1) (pc' := 56) (lv' := [(0, .ref a0), (1, .int x1), (2, .int x2), (3, .int x3), (4, .int x4)]) (st' := [.int 2, .int x4, .ref a0, .int x3]) rfl ?_
    refine (PC.callI (j := 170) (args := [.ref a0, .int x4, .int 2]) (rest := [.int x3]) (M := cM170) (ty := .int) rfl rfl rfl rfl rfl rfl (by decide) rfl rfl (by decide) ?_).weak
    refine PC.imp h (fun v2 κ2 h r2 hv => ?_)
    have h := h r2 hv
    refine PC.pr (k := 1) (pc' := 60) (lv' := [(0, .ref a0), (1, .int x1), (2, .int x2), (3, .int x3), (4, .int x4)]) (st' := [.int (x3 + r2)]) rfl ?_
    refine PC.pr (k := 1) (pc' := 61) (lv' := [(3, .int (x3 + r2)), (0, .ref a0), (1, .int x1), (2, .int x2), (4, .int x4)]) (st' := []) rfl ?_
    refine PC.pr (k := 1) (pc' := 64) (lv' := [(4, .int (x4 + 1)), (3, .int (x3 + r2)), (0, .ref a0), (1, .int x1), (2, .int x2)]) (st' := []) rfl ?_
    refine PC.pr (k := 1) (pc' := 42) (lv' := [(4, .int (x4 + 1)), (3, .int (x3 + r2)), (0, .ref a0), (1, .int x1), (2, .int x2)]) (st' := []) rfl ?_
    exact PC.lv (lvE.cons rfl (lvE.cons rfl (lvE.cons rfl (lvE.cons rfl (lvE.cons rfl (lvE.nil)))))) h

/-- DoorPaintsModel.starts()V -/
theorem t_168_0 {xl : List Int32} {n : Nat} {ι : IS} {Q : Option Value → IS → Prop} {a0 : Nat} (h : PC xl n 168 2 [(0, .ref a0), (1, .int 0)] [] ι Q) : PC xl (n + 1) 168 0 [(0, .ref a0)] [] ι Q := by
  refine PC.pr1 (k := 0) (pc' := 1) (lv' := [(0, .ref a0)]) (st' := [.int 0]) rfl ?_
  refine PC.pr (k := 1) (pc' := 2) (lv' := [(1, .int 0), (0, .ref a0)]) (st' := []) rfl ?_
  exact PC.lv (lvE.cons rfl (lvE.cons rfl (lvE.nil))) h
theorem t_168_2 {xl : List Int32} {n : Nat} {ι : IS} {Q : Option Value → IS → Prop} {a0 : Nat} {x1 : Int32} (h : ((¬ x1 < 80 → Q none (up ι a0 20 (-4))) ∧ (x1 < 80 → (0 ≤ x1.toInt → x1.toInt < ln (rf a0 0) → (0 ≤ x1.toInt → x1.toInt < ln (rf a0 1) → PC xl n 168 2 [(0, .ref a0), (1, .int (x1 + 1))] [] (up ι (rf a0 1) x1.toNatClampNeg (ι (rf a0 0) x1.toNatClampNeg)) Q))))) : PC xl (n + 1) 168 2 [(0, .ref a0), (1, .int x1)] [] ι Q := by
  refine PC.pr1 (k := 0) (pc' := 3) (lv' := [(0, .ref a0), (1, .int x1)]) (st' := [.int x1]) rfl ?_
  refine PC.pr (k := 1) (pc' := 5) (lv' := [(0, .ref a0), (1, .int x1)]) (st' := [.int 80, .int x1]) rfl ?_
  refine PC.if2 (t := 26) rfl rfl (fun c => ?_) (fun c => ?_)
  · have h := h.1 (cmp_ge.1.mp c)
    refine PC.pr (k := 1) (pc' := 27) (lv' := [(0, .ref a0), (1, .int x1)]) (st' := [.ref a0]) rfl ?_
    refine PC.pr (k := 1) (pc' := 29) (lv' := [(0, .ref a0), (1, .int x1)]) (st' := [.int (-4), .ref a0]) rfl ?_
    refine PC.pI (ci := 9) (j := 20) rfl rfl ?_
    exact PC.retV rfl h
  · have h := h.2 (cmp_ge.2.mp c)
    refine PC.pr (k := 1) (pc' := 9) (lv' := [(0, .ref a0), (1, .int x1)]) (st' := [.ref a0]) rfl ?_
    refine PC.gR (ci := 9) (j := 1) rfl rfl (by decide) ?_
    refine PC.pr (k := 1) (pc' := 13) (lv' := [(0, .ref a0), (1, .int x1)]) (st' := [.int x1, .ref (rf a0 1)]) rfl ?_
    refine PC.pr (k := 1) (pc' := 14) (lv' := [(0, .ref a0), (1, .int x1)]) (st' := [.ref a0, .int x1, .ref (rf a0 1)]) rfl ?_
    refine PC.gR (ci := 9) (j := 0) rfl rfl (by decide) ?_
    refine PC.pr (k := 1) (pc' := 18) (lv' := [(0, .ref a0), (1, .int x1)]) (st' := [.int x1, .ref (rf a0 0), .int x1, .ref (rf a0 1)]) rfl ?_
    refine PC.rd rfl (rf_lt _ _) (fun c1 c2 => ?_)
    have h := h c1 c2
    refine PC.wI rfl (fun c1 c2 => ?_)
    have h := h c1 c2
    refine PC.pr (k := 1) (pc' := 23) (lv' := [(1, .int (x1 + 1)), (0, .ref a0)]) (st' := []) rfl ?_
    refine PC.pr (k := 1) (pc' := 2) (lv' := [(1, .int (x1 + 1)), (0, .ref a0)]) (st' := []) rfl ?_
    exact PC.lv (lvE.cons rfl (lvE.cons rfl (lvE.nil))) h

/-- DoorPaintsModel.ofDoor(II)I -/
theorem t_169_0 {xl : List Int32} {n : Nat} {ι : IS} {Q : Option Value → IS → Prop} {a0 : Nat} {x1 : Int32} {x2 : Int32} (h : (0 ≤ ((16 + (9 * x1)) + x2).toInt → ((16 + (9 * x1)) + x2).toInt < ln (rf a0 1) → Q (some (.int (ι (rf a0 1) ((16 + (9 * x1)) + x2).toNatClampNeg))) ι)) : PC xl (n + 1) 169 0 [(0, .ref a0), (1, .int x1), (2, .int x2)] [] ι Q := by
  refine PC.pr1 (k := 0) (pc' := 1) (lv' := [(0, .ref a0), (1, .int x1), (2, .int x2)]) (st' := [.ref a0]) rfl ?_
  refine PC.gR (ci := 9) (j := 1) rfl rfl (by decide) ?_
  refine PC.pr (k := 1) (pc' := 6) (lv' := [(0, .ref a0), (1, .int x1), (2, .int x2)]) (st' := [.int 16, .ref (rf a0 1)]) rfl ?_
  refine PC.pr (k := 1) (pc' := 8) (lv' := [(0, .ref a0), (1, .int x1), (2, .int x2)]) (st' := [.int 9, .int 16, .ref (rf a0 1)]) rfl ?_
  refine PC.pr (k := 1) (pc' := 9) (lv' := [(0, .ref a0), (1, .int x1), (2, .int x2)]) (st' := [.int x1, .int 9, .int 16, .ref (rf a0 1)]) rfl ?_
  refine PC.pr (k := 1) (pc' := 10) (lv' := [(0, .ref a0), (1, .int x1), (2, .int x2)]) (st' := [.int (9 * x1), .int 16, .ref (rf a0 1)]) rfl ?_
  refine PC.pr (k := 1) (pc' := 11) (lv' := [(0, .ref a0), (1, .int x1), (2, .int x2)]) (st' := [.int (16 + (9 * x1)), .ref (rf a0 1)]) rfl ?_
  refine PC.pr (k := 1) (pc' := 12) (lv' := [(0, .ref a0), (1, .int x1), (2, .int x2)]) (st' := [.int x2, .int (16 + (9 * x1)), .ref (rf a0 1)]) rfl ?_
  refine PC.pr (k := 1) (pc' := 13) (lv' := [(0, .ref a0), (1, .int x1), (2, .int x2)]) (st' := [.int ((16 + (9 * x1)) + x2), .ref (rf a0 1)]) rfl ?_
  refine PC.rd rfl (rf_lt _ _) (fun c1 c2 => ?_)
  have h := h c1 c2
  exact PC.retI rfl h

/-- DoorPaintsModel.of(II)I -/
theorem t_170_0 {xl : List Int32} {n : Nat} {ι : IS} {Q : Option Value → IS → Prop} {a0 : Nat} {x1 : Int32} {x2 : Int32} (h : (0 ≤ ((4 * x1) + x2).toInt → ((4 * x1) + x2).toInt < ln (rf a0 1) → Q (some (.int (ι (rf a0 1) ((4 * x1) + x2).toNatClampNeg))) ι)) : PC xl (n + 1) 170 0 [(0, .ref a0), (1, .int x1), (2, .int x2)] [] ι Q := by
  refine PC.pr1 (k := 0) (pc' := 1) (lv' := [(0, .ref a0), (1, .int x1), (2, .int x2)]) (st' := [.ref a0]) rfl ?_
  refine PC.gR (ci := 9) (j := 1) rfl rfl (by decide) ?_
  refine PC.pr (k := 1) (pc' := 5) (lv' := [(0, .ref a0), (1, .int x1), (2, .int x2)]) (st' := [.int 4, .ref (rf a0 1)]) rfl ?_
  refine PC.pr (k := 1) (pc' := 6) (lv' := [(0, .ref a0), (1, .int x1), (2, .int x2)]) (st' := [.int x1, .int 4, .ref (rf a0 1)]) rfl ?_
  refine PC.pr (k := 1) (pc' := 7) (lv' := [(0, .ref a0), (1, .int x1), (2, .int x2)]) (st' := [.int (4 * x1), .ref (rf a0 1)]) rfl ?_
  refine PC.pr (k := 1) (pc' := 8) (lv' := [(0, .ref a0), (1, .int x1), (2, .int x2)]) (st' := [.int x2, .int (4 * x1), .ref (rf a0 1)]) rfl ?_
  refine PC.pr (k := 1) (pc' := 9) (lv' := [(0, .ref a0), (1, .int x1), (2, .int x2)]) (st' := [.int ((4 * x1) + x2), .ref (rf a0 1)]) rfl ?_
  refine PC.rd rfl (rf_lt _ _) (fun c1 c2 => ?_)
  have h := h c1 c2
  exact PC.retI rfl h

/-- DoorPaintsModel.wrong()I -/
theorem t_171_0 {xl : List Int32} {n : Nat} {ι : IS} {Q : Option Value → IS → Prop} {a0 : Nat} (h : PC xl n 171 4 [(0, .ref a0), (1, .int 0), (2, .int 0)] [] ι Q) : PC xl (n + 1) 171 0 [(0, .ref a0)] [] ι Q := by
  refine PC.pr1 (k := 0) (pc' := 1) (lv' := [(0, .ref a0)]) (st' := [.int 0]) rfl ?_
  refine PC.pr (k := 1) (pc' := 2) (lv' := [(1, .int 0), (0, .ref a0)]) (st' := []) rfl ?_
  refine PC.pr (k := 1) (pc' := 3) (lv' := [(1, .int 0), (0, .ref a0)]) (st' := [.int 0]) rfl ?_
  refine PC.pr (k := 1) (pc' := 4) (lv' := [(2, .int 0), (1, .int 0), (0, .ref a0)]) (st' := []) rfl ?_
  exact PC.lv (lvE.cons rfl (lvE.cons rfl (lvE.cons rfl (lvE.nil)))) h
theorem t_171_4 {xl : List Int32} {n : Nat} {ι : IS} {Q : Option Value → IS → Prop} {a0 : Nat} {x1 : Int32} {x2 : Int32} (h : ((¬ x2 < (ι a0 4) → Q (some (.int x1)) ι) ∧ (x2 < (ι a0 4) → PC xl n 172 0 [(0, .ref a0), (1, .int x2)] [] ι (fun v1 κ1 => ∀ r1, v1 = some (.int r1) → PC xl n 175 0 [(0, .int r1)] [] κ1 (fun v2 κ2 => ∀ r2, v2 = some (.int r2) → PC xl n 171 4 [(0, .ref a0), (1, .int (x1 ||| (r2 <<< (x2 &&& 31)))), (2, .int (x2 + 1))] [] κ2 Q))))) : PC xl (n + 1) 171 4 [(0, .ref a0), (1, .int x1), (2, .int x2)] [] ι Q := by
  refine PC.pr1 (k := 0) (pc' := 5) (lv' := [(0, .ref a0), (1, .int x1), (2, .int x2)]) (st' := [.int x2]) rfl ?_
  refine PC.pr (k := 1) (pc' := 6) (lv' := [(0, .ref a0), (1, .int x1), (2, .int x2)]) (st' := [.ref a0, .int x2]) rfl ?_
  refine PC.gI (ci := 9) (j := 4) rfl rfl (by decide) ?_
  refine PC.if2 (t := 31) rfl rfl (fun c => ?_) (fun c => ?_)
  · have h := h.1 (cmp_ge.1.mp c)
    refine PC.pr (k := 1) (pc' := 32) (lv' := [(0, .ref a0), (1, .int x1), (2, .int x2)]) (st' := [.int x1]) rfl ?_
    exact PC.retI rfl h
  · have h := h.2 (cmp_ge.2.mp c)
    refine PC.pr (k := 1) (pc' := 13) (lv' := [(0, .ref a0), (1, .int x1), (2, .int x2)]) (st' := [.int x1]) rfl ?_
    refine PC.pr (k := 1) (pc' := 14) (lv' := [(0, .ref a0), (1, .int x1), (2, .int x2)]) (st' := [.ref a0, .int x1]) rfl ?_
    refine PC.pr (k := 1) (pc' := 15) (lv' := [(0, .ref a0), (1, .int x1), (2, .int x2)]) (st' := [.int x2, .ref a0, .int x1]) rfl ?_
    refine (PC.callI (j := 172) (args := [.ref a0, .int x2]) (rest := [.int x1]) (M := cM172) (ty := .boolean) rfl rfl rfl rfl rfl rfl (by decide) rfl rfl (by decide) ?_).weak
    refine PC.imp h (fun v1 κ1 h r1 hv => ?_)
    have h := h r1 hv
    refine (PC.callI (j := 175) (args := [.int r1]) (rest := [.int x1]) (M := cM175) (ty := .int) rfl rfl rfl rfl rfl rfl (by decide) rfl rfl (by decide) ?_).weak
    refine PC.imp h (fun v2 κ2 h r2 hv => ?_)
    have h := h r2 hv
    refine PC.pr (k := 1) (pc' := 22) (lv' := [(0, .ref a0), (1, .int x1), (2, .int x2)]) (st' := [.int x2, .int r2, .int x1]) rfl ?_
    refine PC.pr (k := 1) (pc' := 23) (lv' := [(0, .ref a0), (1, .int x1), (2, .int x2)]) (st' := [.int (r2 <<< (x2 &&& 31)), .int x1]) rfl ?_
    refine PC.pr (k := 1) (pc' := 24) (lv' := [(0, .ref a0), (1, .int x1), (2, .int x2)]) (st' := [.int (x1 ||| (r2 <<< (x2 &&& 31)))]) rfl ?_
    refine PC.pr (k := 1) (pc' := 25) (lv' := [(1, .int (x1 ||| (r2 <<< (x2 &&& 31)))), (0, .ref a0), (2, .int x2)]) (st' := []) rfl ?_
    refine PC.pr (k := 1) (pc' := 28) (lv' := [(2, .int (x2 + 1)), (1, .int (x1 ||| (r2 <<< (x2 &&& 31)))), (0, .ref a0)]) (st' := []) rfl ?_
    refine PC.pr (k := 1) (pc' := 4) (lv' := [(2, .int (x2 + 1)), (1, .int (x1 ||| (r2 <<< (x2 &&& 31)))), (0, .ref a0)]) (st' := []) rfl ?_
    exact PC.lv (lvE.cons rfl (lvE.cons rfl (lvE.cons rfl (lvE.nil)))) h

/-- DoorPaintsModel.isWrong(I)Z -/
theorem t_172_0 {xl : List Int32} {n : Nat} {ι : IS} {Q : Option Value → IS → Prop} {a0 : Nat} {x1 : Int32} (h : PC xl n 173 0 [(0, .ref a0), (1, .int x1)] [] ι (fun v1 κ1 => ∀ r1, v1 = some (.int r1) → ((r1 = (-4) → Q (some (.int 0)) κ1) ∧ (¬ r1 = (-4) → PC xl n 169 0 [(0, .ref a0), (1, .int x1), (2, .int 2)] [] κ1 (fun v2 κ2 => ∀ r2, v2 = some (.int r2) → PC xl n 173 0 [(0, .ref a0), (1, .int x1)] [] κ2 (fun v3 κ3 => ∀ r3, v3 = some (.int r3) → ((¬ ((r2 >>> (r3 &&& 31)) &&& 1) = 1 → Q (some (.int 0)) κ3) ∧ (((r2 >>> (r3 &&& 31)) &&& 1) = 1 → Q (some (.int 1)) κ3)))))))) : PC xl (n + 1) 172 0 [(0, .ref a0), (1, .int x1)] [] ι Q := by
  refine PC.pr1 (k := 0) (pc' := 1) (lv' := [(0, .ref a0), (1, .int x1)]) (st' := [.ref a0]) rfl ?_
  refine PC.pr (k := 1) (pc' := 2) (lv' := [(0, .ref a0), (1, .int x1)]) (st' := [.int x1, .ref a0]) rfl ?_
  refine (PC.callI (j := 173) (args := [.ref a0, .int x1]) (rest := []) (M := cM173) (ty := .int) rfl rfl rfl rfl rfl rfl (by decide) rfl rfl (by decide) ?_).weak
  refine PC.imp h (fun v1 κ1 h r1 hv => ?_)
  have h := h r1 hv
  refine PC.pr (k := 1) (pc' := 7) (lv' := [(0, .ref a0), (1, .int x1)]) (st' := [.int (-4), .int r1]) rfl ?_
  refine PC.if2 (t := 32) rfl rfl (fun c => ?_) (fun c => ?_)
  · have h := h.1 (cmp_eq.1.mp c)
    refine PC.pr (k := 1) (pc' := 33) (lv' := [(0, .ref a0), (1, .int x1)]) (st' := [.int 0]) rfl ?_
    exact PC.retI rfl h
  · have h := h.2 (cmp_eq.2.mp c)
    refine PC.pr (k := 1) (pc' := 11) (lv' := [(0, .ref a0), (1, .int x1)]) (st' := [.ref a0]) rfl ?_
    refine PC.pr (k := 1) (pc' := 12) (lv' := [(0, .ref a0), (1, .int x1)]) (st' := [.int x1, .ref a0]) rfl ?_
    refine PC.pr (k := 1) (pc' := 13) (lv' := [(0, .ref a0), (1, .int x1)]) (st' := [.int 2, .int x1, .ref a0]) rfl ?_
    refine (PC.callI (j := 169) (args := [.ref a0, .int x1, .int 2]) (rest := []) (M := cM169) (ty := .int) rfl rfl rfl rfl rfl rfl (by decide) rfl rfl (by decide) ?_).weak
    refine PC.imp h (fun v2 κ2 h r2 hv => ?_)
    have h := h r2 hv
    refine PC.pr (k := 1) (pc' := 17) (lv' := [(0, .ref a0), (1, .int x1)]) (st' := [.ref a0, .int r2]) rfl ?_
    refine PC.pr (k := 1) (pc' := 18) (lv' := [(0, .ref a0), (1, .int x1)]) (st' := [.int x1, .ref a0, .int r2]) rfl ?_
    refine (PC.callI (j := 173) (args := [.ref a0, .int x1]) (rest := [.int r2]) (M := cM173) (ty := .int) rfl rfl rfl rfl rfl rfl (by decide) rfl rfl (by decide) ?_).weak
    refine PC.imp h (fun v3 κ3 h r3 hv => ?_)
    have h := h r3 hv
    refine PC.pr (k := 1) (pc' := 22) (lv' := [(0, .ref a0), (1, .int x1)]) (st' := [.int (r2 >>> (r3 &&& 31))]) rfl ?_
    refine PC.pr (k := 1) (pc' := 23) (lv' := [(0, .ref a0), (1, .int x1)]) (st' := [.int 1, .int (r2 >>> (r3 &&& 31))]) rfl ?_
    refine PC.pr (k := 1) (pc' := 24) (lv' := [(0, .ref a0), (1, .int x1)]) (st' := [.int ((r2 >>> (r3 &&& 31)) &&& 1)]) rfl ?_
    refine PC.pr (k := 1) (pc' := 25) (lv' := [(0, .ref a0), (1, .int x1)]) (st' := [.int 1, .int ((r2 >>> (r3 &&& 31)) &&& 1)]) rfl ?_
    refine PC.if2 (t := 32) rfl rfl (fun c => ?_) (fun c => ?_)
    · have h := h.1 (cmp_ne.1.mp c)
      refine PC.pr (k := 1) (pc' := 33) (lv' := [(0, .ref a0), (1, .int x1)]) (st' := [.int 0]) rfl ?_
      exact PC.retI rfl h
    · have h := h.2 (cmp_ne.2.mp c)
      refine PC.pr (k := 1) (pc' := 29) (lv' := [(0, .ref a0), (1, .int x1)]) (st' := [.int 1]) rfl ?_
      refine PC.pr (k := 1) (pc' := 33) (lv' := [(0, .ref a0), (1, .int x1)]) (st' := [.int 1]) rfl ?_
      exact PC.retI rfl h

/-- DoorPaintsModel.showsOf(I)I -/
theorem t_173_0 {xl : List Int32} {n : Nat} {ι : IS} {Q : Option Value → IS → Prop} {a0 : Nat} {x1 : Int32} (h : PC xl n 169 0 [(0, .ref a0), (1, .int x1), (2, .int 0)] [] ι (fun v1 κ1 => ∀ r1, v1 = some (.int r1) → ((¬ r1 = 0 → PC xl n 169 0 [(0, .ref a0), (1, .int x1), (2, .int 0)] [] κ1 (fun v2 κ2 => ∀ r2, v2 = some (.int r2) → PC xl n 174 0 [(0, .ref a0), (1, .int x1), (2, .int (r2 - 1))] [] κ2 (fun v3 κ3 => ∀ r3, v3 = some (.int r3) → Q (some (.int r3)) κ3))) ∧ (r1 = 0 → Q (some (.int (-4))) κ1)))) : PC xl (n + 1) 173 0 [(0, .ref a0), (1, .int x1)] [] ι Q := by
  refine PC.pr1 (k := 0) (pc' := 1) (lv' := [(0, .ref a0), (1, .int x1)]) (st' := [.ref a0]) rfl ?_
  refine PC.pr (k := 1) (pc' := 2) (lv' := [(0, .ref a0), (1, .int x1)]) (st' := [.int x1, .ref a0]) rfl ?_
  refine PC.pr (k := 1) (pc' := 3) (lv' := [(0, .ref a0), (1, .int x1)]) (st' := [.int 0, .int x1, .ref a0]) rfl ?_
  refine (PC.callI (j := 169) (args := [.ref a0, .int x1, .int 0]) (rest := []) (M := cM169) (ty := .int) rfl rfl rfl rfl rfl rfl (by decide) rfl rfl (by decide) ?_).weak
  refine PC.imp h (fun v1 κ1 h r1 hv => ?_)
  have h := h r1 hv
  refine PC.if1 (t := 14) rfl rfl (fun c => ?_) (fun c => ?_)
  · have h := h.1 (cmp_ne.1.mp c)
    refine PC.pr (k := 1) (pc' := 15) (lv' := [(0, .ref a0), (1, .int x1)]) (st' := [.ref a0]) rfl ?_
    refine PC.pr (k := 1) (pc' := 16) (lv' := [(0, .ref a0), (1, .int x1)]) (st' := [.int x1, .ref a0]) rfl ?_
    refine PC.pr (k := 1) (pc' := 17) (lv' := [(0, .ref a0), (1, .int x1)]) (st' := [.ref a0, .int x1, .ref a0]) rfl ?_
    refine PC.pr (k := 1) (pc' := 18) (lv' := [(0, .ref a0), (1, .int x1)]) (st' := [.int x1, .ref a0, .int x1, .ref a0]) rfl ?_
    refine PC.pr (k := 1) (pc' := 19) (lv' := [(0, .ref a0), (1, .int x1)]) (st' := [.int 0, .int x1, .ref a0, .int x1, .ref a0]) rfl ?_
    refine (PC.callI (j := 169) (args := [.ref a0, .int x1, .int 0]) (rest := [.int x1, .ref a0]) (M := cM169) (ty := .int) rfl rfl rfl rfl rfl rfl (by decide) rfl rfl (by decide) ?_).weak
    refine PC.imp h (fun v2 κ2 h r2 hv => ?_)
    have h := h r2 hv
    refine PC.pr (k := 1) (pc' := 23) (lv' := [(0, .ref a0), (1, .int x1)]) (st' := [.int 1, .int r2, .int x1, .ref a0]) rfl ?_
    refine PC.pr (k := 1) (pc' := 24) (lv' := [(0, .ref a0), (1, .int x1)]) (st' := [.int (r2 - 1), .int x1, .ref a0]) rfl ?_
    refine (PC.callI (j := 174) (args := [.ref a0, .int x1, .int (r2 - 1)]) (rest := []) (M := cM174) (ty := .int) rfl rfl rfl rfl rfl rfl (by decide) rfl rfl (by decide) ?_).weak
    refine PC.imp h (fun v3 κ3 h r3 hv => ?_)
    have h := h r3 hv
    exact PC.retI rfl h
  · have h := h.2 (cmp_ne.2.mp c)
    refine PC.pr (k := 1) (pc' := 11) (lv' := [(0, .ref a0), (1, .int x1)]) (st' := [.int (-4)]) rfl ?_
    refine PC.pr (k := 1) (pc' := 27) (lv' := [(0, .ref a0), (1, .int x1)]) (st' := [.int (-4)]) rfl ?_
    exact PC.retI rfl h

/-- DoorPaintsModel.layerOf(II)I -/
theorem t_174_0 {xl : List Int32} {n : Nat} {ι : IS} {Q : Option Value → IS → Prop} {a0 : Nat} {x1 : Int32} {x2 : Int32} (h : PC xl n 169 0 [(0, .ref a0), (1, .int x1), (2, .int (3 + x2))] [] ι (fun v1 κ1 => ∀ r1, v1 = some (.int r1) → Q (some (.int r1)) κ1)) : PC xl (n + 1) 174 0 [(0, .ref a0), (1, .int x1), (2, .int x2)] [] ι Q := by
  refine PC.pr1 (k := 0) (pc' := 1) (lv' := [(0, .ref a0), (1, .int x1), (2, .int x2)]) (st' := [.ref a0]) rfl ?_
  refine PC.pr (k := 1) (pc' := 2) (lv' := [(0, .ref a0), (1, .int x1), (2, .int x2)]) (st' := [.int x1, .ref a0]) rfl ?_
  refine PC.pr (k := 1) (pc' := 3) (lv' := [(0, .ref a0), (1, .int x1), (2, .int x2)]) (st' := [.int 3, .int x1, .ref a0]) rfl ?_
  refine PC.pr (k := 1) (pc' := 4) (lv' := [(0, .ref a0), (1, .int x1), (2, .int x2)]) (st' := [.int x2, .int 3, .int x1, .ref a0]) rfl ?_
  refine PC.pr (k := 1) (pc' := 5) (lv' := [(0, .ref a0), (1, .int x1), (2, .int x2)]) (st' := [.int (3 + x2), .int x1, .ref a0]) rfl ?_
  refine (PC.callI (j := 169) (args := [.ref a0, .int x1, .int (3 + x2)]) (rest := []) (M := cM169) (ty := .int) rfl rfl rfl rfl rfl rfl (by decide) rfl rfl (by decide) ?_).weak
  refine PC.imp h (fun v1 κ1 h r1 hv => ?_)
  have h := h r1 hv
  exact PC.retI rfl h

/-- DoorPaintsModel.visitor(II)I -/
theorem t_176_0 {xl : List Int32} {n : Nat} {ι : IS} {Q : Option Value → IS → Prop} {a0 : Nat} {x1 : Int32} {x2 : Int32} (h : PC xl n 177 0 [(0, .ref a0), (1, .int x1)] [] ι (fun v1 κ1 => ∀ r1, v1 = some (.int r1) → ((r1 = 0 → Q (some (.int (-1))) κ1) ∧ (¬ r1 = 0 → PC xl n 148 0 [(0, .long (x2).toInt64), (2, .long 0), (4, .long 4)] [] κ1 (fun v2 κ2 => ∀ r2, v2 = some (.int r2) → ((¬ r2 = 0 → PC xl n 168 0 [(0, .ref a0)] [] κ2 (fun _ κ3 => ((¬ x2 < 4 → PC xl n 178 0 [(0, .ref a0), (1, .int x1)] [] κ3 (fun v4 κ4 => ∀ r4, v4 = some (.int r4) → Q (some (.int r4)) κ4)) ∧ (x2 < 4 → PC xl n 170 0 [(0, .ref a0), (1, .int x1), (2, .int x2)] [] κ3 (fun v5 κ5 => ∀ r5, v5 = some (.int r5) → Q (some (.int r5)) κ5))))) ∧ (r2 = 0 → Q (some (.int (-1))) κ2))))))) : PC xl (n + 1) 176 0 [(0, .ref a0), (1, .int x1), (2, .int x2)] [] ι Q := by
  refine PC.pr1 (k := 0) (pc' := 1) (lv' := [(0, .ref a0), (1, .int x1), (2, .int x2)]) (st' := [.ref a0]) rfl ?_
  refine PC.pr (k := 1) (pc' := 2) (lv' := [(0, .ref a0), (1, .int x1), (2, .int x2)]) (st' := [.int x1, .ref a0]) rfl ?_
  refine (PC.callI (j := 177) (args := [.ref a0, .int x1]) (rest := []) (M := cM177) (ty := .boolean) rfl rfl rfl rfl rfl rfl (by decide) rfl rfl (by decide) ?_).weak
  refine PC.imp h (fun v1 κ1 h r1 hv => ?_)
  have h := h r1 hv
  refine PC.if1 (t := 20) rfl rfl (fun c => ?_) (fun c => ?_)
  · have h := h.1 (cmp_eq.1.mp c)
    refine PC.pr (k := 1) (pc' := 21) (lv' := [(0, .ref a0), (1, .int x1), (2, .int x2)]) (st' := [.int (-1)]) rfl ?_
    exact PC.retI rfl h
  · have h := h.2 (cmp_eq.2.mp c)
    refine PC.pr (k := 1) (pc' := 9) (lv' := [(0, .ref a0), (1, .int x1), (2, .int x2)]) (st' := [.int x2]) rfl ?_
    refine PC.pr (k := 1) (pc' := 10) (lv' := [(0, .ref a0), (1, .int x1), (2, .int x2)]) (st' := [.long (x2).toInt64]) rfl ?_
    refine PC.pr (k := 1) (pc' := 11) (lv' := [(0, .ref a0), (1, .int x1), (2, .int x2)]) (st' := [.long 0, .long (x2).toInt64]) rfl ?_
    refine PC.pr (k := 1) (pc' := 14) (lv' := [(0, .ref a0), (1, .int x1), (2, .int x2)]) (st' := [.long 4, .long 0, .long (x2).toInt64]) rfl ?_
    refine (PC.callI (j := 148) (args := [.long (x2).toInt64, .long 0, .long 4]) (rest := []) (M := cM148) (ty := .boolean) rfl rfl rfl rfl rfl rfl (by decide) rfl rfl (by decide) ?_).weak
    refine PC.imp h (fun v2 κ2 h r2 hv => ?_)
    have h := h r2 hv
    refine PC.if1 (t := 22) rfl rfl (fun c => ?_) (fun c => ?_)
    · have h := h.1 (cmp_ne.1.mp c)
      refine PC.pr (k := 1) (pc' := 23) (lv' := [(0, .ref a0), (1, .int x1), (2, .int x2)]) (st' := [.ref a0]) rfl ?_
      refine (PC.callV (j := 168) (args := [.ref a0]) (rest := []) (M := cM168) rfl rfl rfl rfl rfl rfl (by decide) rfl rfl ?_).weak
      refine PC.imp h (fun _ κ3 h => ?_)
      refine PC.pr (k := 1) (pc' := 27) (lv' := [(0, .ref a0), (1, .int x1), (2, .int x2)]) (st' := [.int x2]) rfl ?_
      refine PC.pr (k := 1) (pc' := 28) (lv' := [(0, .ref a0), (1, .int x1), (2, .int x2)]) (st' := [.int 4, .int x2]) rfl ?_
      refine PC.if2 (t := 40) rfl rfl (fun c => ?_) (fun c => ?_)
      · have h := h.1 (cmp_ge.1.mp c)
        refine PC.pr (k := 1) (pc' := 41) (lv' := [(0, .ref a0), (1, .int x1), (2, .int x2)]) (st' := [.ref a0]) rfl ?_
        refine PC.pr (k := 1) (pc' := 42) (lv' := [(0, .ref a0), (1, .int x1), (2, .int x2)]) (st' := [.int x1, .ref a0]) rfl ?_
        refine (PC.callI (j := 178) (args := [.ref a0, .int x1]) (rest := []) (M := cM178) (ty := .int) rfl rfl rfl rfl rfl rfl (by decide) rfl rfl (by decide) ?_).weak
        refine PC.imp h (fun v4 κ4 h r4 hv => ?_)
        have h := h r4 hv
        exact PC.retI rfl h
      · have h := h.2 (cmp_ge.2.mp c)
        refine PC.pr (k := 1) (pc' := 32) (lv' := [(0, .ref a0), (1, .int x1), (2, .int x2)]) (st' := [.ref a0]) rfl ?_
        refine PC.pr (k := 1) (pc' := 33) (lv' := [(0, .ref a0), (1, .int x1), (2, .int x2)]) (st' := [.int x1, .ref a0]) rfl ?_
        refine PC.pr (k := 1) (pc' := 34) (lv' := [(0, .ref a0), (1, .int x1), (2, .int x2)]) (st' := [.int x2, .int x1, .ref a0]) rfl ?_
        refine (PC.callI (j := 170) (args := [.ref a0, .int x1, .int x2]) (rest := []) (M := cM170) (ty := .int) rfl rfl rfl rfl rfl rfl (by decide) rfl rfl (by decide) ?_).weak
        refine PC.imp h (fun v5 κ5 h r5 hv => ?_)
        have h := h r5 hv
        refine PC.pr (k := 1) (pc' := 45) (lv' := [(0, .ref a0), (1, .int x1), (2, .int x2)]) (st' := [.int r5]) rfl ?_
        exact PC.retI rfl h
    · have h := h.2 (cmp_ne.2.mp c)
      refine PC.pr (k := 1) (pc' := 21) (lv' := [(0, .ref a0), (1, .int x1), (2, .int x2)]) (st' := [.int (-1)]) rfl ?_
      exact PC.retI rfl h

/-- DoorPaintsModel.isVisitor(I)Z -/
theorem t_177_0 {xl : List Int32} {n : Nat} {ι : IS} {Q : Option Value → IS → Prop} {a0 : Nat} {x1 : Int32} (h : PC xl n 148 0 [(0, .long (x1).toInt64), (2, .long 0), (4, .long (((ι a0 3) - 1)).toInt64)] [] ι (fun v1 κ1 => ∀ r1, v1 = some (.int r1) → Q (some (.int r1)) κ1)) : PC xl (n + 1) 177 0 [(0, .ref a0), (1, .int x1)] [] ι Q := by
  refine PC.pr1 (k := 0) (pc' := 1) (lv' := [(0, .ref a0), (1, .int x1)]) (st' := [.int x1]) rfl ?_
  refine PC.pr (k := 1) (pc' := 2) (lv' := [(0, .ref a0), (1, .int x1)]) (st' := [.long (x1).toInt64]) rfl ?_
  refine PC.pr (k := 1) (pc' := 3) (lv' := [(0, .ref a0), (1, .int x1)]) (st' := [.long 0, .long (x1).toInt64]) rfl ?_
  refine PC.pr (k := 1) (pc' := 4) (lv' := [(0, .ref a0), (1, .int x1)]) (st' := [.ref a0, .long 0, .long (x1).toInt64]) rfl ?_
  refine PC.gI (ci := 9) (j := 3) rfl rfl (by decide) ?_
  refine PC.pr (k := 1) (pc' := 8) (lv' := [(0, .ref a0), (1, .int x1)]) (st' := [.int 1, .int (ι a0 3), .long 0, .long (x1).toInt64]) rfl ?_
  refine PC.pr (k := 1) (pc' := 9) (lv' := [(0, .ref a0), (1, .int x1)]) (st' := [.int ((ι a0 3) - 1), .long 0, .long (x1).toInt64]) rfl ?_
  refine PC.pr (k := 1) (pc' := 10) (lv' := [(0, .ref a0), (1, .int x1)]) (st' := [.long (((ι a0 3) - 1)).toInt64, .long 0, .long (x1).toInt64]) rfl ?_
  refine (PC.callI (j := 148) (args := [.long (x1).toInt64, .long 0, .long (((ι a0 3) - 1)).toInt64]) (rest := []) (M := cM148) (ty := .boolean) rfl rfl rfl rfl rfl rfl (by decide) rfl rfl (by decide) ?_).weak
  refine PC.imp h (fun v1 κ1 h r1 hv => ?_)
  have h := h r1 hv
  exact PC.retI rfl h

/-- DoorPaintsModel.brushOf(I)I -/
theorem t_178_0 {xl : List Int32} {n : Nat} {ι : IS} {Q : Option Value → IS → Prop} {a0 : Nat} {x1 : Int32} (h : ((¬ x1 = (ι a0 20) → PC xl n 179 0 [(0, .ref a0), (1, .int x1)] [] ι (fun v1 κ1 => ∀ r1, v1 = some (.int r1) → Q (some (.int r1)) κ1)) ∧ (x1 = (ι a0 20) → PC xl n 179 0 [(0, .ref a0), (1, .int (ι a0 21))] [] ι (fun v2 κ2 => ∀ r2, v2 = some (.int r2) → Q (some (.int r2)) κ2)))) : PC xl (n + 1) 178 0 [(0, .ref a0), (1, .int x1)] [] ι Q := by
  refine PC.pr1 (k := 0) (pc' := 1) (lv' := [(0, .ref a0), (1, .int x1)]) (st' := [.int x1]) rfl ?_
  refine PC.pr (k := 1) (pc' := 2) (lv' := [(0, .ref a0), (1, .int x1)]) (st' := [.ref a0, .int x1]) rfl ?_
  refine PC.gI (ci := 9) (j := 20) rfl rfl (by decide) ?_
  refine PC.if2 (t := 19) rfl rfl (fun c => ?_) (fun c => ?_)
  · have h := h.1 (cmp_ne.1.mp c)
    refine PC.pr (k := 1) (pc' := 20) (lv' := [(0, .ref a0), (1, .int x1)]) (st' := [.ref a0]) rfl ?_
    refine PC.pr (k := 1) (pc' := 21) (lv' := [(0, .ref a0), (1, .int x1)]) (st' := [.int x1, .ref a0]) rfl ?_
    refine (PC.callI (j := 179) (args := [.ref a0, .int x1]) (rest := []) (M := cM179) (ty := .int) rfl rfl rfl rfl rfl rfl (by decide) rfl rfl (by decide) ?_).weak
    refine PC.imp h (fun v1 κ1 h r1 hv => ?_)
    have h := h r1 hv
    exact PC.retI rfl h
  · have h := h.2 (cmp_ne.2.mp c)
    refine PC.pr (k := 1) (pc' := 9) (lv' := [(0, .ref a0), (1, .int x1)]) (st' := [.ref a0]) rfl ?_
    refine PC.pr (k := 1) (pc' := 10) (lv' := [(0, .ref a0), (1, .int x1)]) (st' := [.ref a0, .ref a0]) rfl ?_
    refine PC.gI (ci := 9) (j := 21) rfl rfl (by decide) ?_
    refine (PC.callI (j := 179) (args := [.ref a0, .int (ι a0 21)]) (rest := []) (M := cM179) (ty := .int) rfl rfl rfl rfl rfl rfl (by decide) rfl rfl (by decide) ?_).weak
    refine PC.imp h (fun v2 κ2 h r2 hv => ?_)
    have h := h r2 hv
    refine PC.pr (k := 1) (pc' := 24) (lv' := [(0, .ref a0), (1, .int x1)]) (st' := [.int r2]) rfl ?_
    exact PC.retI rfl h

/-- DoorPaintsModel.ownBrush(I)I -/
theorem t_179_0 {xl : List Int32} {n : Nat} {ι : IS} {Q : Option Value → IS → Prop} {a0 : Nat} {x1 : Int32} (h : PC xl n 170 0 [(0, .ref a0), (1, .int x1), (2, .int 0)] [] ι (fun v1 κ1 => ∀ r1, v1 = some (.int r1) → ((¬ r1 = 3 → PC xl n 170 0 [(0, .ref a0), (1, .int x1), (2, .int 1)] [] κ1 (fun v2 κ2 => ∀ r2, v2 = some (.int r2) → Q (some (.int r2)) κ2)) ∧ (r1 = 3 → PC xl n 170 0 [(0, .ref a0), (1, .int 0), (2, .int 1)] [] κ1 (fun v3 κ3 => ∀ r3, v3 = some (.int r3) → Q (some (.int r3)) κ3))))) : PC xl (n + 1) 179 0 [(0, .ref a0), (1, .int x1)] [] ι Q := by
  refine PC.pr1 (k := 0) (pc' := 1) (lv' := [(0, .ref a0), (1, .int x1)]) (st' := [.ref a0]) rfl ?_
  refine PC.pr (k := 1) (pc' := 2) (lv' := [(0, .ref a0), (1, .int x1)]) (st' := [.int x1, .ref a0]) rfl ?_
  refine PC.pr (k := 1) (pc' := 3) (lv' := [(0, .ref a0), (1, .int x1)]) (st' := [.int 0, .int x1, .ref a0]) rfl ?_
  refine (PC.callI (j := 170) (args := [.ref a0, .int x1, .int 0]) (rest := []) (M := cM170) (ty := .int) rfl rfl rfl rfl rfl rfl (by decide) rfl rfl (by decide) ?_).weak
  refine PC.imp h (fun v1 κ1 h r1 hv => ?_)
  have h := h r1 hv
  refine PC.pr (k := 1) (pc' := 7) (lv' := [(0, .ref a0), (1, .int x1)]) (st' := [.int 3, .int r1]) rfl ?_
  refine PC.if2 (t := 19) rfl rfl (fun c => ?_) (fun c => ?_)
  · have h := h.1 (cmp_ne.1.mp c)
    refine PC.pr (k := 1) (pc' := 20) (lv' := [(0, .ref a0), (1, .int x1)]) (st' := [.ref a0]) rfl ?_
    refine PC.pr (k := 1) (pc' := 21) (lv' := [(0, .ref a0), (1, .int x1)]) (st' := [.int x1, .ref a0]) rfl ?_
    refine PC.pr (k := 1) (pc' := 22) (lv' := [(0, .ref a0), (1, .int x1)]) (st' := [.int 1, .int x1, .ref a0]) rfl ?_
    refine (PC.callI (j := 170) (args := [.ref a0, .int x1, .int 1]) (rest := []) (M := cM170) (ty := .int) rfl rfl rfl rfl rfl rfl (by decide) rfl rfl (by decide) ?_).weak
    refine PC.imp h (fun v2 κ2 h r2 hv => ?_)
    have h := h r2 hv
    exact PC.retI rfl h
  · have h := h.2 (cmp_ne.2.mp c)
    refine PC.pr (k := 1) (pc' := 11) (lv' := [(0, .ref a0), (1, .int x1)]) (st' := [.ref a0]) rfl ?_
    refine PC.pr (k := 1) (pc' := 12) (lv' := [(0, .ref a0), (1, .int x1)]) (st' := [.int 0, .ref a0]) rfl ?_
    refine PC.pr (k := 1) (pc' := 13) (lv' := [(0, .ref a0), (1, .int x1)]) (st' := [.int 1, .int 0, .ref a0]) rfl ?_
    refine (PC.callI (j := 170) (args := [.ref a0, .int 0, .int 1]) (rest := []) (M := cM170) (ty := .int) rfl rfl rfl rfl rfl rfl (by decide) rfl rfl (by decide) ?_).weak
    refine PC.imp h (fun v3 κ3 h r3 hv => ?_)
    have h := h r3 hv
    refine PC.pr (k := 1) (pc' := 25) (lv' := [(0, .ref a0), (1, .int x1)]) (st' := [.int r3]) rfl ?_
    exact PC.retI rfl h

/-- DoorPaintsModel.door(II)I -/
theorem t_180_0 {xl : List Int32} {n : Nat} {ι : IS} {Q : Option Value → IS → Prop} {a0 : Nat} {x1 : Int32} {x2 : Int32} (h : PC xl n 181 0 [(0, .ref a0), (1, .int x1)] [] ι (fun v1 κ1 => ∀ r1, v1 = some (.int r1) → ((¬ r1 = 0 → PC xl n 168 0 [(0, .ref a0)] [] κ1 (fun _ κ2 => ((x2.toInt = 0 → PC xl n 169 0 [(0, .ref a0), (1, .int x1), (2, .int 0)] [] κ2 (fun v3 κ3 => ∀ r3, v3 = some (.int r3) → Q (some (.int r3)) κ3)) ∧ (x2.toInt = 1 → PC xl n 173 0 [(0, .ref a0), (1, .int x1)] [] κ2 (fun v4 κ4 => ∀ r4, v4 = some (.int r4) → Q (some (.int r4)) κ4)) ∧ (x2.toInt = 2 → PC xl n 169 0 [(0, .ref a0), (1, .int x1), (2, .int 2)] [] κ2 (fun v5 κ5 => ∀ r5, v5 = some (.int r5) → Q (some (.int r5)) κ5)) ∧ (x2.toInt = 3 → PC xl n 169 0 [(0, .ref a0), (1, .int x1), (2, .int 1)] [] κ2 (fun v6 κ6 => ∀ r6, v6 = some (.int r6) → Q (some (.int r6)) κ6)) ∧ ((x2.toInt < 0 ∨ 3 < x2.toInt) → PC xl n 148 0 [(0, .long ((x2 - 10)).toInt64), (2, .long 0), (4, .long 5)] [] κ2 (fun v7 κ7 => ∀ r7, v7 = some (.int r7) → ((¬ r7 = 0 → PC xl n 169 0 [(0, .ref a0), (1, .int x1), (2, .int 0)] [] κ7 (fun v8 κ8 => ∀ r8, v8 = some (.int r8) → ((¬ (x2 - 10) < r8 → Q (some (.int (-4))) κ8) ∧ ((x2 - 10) < r8 → PC xl n 174 0 [(0, .ref a0), (1, .int x1), (2, .int (x2 - 10))] [] κ8 (fun v9 κ9 => ∀ r9, v9 = some (.int r9) → Q (some (.int r9)) κ9))))) ∧ (r7 = 0 → Q (some (.int (-1))) κ7))))))) ∧ (r1 = 0 → Q (some (.int (-1))) κ1)))) : PC xl (n + 1) 180 0 [(0, .ref a0), (1, .int x1), (2, .int x2)] [] ι Q := by
  refine PC.pr1 (k := 0) (pc' := 1) (lv' := [(0, .ref a0), (1, .int x1), (2, .int x2)]) (st' := [.ref a0]) rfl ?_
  refine PC.pr (k := 1) (pc' := 2) (lv' := [(0, .ref a0), (1, .int x1), (2, .int x2)]) (st' := [.int x1, .ref a0]) rfl ?_
  refine (PC.callI (j := 181) (args := [.ref a0, .int x1]) (rest := []) (M := cM181) (ty := .boolean) rfl rfl rfl rfl rfl rfl (by decide) rfl rfl (by decide) ?_).weak
  refine PC.imp h (fun v1 κ1 h r1 hv => ?_)
  have h := h r1 hv
  refine PC.if1 (t := 10) rfl rfl (fun c => ?_) (fun c => ?_)
  · have h := h.1 (cmp_ne.1.mp c)
    refine PC.pr (k := 1) (pc' := 11) (lv' := [(0, .ref a0), (1, .int x1), (2, .int x2)]) (st' := [.ref a0]) rfl ?_
    refine (PC.callV (j := 168) (args := [.ref a0]) (rest := []) (M := cM168) rfl rfl rfl rfl rfl rfl (by decide) rfl rfl ?_).weak
    refine PC.imp h (fun _ κ2 h => ?_)
    refine PC.pr (k := 1) (pc' := 15) (lv' := [(0, .ref a0), (1, .int x1), (2, .int x2)]) (st' := [.int x2]) rfl ?_
    refine PC.tsw rfl (fun i off t ho ht hx => ?_) (fun t ht hx => ?_)
    · match i, ho, hx with
      | 0, ho, hx =>
        obtain rfl : (29 : Int) = off := Option.some.inj ho
        obtain rfl : 44 = t := Option.some.inj ht
        have h := h.1 (by simpa using hx)
        refine PC.pr (k := 1) (pc' := 45) (lv' := [(0, .ref a0), (1, .int x1), (2, .int x2)]) (st' := [.ref a0]) rfl ?_
        refine PC.pr (k := 1) (pc' := 46) (lv' := [(0, .ref a0), (1, .int x1), (2, .int x2)]) (st' := [.int x1, .ref a0]) rfl ?_
        refine PC.pr (k := 1) (pc' := 47) (lv' := [(0, .ref a0), (1, .int x1), (2, .int x2)]) (st' := [.int 0, .int x1, .ref a0]) rfl ?_
        refine (PC.callI (j := 169) (args := [.ref a0, .int x1, .int 0]) (rest := []) (M := cM169) (ty := .int) rfl rfl rfl rfl rfl rfl (by decide) rfl rfl (by decide) ?_).weak
        refine PC.imp h (fun v3 κ3 h r3 hv => ?_)
        have h := h r3 hv
        exact PC.retI rfl h
      | 1, ho, hx =>
        obtain rfl : (36 : Int) = off := Option.some.inj ho
        obtain rfl : 51 = t := Option.some.inj ht
        have h := h.2.1 (by simpa using hx)
        refine PC.pr (k := 1) (pc' := 52) (lv' := [(0, .ref a0), (1, .int x1), (2, .int x2)]) (st' := [.ref a0]) rfl ?_
        refine PC.pr (k := 1) (pc' := 53) (lv' := [(0, .ref a0), (1, .int x1), (2, .int x2)]) (st' := [.int x1, .ref a0]) rfl ?_
        refine (PC.callI (j := 173) (args := [.ref a0, .int x1]) (rest := []) (M := cM173) (ty := .int) rfl rfl rfl rfl rfl rfl (by decide) rfl rfl (by decide) ?_).weak
        refine PC.imp h (fun v4 κ4 h r4 hv => ?_)
        have h := h r4 hv
        exact PC.retI rfl h
      | 2, ho, hx =>
        obtain rfl : (42 : Int) = off := Option.some.inj ho
        obtain rfl : 57 = t := Option.some.inj ht
        have h := h.2.2.1 (by simpa using hx)
        refine PC.pr (k := 1) (pc' := 58) (lv' := [(0, .ref a0), (1, .int x1), (2, .int x2)]) (st' := [.ref a0]) rfl ?_
        refine PC.pr (k := 1) (pc' := 59) (lv' := [(0, .ref a0), (1, .int x1), (2, .int x2)]) (st' := [.int x1, .ref a0]) rfl ?_
        refine PC.pr (k := 1) (pc' := 60) (lv' := [(0, .ref a0), (1, .int x1), (2, .int x2)]) (st' := [.int 2, .int x1, .ref a0]) rfl ?_
        refine (PC.callI (j := 169) (args := [.ref a0, .int x1, .int 2]) (rest := []) (M := cM169) (ty := .int) rfl rfl rfl rfl rfl rfl (by decide) rfl rfl (by decide) ?_).weak
        refine PC.imp h (fun v5 κ5 h r5 hv => ?_)
        have h := h r5 hv
        exact PC.retI rfl h
      | 3, ho, hx =>
        obtain rfl : (49 : Int) = off := Option.some.inj ho
        obtain rfl : 64 = t := Option.some.inj ht
        have h := h.2.2.2.1 (by simpa using hx)
        refine PC.pr (k := 1) (pc' := 65) (lv' := [(0, .ref a0), (1, .int x1), (2, .int x2)]) (st' := [.ref a0]) rfl ?_
        refine PC.pr (k := 1) (pc' := 66) (lv' := [(0, .ref a0), (1, .int x1), (2, .int x2)]) (st' := [.int x1, .ref a0]) rfl ?_
        refine PC.pr (k := 1) (pc' := 67) (lv' := [(0, .ref a0), (1, .int x1), (2, .int x2)]) (st' := [.int 1, .int x1, .ref a0]) rfl ?_
        refine (PC.callI (j := 169) (args := [.ref a0, .int x1, .int 1]) (rest := []) (M := cM169) (ty := .int) rfl rfl rfl rfl rfl rfl (by decide) rfl rfl (by decide) ?_).weak
        refine PC.imp h (fun v6 κ6 h r6 hv => ?_)
        have h := h r6 hv
        exact PC.retI rfl h
      | i + 4, ho, hx => cases ho
    · obtain rfl : 71 = t := Option.some.inj ht
      have h := h.2.2.2.2 hx
      refine PC.pr (k := 1) (pc' := 72) (lv' := [(0, .ref a0), (1, .int x1), (2, .int x2)]) (st' := [.int x2]) rfl ?_
      refine PC.pr (k := 1) (pc' := 74) (lv' := [(0, .ref a0), (1, .int x1), (2, .int x2)]) (st' := [.int 10, .int x2]) rfl ?_
      refine PC.pr (k := 1) (pc' := 75) (lv' := [(0, .ref a0), (1, .int x1), (2, .int x2)]) (st' := [.int (x2 - 10)]) rfl ?_
      refine PC.pr (k := 1) (pc' := 76) (lv' := [(0, .ref a0), (1, .int x1), (2, .int x2)]) (st' := [.long ((x2 - 10)).toInt64]) rfl ?_
      refine PC.pr (k := 1) (pc' := 77) (lv' := [(0, .ref a0), (1, .int x1), (2, .int x2)]) (st' := [.long 0, .long ((x2 - 10)).toInt64]) rfl ?_
      refine PC.pr (k := 1) (pc' := 80) (lv' := [(0, .ref a0), (1, .int x1), (2, .int x2)]) (st' := [.long 5, .long 0, .long ((x2 - 10)).toInt64]) rfl ?_
      refine (PC.callI (j := 148) (args := [.long ((x2 - 10)).toInt64, .long 0, .long 5]) (rest := []) (M := cM148) (ty := .boolean) rfl rfl rfl rfl rfl rfl (by decide) rfl rfl (by decide) ?_).weak
      refine PC.imp h (fun v7 κ7 h r7 hv => ?_)
      have h := h r7 hv
      refine PC.if1 (t := 90) rfl rfl (fun c => ?_) (fun c => ?_)
      · have h := h.1 (cmp_ne.1.mp c)
        refine PC.pr (k := 1) (pc' := 91) (lv' := [(0, .ref a0), (1, .int x1), (2, .int x2)]) (st' := [.int x2]) rfl ?_
        refine PC.pr (k := 1) (pc' := 93) (lv' := [(0, .ref a0), (1, .int x1), (2, .int x2)]) (st' := [.int 10, .int x2]) rfl ?_
        refine PC.pr (k := 1) (pc' := 94) (lv' := [(0, .ref a0), (1, .int x1), (2, .int x2)]) (st' := [.int (x2 - 10)]) rfl ?_
        refine PC.pr (k := 1) (pc' := 95) (lv' := [(0, .ref a0), (1, .int x1), (2, .int x2)]) (st' := [.ref a0, .int (x2 - 10)]) rfl ?_
        refine PC.pr (k := 1) (pc' := 96) (lv' := [(0, .ref a0), (1, .int x1), (2, .int x2)]) (st' := [.int x1, .ref a0, .int (x2 - 10)]) rfl ?_
        refine PC.pr (k := 1) (pc' := 97) (lv' := [(0, .ref a0), (1, .int x1), (2, .int x2)]) (st' := [.int 0, .int x1, .ref a0, .int (x2 - 10)]) rfl ?_
        refine (PC.callI (j := 169) (args := [.ref a0, .int x1, .int 0]) (rest := [.int (x2 - 10)]) (M := cM169) (ty := .int) rfl rfl rfl rfl rfl rfl (by decide) rfl rfl (by decide) ?_).weak
        refine PC.imp h (fun v8 κ8 h r8 hv => ?_)
        have h := h r8 hv
        refine PC.if2 (t := 115) rfl rfl (fun c => ?_) (fun c => ?_)
        · have h := h.1 (cmp_ge.1.mp c)
          refine PC.pr (k := 1) (pc' := 117) (lv' := [(0, .ref a0), (1, .int x1), (2, .int x2)]) (st' := [.int (-4)]) rfl ?_
          exact PC.retI rfl h
        · have h := h.2 (cmp_ge.2.mp c)
          refine PC.pr (k := 1) (pc' := 104) (lv' := [(0, .ref a0), (1, .int x1), (2, .int x2)]) (st' := [.ref a0]) rfl ?_
          refine PC.pr (k := 1) (pc' := 105) (lv' := [(0, .ref a0), (1, .int x1), (2, .int x2)]) (st' := [.int x1, .ref a0]) rfl ?_
          refine PC.pr (k := 1) (pc' := 106) (lv' := [(0, .ref a0), (1, .int x1), (2, .int x2)]) (st' := [.int x2, .int x1, .ref a0]) rfl ?_
          refine PC.pr (k := 1) (pc' := 108) (lv' := [(0, .ref a0), (1, .int x1), (2, .int x2)]) (st' := [.int 10, .int x2, .int x1, .ref a0]) rfl ?_
          refine PC.pr (k := 1) (pc' := 109) (lv' := [(0, .ref a0), (1, .int x1), (2, .int x2)]) (st' := [.int (x2 - 10), .int x1, .ref a0]) rfl ?_
          refine (PC.callI (j := 174) (args := [.ref a0, .int x1, .int (x2 - 10)]) (rest := []) (M := cM174) (ty := .int) rfl rfl rfl rfl rfl rfl (by decide) rfl rfl (by decide) ?_).weak
          refine PC.imp h (fun v9 κ9 h r9 hv => ?_)
          have h := h r9 hv
          refine PC.pr (k := 1) (pc' := 117) (lv' := [(0, .ref a0), (1, .int x1), (2, .int x2)]) (st' := [.int r9]) rfl ?_
          exact PC.retI rfl h
      · have h := h.2 (cmp_ne.2.mp c)
        refine PC.pr (k := 1) (pc' := 87) (lv' := [(0, .ref a0), (1, .int x1), (2, .int x2)]) (st' := [.int (-1)]) rfl ?_
        refine PC.pr (k := 1) (pc' := 117) (lv' := [(0, .ref a0), (1, .int x1), (2, .int x2)]) (st' := [.int (-1)]) rfl ?_
        exact PC.retI rfl h
  · have h := h.2 (cmp_ne.2.mp c)
    refine PC.pr (k := 1) (pc' := 9) (lv' := [(0, .ref a0), (1, .int x1), (2, .int x2)]) (st' := [.int (-1)]) rfl ?_
    exact PC.retI rfl h

/-- DoorPaintsModel.isDoor(I)Z -/
theorem t_181_0 {xl : List Int32} {n : Nat} {ι : IS} {Q : Option Value → IS → Prop} {a0 : Nat} {x1 : Int32} (h : PC xl n 148 0 [(0, .long (x1).toInt64), (2, .long 0), (4, .long (((ι a0 4) - 1)).toInt64)] [] ι (fun v1 κ1 => ∀ r1, v1 = some (.int r1) → Q (some (.int r1)) κ1)) : PC xl (n + 1) 181 0 [(0, .ref a0), (1, .int x1)] [] ι Q := by
  refine PC.pr1 (k := 0) (pc' := 1) (lv' := [(0, .ref a0), (1, .int x1)]) (st' := [.int x1]) rfl ?_
  refine PC.pr (k := 1) (pc' := 2) (lv' := [(0, .ref a0), (1, .int x1)]) (st' := [.long (x1).toInt64]) rfl ?_
  refine PC.pr (k := 1) (pc' := 3) (lv' := [(0, .ref a0), (1, .int x1)]) (st' := [.long 0, .long (x1).toInt64]) rfl ?_
  refine PC.pr (k := 1) (pc' := 4) (lv' := [(0, .ref a0), (1, .int x1)]) (st' := [.ref a0, .long 0, .long (x1).toInt64]) rfl ?_
  refine PC.gI (ci := 9) (j := 4) rfl rfl (by decide) ?_
  refine PC.pr (k := 1) (pc' := 8) (lv' := [(0, .ref a0), (1, .int x1)]) (st' := [.int 1, .int (ι a0 4), .long 0, .long (x1).toInt64]) rfl ?_
  refine PC.pr (k := 1) (pc' := 9) (lv' := [(0, .ref a0), (1, .int x1)]) (st' := [.int ((ι a0 4) - 1), .long 0, .long (x1).toInt64]) rfl ?_
  refine PC.pr (k := 1) (pc' := 10) (lv' := [(0, .ref a0), (1, .int x1)]) (st' := [.long (((ι a0 4) - 1)).toInt64, .long 0, .long (x1).toInt64]) rfl ?_
  refine (PC.callI (j := 148) (args := [.long (x1).toInt64, .long 0, .long (((ι a0 4) - 1)).toInt64]) (rest := []) (M := cM148) (ty := .boolean) rfl rfl rfl rfl rfl rfl (by decide) rfl rfl (by decide) ?_).weak
  refine PC.imp h (fun v1 κ1 h r1 hv => ?_)
  have h := h r1 hv
  exact PC.retI rfl h

/-- DoorPaintsModel.plan(I)I -/
theorem t_182_0 {xl : List Int32} {n : Nat} {ι : IS} {Q : Option Value → IS → Prop} {a0 : Nat} {x1 : Int32} (h : (0 ≤ (52 : Int32).toInt → (52 : Int32).toInt < ln (rf a0 0) → PC xl n 148 0 [(0, .long (x1).toInt64), (2, .long 0), (4, .long (((ι (rf a0 0) (52 : Int32).toNatClampNeg) - 1)).toInt64)] [] ι (fun v1 κ1 => ∀ r1, v1 = some (.int r1) → ((r1 = 0 → Q (some (.int (-1))) κ1) ∧ (¬ r1 = 0 → (0 ≤ (53 + x1).toInt → (53 + x1).toInt < ln (rf a0 0) → Q (some (.int (κ1 (rf a0 0) (53 + x1).toNatClampNeg))) κ1)))))) : PC xl (n + 1) 182 0 [(0, .ref a0), (1, .int x1)] [] ι Q := by
  refine PC.pr1 (k := 0) (pc' := 1) (lv' := [(0, .ref a0), (1, .int x1)]) (st' := [.int x1]) rfl ?_
  refine PC.pr (k := 1) (pc' := 2) (lv' := [(0, .ref a0), (1, .int x1)]) (st' := [.long (x1).toInt64]) rfl ?_
  refine PC.pr (k := 1) (pc' := 3) (lv' := [(0, .ref a0), (1, .int x1)]) (st' := [.long 0, .long (x1).toInt64]) rfl ?_
  refine PC.pr (k := 1) (pc' := 4) (lv' := [(0, .ref a0), (1, .int x1)]) (st' := [.ref a0, .long 0, .long (x1).toInt64]) rfl ?_
  refine PC.gR (ci := 9) (j := 0) rfl rfl (by decide) ?_
  refine PC.pr (k := 1) (pc' := 9) (lv' := [(0, .ref a0), (1, .int x1)]) (st' := [.int 52, .ref (rf a0 0), .long 0, .long (x1).toInt64]) rfl ?_
  refine PC.rd rfl (rf_lt _ _) (fun c1 c2 => ?_)
  have h := h c1 c2
  refine PC.pr (k := 1) (pc' := 11) (lv' := [(0, .ref a0), (1, .int x1)]) (st' := [.int 1, .int (ι (rf a0 0) (52 : Int32).toNatClampNeg), .long 0, .long (x1).toInt64]) rfl ?_
  refine PC.pr (k := 1) (pc' := 12) (lv' := [(0, .ref a0), (1, .int x1)]) (st' := [.int ((ι (rf a0 0) (52 : Int32).toNatClampNeg) - 1), .long 0, .long (x1).toInt64]) rfl ?_
  refine PC.pr (k := 1) (pc' := 13) (lv' := [(0, .ref a0), (1, .int x1)]) (st' := [.long (((ι (rf a0 0) (52 : Int32).toNatClampNeg) - 1)).toInt64, .long 0, .long (x1).toInt64]) rfl ?_
  refine (PC.callI (j := 148) (args := [.long (x1).toInt64, .long 0, .long (((ι (rf a0 0) (52 : Int32).toNatClampNeg) - 1)).toInt64]) (rest := []) (M := cM148) (ty := .boolean) rfl rfl rfl rfl rfl rfl (by decide) rfl rfl (by decide) ?_).weak
  refine PC.imp h (fun v1 κ1 h r1 hv => ?_)
  have h := h r1 hv
  refine PC.if1 (t := 31) rfl rfl (fun c => ?_) (fun c => ?_)
  · have h := h.1 (cmp_eq.1.mp c)
    refine PC.pr (k := 1) (pc' := 32) (lv' := [(0, .ref a0), (1, .int x1)]) (st' := [.int (-1)]) rfl ?_
    exact PC.retI rfl h
  · have h := h.2 (cmp_eq.2.mp c)
    refine PC.pr (k := 1) (pc' := 20) (lv' := [(0, .ref a0), (1, .int x1)]) (st' := [.ref a0]) rfl ?_
    refine PC.gR (ci := 9) (j := 0) rfl rfl (by decide) ?_
    refine PC.pr (k := 1) (pc' := 25) (lv' := [(0, .ref a0), (1, .int x1)]) (st' := [.int 53, .ref (rf a0 0)]) rfl ?_
    refine PC.pr (k := 1) (pc' := 26) (lv' := [(0, .ref a0), (1, .int x1)]) (st' := [.int x1, .int 53, .ref (rf a0 0)]) rfl ?_
    refine PC.pr (k := 1) (pc' := 27) (lv' := [(0, .ref a0), (1, .int x1)]) (st' := [.int (53 + x1), .ref (rf a0 0)]) rfl ?_
    refine PC.rd rfl (rf_lt _ _) (fun c1 c2 => ?_)
    have h := h c1 c2
    refine PC.pr (k := 1) (pc' := 32) (lv' := [(0, .ref a0), (1, .int x1)]) (st' := [.int (κ1 (rf a0 0) (53 + x1).toNatClampNeg)]) rfl ?_
    exact PC.retI rfl h

/-- DoorPaintsModel.uses(II)I -/
theorem t_183_0 {xl : List Int32} {n : Nat} {ι : IS} {Q : Option Value → IS → Prop} {a0 : Nat} {x1 : Int32} {x2 : Int32} (h : PC xl n 177 0 [(0, .ref a0), (1, .int x1)] [] ι (fun v1 κ1 => ∀ r1, v1 = some (.int r1) → ((r1 = 0 → Q (some (.int (-1))) κ1) ∧ (¬ r1 = 0 → PC xl n 181 0 [(0, .ref a0), (1, .int x2)] [] κ1 (fun v2 κ2 => ∀ r2, v2 = some (.int r2) → ((¬ r2 = 0 → PC xl n 168 0 [(0, .ref a0)] [] κ2 (fun _ κ3 => PC xl n 184 0 [(0, .ref a0), (1, .int x1), (2, .int x2)] [] κ3 (fun v4 κ4 => ∀ r4, v4 = some (.int r4) → Q (some (.int r4)) κ4))) ∧ (r2 = 0 → Q (some (.int (-1))) κ2))))))) : PC xl (n + 1) 183 0 [(0, .ref a0), (1, .int x1), (2, .int x2)] [] ι Q := by
  refine PC.pr1 (k := 0) (pc' := 1) (lv' := [(0, .ref a0), (1, .int x1), (2, .int x2)]) (st' := [.ref a0]) rfl ?_
  refine PC.pr (k := 1) (pc' := 2) (lv' := [(0, .ref a0), (1, .int x1), (2, .int x2)]) (st' := [.int x1, .ref a0]) rfl ?_
  refine (PC.callI (j := 177) (args := [.ref a0, .int x1]) (rest := []) (M := cM177) (ty := .boolean) rfl rfl rfl rfl rfl rfl (by decide) rfl rfl (by decide) ?_).weak
  refine PC.imp h (fun v1 κ1 h r1 hv => ?_)
  have h := h r1 hv
  refine PC.if1 (t := 16) rfl rfl (fun c => ?_) (fun c => ?_)
  · have h := h.1 (cmp_eq.1.mp c)
    refine PC.pr (k := 1) (pc' := 17) (lv' := [(0, .ref a0), (1, .int x1), (2, .int x2)]) (st' := [.int (-1)]) rfl ?_
    exact PC.retI rfl h
  · have h := h.2 (cmp_eq.2.mp c)
    refine PC.pr (k := 1) (pc' := 9) (lv' := [(0, .ref a0), (1, .int x1), (2, .int x2)]) (st' := [.ref a0]) rfl ?_
    refine PC.pr (k := 1) (pc' := 10) (lv' := [(0, .ref a0), (1, .int x1), (2, .int x2)]) (st' := [.int x2, .ref a0]) rfl ?_
    refine (PC.callI (j := 181) (args := [.ref a0, .int x2]) (rest := []) (M := cM181) (ty := .boolean) rfl rfl rfl rfl rfl rfl (by decide) rfl rfl (by decide) ?_).weak
    refine PC.imp h (fun v2 κ2 h r2 hv => ?_)
    have h := h r2 hv
    refine PC.if1 (t := 18) rfl rfl (fun c => ?_) (fun c => ?_)
    · have h := h.1 (cmp_ne.1.mp c)
      refine PC.pr (k := 1) (pc' := 19) (lv' := [(0, .ref a0), (1, .int x1), (2, .int x2)]) (st' := [.ref a0]) rfl ?_
      refine (PC.callV (j := 168) (args := [.ref a0]) (rest := []) (M := cM168) rfl rfl rfl rfl rfl rfl (by decide) rfl rfl ?_).weak
      refine PC.imp h (fun _ κ3 h => ?_)
      refine PC.pr (k := 1) (pc' := 23) (lv' := [(0, .ref a0), (1, .int x1), (2, .int x2)]) (st' := [.ref a0]) rfl ?_
      refine PC.pr (k := 1) (pc' := 24) (lv' := [(0, .ref a0), (1, .int x1), (2, .int x2)]) (st' := [.int x1, .ref a0]) rfl ?_
      refine PC.pr (k := 1) (pc' := 25) (lv' := [(0, .ref a0), (1, .int x1), (2, .int x2)]) (st' := [.int x2, .int x1, .ref a0]) rfl ?_
      refine (PC.callI (j := 184) (args := [.ref a0, .int x1, .int x2]) (rest := []) (M := cM184) (ty := .int) rfl rfl rfl rfl rfl rfl (by decide) rfl rfl (by decide) ?_).weak
      refine PC.imp h (fun v4 κ4 h r4 hv => ?_)
      have h := h r4 hv
      exact PC.retI rfl h
    · have h := h.2 (cmp_ne.2.mp c)
      refine PC.pr (k := 1) (pc' := 17) (lv' := [(0, .ref a0), (1, .int x1), (2, .int x2)]) (st' := [.int (-1)]) rfl ?_
      exact PC.retI rfl h

/-- DoorPaintsModel.usesOf(II)I -/
theorem t_184_0 {xl : List Int32} {n : Nat} {ι : IS} {Q : Option Value → IS → Prop} {a0 : Nat} {x1 : Int32} {x2 : Int32} (h : PC xl n 169 0 [(0, .ref a0), (1, .int x2), (2, .int 0)] [] ι (fun v1 κ1 => ∀ r1, v1 = some (.int r1) → PC xl n 170 0 [(0, .ref a0), (1, .int x1), (2, .int 0)] [] κ1 (fun v2 κ2 => ∀ r2, v2 = some (.int r2) → ((¬ r2 = 2 → ((¬ r2 = 1 → Q (some (.int (1 + (r1 / 3)))) κ2) ∧ (r2 = 1 → Q (some (.int (2 * (1 + (r1 / 3))))) κ2))) ∧ (r2 = 2 → Q (some (.int 0)) κ2))))) : PC xl (n + 1) 184 0 [(0, .ref a0), (1, .int x1), (2, .int x2)] [] ι Q := by
  refine PC.pr1 (k := 0) (pc' := 1) (lv' := [(0, .ref a0), (1, .int x1), (2, .int x2)]) (st' := [.int 1]) rfl ?_
  refine PC.pr (k := 1) (pc' := 2) (lv' := [(0, .ref a0), (1, .int x1), (2, .int x2)]) (st' := [.ref a0, .int 1]) rfl ?_
  refine PC.pr (k := 1) (pc' := 3) (lv' := [(0, .ref a0), (1, .int x1), (2, .int x2)]) (st' := [.int x2, .ref a0, .int 1]) rfl ?_
  refine PC.pr (k := 1) (pc' := 4) (lv' := [(0, .ref a0), (1, .int x1), (2, .int x2)]) (st' := [.int 0, .int x2, .ref a0, .int 1]) rfl ?_
  refine (PC.callI (j := 169) (args := [.ref a0, .int x2, .int 0]) (rest := [.int 1]) (M := cM169) (ty := .int) rfl rfl rfl rfl rfl rfl (by decide) rfl rfl (by decide) ?_).weak
  refine PC.imp h (fun v1 κ1 h r1 hv => ?_)
  have h := h r1 hv
  refine PC.pr (k := 1) (pc' := 8) (lv' := [(0, .ref a0), (1, .int x1), (2, .int x2)]) (st' := [.int 3, .int r1, .int 1]) rfl ?_
  refine PC.pr (k := 1) (pc' := 9) (lv' := [(0, .ref a0), (1, .int x1), (2, .int x2)]) (st' := [.int (r1 / 3), .int 1]) rfl ?_
  refine PC.pr (k := 1) (pc' := 10) (lv' := [(0, .ref a0), (1, .int x1), (2, .int x2)]) (st' := [.int (1 + (r1 / 3))]) rfl ?_
  refine PC.pr (k := 1) (pc' := 11) (lv' := [(3, .int (1 + (r1 / 3))), (0, .ref a0), (1, .int x1), (2, .int x2)]) (st' := []) rfl ?_
  refine PC.pr (k := 1) (pc' := 12) (lv' := [(3, .int (1 + (r1 / 3))), (0, .ref a0), (1, .int x1), (2, .int x2)]) (st' := [.ref a0]) rfl ?_
  refine PC.pr (k := 1) (pc' := 13) (lv' := [(3, .int (1 + (r1 / 3))), (0, .ref a0), (1, .int x1), (2, .int x2)]) (st' := [.int x1, .ref a0]) rfl ?_
  refine PC.pr (k := 1) (pc' := 14) (lv' := [(3, .int (1 + (r1 / 3))), (0, .ref a0), (1, .int x1), (2, .int x2)]) (st' := [.int 0, .int x1, .ref a0]) rfl ?_
  refine (PC.callI (j := 170) (args := [.ref a0, .int x1, .int 0]) (rest := []) (M := cM170) (ty := .int) rfl rfl rfl rfl rfl rfl (by decide) rfl rfl (by decide) ?_).weak
  refine PC.imp h (fun v2 κ2 h r2 hv => ?_)
  have h := h r2 hv
  refine PC.pr (k := 1) (pc' := 19) (lv' := [(4, .int r2), (3, .int (1 + (r1 / 3))), (0, .ref a0), (1, .int x1), (2, .int x2)]) (st' := []) rfl ?_
  refine PC.pr (k := 1) (pc' := 21) (lv' := [(4, .int r2), (3, .int (1 + (r1 / 3))), (0, .ref a0), (1, .int x1), (2, .int x2)]) (st' := [.int r2]) rfl ?_
  refine PC.pr (k := 1) (pc' := 22) (lv' := [(4, .int r2), (3, .int (1 + (r1 / 3))), (0, .ref a0), (1, .int x1), (2, .int x2)]) (st' := [.int 2, .int r2]) rfl ?_
  refine PC.if2 (t := 29) rfl rfl (fun c => ?_) (fun c => ?_)
  · have h := h.1 (cmp_ne.1.mp c)
    refine PC.pr (k := 1) (pc' := 31) (lv' := [(4, .int r2), (3, .int (1 + (r1 / 3))), (0, .ref a0), (1, .int x1), (2, .int x2)]) (st' := [.int r2]) rfl ?_
    refine PC.pr (k := 1) (pc' := 32) (lv' := [(4, .int r2), (3, .int (1 + (r1 / 3))), (0, .ref a0), (1, .int x1), (2, .int x2)]) (st' := [.int 1, .int r2]) rfl ?_
    refine PC.if2 (t := 41) rfl rfl (fun c => ?_) (fun c => ?_)
    · have h := h.1 (cmp_ne.1.mp c)
      refine PC.pr (k := 1) (pc' := 42) (lv' := [(4, .int r2), (3, .int (1 + (r1 / 3))), (0, .ref a0), (1, .int x1), (2, .int x2)]) (st' := [.int (1 + (r1 / 3))]) rfl ?_
      exact PC.retI rfl h
    · have h := h.2 (cmp_ne.2.mp c)
      refine PC.pr (k := 1) (pc' := 36) (lv' := [(4, .int r2), (3, .int (1 + (r1 / 3))), (0, .ref a0), (1, .int x1), (2, .int x2)]) (st' := [.int 2]) rfl ?_
      refine PC.pr (k := 1) (pc' := 37) (lv' := [(4, .int r2), (3, .int (1 + (r1 / 3))), (0, .ref a0), (1, .int x1), (2, .int x2)]) (st' := [.int (1 + (r1 / 3)), .int 2]) rfl ?_
      refine PC.pr (k := 1) (pc' := 38) (lv' := [(4, .int r2), (3, .int (1 + (r1 / 3))), (0, .ref a0), (1, .int x1), (2, .int x2)]) (st' := [.int (2 * (1 + (r1 / 3)))]) rfl ?_
      refine PC.pr (k := 1) (pc' := 42) (lv' := [(4, .int r2), (3, .int (1 + (r1 / 3))), (0, .ref a0), (1, .int x1), (2, .int x2)]) (st' := [.int (2 * (1 + (r1 / 3)))]) rfl ?_
      exact PC.retI rfl h
  · have h := h.2 (cmp_ne.2.mp c)
    refine PC.pr (k := 1) (pc' := 26) (lv' := [(4, .int r2), (3, .int (1 + (r1 / 3))), (0, .ref a0), (1, .int x1), (2, .int x2)]) (st' := [.int 0]) rfl ?_
    refine PC.pr (k := 1) (pc' := 42) (lv' := [(4, .int r2), (3, .int (1 + (r1 / 3))), (0, .ref a0), (1, .int x1), (2, .int x2)]) (st' := [.int 0]) rfl ?_
    exact PC.retI rfl h

/-- DoorPaintsModel.visit(II)I -/
theorem t_185_0 {xl : List Int32} {n : Nat} {ι : IS} {Q : Option Value → IS → Prop} {a0 : Nat} {x1 : Int32} {x2 : Int32} (h : PC xl n 177 0 [(0, .ref a0), (1, .int x1)] [] ι (fun v1 κ1 => ∀ r1, v1 = some (.int r1) → ((r1 = 0 → Q (some (.int (-1))) κ1) ∧ (¬ r1 = 0 → PC xl n 181 0 [(0, .ref a0), (1, .int x2)] [] κ1 (fun v2 κ2 => ∀ r2, v2 = some (.int r2) → ((¬ r2 = 0 → PC xl n 168 0 [(0, .ref a0)] [] κ2 (fun _ κ3 => PC xl n 186 0 [(0, .ref a0), (1, .int x1), (2, .int x2)] [] κ3 (fun v4 κ4 => ∀ r4, v4 = some (.int r4) → ((r4 = 0 → PC xl n 187 0 [(0, .ref a0), (1, .int x1), (2, .int x2)] [] κ4 (fun v5 κ5 => ∀ r5, v5 = some (.int r5) → PC xl n 189 0 [(0, .ref a0)] [] κ5 (fun _ κ6 => PC xl n 173 0 [(0, .ref a0), (1, .int x2)] [] κ6 (fun v7 κ7 => ∀ r7, v7 = some (.int r7) → Q (some (.int r7)) κ7)))) ∧ (¬ r4 = 0 → Q (some (.int r4)) κ4))))) ∧ (r2 = 0 → Q (some (.int (-1))) κ2))))))) : PC xl (n + 1) 185 0 [(0, .ref a0), (1, .int x1), (2, .int x2)] [] ι Q := by
  refine PC.pr1 (k := 0) (pc' := 1) (lv' := [(0, .ref a0), (1, .int x1), (2, .int x2)]) (st' := [.ref a0]) rfl ?_
  refine PC.pr (k := 1) (pc' := 2) (lv' := [(0, .ref a0), (1, .int x1), (2, .int x2)]) (st' := [.int x1, .ref a0]) rfl ?_
  refine (PC.callI (j := 177) (args := [.ref a0, .int x1]) (rest := []) (M := cM177) (ty := .boolean) rfl rfl rfl rfl rfl rfl (by decide) rfl rfl (by decide) ?_).weak
  refine PC.imp h (fun v1 κ1 h r1 hv => ?_)
  have h := h r1 hv
  refine PC.if1 (t := 16) rfl rfl (fun c => ?_) (fun c => ?_)
  · have h := h.1 (cmp_eq.1.mp c)
    refine PC.pr (k := 1) (pc' := 17) (lv' := [(0, .ref a0), (1, .int x1), (2, .int x2)]) (st' := [.int (-1)]) rfl ?_
    exact PC.retI rfl h
  · have h := h.2 (cmp_eq.2.mp c)
    refine PC.pr (k := 1) (pc' := 9) (lv' := [(0, .ref a0), (1, .int x1), (2, .int x2)]) (st' := [.ref a0]) rfl ?_
    refine PC.pr (k := 1) (pc' := 10) (lv' := [(0, .ref a0), (1, .int x1), (2, .int x2)]) (st' := [.int x2, .ref a0]) rfl ?_
    refine (PC.callI (j := 181) (args := [.ref a0, .int x2]) (rest := []) (M := cM181) (ty := .boolean) rfl rfl rfl rfl rfl rfl (by decide) rfl rfl (by decide) ?_).weak
    refine PC.imp h (fun v2 κ2 h r2 hv => ?_)
    have h := h r2 hv
    refine PC.if1 (t := 18) rfl rfl (fun c => ?_) (fun c => ?_)
    · have h := h.1 (cmp_ne.1.mp c)
      refine PC.pr (k := 1) (pc' := 19) (lv' := [(0, .ref a0), (1, .int x1), (2, .int x2)]) (st' := [.ref a0]) rfl ?_
      refine (PC.callV (j := 168) (args := [.ref a0]) (rest := []) (M := cM168) rfl rfl rfl rfl rfl rfl (by decide) rfl rfl ?_).weak
      refine PC.imp h (fun _ κ3 h => ?_)
      refine PC.pr (k := 1) (pc' := 23) (lv' := [(0, .ref a0), (1, .int x1), (2, .int x2)]) (st' := [.ref a0]) rfl ?_
      refine PC.pr (k := 1) (pc' := 24) (lv' := [(0, .ref a0), (1, .int x1), (2, .int x2)]) (st' := [.int x1, .ref a0]) rfl ?_
      refine PC.pr (k := 1) (pc' := 25) (lv' := [(0, .ref a0), (1, .int x1), (2, .int x2)]) (st' := [.int x2, .int x1, .ref a0]) rfl ?_
      refine (PC.callI (j := 186) (args := [.ref a0, .int x1, .int x2]) (rest := []) (M := cM186) (ty := .int) rfl rfl rfl rfl rfl rfl (by decide) rfl rfl (by decide) ?_).weak
      refine PC.imp h (fun v4 κ4 h r4 hv => ?_)
      have h := h r4 hv
      refine PC.pr (k := 1) (pc' := 29) (lv' := [(3, .int r4), (0, .ref a0), (1, .int x1), (2, .int x2)]) (st' := []) rfl ?_
      refine PC.pr (k := 1) (pc' := 30) (lv' := [(3, .int r4), (0, .ref a0), (1, .int x1), (2, .int x2)]) (st' := [.int r4]) rfl ?_
      refine PC.if1 (t := 35) rfl rfl (fun c => ?_) (fun c => ?_)
      · have h := h.1 (cmp_eq.1.mp c)
        refine PC.pr (k := 1) (pc' := 36) (lv' := [(3, .int r4), (0, .ref a0), (1, .int x1), (2, .int x2)]) (st' := [.ref a0]) rfl ?_
        refine PC.pr (k := 1) (pc' := 37) (lv' := [(3, .int r4), (0, .ref a0), (1, .int x1), (2, .int x2)]) (st' := [.int x1, .ref a0]) rfl ?_
        refine PC.pr (k := 1) (pc' := 38) (lv' := [(3, .int r4), (0, .ref a0), (1, .int x1), (2, .int x2)]) (st' := [.int x2, .int x1, .ref a0]) rfl ?_
        refine (PC.callI (j := 187) (args := [.ref a0, .int x1, .int x2]) (rest := []) (M := cM187) (ty := .int) rfl rfl rfl rfl rfl rfl (by decide) rfl rfl (by decide) ?_).weak
        refine PC.imp h (fun v5 κ5 h r5 hv => ?_)
        have h := h r5 hv
        refine PC.pr (k := 1) (pc' := 42) (lv' := [(3, .int r4), (0, .ref a0), (1, .int x1), (2, .int x2)]) (st' := []) rfl ?_
        refine PC.pr (k := 1) (pc' := 43) (lv' := [(3, .int r4), (0, .ref a0), (1, .int x1), (2, .int x2)]) (st' := [.ref a0]) rfl ?_
        refine (PC.callV (j := 189) (args := [.ref a0]) (rest := []) (M := cM189) rfl rfl rfl rfl rfl rfl (by decide) rfl rfl ?_).weak
        refine PC.imp h (fun _ κ6 h => ?_)
        refine PC.pr (k := 1) (pc' := 47) (lv' := [(3, .int r4), (0, .ref a0), (1, .int x1), (2, .int x2)]) (st' := [.ref a0]) rfl ?_
        refine PC.pr (k := 1) (pc' := 48) (lv' := [(3, .int r4), (0, .ref a0), (1, .int x1), (2, .int x2)]) (st' := [.int x2, .ref a0]) rfl ?_
        refine (PC.callI (j := 173) (args := [.ref a0, .int x2]) (rest := []) (M := cM173) (ty := .int) rfl rfl rfl rfl rfl rfl (by decide) rfl rfl (by decide) ?_).weak
        refine PC.imp h (fun v7 κ7 h r7 hv => ?_)
        have h := h r7 hv
        exact PC.retI rfl h
      · have h := h.2 (cmp_eq.2.mp c)
        refine PC.pr (k := 1) (pc' := 34) (lv' := [(3, .int r4), (0, .ref a0), (1, .int x1), (2, .int x2)]) (st' := [.int r4]) rfl ?_
        exact PC.retI rfl h
    · have h := h.2 (cmp_ne.2.mp c)
      refine PC.pr (k := 1) (pc' := 17) (lv' := [(0, .ref a0), (1, .int x1), (2, .int x2)]) (st' := [.int (-1)]) rfl ?_
      exact PC.retI rfl h

/-- DoorPaintsModel.keepsOut(II)I -/
theorem t_186_0 {xl : List Int32} {n : Nat} {ι : IS} {Q : Option Value → IS → Prop} {a0 : Nat} {x1 : Int32} {x2 : Int32} (h : PC xl n 170 0 [(0, .ref a0), (1, .int x1), (2, .int 0)] [] ι (fun v1 κ1 => ∀ r1, v1 = some (.int r1) → ((r1 = 2 → PC xl n 186 34 [(0, .ref a0), (1, .int x1), (2, .int x2)] [] κ1 Q) ∧ (¬ r1 = 2 → PC xl n 169 0 [(0, .ref a0), (1, .int x2), (2, .int 0)] [] κ1 (fun v2 κ2 => ∀ r2, v2 = some (.int r2) → ((¬ r2 = 6 → PC xl n 186 34 [(0, .ref a0), (1, .int x1), (2, .int x2)] [] κ2 Q) ∧ (r2 = 6 → PC xl n 169 0 [(0, .ref a0), (1, .int x2), (2, .int 1)] [] κ2 (fun v3 κ3 => ∀ r3, v3 = some (.int r3) → ((¬ r3 = 0 → PC xl n 186 34 [(0, .ref a0), (1, .int x1), (2, .int x2)] [] κ3 Q) ∧ (r3 = 0 → PC xl n 186 35 [(0, .ref a0), (1, .int x1), (2, .int x2)] [.int 1] κ3 Q)))))))))) : PC xl (n + 1) 186 0 [(0, .ref a0), (1, .int x1), (2, .int x2)] [] ι Q := by
  refine PC.pr1 (k := 0) (pc' := 1) (lv' := [(0, .ref a0), (1, .int x1), (2, .int x2)]) (st' := [.ref a0]) rfl ?_
  refine PC.pr (k := 1) (pc' := 2) (lv' := [(0, .ref a0), (1, .int x1), (2, .int x2)]) (st' := [.int x1, .ref a0]) rfl ?_
  refine PC.pr (k := 1) (pc' := 3) (lv' := [(0, .ref a0), (1, .int x1), (2, .int x2)]) (st' := [.int 0, .int x1, .ref a0]) rfl ?_
  refine (PC.callI (j := 170) (args := [.ref a0, .int x1, .int 0]) (rest := []) (M := cM170) (ty := .int) rfl rfl rfl rfl rfl rfl (by decide) rfl rfl (by decide) ?_).weak
  refine PC.imp h (fun v1 κ1 h r1 hv => ?_)
  have h := h r1 hv
  refine PC.pr (k := 1) (pc' := 7) (lv' := [(0, .ref a0), (1, .int x1), (2, .int x2)]) (st' := [.int 2, .int r1]) rfl ?_
  refine PC.if2 (t := 34) rfl rfl (fun c => ?_) (fun c => ?_)
  · have h := h.1 (cmp_eq.1.mp c)
    exact h
  · have h := h.2 (cmp_eq.2.mp c)
    refine PC.pr (k := 1) (pc' := 11) (lv' := [(0, .ref a0), (1, .int x1), (2, .int x2)]) (st' := [.ref a0]) rfl ?_
    refine PC.pr (k := 1) (pc' := 12) (lv' := [(0, .ref a0), (1, .int x1), (2, .int x2)]) (st' := [.int x2, .ref a0]) rfl ?_
    refine PC.pr (k := 1) (pc' := 13) (lv' := [(0, .ref a0), (1, .int x1), (2, .int x2)]) (st' := [.int 0, .int x2, .ref a0]) rfl ?_
    refine (PC.callI (j := 169) (args := [.ref a0, .int x2, .int 0]) (rest := []) (M := cM169) (ty := .int) rfl rfl rfl rfl rfl rfl (by decide) rfl rfl (by decide) ?_).weak
    refine PC.imp h (fun v2 κ2 h r2 hv => ?_)
    have h := h r2 hv
    refine PC.pr (k := 1) (pc' := 18) (lv' := [(0, .ref a0), (1, .int x1), (2, .int x2)]) (st' := [.int 6, .int r2]) rfl ?_
    refine PC.if2 (t := 34) rfl rfl (fun c => ?_) (fun c => ?_)
    · have h := h.1 (cmp_ne.1.mp c)
      exact h
    · have h := h.2 (cmp_ne.2.mp c)
      refine PC.pr (k := 1) (pc' := 22) (lv' := [(0, .ref a0), (1, .int x1), (2, .int x2)]) (st' := [.ref a0]) rfl ?_
      refine PC.pr (k := 1) (pc' := 23) (lv' := [(0, .ref a0), (1, .int x1), (2, .int x2)]) (st' := [.int x2, .ref a0]) rfl ?_
      refine PC.pr (k := 1) (pc' := 24) (lv' := [(0, .ref a0), (1, .int x1), (2, .int x2)]) (st' := [.int 1, .int x2, .ref a0]) rfl ?_
      refine (PC.callI (j := 169) (args := [.ref a0, .int x2, .int 1]) (rest := []) (M := cM169) (ty := .int) rfl rfl rfl rfl rfl rfl (by decide) rfl rfl (by decide) ?_).weak
      refine PC.imp h (fun v3 κ3 h r3 hv => ?_)
      have h := h r3 hv
      refine PC.if1 (t := 34) rfl rfl (fun c => ?_) (fun c => ?_)
      · have h := h.1 (cmp_ne.1.mp c)
        exact h
      · have h := h.2 (cmp_ne.2.mp c)
        refine PC.pr (k := 1) (pc' := 31) (lv' := [(0, .ref a0), (1, .int x1), (2, .int x2)]) (st' := [.int 1]) rfl ?_
        refine PC.pr (k := 1) (pc' := 35) (lv' := [(0, .ref a0), (1, .int x1), (2, .int x2)]) (st' := [.int 1]) rfl ?_
        exact h
theorem t_186_34 {xl : List Int32} {n : Nat} {ι : IS} {Q : Option Value → IS → Prop} {a0 : Nat} {x1 : Int32} {x2 : Int32} (h : PC xl n 186 35 [(0, .ref a0), (1, .int x1), (2, .int x2)] [.int 0] ι Q) : PC xl (n + 1) 186 34 [(0, .ref a0), (1, .int x1), (2, .int x2)] [] ι Q := by
  refine PC.pr1 (k := 0) (pc' := 35) (lv' := [(0, .ref a0), (1, .int x1), (2, .int x2)]) (st' := [.int 0]) rfl ?_
  exact h
theorem t_186_35 {xl : List Int32} {n : Nat} {ι : IS} {Q : Option Value → IS → Prop} {a0 : Nat} {x1 : Int32} {x2 : Int32} {u0 : Int32} (h : PC xl n 170 0 [(0, .ref a0), (1, .int x1), (2, .int 2)] [] ι (fun v1 κ1 => ∀ r1, v1 = some (.int r1) → PC xl n 184 0 [(0, .ref a0), (1, .int x1), (2, .int x2)] [] κ1 (fun v2 κ2 => ∀ r2, v2 = some (.int r2) → ((¬ r1 < r2 → ((u0 = 0 → Q (some (.int 0)) κ2) ∧ (¬ u0 = 0 → Q (some (.int (-3))) κ2))) ∧ (r1 < r2 → Q (some (.int (-2))) κ2))))) : PC xl (n + 1) 186 35 [(0, .ref a0), (1, .int x1), (2, .int x2)] [.int u0] ι Q := by
  refine PC.pr1 (k := 0) (pc' := 36) (lv' := [(3, .int u0), (0, .ref a0), (1, .int x1), (2, .int x2)]) (st' := []) rfl ?_
  refine PC.pr (k := 1) (pc' := 37) (lv' := [(3, .int u0), (0, .ref a0), (1, .int x1), (2, .int x2)]) (st' := [.ref a0]) rfl ?_
  refine PC.pr (k := 1) (pc' := 38) (lv' := [(3, .int u0), (0, .ref a0), (1, .int x1), (2, .int x2)]) (st' := [.int x1, .ref a0]) rfl ?_
  refine PC.pr (k := 1) (pc' := 39) (lv' := [(3, .int u0), (0, .ref a0), (1, .int x1), (2, .int x2)]) (st' := [.int 2, .int x1, .ref a0]) rfl ?_
  refine (PC.callI (j := 170) (args := [.ref a0, .int x1, .int 2]) (rest := []) (M := cM170) (ty := .int) rfl rfl rfl rfl rfl rfl (by decide) rfl rfl (by decide) ?_).weak
  refine PC.imp h (fun v1 κ1 h r1 hv => ?_)
  have h := h r1 hv
  refine PC.pr (k := 1) (pc' := 43) (lv' := [(3, .int u0), (0, .ref a0), (1, .int x1), (2, .int x2)]) (st' := [.ref a0, .int r1]) rfl ?_
  refine PC.pr (k := 1) (pc' := 44) (lv' := [(3, .int u0), (0, .ref a0), (1, .int x1), (2, .int x2)]) (st' := [.int x1, .ref a0, .int r1]) rfl ?_
  refine PC.pr (k := 1) (pc' := 45) (lv' := [(3, .int u0), (0, .ref a0), (1, .int x1), (2, .int x2)]) (st' := [.int x2, .int x1, .ref a0, .int r1]) rfl ?_
  refine (PC.callI (j := 184) (args := [.ref a0, .int x1, .int x2]) (rest := [.int r1]) (M := cM184) (ty := .int) rfl rfl rfl rfl rfl rfl (by decide) rfl rfl (by decide) ?_).weak
  refine PC.imp h (fun v2 κ2 h r2 hv => ?_)
  have h := h r2 hv
  refine PC.if2 (t := 56) rfl rfl (fun c => ?_) (fun c => ?_)
  · have h := h.1 (cmp_ge.1.mp c)
    refine PC.pr (k := 1) (pc' := 57) (lv' := [(3, .int u0), (0, .ref a0), (1, .int x1), (2, .int x2)]) (st' := [.int u0]) rfl ?_
    refine PC.if1 (t := 65) rfl rfl (fun c => ?_) (fun c => ?_)
    · have h := h.1 (cmp_eq.1.mp c)
      refine PC.pr (k := 1) (pc' := 66) (lv' := [(3, .int u0), (0, .ref a0), (1, .int x1), (2, .int x2)]) (st' := [.int 0]) rfl ?_
      exact PC.retI rfl h
    · have h := h.2 (cmp_eq.2.mp c)
      refine PC.pr (k := 1) (pc' := 62) (lv' := [(3, .int u0), (0, .ref a0), (1, .int x1), (2, .int x2)]) (st' := [.int (-3)]) rfl ?_
      refine PC.pr (k := 1) (pc' := 66) (lv' := [(3, .int u0), (0, .ref a0), (1, .int x1), (2, .int x2)]) (st' := [.int (-3)]) rfl ?_
      exact PC.retI rfl h
  · have h := h.2 (cmp_ge.2.mp c)
    refine PC.pr (k := 1) (pc' := 53) (lv' := [(3, .int u0), (0, .ref a0), (1, .int x1), (2, .int x2)]) (st' := [.int (-2)]) rfl ?_
    refine PC.pr (k := 1) (pc' := 66) (lv' := [(3, .int u0), (0, .ref a0), (1, .int x1), (2, .int x2)]) (st' := [.int (-2)]) rfl ?_
    exact PC.retI rfl h

/-- DoorPaintsModel.visits(II)I -/
theorem t_187_0 {xl : List Int32} {n : Nat} {ι : IS} {Q : Option Value → IS → Prop} {a0 : Nat} {x1 : Int32} {x2 : Int32} (h : PC xl n 184 0 [(0, .ref a0), (1, .int x1), (2, .int x2)] [] ι (fun v1 κ1 => ∀ r1, v1 = some (.int r1) → PC xl n 173 0 [(0, .ref a0), (1, .int x2)] [] κ1 (fun v2 κ2 => ∀ r2, v2 = some (.int r2) → PC xl n 169 0 [(0, .ref a0), (1, .int x2), (2, .int 1)] [] κ2 (fun v3 κ3 => ∀ r3, v3 = some (.int r3) → ((¬ r3 = 1 → PC xl n 187 35 [(0, .ref a0), (1, .int x1), (2, .int x2), (3, .int r1), (4, .int r2)] [] κ3 Q) ∧ (r3 = 1 → ((r2 = (-4) → PC xl n 187 35 [(0, .ref a0), (1, .int x1), (2, .int x2), (3, .int r1), (4, .int r2)] [] κ3 Q) ∧ (¬ r2 = (-4) → PC xl n 187 36 [(0, .ref a0), (1, .int x1), (2, .int x2), (3, .int r1), (4, .int r2)] [.int 1] κ3 Q)))))))) : PC xl (n + 1) 187 0 [(0, .ref a0), (1, .int x1), (2, .int x2)] [] ι Q := by
  refine PC.pr1 (k := 0) (pc' := 1) (lv' := [(0, .ref a0), (1, .int x1), (2, .int x2)]) (st' := [.ref a0]) rfl ?_
  refine PC.pr (k := 1) (pc' := 2) (lv' := [(0, .ref a0), (1, .int x1), (2, .int x2)]) (st' := [.int x1, .ref a0]) rfl ?_
  refine PC.pr (k := 1) (pc' := 3) (lv' := [(0, .ref a0), (1, .int x1), (2, .int x2)]) (st' := [.int x2, .int x1, .ref a0]) rfl ?_
  refine (PC.callI (j := 184) (args := [.ref a0, .int x1, .int x2]) (rest := []) (M := cM184) (ty := .int) rfl rfl rfl rfl rfl rfl (by decide) rfl rfl (by decide) ?_).weak
  refine PC.imp h (fun v1 κ1 h r1 hv => ?_)
  have h := h r1 hv
  refine PC.pr (k := 1) (pc' := 7) (lv' := [(3, .int r1), (0, .ref a0), (1, .int x1), (2, .int x2)]) (st' := []) rfl ?_
  refine PC.pr (k := 1) (pc' := 8) (lv' := [(3, .int r1), (0, .ref a0), (1, .int x1), (2, .int x2)]) (st' := [.ref a0]) rfl ?_
  refine PC.pr (k := 1) (pc' := 9) (lv' := [(3, .int r1), (0, .ref a0), (1, .int x1), (2, .int x2)]) (st' := [.int x2, .ref a0]) rfl ?_
  refine (PC.callI (j := 173) (args := [.ref a0, .int x2]) (rest := []) (M := cM173) (ty := .int) rfl rfl rfl rfl rfl rfl (by decide) rfl rfl (by decide) ?_).weak
  refine PC.imp h (fun v2 κ2 h r2 hv => ?_)
  have h := h r2 hv
  refine PC.pr (k := 1) (pc' := 14) (lv' := [(4, .int r2), (3, .int r1), (0, .ref a0), (1, .int x1), (2, .int x2)]) (st' := []) rfl ?_
  refine PC.pr (k := 1) (pc' := 15) (lv' := [(4, .int r2), (3, .int r1), (0, .ref a0), (1, .int x1), (2, .int x2)]) (st' := [.ref a0]) rfl ?_
  refine PC.pr (k := 1) (pc' := 16) (lv' := [(4, .int r2), (3, .int r1), (0, .ref a0), (1, .int x1), (2, .int x2)]) (st' := [.int x2, .ref a0]) rfl ?_
  refine PC.pr (k := 1) (pc' := 17) (lv' := [(4, .int r2), (3, .int r1), (0, .ref a0), (1, .int x1), (2, .int x2)]) (st' := [.int 1, .int x2, .ref a0]) rfl ?_
  refine (PC.callI (j := 169) (args := [.ref a0, .int x2, .int 1]) (rest := []) (M := cM169) (ty := .int) rfl rfl rfl rfl rfl rfl (by decide) rfl rfl (by decide) ?_).weak
  refine PC.imp h (fun v3 κ3 h r3 hv => ?_)
  have h := h r3 hv
  refine PC.pr (k := 1) (pc' := 21) (lv' := [(4, .int r2), (3, .int r1), (0, .ref a0), (1, .int x1), (2, .int x2)]) (st' := [.int 1, .int r3]) rfl ?_
  refine PC.if2 (t := 35) rfl rfl (fun c => ?_) (fun c => ?_)
  · have h := h.1 (cmp_ne.1.mp c)
    exact PC.lv (lvE.cons rfl (lvE.cons rfl (lvE.cons rfl (lvE.cons rfl (lvE.cons rfl (lvE.nil)))))) h
  · have h := h.2 (cmp_ne.2.mp c)
    refine PC.pr (k := 1) (pc' := 26) (lv' := [(4, .int r2), (3, .int r1), (0, .ref a0), (1, .int x1), (2, .int x2)]) (st' := [.int r2]) rfl ?_
    refine PC.pr (k := 1) (pc' := 28) (lv' := [(4, .int r2), (3, .int r1), (0, .ref a0), (1, .int x1), (2, .int x2)]) (st' := [.int (-4), .int r2]) rfl ?_
    refine PC.if2 (t := 35) rfl rfl (fun c => ?_) (fun c => ?_)
    · have h := h.1 (cmp_eq.1.mp c)
      exact PC.lv (lvE.cons rfl (lvE.cons rfl (lvE.cons rfl (lvE.cons rfl (lvE.cons rfl (lvE.nil)))))) h
    · have h := h.2 (cmp_eq.2.mp c)
      refine PC.pr (k := 1) (pc' := 32) (lv' := [(4, .int r2), (3, .int r1), (0, .ref a0), (1, .int x1), (2, .int x2)]) (st' := [.int 1]) rfl ?_
      refine PC.pr (k := 1) (pc' := 36) (lv' := [(4, .int r2), (3, .int r1), (0, .ref a0), (1, .int x1), (2, .int x2)]) (st' := [.int 1]) rfl ?_
      exact PC.lv (lvE.cons rfl (lvE.cons rfl (lvE.cons rfl (lvE.cons rfl (lvE.cons rfl (lvE.nil)))))) h
theorem t_187_35 {xl : List Int32} {n : Nat} {ι : IS} {Q : Option Value → IS → Prop} {a0 : Nat} {x1 : Int32} {x2 : Int32} {x3 : Int32} {x4 : Int32} (h : PC xl n 187 36 [(0, .ref a0), (1, .int x1), (2, .int x2), (3, .int x3), (4, .int x4)] [.int 0] ι Q) : PC xl (n + 1) 187 35 [(0, .ref a0), (1, .int x1), (2, .int x2), (3, .int x3), (4, .int x4)] [] ι Q := by
  refine PC.pr1 (k := 0) (pc' := 36) (lv' := [(0, .ref a0), (1, .int x1), (2, .int x2), (3, .int x3), (4, .int x4)]) (st' := [.int 0]) rfl ?_
  exact h
theorem t_187_36 {xl : List Int32} {n : Nat} {ι : IS} {Q : Option Value → IS → Prop} {a0 : Nat} {x1 : Int32} {x2 : Int32} {x3 : Int32} {x4 : Int32} {u0 : Int32} (h : (0 ≤ ((4 * x1) + 2).toInt → ((4 * x1) + 2).toInt < ln (rf a0 1) → (0 ≤ ((4 * x1) + 2).toInt → ((4 * x1) + 2).toInt < ln (rf a0 1) → ((u0 = 0 → PC xl n 187 74 [(0, .ref a0), (1, .int x1), (2, .int x2), (3, .int x3), (4, .int x4), (5, .int u0)] [] (up ι (rf a0 1) ((4 * x1) + 2).toNatClampNeg ((ι (rf a0 1) ((4 * x1) + 2).toNatClampNeg) - x3)) Q) ∧ (¬ u0 = 0 → (0 ≤ ((4 * x1) + 3).toInt → ((4 * x1) + 3).toInt < ln (rf a0 1) → (0 ≤ ((4 * x1) + 3).toInt → ((4 * x1) + 3).toInt < ln (rf a0 1) → PC xl n 187 74 [(0, .ref a0), (1, .int x1), (2, .int x2), (3, .int x3), (4, .int x4), (5, .int u0)] [] (up (up ι (rf a0 1) ((4 * x1) + 2).toNatClampNeg ((ι (rf a0 1) ((4 * x1) + 2).toNatClampNeg) - x3)) (rf a0 1) ((4 * x1) + 3).toNatClampNeg (((up ι (rf a0 1) ((4 * x1) + 2).toNatClampNeg ((ι (rf a0 1) ((4 * x1) + 2).toNatClampNeg) - x3)) (rf a0 1) ((4 * x1) + 3).toNatClampNeg) ||| (1 <<< (x4 &&& 31)))) Q))))))) : PC xl (n + 1) 187 36 [(0, .ref a0), (1, .int x1), (2, .int x2), (3, .int x3), (4, .int x4)] [.int u0] ι Q := by
  refine PC.pr1 (k := 0) (pc' := 38) (lv' := [(5, .int u0), (0, .ref a0), (1, .int x1), (2, .int x2), (3, .int x3), (4, .int x4)]) (st' := []) rfl ?_
  refine PC.pr (k := 1) (pc' := 39) (lv' := [(5, .int u0), (0, .ref a0), (1, .int x1), (2, .int x2), (3, .int x3), (4, .int x4)]) (st' := [.ref a0]) rfl ?_
  refine PC.gR (ci := 9) (j := 1) rfl rfl (by decide) ?_
  refine PC.pr (k := 1) (pc' := 43) (lv' := [(5, .int u0), (0, .ref a0), (1, .int x1), (2, .int x2), (3, .int x3), (4, .int x4)]) (st' := [.int 4, .ref (rf a0 1)]) rfl ?_
  refine PC.pr (k := 1) (pc' := 44) (lv' := [(5, .int u0), (0, .ref a0), (1, .int x1), (2, .int x2), (3, .int x3), (4, .int x4)]) (st' := [.int x1, .int 4, .ref (rf a0 1)]) rfl ?_
  refine PC.pr (k := 1) (pc' := 45) (lv' := [(5, .int u0), (0, .ref a0), (1, .int x1), (2, .int x2), (3, .int x3), (4, .int x4)]) (st' := [.int (4 * x1), .ref (rf a0 1)]) rfl ?_
  refine PC.pr (k := 1) (pc' := 46) (lv' := [(5, .int u0), (0, .ref a0), (1, .int x1), (2, .int x2), (3, .int x3), (4, .int x4)]) (st' := [.int 2, .int (4 * x1), .ref (rf a0 1)]) rfl ?_
  refine PC.pr (k := 1) (pc' := 47) (lv' := [(5, .int u0), (0, .ref a0), (1, .int x1), (2, .int x2), (3, .int x3), (4, .int x4)]) (st' := [.int ((4 * x1) + 2), .ref (rf a0 1)]) rfl ?_
  refine PC.pr (k := 1) (pc' := 48) (lv' := [(5, .int u0), (0, .ref a0), (1, .int x1), (2, .int x2), (3, .int x3), (4, .int x4)]) (st' := [.int ((4 * x1) + 2), .ref (rf a0 1), .int ((4 * x1) + 2), .ref (rf a0 1)]) rfl ?_
  refine PC.rd rfl (rf_lt _ _) (fun c1 c2 => ?_)
  have h := h c1 c2
  refine PC.pr (k := 1) (pc' := 50) (lv' := [(5, .int u0), (0, .ref a0), (1, .int x1), (2, .int x2), (3, .int x3), (4, .int x4)]) (st' := [.int x3, .int (ι (rf a0 1) ((4 * x1) + 2).toNatClampNeg), .int ((4 * x1) + 2), .ref (rf a0 1)]) rfl ?_
  refine PC.pr (k := 1) (pc' := 51) (lv' := [(5, .int u0), (0, .ref a0), (1, .int x1), (2, .int x2), (3, .int x3), (4, .int x4)]) (st' := [.int ((ι (rf a0 1) ((4 * x1) + 2).toNatClampNeg) - x3), .int ((4 * x1) + 2), .ref (rf a0 1)]) rfl ?_
  refine PC.wI rfl (fun c1 c2 => ?_)
  have h := h c1 c2
  refine PC.pr (k := 1) (pc' := 54) (lv' := [(5, .int u0), (0, .ref a0), (1, .int x1), (2, .int x2), (3, .int x3), (4, .int x4)]) (st' := [.int u0]) rfl ?_
  refine PC.if1 (t := 74) rfl rfl (fun c => ?_) (fun c => ?_)
  · have h := h.1 (cmp_eq.1.mp c)
    exact PC.lv (lvE.cons rfl (lvE.cons rfl (lvE.cons rfl (lvE.cons rfl (lvE.cons rfl (lvE.cons rfl (lvE.nil))))))) h
  · have h := h.2 (cmp_eq.2.mp c)
    refine PC.pr (k := 1) (pc' := 58) (lv' := [(5, .int u0), (0, .ref a0), (1, .int x1), (2, .int x2), (3, .int x3), (4, .int x4)]) (st' := [.ref a0]) rfl ?_
    refine PC.gR (ci := 9) (j := 1) rfl rfl (by decide) ?_
    refine PC.pr (k := 1) (pc' := 62) (lv' := [(5, .int u0), (0, .ref a0), (1, .int x1), (2, .int x2), (3, .int x3), (4, .int x4)]) (st' := [.int 4, .ref (rf a0 1)]) rfl ?_
    refine PC.pr (k := 1) (pc' := 63) (lv' := [(5, .int u0), (0, .ref a0), (1, .int x1), (2, .int x2), (3, .int x3), (4, .int x4)]) (st' := [.int x1, .int 4, .ref (rf a0 1)]) rfl ?_
    refine PC.pr (k := 1) (pc' := 64) (lv' := [(5, .int u0), (0, .ref a0), (1, .int x1), (2, .int x2), (3, .int x3), (4, .int x4)]) (st' := [.int (4 * x1), .ref (rf a0 1)]) rfl ?_
    refine PC.pr (k := 1) (pc' := 65) (lv' := [(5, .int u0), (0, .ref a0), (1, .int x1), (2, .int x2), (3, .int x3), (4, .int x4)]) (st' := [.int 3, .int (4 * x1), .ref (rf a0 1)]) rfl ?_
    refine PC.pr (k := 1) (pc' := 66) (lv' := [(5, .int u0), (0, .ref a0), (1, .int x1), (2, .int x2), (3, .int x3), (4, .int x4)]) (st' := [.int ((4 * x1) + 3), .ref (rf a0 1)]) rfl ?_
    refine PC.pr (k := 1) (pc' := 67) (lv' := [(5, .int u0), (0, .ref a0), (1, .int x1), (2, .int x2), (3, .int x3), (4, .int x4)]) (st' := [.int ((4 * x1) + 3), .ref (rf a0 1), .int ((4 * x1) + 3), .ref (rf a0 1)]) rfl ?_
    refine PC.rd rfl (rf_lt _ _) (fun c1 c2 => ?_)
    have h := h c1 c2
    refine PC.pr (k := 1) (pc' := 69) (lv' := [(5, .int u0), (0, .ref a0), (1, .int x1), (2, .int x2), (3, .int x3), (4, .int x4)]) (st' := [.int 1, .int ((up ι (rf a0 1) ((4 * x1) + 2).toNatClampNeg ((ι (rf a0 1) ((4 * x1) + 2).toNatClampNeg) - x3)) (rf a0 1) ((4 * x1) + 3).toNatClampNeg), .int ((4 * x1) + 3), .ref (rf a0 1)]) rfl ?_
    refine PC.pr (k := 1) (pc' := 71) (lv' := [(5, .int u0), (0, .ref a0), (1, .int x1), (2, .int x2), (3, .int x3), (4, .int x4)]) (st' := [.int x4, .int 1, .int ((up ι (rf a0 1) ((4 * x1) + 2).toNatClampNeg ((ι (rf a0 1) ((4 * x1) + 2).toNatClampNeg) - x3)) (rf a0 1) ((4 * x1) + 3).toNatClampNeg), .int ((4 * x1) + 3), .ref (rf a0 1)]) rfl ?_
    refine PC.pr (k := 1) (pc' := 72) (lv' := [(5, .int u0), (0, .ref a0), (1, .int x1), (2, .int x2), (3, .int x3), (4, .int x4)]) (st' := [.int (1 <<< (x4 &&& 31)), .int ((up ι (rf a0 1) ((4 * x1) + 2).toNatClampNeg ((ι (rf a0 1) ((4 * x1) + 2).toNatClampNeg) - x3)) (rf a0 1) ((4 * x1) + 3).toNatClampNeg), .int ((4 * x1) + 3), .ref (rf a0 1)]) rfl ?_
    refine PC.pr (k := 1) (pc' := 73) (lv' := [(5, .int u0), (0, .ref a0), (1, .int x1), (2, .int x2), (3, .int x3), (4, .int x4)]) (st' := [.int (((up ι (rf a0 1) ((4 * x1) + 2).toNatClampNeg ((ι (rf a0 1) ((4 * x1) + 2).toNatClampNeg) - x3)) (rf a0 1) ((4 * x1) + 3).toNatClampNeg) ||| (1 <<< (x4 &&& 31))), .int ((4 * x1) + 3), .ref (rf a0 1)]) rfl ?_
    refine PC.wI rfl (fun c1 c2 => ?_)
    have h := h c1 c2
    exact PC.lv (lvE.cons rfl (lvE.cons rfl (lvE.cons rfl (lvE.cons rfl (lvE.cons rfl (lvE.cons rfl (lvE.nil))))))) h
theorem t_187_74 {xl : List Int32} {n : Nat} {ι : IS} {Q : Option Value → IS → Prop} {a0 : Nat} {x1 : Int32} {x2 : Int32} {x3 : Int32} {x4 : Int32} {x5 : Int32} (h : PC xl n 170 0 [(0, .ref a0), (1, .int x1), (2, .int 0)] [] ι (fun v1 κ1 => ∀ r1, v1 = some (.int r1) → ((r1 = 2 → Q (some (.int x3)) κ1) ∧ (¬ r1 = 2 → PC xl n 169 0 [(0, .ref a0), (1, .int x2), (2, .int 0)] [] κ1 (fun v2 κ2 => ∀ r2, v2 = some (.int r2) → ((x5 = 0 → PC xl n 187 109 [(0, .ref a0), (1, .int x1), (2, .int x2), (3, .int x3), (4, .int x4), (5, .int x5), (6, .int r2)] [.int r2, .int 3, .int x2, .ref a0] κ2 Q) ∧ (¬ x5 = 0 → PC xl n 187 109 [(0, .ref a0), (1, .int x1), (2, .int x2), (3, .int x3), (4, .int x4), (5, .int x5), (6, .int r2)] [.int (r2 - 1), .int 3, .int x2, .ref a0] κ2 Q))))))) : PC xl (n + 1) 187 74 [(0, .ref a0), (1, .int x1), (2, .int x2), (3, .int x3), (4, .int x4), (5, .int x5)] [] ι Q := by
  refine PC.pr1 (k := 0) (pc' := 75) (lv' := [(0, .ref a0), (1, .int x1), (2, .int x2), (3, .int x3), (4, .int x4), (5, .int x5)]) (st' := [.ref a0]) rfl ?_
  refine PC.pr (k := 1) (pc' := 76) (lv' := [(0, .ref a0), (1, .int x1), (2, .int x2), (3, .int x3), (4, .int x4), (5, .int x5)]) (st' := [.int x1, .ref a0]) rfl ?_
  refine PC.pr (k := 1) (pc' := 77) (lv' := [(0, .ref a0), (1, .int x1), (2, .int x2), (3, .int x3), (4, .int x4), (5, .int x5)]) (st' := [.int 0, .int x1, .ref a0]) rfl ?_
  refine (PC.callI (j := 170) (args := [.ref a0, .int x1, .int 0]) (rest := []) (M := cM170) (ty := .int) rfl rfl rfl rfl rfl rfl (by decide) rfl rfl (by decide) ?_).weak
  refine PC.imp h (fun v1 κ1 h r1 hv => ?_)
  have h := h r1 hv
  refine PC.pr (k := 1) (pc' := 81) (lv' := [(0, .ref a0), (1, .int x1), (2, .int x2), (3, .int x3), (4, .int x4), (5, .int x5)]) (st' := [.int 2, .int r1]) rfl ?_
  refine PC.if2 (t := 164) rfl rfl (fun c => ?_) (fun c => ?_)
  · have h := h.1 (cmp_eq.1.mp c)
    refine PC.pr (k := 1) (pc' := 165) (lv' := [(0, .ref a0), (1, .int x1), (2, .int x2), (3, .int x3), (4, .int x4), (5, .int x5)]) (st' := [.int x3]) rfl ?_
    exact PC.retI rfl h
  · have h := h.2 (cmp_eq.2.mp c)
    refine PC.pr (k := 1) (pc' := 85) (lv' := [(0, .ref a0), (1, .int x1), (2, .int x2), (3, .int x3), (4, .int x4), (5, .int x5)]) (st' := [.ref a0]) rfl ?_
    refine PC.pr (k := 1) (pc' := 86) (lv' := [(0, .ref a0), (1, .int x1), (2, .int x2), (3, .int x3), (4, .int x4), (5, .int x5)]) (st' := [.int x2, .ref a0]) rfl ?_
    refine PC.pr (k := 1) (pc' := 87) (lv' := [(0, .ref a0), (1, .int x1), (2, .int x2), (3, .int x3), (4, .int x4), (5, .int x5)]) (st' := [.int 0, .int x2, .ref a0]) rfl ?_
    refine (PC.callI (j := 169) (args := [.ref a0, .int x2, .int 0]) (rest := []) (M := cM169) (ty := .int) rfl rfl rfl rfl rfl rfl (by decide) rfl rfl (by decide) ?_).weak
    refine PC.imp h (fun v2 κ2 h r2 hv => ?_)
    have h := h r2 hv
    refine PC.pr (k := 1) (pc' := 92) (lv' := [(6, .int r2), (0, .ref a0), (1, .int x1), (2, .int x2), (3, .int x3), (4, .int x4), (5, .int x5)]) (st' := []) rfl ?_
    refine PC.pr (k := 1) (pc' := 93) (lv' := [(6, .int r2), (0, .ref a0), (1, .int x1), (2, .int x2), (3, .int x3), (4, .int x4), (5, .int x5)]) (st' := [.ref a0]) rfl ?_
    refine PC.pr (k := 1) (pc' := 94) (lv' := [(6, .int r2), (0, .ref a0), (1, .int x1), (2, .int x2), (3, .int x3), (4, .int x4), (5, .int x5)]) (st' := [.int x2, .ref a0]) rfl ?_
    refine PC.pr (k := 1) (pc' := 95) (lv' := [(6, .int r2), (0, .ref a0), (1, .int x1), (2, .int x2), (3, .int x3), (4, .int x4), (5, .int x5)]) (st' := [.int 3, .int x2, .ref a0]) rfl ?_
    refine PC.pr (k := 1) (pc' := 97) (lv' := [(6, .int r2), (0, .ref a0), (1, .int x1), (2, .int x2), (3, .int x3), (4, .int x4), (5, .int x5)]) (st' := [.int x5, .int 3, .int x2, .ref a0]) rfl ?_
    refine PC.if1 (t := 107) rfl rfl (fun c => ?_) (fun c => ?_)
    · have h := h.1 (cmp_eq.1.mp c)
      refine PC.pr (k := 1) (pc' := 109) (lv' := [(6, .int r2), (0, .ref a0), (1, .int x1), (2, .int x2), (3, .int x3), (4, .int x4), (5, .int x5)]) (st' := [.int r2, .int 3, .int x2, .ref a0]) rfl ?_
      exact PC.lv (lvE.cons rfl (lvE.cons rfl (lvE.cons rfl (lvE.cons rfl (lvE.cons rfl (lvE.cons rfl (lvE.cons rfl (lvE.nil)))))))) h
    · have h := h.2 (cmp_eq.2.mp c)
      refine PC.pr (k := 1) (pc' := 102) (lv' := [(6, .int r2), (0, .ref a0), (1, .int x1), (2, .int x2), (3, .int x3), (4, .int x4), (5, .int x5)]) (st' := [.int r2, .int 3, .int x2, .ref a0]) rfl ?_
      refine PC.pr (k := 1) (pc' := 103) (lv' := [(6, .int r2), (0, .ref a0), (1, .int x1), (2, .int x2), (3, .int x3), (4, .int x4), (5, .int x5)]) (st' := [.int 1, .int r2, .int 3, .int x2, .ref a0]) rfl ?_
      refine PC.pr (k := 1) (pc' := 104) (lv' := [(6, .int r2), (0, .ref a0), (1, .int x1), (2, .int x2), (3, .int x3), (4, .int x4), (5, .int x5)]) (st' := [.int (r2 - 1), .int 3, .int x2, .ref a0]) rfl ?_
      refine PC.pr (k := 1) (pc' := 109) (lv' := [(6, .int r2), (0, .ref a0), (1, .int x1), (2, .int x2), (3, .int x3), (4, .int x4), (5, .int x5)]) (st' := [.int (r2 - 1), .int 3, .int x2, .ref a0]) rfl ?_
      exact PC.lv (lvE.cons rfl (lvE.cons rfl (lvE.cons rfl (lvE.cons rfl (lvE.cons rfl (lvE.cons rfl (lvE.cons rfl (lvE.nil)))))))) h
theorem t_187_109 {xl : List Int32} {n : Nat} {ι : IS} {Q : Option Value → IS → Prop} {a0 : Nat} {x1 : Int32} {x2 : Int32} {x3 : Int32} {x4 : Int32} {x5 : Int32} {x6 : Int32} {u0 : Int32} {u1 : Int32} {u2 : Int32} {u3 : Nat} (h : ((x5 = 0 → PC xl n 178 0 [(0, .ref a0), (1, .int x1)] [] ι (fun v1 κ1 => ∀ r1, v1 = some (.int r1) → PC xl n 188 0 [(0, .ref u3), (1, .int u2), (2, .int (u1 + u0)), (3, .int r1)] [] κ1 (fun _ κ2 => ((x5 = 0 → PC xl n 188 0 [(0, .ref a0), (1, .int x2), (2, .int 0), (3, .int (x6 + 1))] [] κ2 (fun _ κ3 => PC xl n 188 0 [(0, .ref a0), (1, .int x2), (2, .int 1), (3, .int 1)] [] κ3 (fun _ κ4 => Q (some (.int x3)) κ4))) ∧ (¬ x5 = 0 → PC xl n 188 0 [(0, .ref a0), (1, .int x2), (2, .int 0), (3, .int x6)] [] κ2 (fun _ κ5 => PC xl n 188 0 [(0, .ref a0), (1, .int x2), (2, .int 1), (3, .int 1)] [] κ5 (fun _ κ6 => Q (some (.int x3)) κ6))))))) ∧ (¬ x5 = 0 → PC xl n 178 0 [(0, .ref a0), (1, .int x1)] [] ι (fun v7 κ7 => ∀ r7, v7 = some (.int r7) → PC xl n 188 0 [(0, .ref u3), (1, .int u2), (2, .int (u1 + u0)), (3, .int ((x4 + r7) - (x4 + r7) / 6 * 6))] [] κ7 (fun _ κ8 => ((x5 = 0 → PC xl n 188 0 [(0, .ref a0), (1, .int x2), (2, .int 0), (3, .int (x6 + 1))] [] κ8 (fun _ κ9 => PC xl n 188 0 [(0, .ref a0), (1, .int x2), (2, .int 1), (3, .int 1)] [] κ9 (fun _ κ10 => Q (some (.int x3)) κ10))) ∧ (¬ x5 = 0 → PC xl n 188 0 [(0, .ref a0), (1, .int x2), (2, .int 0), (3, .int x6)] [] κ8 (fun _ κ11 => PC xl n 188 0 [(0, .ref a0), (1, .int x2), (2, .int 1), (3, .int 1)] [] κ11 (fun _ κ12 => Q (some (.int x3)) κ12))))))))) : PC xl (n + 1) 187 109 [(0, .ref a0), (1, .int x1), (2, .int x2), (3, .int x3), (4, .int x4), (5, .int x5), (6, .int x6)] [.int u0, .int u1, .int u2, .ref u3] ι Q := by
  refine PC.pr1 (k := 0) (pc' := 110) (lv' := [(0, .ref a0), (1, .int x1), (2, .int x2), (3, .int x3), (4, .int x4), (5, .int x5), (6, .int x6)]) (st' := [.int (u1 + u0), .int u2, .ref u3]) rfl ?_
  refine PC.pr (k := 1) (pc' := 112) (lv' := [(0, .ref a0), (1, .int x1), (2, .int x2), (3, .int x3), (4, .int x4), (5, .int x5), (6, .int x6)]) (st' := [.int x5, .int (u1 + u0), .int u2, .ref u3]) rfl ?_
  refine PC.if1 (t := 129) rfl rfl (fun c => ?_) (fun c => ?_)
  · have h := h.1 (cmp_eq.1.mp c)
    refine PC.pr (k := 1) (pc' := 130) (lv' := [(0, .ref a0), (1, .int x1), (2, .int x2), (3, .int x3), (4, .int x4), (5, .int x5), (6, .int x6)]) (st' := [.ref a0, .int (u1 + u0), .int u2, .ref u3]) rfl ?_
    refine PC.pr (k := 1) (pc' := 131) (lv' := [(0, .ref a0), (1, .int x1), (2, .int x2), (3, .int x3), (4, .int x4), (5, .int x5), (6, .int x6)]) (st' := [.int x1, .ref a0, .int (u1 + u0), .int u2, .ref u3]) rfl ?_
    refine (PC.callI (j := 178) (args := [.ref a0, .int x1]) (rest := [.int (u1 + u0), .int u2, .ref u3]) (M := cM178) (ty := .int) rfl rfl rfl rfl rfl rfl (by decide) rfl rfl (by decide) ?_).weak
    refine PC.imp h (fun v1 κ1 h r1 hv => ?_)
    have h := h r1 hv
    refine (PC.callV (j := 188) (args := [.ref u3, .int u2, .int (u1 + u0), .int r1]) (rest := []) (M := cM188) rfl rfl rfl rfl rfl rfl (by decide) rfl rfl ?_).weak
    refine PC.imp h (fun _ κ2 h => ?_)
    refine PC.pr (k := 1) (pc' := 138) (lv' := [(0, .ref a0), (1, .int x1), (2, .int x2), (3, .int x3), (4, .int x4), (5, .int x5), (6, .int x6)]) (st' := [.ref a0]) rfl ?_
    refine PC.pr (k := 1) (pc' := 139) (lv' := [(0, .ref a0), (1, .int x1), (2, .int x2), (3, .int x3), (4, .int x4), (5, .int x5), (6, .int x6)]) (st' := [.int x2, .ref a0]) rfl ?_
    refine PC.pr (k := 1) (pc' := 140) (lv' := [(0, .ref a0), (1, .int x1), (2, .int x2), (3, .int x3), (4, .int x4), (5, .int x5), (6, .int x6)]) (st' := [.int 0, .int x2, .ref a0]) rfl ?_
    refine PC.pr (k := 1) (pc' := 142) (lv' := [(0, .ref a0), (1, .int x1), (2, .int x2), (3, .int x3), (4, .int x4), (5, .int x5), (6, .int x6)]) (st' := [.int x5, .int 0, .int x2, .ref a0]) rfl ?_
    refine PC.if1 (t := 150) rfl rfl (fun c => ?_) (fun c => ?_)
    · have h := h.1 (cmp_eq.1.mp c)
      refine PC.pr (k := 1) (pc' := 152) (lv' := [(0, .ref a0), (1, .int x1), (2, .int x2), (3, .int x3), (4, .int x4), (5, .int x5), (6, .int x6)]) (st' := [.int x6, .int 0, .int x2, .ref a0]) rfl ?_
      refine PC.pr (k := 1) (pc' := 153) (lv' := [(0, .ref a0), (1, .int x1), (2, .int x2), (3, .int x3), (4, .int x4), (5, .int x5), (6, .int x6)]) (st' := [.int 1, .int x6, .int 0, .int x2, .ref a0]) rfl ?_
      refine PC.pr (k := 1) (pc' := 154) (lv' := [(0, .ref a0), (1, .int x1), (2, .int x2), (3, .int x3), (4, .int x4), (5, .int x5), (6, .int x6)]) (st' := [.int (x6 + 1), .int 0, .int x2, .ref a0]) rfl ?_
      refine (PC.callV (j := 188) (args := [.ref a0, .int x2, .int 0, .int (x6 + 1)]) (rest := []) (M := cM188) rfl rfl rfl rfl rfl rfl (by decide) rfl rfl ?_).weak
      refine PC.imp h (fun _ κ3 h => ?_)
      refine PC.pr (k := 1) (pc' := 158) (lv' := [(0, .ref a0), (1, .int x1), (2, .int x2), (3, .int x3), (4, .int x4), (5, .int x5), (6, .int x6)]) (st' := [.ref a0]) rfl ?_
      refine PC.pr (k := 1) (pc' := 159) (lv' := [(0, .ref a0), (1, .int x1), (2, .int x2), (3, .int x3), (4, .int x4), (5, .int x5), (6, .int x6)]) (st' := [.int x2, .ref a0]) rfl ?_
      refine PC.pr (k := 1) (pc' := 160) (lv' := [(0, .ref a0), (1, .int x1), (2, .int x2), (3, .int x3), (4, .int x4), (5, .int x5), (6, .int x6)]) (st' := [.int 1, .int x2, .ref a0]) rfl ?_
      refine PC.pr (k := 1) (pc' := 161) (lv' := [(0, .ref a0), (1, .int x1), (2, .int x2), (3, .int x3), (4, .int x4), (5, .int x5), (6, .int x6)]) (st' := [.int 1, .int 1, .int x2, .ref a0]) rfl ?_
      refine (PC.callV (j := 188) (args := [.ref a0, .int x2, .int 1, .int 1]) (rest := []) (M := cM188) rfl rfl rfl rfl rfl rfl (by decide) rfl rfl ?_).weak
      refine PC.imp h (fun _ κ4 h => ?_)
      refine PC.pr (k := 1) (pc' := 165) (lv' := [(0, .ref a0), (1, .int x1), (2, .int x2), (3, .int x3), (4, .int x4), (5, .int x5), (6, .int x6)]) (st' := [.int x3]) rfl ?_
      exact PC.retI rfl h
    · have h := h.2 (cmp_eq.2.mp c)
      refine PC.pr (k := 1) (pc' := 147) (lv' := [(0, .ref a0), (1, .int x1), (2, .int x2), (3, .int x3), (4, .int x4), (5, .int x5), (6, .int x6)]) (st' := [.int x6, .int 0, .int x2, .ref a0]) rfl ?_
      refine PC.pr (k := 1) (pc' := 154) (lv' := [(0, .ref a0), (1, .int x1), (2, .int x2), (3, .int x3), (4, .int x4), (5, .int x5), (6, .int x6)]) (st' := [.int x6, .int 0, .int x2, .ref a0]) rfl ?_
      refine (PC.callV (j := 188) (args := [.ref a0, .int x2, .int 0, .int x6]) (rest := []) (M := cM188) rfl rfl rfl rfl rfl rfl (by decide) rfl rfl ?_).weak
      refine PC.imp h (fun _ κ5 h => ?_)
      refine PC.pr (k := 1) (pc' := 158) (lv' := [(0, .ref a0), (1, .int x1), (2, .int x2), (3, .int x3), (4, .int x4), (5, .int x5), (6, .int x6)]) (st' := [.ref a0]) rfl ?_
      refine PC.pr (k := 1) (pc' := 159) (lv' := [(0, .ref a0), (1, .int x1), (2, .int x2), (3, .int x3), (4, .int x4), (5, .int x5), (6, .int x6)]) (st' := [.int x2, .ref a0]) rfl ?_
      refine PC.pr (k := 1) (pc' := 160) (lv' := [(0, .ref a0), (1, .int x1), (2, .int x2), (3, .int x3), (4, .int x4), (5, .int x5), (6, .int x6)]) (st' := [.int 1, .int x2, .ref a0]) rfl ?_
      refine PC.pr (k := 1) (pc' := 161) (lv' := [(0, .ref a0), (1, .int x1), (2, .int x2), (3, .int x3), (4, .int x4), (5, .int x5), (6, .int x6)]) (st' := [.int 1, .int 1, .int x2, .ref a0]) rfl ?_
      refine (PC.callV (j := 188) (args := [.ref a0, .int x2, .int 1, .int 1]) (rest := []) (M := cM188) rfl rfl rfl rfl rfl rfl (by decide) rfl rfl ?_).weak
      refine PC.imp h (fun _ κ6 h => ?_)
      refine PC.pr (k := 1) (pc' := 165) (lv' := [(0, .ref a0), (1, .int x1), (2, .int x2), (3, .int x3), (4, .int x4), (5, .int x5), (6, .int x6)]) (st' := [.int x3]) rfl ?_
      exact PC.retI rfl h
  · have h := h.2 (cmp_eq.2.mp c)
    refine PC.pr (k := 1) (pc' := 117) (lv' := [(0, .ref a0), (1, .int x1), (2, .int x2), (3, .int x3), (4, .int x4), (5, .int x5), (6, .int x6)]) (st' := [.int x4, .int (u1 + u0), .int u2, .ref u3]) rfl ?_
    refine PC.pr (k := 1) (pc' := 118) (lv' := [(0, .ref a0), (1, .int x1), (2, .int x2), (3, .int x3), (4, .int x4), (5, .int x5), (6, .int x6)]) (st' := [.ref a0, .int x4, .int (u1 + u0), .int u2, .ref u3]) rfl ?_
    refine PC.pr (k := 1) (pc' := 119) (lv' := [(0, .ref a0), (1, .int x1), (2, .int x2), (3, .int x3), (4, .int x4), (5, .int x5), (6, .int x6)]) (st' := [.int x1, .ref a0, .int x4, .int (u1 + u0), .int u2, .ref u3]) rfl ?_
    refine (PC.callI (j := 178) (args := [.ref a0, .int x1]) (rest := [.int x4, .int (u1 + u0), .int u2, .ref u3]) (M := cM178) (ty := .int) rfl rfl rfl rfl rfl rfl (by decide) rfl rfl (by decide) ?_).weak
    refine PC.imp h (fun v7 κ7 h r7 hv => ?_)
    have h := h r7 hv
    refine PC.pr (k := 1) (pc' := 123) (lv' := [(0, .ref a0), (1, .int x1), (2, .int x2), (3, .int x3), (4, .int x4), (5, .int x5), (6, .int x6)]) (st' := [.int (x4 + r7), .int (u1 + u0), .int u2, .ref u3]) rfl ?_
    refine PC.pr (k := 1) (pc' := 125) (lv' := [(0, .ref a0), (1, .int x1), (2, .int x2), (3, .int x3), (4, .int x4), (5, .int x5), (6, .int x6)]) (st' := [.int 6, .int (x4 + r7), .int (u1 + u0), .int u2, .ref u3]) rfl ?_
    refine PC.pr (k := 1) (pc' := 126) (lv' := [(0, .ref a0), (1, .int x1), (2, .int x2), (3, .int x3), (4, .int x4), (5, .int x5), (6, .int x6)]) (st' := [.int ((x4 + r7) - (x4 + r7) / 6 * 6), .int (u1 + u0), .int u2, .ref u3]) rfl ?_
    refine PC.pr (k := 1) (pc' := 134) (lv' := [(0, .ref a0), (1, .int x1), (2, .int x2), (3, .int x3), (4, .int x4), (5, .int x5), (6, .int x6)]) (st' := [.int ((x4 + r7) - (x4 + r7) / 6 * 6), .int (u1 + u0), .int u2, .ref u3]) rfl ?_
    refine (PC.callV (j := 188) (args := [.ref u3, .int u2, .int (u1 + u0), .int ((x4 + r7) - (x4 + r7) / 6 * 6)]) (rest := []) (M := cM188) rfl rfl rfl rfl rfl rfl (by decide) rfl rfl ?_).weak
    refine PC.imp h (fun _ κ8 h => ?_)
    refine PC.pr (k := 1) (pc' := 138) (lv' := [(0, .ref a0), (1, .int x1), (2, .int x2), (3, .int x3), (4, .int x4), (5, .int x5), (6, .int x6)]) (st' := [.ref a0]) rfl ?_
    refine PC.pr (k := 1) (pc' := 139) (lv' := [(0, .ref a0), (1, .int x1), (2, .int x2), (3, .int x3), (4, .int x4), (5, .int x5), (6, .int x6)]) (st' := [.int x2, .ref a0]) rfl ?_
    refine PC.pr (k := 1) (pc' := 140) (lv' := [(0, .ref a0), (1, .int x1), (2, .int x2), (3, .int x3), (4, .int x4), (5, .int x5), (6, .int x6)]) (st' := [.int 0, .int x2, .ref a0]) rfl ?_
    refine PC.pr (k := 1) (pc' := 142) (lv' := [(0, .ref a0), (1, .int x1), (2, .int x2), (3, .int x3), (4, .int x4), (5, .int x5), (6, .int x6)]) (st' := [.int x5, .int 0, .int x2, .ref a0]) rfl ?_
    refine PC.if1 (t := 150) rfl rfl (fun c => ?_) (fun c => ?_)
    · have h := h.1 (cmp_eq.1.mp c)
      refine PC.pr (k := 1) (pc' := 152) (lv' := [(0, .ref a0), (1, .int x1), (2, .int x2), (3, .int x3), (4, .int x4), (5, .int x5), (6, .int x6)]) (st' := [.int x6, .int 0, .int x2, .ref a0]) rfl ?_
      refine PC.pr (k := 1) (pc' := 153) (lv' := [(0, .ref a0), (1, .int x1), (2, .int x2), (3, .int x3), (4, .int x4), (5, .int x5), (6, .int x6)]) (st' := [.int 1, .int x6, .int 0, .int x2, .ref a0]) rfl ?_
      refine PC.pr (k := 1) (pc' := 154) (lv' := [(0, .ref a0), (1, .int x1), (2, .int x2), (3, .int x3), (4, .int x4), (5, .int x5), (6, .int x6)]) (st' := [.int (x6 + 1), .int 0, .int x2, .ref a0]) rfl ?_
      refine (PC.callV (j := 188) (args := [.ref a0, .int x2, .int 0, .int (x6 + 1)]) (rest := []) (M := cM188) rfl rfl rfl rfl rfl rfl (by decide) rfl rfl ?_).weak
      refine PC.imp h (fun _ κ9 h => ?_)
      refine PC.pr (k := 1) (pc' := 158) (lv' := [(0, .ref a0), (1, .int x1), (2, .int x2), (3, .int x3), (4, .int x4), (5, .int x5), (6, .int x6)]) (st' := [.ref a0]) rfl ?_
      refine PC.pr (k := 1) (pc' := 159) (lv' := [(0, .ref a0), (1, .int x1), (2, .int x2), (3, .int x3), (4, .int x4), (5, .int x5), (6, .int x6)]) (st' := [.int x2, .ref a0]) rfl ?_
      refine PC.pr (k := 1) (pc' := 160) (lv' := [(0, .ref a0), (1, .int x1), (2, .int x2), (3, .int x3), (4, .int x4), (5, .int x5), (6, .int x6)]) (st' := [.int 1, .int x2, .ref a0]) rfl ?_
      refine PC.pr (k := 1) (pc' := 161) (lv' := [(0, .ref a0), (1, .int x1), (2, .int x2), (3, .int x3), (4, .int x4), (5, .int x5), (6, .int x6)]) (st' := [.int 1, .int 1, .int x2, .ref a0]) rfl ?_
      refine (PC.callV (j := 188) (args := [.ref a0, .int x2, .int 1, .int 1]) (rest := []) (M := cM188) rfl rfl rfl rfl rfl rfl (by decide) rfl rfl ?_).weak
      refine PC.imp h (fun _ κ10 h => ?_)
      refine PC.pr (k := 1) (pc' := 165) (lv' := [(0, .ref a0), (1, .int x1), (2, .int x2), (3, .int x3), (4, .int x4), (5, .int x5), (6, .int x6)]) (st' := [.int x3]) rfl ?_
      exact PC.retI rfl h
    · have h := h.2 (cmp_eq.2.mp c)
      refine PC.pr (k := 1) (pc' := 147) (lv' := [(0, .ref a0), (1, .int x1), (2, .int x2), (3, .int x3), (4, .int x4), (5, .int x5), (6, .int x6)]) (st' := [.int x6, .int 0, .int x2, .ref a0]) rfl ?_
      refine PC.pr (k := 1) (pc' := 154) (lv' := [(0, .ref a0), (1, .int x1), (2, .int x2), (3, .int x3), (4, .int x4), (5, .int x5), (6, .int x6)]) (st' := [.int x6, .int 0, .int x2, .ref a0]) rfl ?_
      refine (PC.callV (j := 188) (args := [.ref a0, .int x2, .int 0, .int x6]) (rest := []) (M := cM188) rfl rfl rfl rfl rfl rfl (by decide) rfl rfl ?_).weak
      refine PC.imp h (fun _ κ11 h => ?_)
      refine PC.pr (k := 1) (pc' := 158) (lv' := [(0, .ref a0), (1, .int x1), (2, .int x2), (3, .int x3), (4, .int x4), (5, .int x5), (6, .int x6)]) (st' := [.ref a0]) rfl ?_
      refine PC.pr (k := 1) (pc' := 159) (lv' := [(0, .ref a0), (1, .int x1), (2, .int x2), (3, .int x3), (4, .int x4), (5, .int x5), (6, .int x6)]) (st' := [.int x2, .ref a0]) rfl ?_
      refine PC.pr (k := 1) (pc' := 160) (lv' := [(0, .ref a0), (1, .int x1), (2, .int x2), (3, .int x3), (4, .int x4), (5, .int x5), (6, .int x6)]) (st' := [.int 1, .int x2, .ref a0]) rfl ?_
      refine PC.pr (k := 1) (pc' := 161) (lv' := [(0, .ref a0), (1, .int x1), (2, .int x2), (3, .int x3), (4, .int x4), (5, .int x5), (6, .int x6)]) (st' := [.int 1, .int 1, .int x2, .ref a0]) rfl ?_
      refine (PC.callV (j := 188) (args := [.ref a0, .int x2, .int 1, .int 1]) (rest := []) (M := cM188) rfl rfl rfl rfl rfl rfl (by decide) rfl rfl ?_).weak
      refine PC.imp h (fun _ κ12 h => ?_)
      refine PC.pr (k := 1) (pc' := 165) (lv' := [(0, .ref a0), (1, .int x1), (2, .int x2), (3, .int x3), (4, .int x4), (5, .int x5), (6, .int x6)]) (st' := [.int x3]) rfl ?_
      exact PC.retI rfl h

/-- DoorPaintsModel.becomesDoor(III)V -/
theorem t_188_0 {xl : List Int32} {n : Nat} {ι : IS} {Q : Option Value → IS → Prop} {a0 : Nat} {x1 : Int32} {x2 : Int32} {x3 : Int32} (h : (0 ≤ ((16 + (9 * x1)) + x2).toInt → ((16 + (9 * x1)) + x2).toInt < ln (rf a0 1) → Q none (up ι (rf a0 1) ((16 + (9 * x1)) + x2).toNatClampNeg x3))) : PC xl (n + 1) 188 0 [(0, .ref a0), (1, .int x1), (2, .int x2), (3, .int x3)] [] ι Q := by
  refine PC.pr1 (k := 0) (pc' := 1) (lv' := [(0, .ref a0), (1, .int x1), (2, .int x2), (3, .int x3)]) (st' := [.ref a0]) rfl ?_
  refine PC.gR (ci := 9) (j := 1) rfl rfl (by decide) ?_
  refine PC.pr (k := 1) (pc' := 6) (lv' := [(0, .ref a0), (1, .int x1), (2, .int x2), (3, .int x3)]) (st' := [.int 16, .ref (rf a0 1)]) rfl ?_
  refine PC.pr (k := 1) (pc' := 8) (lv' := [(0, .ref a0), (1, .int x1), (2, .int x2), (3, .int x3)]) (st' := [.int 9, .int 16, .ref (rf a0 1)]) rfl ?_
  refine PC.pr (k := 1) (pc' := 9) (lv' := [(0, .ref a0), (1, .int x1), (2, .int x2), (3, .int x3)]) (st' := [.int x1, .int 9, .int 16, .ref (rf a0 1)]) rfl ?_
  refine PC.pr (k := 1) (pc' := 10) (lv' := [(0, .ref a0), (1, .int x1), (2, .int x2), (3, .int x3)]) (st' := [.int (9 * x1), .int 16, .ref (rf a0 1)]) rfl ?_
  refine PC.pr (k := 1) (pc' := 11) (lv' := [(0, .ref a0), (1, .int x1), (2, .int x2), (3, .int x3)]) (st' := [.int (16 + (9 * x1)), .ref (rf a0 1)]) rfl ?_
  refine PC.pr (k := 1) (pc' := 12) (lv' := [(0, .ref a0), (1, .int x1), (2, .int x2), (3, .int x3)]) (st' := [.int x2, .int (16 + (9 * x1)), .ref (rf a0 1)]) rfl ?_
  refine PC.pr (k := 1) (pc' := 13) (lv' := [(0, .ref a0), (1, .int x1), (2, .int x2), (3, .int x3)]) (st' := [.int ((16 + (9 * x1)) + x2), .ref (rf a0 1)]) rfl ?_
  refine PC.pr (k := 1) (pc' := 14) (lv' := [(0, .ref a0), (1, .int x1), (2, .int x2), (3, .int x3)]) (st' := [.int x3, .int ((16 + (9 * x1)) + x2), .ref (rf a0 1)]) rfl ?_
  refine PC.wI rfl (fun c1 c2 => ?_)
  have h := h c1 c2
  exact PC.retV rfl h

/-- DoorPaintsModel.settles()V -/
theorem t_189_0 {xl : List Int32} {n : Nat} {ι : IS} {Q : Option Value → IS → Prop} {a0 : Nat} (h : PC xl n 189 2 [(0, .ref a0), (1, .int 0)] [] ι Q) : PC xl (n + 1) 189 0 [(0, .ref a0)] [] ι Q := by
  refine PC.pr1 (k := 0) (pc' := 1) (lv' := [(0, .ref a0)]) (st' := [.int 0]) rfl ?_
  refine PC.pr (k := 1) (pc' := 2) (lv' := [(1, .int 0), (0, .ref a0)]) (st' := []) rfl ?_
  exact PC.lv (lvE.cons rfl (lvE.cons rfl (lvE.nil))) h
theorem t_189_2 {xl : List Int32} {n : Nat} {ι : IS} {Q : Option Value → IS → Prop} {a0 : Nat} {x1 : Int32} (h : ((¬ x1 < 80 → Q none ι) ∧ (x1 < 80 → (0 ≤ x1.toInt → x1.toInt < ln (rf a0 1) → (0 ≤ x1.toInt → x1.toInt < ln (rf a0 0) → PC xl n 189 2 [(0, .ref a0), (1, .int (x1 + 1))] [] (up ι (rf a0 0) x1.toNatClampNeg (ι (rf a0 1) x1.toNatClampNeg)) Q))))) : PC xl (n + 1) 189 2 [(0, .ref a0), (1, .int x1)] [] ι Q := by
  refine PC.pr1 (k := 0) (pc' := 3) (lv' := [(0, .ref a0), (1, .int x1)]) (st' := [.int x1]) rfl ?_
  refine PC.pr (k := 1) (pc' := 5) (lv' := [(0, .ref a0), (1, .int x1)]) (st' := [.int 80, .int x1]) rfl ?_
  refine PC.if2 (t := 26) rfl rfl (fun c => ?_) (fun c => ?_)
  · have h := h.1 (cmp_ge.1.mp c)
    exact PC.retV rfl h
  · have h := h.2 (cmp_ge.2.mp c)
    refine PC.pr (k := 1) (pc' := 9) (lv' := [(0, .ref a0), (1, .int x1)]) (st' := [.ref a0]) rfl ?_
    refine PC.gR (ci := 9) (j := 0) rfl rfl (by decide) ?_
    refine PC.pr (k := 1) (pc' := 13) (lv' := [(0, .ref a0), (1, .int x1)]) (st' := [.int x1, .ref (rf a0 0)]) rfl ?_
    refine PC.pr (k := 1) (pc' := 14) (lv' := [(0, .ref a0), (1, .int x1)]) (st' := [.ref a0, .int x1, .ref (rf a0 0)]) rfl ?_
    refine PC.gR (ci := 9) (j := 1) rfl rfl (by decide) ?_
    refine PC.pr (k := 1) (pc' := 18) (lv' := [(0, .ref a0), (1, .int x1)]) (st' := [.int x1, .ref (rf a0 1), .int x1, .ref (rf a0 0)]) rfl ?_
    refine PC.rd rfl (rf_lt _ _) (fun c1 c2 => ?_)
    have h := h c1 c2
    refine PC.wI rfl (fun c1 c2 => ?_)
    have h := h c1 c2
    refine PC.pr (k := 1) (pc' := 23) (lv' := [(1, .int (x1 + 1)), (0, .ref a0)]) (st' := []) rfl ?_
    refine PC.pr (k := 1) (pc' := 2) (lv' := [(1, .int (x1 + 1)), (0, .ref a0)]) (st' := []) rfl ?_
    exact PC.lv (lvE.cons rfl (lvE.cons rfl (lvE.nil))) h

/-- DoorPaintsModel.sky(I)I -/
theorem t_190_0 {xl : List Int32} {n : Nat} {ι : IS} {Q : Option Value → IS → Prop} {a0 : Nat} {x1 : Int32} (h : PC xl n 148 0 [(0, .long (x1).toInt64), (2, .long 0), (4, .long 2)] [] ι (fun v1 κ1 => ∀ r1, v1 = some (.int r1) → ((¬ r1 = 0 → PC xl n 168 0 [(0, .ref a0)] [] κ1 (fun _ κ2 => PC xl n 191 0 [(0, .ref a0), (1, .int (90 + x1))] [] κ2 (fun _ κ3 => PC xl n 189 0 [(0, .ref a0)] [] κ3 (fun _ κ4 => PC xl n 193 0 [(0, .ref a0)] [] κ4 (fun v5 κ5 => ∀ r5, v5 = some (.int r5) → Q (some (.int r5)) κ5))))) ∧ (r1 = 0 → Q (some (.int (-1))) κ1)))) : PC xl (n + 1) 190 0 [(0, .ref a0), (1, .int x1)] [] ι Q := by
  refine PC.pr1 (k := 0) (pc' := 1) (lv' := [(0, .ref a0), (1, .int x1)]) (st' := [.int x1]) rfl ?_
  refine PC.pr (k := 1) (pc' := 2) (lv' := [(0, .ref a0), (1, .int x1)]) (st' := [.long (x1).toInt64]) rfl ?_
  refine PC.pr (k := 1) (pc' := 3) (lv' := [(0, .ref a0), (1, .int x1)]) (st' := [.long 0, .long (x1).toInt64]) rfl ?_
  refine PC.pr (k := 1) (pc' := 6) (lv' := [(0, .ref a0), (1, .int x1)]) (st' := [.long 2, .long 0, .long (x1).toInt64]) rfl ?_
  refine (PC.callI (j := 148) (args := [.long (x1).toInt64, .long 0, .long 2]) (rest := []) (M := cM148) (ty := .boolean) rfl rfl rfl rfl rfl rfl (by decide) rfl rfl (by decide) ?_).weak
  refine PC.imp h (fun v1 κ1 h r1 hv => ?_)
  have h := h r1 hv
  refine PC.if1 (t := 14) rfl rfl (fun c => ?_) (fun c => ?_)
  · have h := h.1 (cmp_ne.1.mp c)
    refine PC.pr (k := 1) (pc' := 15) (lv' := [(0, .ref a0), (1, .int x1)]) (st' := [.ref a0]) rfl ?_
    refine (PC.callV (j := 168) (args := [.ref a0]) (rest := []) (M := cM168) rfl rfl rfl rfl rfl rfl (by decide) rfl rfl ?_).weak
    refine PC.imp h (fun _ κ2 h => ?_)
    refine PC.pr (k := 1) (pc' := 19) (lv' := [(0, .ref a0), (1, .int x1)]) (st' := [.ref a0]) rfl ?_
    refine PC.pr (k := 1) (pc' := 21) (lv' := [(0, .ref a0), (1, .int x1)]) (st' := [.int 90, .ref a0]) rfl ?_
    refine PC.pr (k := 1) (pc' := 22) (lv' := [(0, .ref a0), (1, .int x1)]) (st' := [.int x1, .int 90, .ref a0]) rfl ?_
    refine PC.pr (k := 1) (pc' := 23) (lv' := [(0, .ref a0), (1, .int x1)]) (st' := [.int (90 + x1), .ref a0]) rfl ?_
    refine (PC.callV (j := 191) (args := [.ref a0, .int (90 + x1)]) (rest := []) (M := cM191) rfl rfl rfl rfl rfl rfl (by decide) rfl rfl ?_).weak
    refine PC.imp h (fun _ κ3 h => ?_)
    refine PC.pr (k := 1) (pc' := 27) (lv' := [(0, .ref a0), (1, .int x1)]) (st' := [.ref a0]) rfl ?_
    refine (PC.callV (j := 189) (args := [.ref a0]) (rest := []) (M := cM189) rfl rfl rfl rfl rfl rfl (by decide) rfl rfl ?_).weak
    refine PC.imp h (fun _ κ4 h => ?_)
    refine PC.pr (k := 1) (pc' := 31) (lv' := [(0, .ref a0), (1, .int x1)]) (st' := [.ref a0]) rfl ?_
    refine (PC.callI (j := 193) (args := [.ref a0]) (rest := []) (M := cM193) (ty := .int) rfl rfl rfl rfl rfl rfl (by decide) rfl rfl (by decide) ?_).weak
    refine PC.imp h (fun v5 κ5 h r5 hv => ?_)
    have h := h r5 hv
    exact PC.retI rfl h
  · have h := h.2 (cmp_ne.2.mp c)
    refine PC.pr (k := 1) (pc' := 13) (lv' := [(0, .ref a0), (1, .int x1)]) (st' := [.int (-1)]) rfl ?_
    exact PC.retI rfl h

/-- DoorPaintsModel.goesBy(I)V -/
theorem t_191_0 {xl : List Int32} {n : Nat} {ι : IS} {Q : Option Value → IS → Prop} {a0 : Nat} {x1 : Int32} (h : PC xl n 191 2 [(0, .ref a0), (1, .int x1), (2, .int 0)] [] ι Q) : PC xl (n + 1) 191 0 [(0, .ref a0), (1, .int x1)] [] ι Q := by
  refine PC.pr1 (k := 0) (pc' := 1) (lv' := [(0, .ref a0), (1, .int x1)]) (st' := [.int 0]) rfl ?_
  refine PC.pr (k := 1) (pc' := 2) (lv' := [(2, .int 0), (0, .ref a0), (1, .int x1)]) (st' := []) rfl ?_
  exact PC.lv (lvE.cons rfl (lvE.cons rfl (lvE.cons rfl (lvE.nil)))) h
theorem t_191_2 {xl : List Int32} {n : Nat} {ι : IS} {Q : Option Value → IS → Prop} {a0 : Nat} {x1 : Int32} {x2 : Int32} (h : ((¬ x2 < (ι a0 4) → Q none ι) ∧ (x2 < (ι a0 4) → ((¬ x1 = 91 → PC xl n 188 0 [(0, .ref a0), (1, .int x2), (2, .int 1), (3, .int 0)] [] ι (fun _ κ1 => PC xl n 191 31 [(0, .ref a0), (1, .int x1), (2, .int x2)] [] κ1 Q)) ∧ (x1 = 91 → PC xl n 192 0 [(0, .ref a0), (1, .int x2)] [] ι (fun _ κ2 => PC xl n 191 31 [(0, .ref a0), (1, .int x1), (2, .int x2)] [] κ2 Q)))))) : PC xl (n + 1) 191 2 [(0, .ref a0), (1, .int x1), (2, .int x2)] [] ι Q := by
  refine PC.pr1 (k := 0) (pc' := 3) (lv' := [(0, .ref a0), (1, .int x1), (2, .int x2)]) (st' := [.int x2]) rfl ?_
  refine PC.pr (k := 1) (pc' := 4) (lv' := [(0, .ref a0), (1, .int x1), (2, .int x2)]) (st' := [.ref a0, .int x2]) rfl ?_
  refine PC.gI (ci := 9) (j := 4) rfl rfl (by decide) ?_
  refine PC.if2 (t := 68) rfl rfl (fun c => ?_) (fun c => ?_)
  · have h := h.1 (cmp_ge.1.mp c)
    exact PC.retV rfl h
  · have h := h.2 (cmp_ge.2.mp c)
    refine PC.pr (k := 1) (pc' := 11) (lv' := [(0, .ref a0), (1, .int x1), (2, .int x2)]) (st' := [.int x1]) rfl ?_
    refine PC.pr (k := 1) (pc' := 13) (lv' := [(0, .ref a0), (1, .int x1), (2, .int x2)]) (st' := [.int 91, .int x1]) rfl ?_
    refine PC.if2 (t := 24) rfl rfl (fun c => ?_) (fun c => ?_)
    · have h := h.1 (cmp_ne.1.mp c)
      refine PC.pr (k := 1) (pc' := 25) (lv' := [(0, .ref a0), (1, .int x1), (2, .int x2)]) (st' := [.ref a0]) rfl ?_
      refine PC.pr (k := 1) (pc' := 26) (lv' := [(0, .ref a0), (1, .int x1), (2, .int x2)]) (st' := [.int x2, .ref a0]) rfl ?_
      refine PC.pr (k := 1) (pc' := 27) (lv' := [(0, .ref a0), (1, .int x1), (2, .int x2)]) (st' := [.int 1, .int x2, .ref a0]) rfl ?_
      refine PC.pr (k := 1) (pc' := 28) (lv' := [(0, .ref a0), (1, .int x1), (2, .int x2)]) (st' := [.int 0, .int 1, .int x2, .ref a0]) rfl ?_
      refine (PC.callV (j := 188) (args := [.ref a0, .int x2, .int 1, .int 0]) (rest := []) (M := cM188) rfl rfl rfl rfl rfl rfl (by decide) rfl rfl ?_).weak
      refine PC.imp h (fun _ κ1 h => ?_)
      exact h
    · have h := h.2 (cmp_ne.2.mp c)
      refine PC.pr (k := 1) (pc' := 17) (lv' := [(0, .ref a0), (1, .int x1), (2, .int x2)]) (st' := [.ref a0]) rfl ?_
      refine PC.pr (k := 1) (pc' := 18) (lv' := [(0, .ref a0), (1, .int x1), (2, .int x2)]) (st' := [.int x2, .ref a0]) rfl ?_
      refine (PC.callV (j := 192) (args := [.ref a0, .int x2]) (rest := []) (M := cM192) rfl rfl rfl rfl rfl rfl (by decide) rfl rfl ?_).weak
      refine PC.imp h (fun _ κ2 h => ?_)
      refine PC.pr (k := 1) (pc' := 31) (lv' := [(0, .ref a0), (1, .int x1), (2, .int x2)]) (st' := []) rfl ?_
      exact h
theorem t_191_31 {xl : List Int32} {n : Nat} {ι : IS} {Q : Option Value → IS → Prop} {a0 : Nat} {x1 : Int32} {x2 : Int32} (h : ((¬ x1 = 92 → PC xl n 191 62 [(0, .ref a0), (1, .int x1), (2, .int x2)] [] ι Q) ∧ (x1 = 92 → PC xl n 173 0 [(0, .ref a0), (1, .int x2)] [] ι (fun v1 κ1 => ∀ r1, v1 = some (.int r1) → ((¬ r1 = 0 → PC xl n 191 62 [(0, .ref a0), (1, .int x1), (2, .int x2)] [] κ1 Q) ∧ (r1 = 0 → PC xl n 169 0 [(0, .ref a0), (1, .int x2), (2, .int 0)] [] κ1 (fun v2 κ2 => ∀ r2, v2 = some (.int r2) → PC xl n 188 0 [(0, .ref a0), (1, .int x2), (2, .int 0), (3, .int (r2 - 1))] [] κ2 (fun _ κ3 => PC xl n 191 31 [(0, .ref a0), (1, .int x1), (2, .int x2)] [] κ3 Q)))))))) : PC xl (n + 1) 191 31 [(0, .ref a0), (1, .int x1), (2, .int x2)] [] ι Q := by
  refine PC.pr1 (k := 0) (pc' := 32) (lv' := [(0, .ref a0), (1, .int x1), (2, .int x2)]) (st' := [.int x1]) rfl ?_
  refine PC.pr (k := 1) (pc' := 34) (lv' := [(0, .ref a0), (1, .int x1), (2, .int x2)]) (st' := [.int 92, .int x1]) rfl ?_
  refine PC.if2 (t := 62) rfl rfl (fun c => ?_) (fun c => ?_)
  · have h := h.1 (cmp_ne.1.mp c)
    exact h
  · have h := h.2 (cmp_ne.2.mp c)
    refine PC.pr (k := 1) (pc' := 38) (lv' := [(0, .ref a0), (1, .int x1), (2, .int x2)]) (st' := [.ref a0]) rfl ?_
    refine PC.pr (k := 1) (pc' := 39) (lv' := [(0, .ref a0), (1, .int x1), (2, .int x2)]) (st' := [.int x2, .ref a0]) rfl ?_
    refine (PC.callI (j := 173) (args := [.ref a0, .int x2]) (rest := []) (M := cM173) (ty := .int) rfl rfl rfl rfl rfl rfl (by decide) rfl rfl (by decide) ?_).weak
    refine PC.imp h (fun v1 κ1 h r1 hv => ?_)
    have h := h r1 hv
    refine PC.if1 (t := 62) rfl rfl (fun c => ?_) (fun c => ?_)
    · have h := h.1 (cmp_ne.1.mp c)
      exact h
    · have h := h.2 (cmp_ne.2.mp c)
      refine PC.pr (k := 1) (pc' := 46) (lv' := [(0, .ref a0), (1, .int x1), (2, .int x2)]) (st' := [.ref a0]) rfl ?_
      refine PC.pr (k := 1) (pc' := 47) (lv' := [(0, .ref a0), (1, .int x1), (2, .int x2)]) (st' := [.int x2, .ref a0]) rfl ?_
      refine PC.pr (k := 1) (pc' := 48) (lv' := [(0, .ref a0), (1, .int x1), (2, .int x2)]) (st' := [.int 0, .int x2, .ref a0]) rfl ?_
      refine PC.pr (k := 1) (pc' := 49) (lv' := [(0, .ref a0), (1, .int x1), (2, .int x2)]) (st' := [.ref a0, .int 0, .int x2, .ref a0]) rfl ?_
      refine PC.pr (k := 1) (pc' := 50) (lv' := [(0, .ref a0), (1, .int x1), (2, .int x2)]) (st' := [.int x2, .ref a0, .int 0, .int x2, .ref a0]) rfl ?_
      refine PC.pr (k := 1) (pc' := 51) (lv' := [(0, .ref a0), (1, .int x1), (2, .int x2)]) (st' := [.int 0, .int x2, .ref a0, .int 0, .int x2, .ref a0]) rfl ?_
      refine (PC.callI (j := 169) (args := [.ref a0, .int x2, .int 0]) (rest := [.int 0, .int x2, .ref a0]) (M := cM169) (ty := .int) rfl rfl rfl rfl rfl rfl (by decide) rfl rfl (by decide) ?_).weak
      refine PC.imp h (fun v2 κ2 h r2 hv => ?_)
      have h := h r2 hv
      refine PC.pr (k := 1) (pc' := 55) (lv' := [(0, .ref a0), (1, .int x1), (2, .int x2)]) (st' := [.int 1, .int r2, .int 0, .int x2, .ref a0]) rfl ?_
      refine PC.pr (k := 1) (pc' := 56) (lv' := [(0, .ref a0), (1, .int x1), (2, .int x2)]) (st' := [.int (r2 - 1), .int 0, .int x2, .ref a0]) rfl ?_
      refine (PC.callV (j := 188) (args := [.ref a0, .int x2, .int 0, .int (r2 - 1)]) (rest := []) (M := cM188) rfl rfl rfl rfl rfl rfl (by decide) rfl rfl ?_).weak
      refine PC.imp h (fun _ κ3 h => ?_)
      refine PC.pr (k := 1) (pc' := 31) (lv' := [(0, .ref a0), (1, .int x1), (2, .int x2)]) (st' := []) rfl ?_
      exact h
theorem t_191_62 {xl : List Int32} {n : Nat} {ι : IS} {Q : Option Value → IS → Prop} {a0 : Nat} {x1 : Int32} {x2 : Int32} (h : PC xl n 191 2 [(0, .ref a0), (1, .int x1), (2, .int (x2 + 1))] [] ι Q) : PC xl (n + 1) 191 62 [(0, .ref a0), (1, .int x1), (2, .int x2)] [] ι Q := by
  refine PC.pr1 (k := 0) (pc' := 65) (lv' := [(2, .int (x2 + 1)), (0, .ref a0), (1, .int x1)]) (st' := []) rfl ?_
  refine PC.pr (k := 1) (pc' := 2) (lv' := [(2, .int (x2 + 1)), (0, .ref a0), (1, .int x1)]) (st' := []) rfl ?_
  exact PC.lv (lvE.cons rfl (lvE.cons rfl (lvE.cons rfl (lvE.nil)))) h

/-- DoorPaintsModel.rains(I)V -/
theorem t_192_0 {xl : List Int32} {n : Nat} {ι : IS} {Q : Option Value → IS → Prop} {a0 : Nat} {x1 : Int32} (h : PC xl n 169 0 [(0, .ref a0), (1, .int x1), (2, .int 0)] [] ι (fun v1 κ1 => ∀ r1, v1 = some (.int r1) → ((¬ 0 < r1 → Q none κ1) ∧ (0 < r1 → ((¬ 3 < r1 → PC xl n 192 23 [(0, .ref a0), (1, .int x1), (2, .int r1)] [.int 0] κ1 Q) ∧ (3 < r1 → PC xl n 192 23 [(0, .ref a0), (1, .int x1), (2, .int r1)] [.int (r1 - 3)] κ1 Q)))))) : PC xl (n + 1) 192 0 [(0, .ref a0), (1, .int x1)] [] ι Q := by
  refine PC.pr1 (k := 0) (pc' := 1) (lv' := [(0, .ref a0), (1, .int x1)]) (st' := [.ref a0]) rfl ?_
  refine PC.pr (k := 1) (pc' := 2) (lv' := [(0, .ref a0), (1, .int x1)]) (st' := [.int x1, .ref a0]) rfl ?_
  refine PC.pr (k := 1) (pc' := 3) (lv' := [(0, .ref a0), (1, .int x1)]) (st' := [.int 0, .int x1, .ref a0]) rfl ?_
  refine (PC.callI (j := 169) (args := [.ref a0, .int x1, .int 0]) (rest := []) (M := cM169) (ty := .int) rfl rfl rfl rfl rfl rfl (by decide) rfl rfl (by decide) ?_).weak
  refine PC.imp h (fun v1 κ1 h r1 hv => ?_)
  have h := h r1 hv
  refine PC.pr (k := 1) (pc' := 7) (lv' := [(2, .int r1), (0, .ref a0), (1, .int x1)]) (st' := []) rfl ?_
  refine PC.pr (k := 1) (pc' := 8) (lv' := [(2, .int r1), (0, .ref a0), (1, .int x1)]) (st' := [.int r1]) rfl ?_
  refine PC.if1 (t := 83) rfl rfl (fun c => ?_) (fun c => ?_)
  · have h := h.1 (cmp_le.1.mp c)
    exact PC.retV rfl h
  · have h := h.2 (cmp_le.2.mp c)
    refine PC.pr (k := 1) (pc' := 12) (lv' := [(2, .int r1), (0, .ref a0), (1, .int x1)]) (st' := [.int r1]) rfl ?_
    refine PC.pr (k := 1) (pc' := 13) (lv' := [(2, .int r1), (0, .ref a0), (1, .int x1)]) (st' := [.int 3, .int r1]) rfl ?_
    refine PC.if2 (t := 22) rfl rfl (fun c => ?_) (fun c => ?_)
    · have h := h.1 (cmp_le.1.mp c)
      refine PC.pr (k := 1) (pc' := 23) (lv' := [(2, .int r1), (0, .ref a0), (1, .int x1)]) (st' := [.int 0]) rfl ?_
      exact PC.lv (lvE.cons rfl (lvE.cons rfl (lvE.cons rfl (lvE.nil)))) h
    · have h := h.2 (cmp_le.2.mp c)
      refine PC.pr (k := 1) (pc' := 17) (lv' := [(2, .int r1), (0, .ref a0), (1, .int x1)]) (st' := [.int r1]) rfl ?_
      refine PC.pr (k := 1) (pc' := 18) (lv' := [(2, .int r1), (0, .ref a0), (1, .int x1)]) (st' := [.int 3, .int r1]) rfl ?_
      refine PC.pr (k := 1) (pc' := 19) (lv' := [(2, .int r1), (0, .ref a0), (1, .int x1)]) (st' := [.int (r1 - 3)]) rfl ?_
      refine PC.pr (k := 1) (pc' := 23) (lv' := [(2, .int r1), (0, .ref a0), (1, .int x1)]) (st' := [.int (r1 - 3)]) rfl ?_
      exact PC.lv (lvE.cons rfl (lvE.cons rfl (lvE.cons rfl (lvE.nil)))) h
theorem t_192_23 {xl : List Int32} {n : Nat} {ι : IS} {Q : Option Value → IS → Prop} {a0 : Nat} {x1 : Int32} {x2 : Int32} {u0 : Int32} (h : PC xl n 192 30 [(0, .ref a0), (1, .int x1), (2, .int x2), (3, .int u0), (4, .int 0), (5, .int u0)] [] ι Q) : PC xl (n + 1) 192 23 [(0, .ref a0), (1, .int x1), (2, .int x2)] [.int u0] ι Q := by
  refine PC.pr1 (k := 0) (pc' := 24) (lv' := [(3, .int u0), (0, .ref a0), (1, .int x1), (2, .int x2)]) (st' := []) rfl ?_
  refine PC.pr (k := 1) (pc' := 25) (lv' := [(3, .int u0), (0, .ref a0), (1, .int x1), (2, .int x2)]) (st' := [.int 0]) rfl ?_
  refine PC.pr (k := 1) (pc' := 27) (lv' := [(4, .int 0), (3, .int u0), (0, .ref a0), (1, .int x1), (2, .int x2)]) (st' := []) rfl ?_
  refine PC.pr (k := 1) (pc' := 28) (lv' := [(4, .int 0), (3, .int u0), (0, .ref a0), (1, .int x1), (2, .int x2)]) (st' := [.int u0]) rfl ?_
  refine PC.pr (k := 1) (pc' := 30) (lv' := [(5, .int u0), (4, .int 0), (3, .int u0), (0, .ref a0), (1, .int x1), (2, .int x2)]) (st' := []) rfl ?_
  exact PC.lv (lvE.cons rfl (lvE.cons rfl (lvE.cons rfl (lvE.cons rfl (lvE.cons rfl (lvE.cons rfl (lvE.nil))))))) h
theorem t_192_30 {xl : List Int32} {n : Nat} {ι : IS} {Q : Option Value → IS → Prop} {a0 : Nat} {x1 : Int32} {x2 : Int32} {x3 : Int32} {x4 : Int32} {x5 : Int32} (h : ((¬ x5 < x2 → PC xl n 188 0 [(0, .ref a0), (1, .int x1), (2, .int (3 + x3)), (3, .int (x4 - x4 / 6 * 6))] [] ι (fun _ κ1 => PC xl n 188 0 [(0, .ref a0), (1, .int x1), (2, .int 0), (3, .int (x3 + 1))] [] κ1 (fun _ κ2 => PC xl n 188 0 [(0, .ref a0), (1, .int x1), (2, .int 1), (3, .int 1)] [] κ2 (fun _ κ3 => Q none κ3)))) ∧ (x5 < x2 → PC xl n 174 0 [(0, .ref a0), (1, .int x1), (2, .int x5)] [] ι (fun v4 κ4 => ∀ r4, v4 = some (.int r4) → PC xl n 192 30 [(0, .ref a0), (1, .int x1), (2, .int x2), (3, .int x3), (4, .int (x4 + r4)), (5, .int (x5 + 1))] [] κ4 Q)))) : PC xl (n + 1) 192 30 [(0, .ref a0), (1, .int x1), (2, .int x2), (3, .int x3), (4, .int x4), (5, .int x5)] [] ι Q := by
  refine PC.pr1 (k := 0) (pc' := 32) (lv' := [(0, .ref a0), (1, .int x1), (2, .int x2), (3, .int x3), (4, .int x4), (5, .int x5)]) (st' := [.int x5]) rfl ?_
  refine PC.pr (k := 1) (pc' := 33) (lv' := [(0, .ref a0), (1, .int x1), (2, .int x2), (3, .int x3), (4, .int x4), (5, .int x5)]) (st' := [.int x2, .int x5]) rfl ?_
  refine PC.if2 (t := 54) rfl rfl (fun c => ?_) (fun c => ?_)
  · have h := h.1 (cmp_ge.1.mp c)
    refine PC.pr (k := 1) (pc' := 55) (lv' := [(0, .ref a0), (1, .int x1), (2, .int x2), (3, .int x3), (4, .int x4), (5, .int x5)]) (st' := [.ref a0]) rfl ?_
    refine PC.pr (k := 1) (pc' := 56) (lv' := [(0, .ref a0), (1, .int x1), (2, .int x2), (3, .int x3), (4, .int x4), (5, .int x5)]) (st' := [.int x1, .ref a0]) rfl ?_
    refine PC.pr (k := 1) (pc' := 57) (lv' := [(0, .ref a0), (1, .int x1), (2, .int x2), (3, .int x3), (4, .int x4), (5, .int x5)]) (st' := [.int 3, .int x1, .ref a0]) rfl ?_
    refine PC.pr (k := 1) (pc' := 58) (lv' := [(0, .ref a0), (1, .int x1), (2, .int x2), (3, .int x3), (4, .int x4), (5, .int x5)]) (st' := [.int x3, .int 3, .int x1, .ref a0]) rfl ?_
    refine PC.pr (k := 1) (pc' := 59) (lv' := [(0, .ref a0), (1, .int x1), (2, .int x2), (3, .int x3), (4, .int x4), (5, .int x5)]) (st' := [.int (3 + x3), .int x1, .ref a0]) rfl ?_
    refine PC.pr (k := 1) (pc' := 61) (lv' := [(0, .ref a0), (1, .int x1), (2, .int x2), (3, .int x3), (4, .int x4), (5, .int x5)]) (st' := [.int x4, .int (3 + x3), .int x1, .ref a0]) rfl ?_
    refine PC.pr (k := 1) (pc' := 63) (lv' := [(0, .ref a0), (1, .int x1), (2, .int x2), (3, .int x3), (4, .int x4), (5, .int x5)]) (st' := [.int 6, .int x4, .int (3 + x3), .int x1, .ref a0]) rfl ?_
    refine PC.pr (k := 1) (pc' := 64) (lv' := [(0, .ref a0), (1, .int x1), (2, .int x2), (3, .int x3), (4, .int x4), (5, .int x5)]) (st' := [.int (x4 - x4 / 6 * 6), .int (3 + x3), .int x1, .ref a0]) rfl ?_
    refine (PC.callV (j := 188) (args := [.ref a0, .int x1, .int (3 + x3), .int (x4 - x4 / 6 * 6)]) (rest := []) (M := cM188) rfl rfl rfl rfl rfl rfl (by decide) rfl rfl ?_).weak
    refine PC.imp h (fun _ κ1 h => ?_)
    refine PC.pr (k := 1) (pc' := 68) (lv' := [(0, .ref a0), (1, .int x1), (2, .int x2), (3, .int x3), (4, .int x4), (5, .int x5)]) (st' := [.ref a0]) rfl ?_
    refine PC.pr (k := 1) (pc' := 69) (lv' := [(0, .ref a0), (1, .int x1), (2, .int x2), (3, .int x3), (4, .int x4), (5, .int x5)]) (st' := [.int x1, .ref a0]) rfl ?_
    refine PC.pr (k := 1) (pc' := 70) (lv' := [(0, .ref a0), (1, .int x1), (2, .int x2), (3, .int x3), (4, .int x4), (5, .int x5)]) (st' := [.int 0, .int x1, .ref a0]) rfl ?_
    refine PC.pr (k := 1) (pc' := 71) (lv' := [(0, .ref a0), (1, .int x1), (2, .int x2), (3, .int x3), (4, .int x4), (5, .int x5)]) (st' := [.int x3, .int 0, .int x1, .ref a0]) rfl ?_
    refine PC.pr (k := 1) (pc' := 72) (lv' := [(0, .ref a0), (1, .int x1), (2, .int x2), (3, .int x3), (4, .int x4), (5, .int x5)]) (st' := [.int 1, .int x3, .int 0, .int x1, .ref a0]) rfl ?_
    refine PC.pr (k := 1) (pc' := 73) (lv' := [(0, .ref a0), (1, .int x1), (2, .int x2), (3, .int x3), (4, .int x4), (5, .int x5)]) (st' := [.int (x3 + 1), .int 0, .int x1, .ref a0]) rfl ?_
    refine (PC.callV (j := 188) (args := [.ref a0, .int x1, .int 0, .int (x3 + 1)]) (rest := []) (M := cM188) rfl rfl rfl rfl rfl rfl (by decide) rfl rfl ?_).weak
    refine PC.imp h (fun _ κ2 h => ?_)
    refine PC.pr (k := 1) (pc' := 77) (lv' := [(0, .ref a0), (1, .int x1), (2, .int x2), (3, .int x3), (4, .int x4), (5, .int x5)]) (st' := [.ref a0]) rfl ?_
    refine PC.pr (k := 1) (pc' := 78) (lv' := [(0, .ref a0), (1, .int x1), (2, .int x2), (3, .int x3), (4, .int x4), (5, .int x5)]) (st' := [.int x1, .ref a0]) rfl ?_
    refine PC.pr (k := 1) (pc' := 79) (lv' := [(0, .ref a0), (1, .int x1), (2, .int x2), (3, .int x3), (4, .int x4), (5, .int x5)]) (st' := [.int 1, .int x1, .ref a0]) rfl ?_
    refine PC.pr (k := 1) (pc' := 80) (lv' := [(0, .ref a0), (1, .int x1), (2, .int x2), (3, .int x3), (4, .int x4), (5, .int x5)]) (st' := [.int 1, .int 1, .int x1, .ref a0]) rfl ?_
    refine (PC.callV (j := 188) (args := [.ref a0, .int x1, .int 1, .int 1]) (rest := []) (M := cM188) rfl rfl rfl rfl rfl rfl (by decide) rfl rfl ?_).weak
    refine PC.imp h (fun _ κ3 h => ?_)
    exact PC.retV rfl h
  · have h := h.2 (cmp_ge.2.mp c)
    refine PC.pr (k := 1) (pc' := 38) (lv' := [(0, .ref a0), (1, .int x1), (2, .int x2), (3, .int x3), (4, .int x4), (5, .int x5)]) (st' := [.int x4]) rfl ?_
    refine PC.pr (k := 1) (pc' := 39) (lv' := [(0, .ref a0), (1, .int x1), (2, .int x2), (3, .int x3), (4, .int x4), (5, .int x5)]) (st' := [.ref a0, .int x4]) rfl ?_
    refine PC.pr (k := 1) (pc' := 40) (lv' := [(0, .ref a0), (1, .int x1), (2, .int x2), (3, .int x3), (4, .int x4), (5, .int x5)]) (st' := [.int x1, .ref a0, .int x4]) rfl ?_
    refine PC.pr (k := 1) (pc' := 42) (lv' := [(0, .ref a0), (1, .int x1), (2, .int x2), (3, .int x3), (4, .int x4), (5, .int x5)]) (st' := [.int x5, .int x1, .ref a0, .int x4]) rfl ?_
    refine (PC.callI (j := 174) (args := [.ref a0, .int x1, .int x5]) (rest := [.int x4]) (M := cM174) (ty := .int) rfl rfl rfl rfl rfl rfl (by decide) rfl rfl (by decide) ?_).weak
    refine PC.imp h (fun v4 κ4 h r4 hv => ?_)
    have h := h r4 hv
    refine PC.pr (k := 1) (pc' := 46) (lv' := [(0, .ref a0), (1, .int x1), (2, .int x2), (3, .int x3), (4, .int x4), (5, .int x5)]) (st' := [.int (x4 + r4)]) rfl ?_
    refine PC.pr (k := 1) (pc' := 48) (lv' := [(4, .int (x4 + r4)), (0, .ref a0), (1, .int x1), (2, .int x2), (3, .int x3), (5, .int x5)]) (st' := []) rfl ?_
    refine PC.pr (k := 1) (pc' := 51) (lv' := [(5, .int (x5 + 1)), (4, .int (x4 + r4)), (0, .ref a0), (1, .int x1), (2, .int x2), (3, .int x3)]) (st' := []) rfl ?_
    refine PC.pr (k := 1) (pc' := 30) (lv' := [(5, .int (x5 + 1)), (4, .int (x4 + r4)), (0, .ref a0), (1, .int x1), (2, .int x2), (3, .int x3)]) (st' := []) rfl ?_
    exact PC.lv (lvE.cons rfl (lvE.cons rfl (lvE.cons rfl (lvE.cons rfl (lvE.cons rfl (lvE.cons rfl (lvE.nil))))))) h

/-- DoorPaintsModel.layers()I -/
theorem t_193_0 {xl : List Int32} {n : Nat} {ι : IS} {Q : Option Value → IS → Prop} {a0 : Nat} (h : PC xl n 193 4 [(0, .ref a0), (1, .int 0), (2, .int 0)] [] ι Q) : PC xl (n + 1) 193 0 [(0, .ref a0)] [] ι Q := by
  refine PC.pr1 (k := 0) (pc' := 1) (lv' := [(0, .ref a0)]) (st' := [.int 0]) rfl ?_
  refine PC.pr (k := 1) (pc' := 2) (lv' := [(1, .int 0), (0, .ref a0)]) (st' := []) rfl ?_
  refine PC.pr (k := 1) (pc' := 3) (lv' := [(1, .int 0), (0, .ref a0)]) (st' := [.int 0]) rfl ?_
  refine PC.pr (k := 1) (pc' := 4) (lv' := [(2, .int 0), (1, .int 0), (0, .ref a0)]) (st' := []) rfl ?_
  exact PC.lv (lvE.cons rfl (lvE.cons rfl (lvE.cons rfl (lvE.nil)))) h
theorem t_193_4 {xl : List Int32} {n : Nat} {ι : IS} {Q : Option Value → IS → Prop} {a0 : Nat} {x1 : Int32} {x2 : Int32} (h : ((¬ x2 < (ι a0 4) → Q (some (.int x1)) ι) ∧ (x2 < (ι a0 4) → PC xl n 169 0 [(0, .ref a0), (1, .int x2), (2, .int 0)] [] ι (fun v1 κ1 => ∀ r1, v1 = some (.int r1) → PC xl n 193 4 [(0, .ref a0), (1, .int (x1 + r1)), (2, .int (x2 + 1))] [] κ1 Q)))) : PC xl (n + 1) 193 4 [(0, .ref a0), (1, .int x1), (2, .int x2)] [] ι Q := by
  refine PC.pr1 (k := 0) (pc' := 5) (lv' := [(0, .ref a0), (1, .int x1), (2, .int x2)]) (st' := [.int x2]) rfl ?_
  refine PC.pr (k := 1) (pc' := 6) (lv' := [(0, .ref a0), (1, .int x1), (2, .int x2)]) (st' := [.ref a0, .int x2]) rfl ?_
  refine PC.gI (ci := 9) (j := 4) rfl rfl (by decide) ?_
  refine PC.if2 (t := 27) rfl rfl (fun c => ?_) (fun c => ?_)
  · have h := h.1 (cmp_ge.1.mp c)
    refine PC.pr (k := 1) (pc' := 28) (lv' := [(0, .ref a0), (1, .int x1), (2, .int x2)]) (st' := [.int x1]) rfl ?_
    exact PC.retI rfl h
  · have h := h.2 (cmp_ge.2.mp c)
    refine PC.pr (k := 1) (pc' := 13) (lv' := [(0, .ref a0), (1, .int x1), (2, .int x2)]) (st' := [.int x1]) rfl ?_
    refine PC.pr (k := 1) (pc' := 14) (lv' := [(0, .ref a0), (1, .int x1), (2, .int x2)]) (st' := [.ref a0, .int x1]) rfl ?_
    refine PC.pr (k := 1) (pc' := 15) (lv' := [(0, .ref a0), (1, .int x1), (2, .int x2)]) (st' := [.int x2, .ref a0, .int x1]) rfl ?_
    refine PC.pr (k := 1) (pc' := 16) (lv' := [(0, .ref a0), (1, .int x1), (2, .int x2)]) (st' := [.int 0, .int x2, .ref a0, .int x1]) rfl ?_
    refine (PC.callI (j := 169) (args := [.ref a0, .int x2, .int 0]) (rest := [.int x1]) (M := cM169) (ty := .int) rfl rfl rfl rfl rfl rfl (by decide) rfl rfl (by decide) ?_).weak
    refine PC.imp h (fun v1 κ1 h r1 hv => ?_)
    have h := h r1 hv
    refine PC.pr (k := 1) (pc' := 20) (lv' := [(0, .ref a0), (1, .int x1), (2, .int x2)]) (st' := [.int (x1 + r1)]) rfl ?_
    refine PC.pr (k := 1) (pc' := 21) (lv' := [(1, .int (x1 + r1)), (0, .ref a0), (2, .int x2)]) (st' := []) rfl ?_
    refine PC.pr (k := 1) (pc' := 24) (lv' := [(2, .int (x2 + 1)), (1, .int (x1 + r1)), (0, .ref a0)]) (st' := []) rfl ?_
    refine PC.pr (k := 1) (pc' := 4) (lv' := [(2, .int (x2 + 1)), (1, .int (x1 + r1)), (0, .ref a0)]) (st' := []) rfl ?_
    exact PC.lv (lvE.cons rfl (lvE.cons rfl (lvE.cons rfl (lvE.nil)))) h

