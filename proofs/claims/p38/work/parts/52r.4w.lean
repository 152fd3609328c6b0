/-! WHAT RUNS ASK (written by a program) -/
/-- DoorPaints.runs(I)I -/
theorem t_86_0 {xl : List Int32} {n : Nat} {ι : IS} {Q : Option Value → IS → Prop} {a0 : Nat} {x1 : Int32} (h : ((x1 < 0 → Q (some (.int (-1))) ι) ∧ (¬ x1 < 0 → ((¬ 4 < x1 → PC xl n 87 0 [(0, .ref a0)] [] ι (fun v1 κ1 => ∀ r1, v1 = some (.int r1) → ((x1.toInt = 0 → PC xl n 91 0 [(0, .ref a0)] [] κ1 (fun v2 κ2 => ∀ r2, v2 = some (.int r2) → Q (some (.int r2)) κ2)) ∧ (x1.toInt = 1 → PC xl n 58 0 [(0, .ref (rf a0 5))] [] κ1 (fun v3 κ3 => ∀ r3, v3 = some (.int r3) → Q (some (.int r3)) κ3)) ∧ (x1.toInt = 2 → Q (some (.int r1)) κ1) ∧ (x1.toInt = 3 → PC xl n 80 0 [(0, .ref (rf a0 5))] [] κ1 (fun v4 κ4 => ∀ r4, v4 = some (.int r4) → Q (some (.int r4)) κ4)) ∧ ((x1.toInt < 0 ∨ 3 < x1.toInt) → PC xl n 92 0 [(0, .ref (rf a0 5))] [] κ1 (fun v5 κ5 => ∀ r5, v5 = some (.int r5) → Q (some (.int r5)) κ5))))) ∧ (4 < x1 → Q (some (.int (-1))) ι))))) : PC xl (n + 1) 86 0 [(0, .ref a0), (1, .int x1)] [] ι Q := by
  refine PC.pr1 (k := 0) (pc' := 1) (lv' := [(0, .ref a0), (1, .int x1)]) (st' := [.int x1]) rfl ?_
  refine PC.if1 (t := 9) rfl rfl (fun c => ?_) (fun c => ?_)
  · have h := h.1 (cmp_lt.1.mp c)
    refine PC.pr (k := 1) (pc' := 10) (lv' := [(0, .ref a0), (1, .int x1)]) (st' := [.int (-1)]) rfl ?_
    exact PC.retI rfl h
  · have h := h.2 (cmp_lt.2.mp c)
    refine PC.pr (k := 1) (pc' := 5) (lv' := [(0, .ref a0), (1, .int x1)]) (st' := [.int x1]) rfl ?_
    refine PC.pr (k := 1) (pc' := 6) (lv' := [(0, .ref a0), (1, .int x1)]) (st' := [.int 4, .int x1]) rfl ?_
    refine PC.if2 (t := 11) rfl rfl (fun c => ?_) (fun c => ?_)
    · have h := h.1 (cmp_le.1.mp c)
      refine PC.pr (k := 1) (pc' := 12) (lv' := [(0, .ref a0), (1, .int x1)]) (st' := [.ref a0]) rfl ?_
      refine (PC.callI (j := 87) (args := [.ref a0]) (rest := []) (M := cM87) (ty := .int) rfl rfl rfl rfl rfl rfl (by decide) rfl rfl (by decide) ?_).weak
      refine PC.imp h (fun v1 κ1 h r1 hv => ?_)
      have h := h r1 hv
      refine PC.pr (k := 1) (pc' := 16) (lv' := [(2, .int r1), (0, .ref a0), (1, .int x1)]) (st' := []) rfl ?_
      refine PC.pr (k := 1) (pc' := 17) (lv' := [(2, .int r1), (0, .ref a0), (1, .int x1)]) (st' := [.int x1]) rfl ?_
      refine PC.tsw rfl (fun i off t ho ht hx => ?_) (fun t ht hx => ?_)
      · match i, ho, hx with
        | 0, ho, hx =>
          obtain rfl : (31 : Int) = off := Option.some.inj ho
          obtain rfl : 48 = t := Option.some.inj ht
          have h := h.1 (by simpa using hx)
          refine PC.pr (k := 1) (pc' := 49) (lv' := [(2, .int r1), (0, .ref a0), (1, .int x1)]) (st' := [.ref a0]) rfl ?_
          refine (PC.callI (j := 91) (args := [.ref a0]) (rest := []) (M := cM91) (ty := .int) rfl rfl rfl rfl rfl rfl (by decide) rfl rfl (by decide) ?_).weak
          refine PC.imp h (fun v2 κ2 h r2 hv => ?_)
          have h := h r2 hv
          exact PC.retI rfl h
        | 1, ho, hx =>
          obtain rfl : (36 : Int) = off := Option.some.inj ho
          obtain rfl : 53 = t := Option.some.inj ht
          have h := h.2.1 (by simpa using hx)
          refine PC.pr (k := 1) (pc' := 54) (lv' := [(2, .int r1), (0, .ref a0), (1, .int x1)]) (st' := [.ref a0]) rfl ?_
          refine PC.gR (ci := 0) (j := 5) rfl rfl (by decide) ?_
          refine (PC.callI (j := 58) (args := [.ref (rf a0 5)]) (rest := []) (M := cM58) (ty := .int) rfl rfl rfl rfl rfl rfl (by decide) rfl rfl (by decide) ?_).weak
          refine PC.imp h (fun v3 κ3 h r3 hv => ?_)
          have h := h r3 hv
          exact PC.retI rfl h
        | 2, ho, hx =>
          obtain rfl : (44 : Int) = off := Option.some.inj ho
          obtain rfl : 61 = t := Option.some.inj ht
          have h := h.2.2.1 (by simpa using hx)
          refine PC.pr (k := 1) (pc' := 62) (lv' := [(2, .int r1), (0, .ref a0), (1, .int x1)]) (st' := [.int r1]) rfl ?_
          exact PC.retI rfl h
        | 3, ho, hx =>
          obtain rfl : (46 : Int) = off := Option.some.inj ho
          obtain rfl : 63 = t := Option.some.inj ht
          have h := h.2.2.2.1 (by simpa using hx)
          refine PC.pr (k := 1) (pc' := 64) (lv' := [(2, .int r1), (0, .ref a0), (1, .int x1)]) (st' := [.ref a0]) rfl ?_
          refine PC.gR (ci := 0) (j := 5) rfl rfl (by decide) ?_
          refine (PC.callI (j := 80) (args := [.ref (rf a0 5)]) (rest := []) (M := cM80) (ty := .int) rfl rfl rfl rfl rfl rfl (by decide) rfl rfl (by decide) ?_).weak
          refine PC.imp h (fun v4 κ4 h r4 hv => ?_)
          have h := h r4 hv
          exact PC.retI rfl h
        | i + 4, ho, hx => cases ho
      · obtain rfl : 71 = t := Option.some.inj ht
        have h := h.2.2.2.2 hx
        refine PC.pr (k := 1) (pc' := 72) (lv' := [(2, .int r1), (0, .ref a0), (1, .int x1)]) (st' := [.ref a0]) rfl ?_
        refine PC.gR (ci := 0) (j := 5) rfl rfl (by decide) ?_
        refine (PC.callI (j := 92) (args := [.ref (rf a0 5)]) (rest := []) (M := cM92) (ty := .int) rfl rfl rfl rfl rfl rfl (by decide) rfl rfl (by decide) ?_).weak
        refine PC.imp h (fun v5 κ5 h r5 hv => ?_)
        have h := h r5 hv
        exact PC.retI rfl h
    · have h := h.2 (cmp_le.2.mp c)
      refine PC.pr (k := 1) (pc' := 10) (lv' := [(0, .ref a0), (1, .int x1)]) (st' := [.int (-1)]) rfl ?_
      exact PC.retI rfl h

/-- DoorPaints.rehearse()I -/
theorem t_87_0 {xl : List Int32} {n : Nat} {ι : IS} {Q : Option Value → IS → Prop} {a0 : Nat} (h : PC xl n 52 0 [(0, .ref (rf a0 5)), (1, .ref (rf (rf a0 2) 0))] [] ι (fun _ κ1 => PC xl n 88 0 [(0, .ref a0), (1, .int 0), (2, .int (κ1 (rf a0 2) 2))] [] κ1 (fun v2 κ2 => ∀ r2, v2 = some (.int r2) → Q (some (.int r2)) κ2))) : PC xl (n + 1) 87 0 [(0, .ref a0)] [] ι Q := by
  refine PC.pr1 (k := 0) (pc' := 1) (lv' := [(0, .ref a0)]) (st' := [.ref a0]) rfl ?_
  refine PC.gR (ci := 0) (j := 5) rfl rfl (by decide) ?_
  refine PC.pr (k := 1) (pc' := 5) (lv' := [(0, .ref a0)]) (st' := [.ref a0, .ref (rf a0 5)]) rfl ?_
  refine PC.gR (ci := 0) (j := 2) rfl rfl (by decide) ?_
  refine PC.gR (ci := 2) (j := 0) rfl rfl (by decide) ?_
  refine (PC.callV (j := 52) (args := [.ref (rf a0 5), .ref (rf (rf a0 2) 0)]) (rest := []) (M := cM52) rfl rfl rfl rfl rfl rfl (by decide) rfl rfl ?_).weak
  refine PC.imp h (fun _ κ1 h => ?_)
  refine PC.pr (k := 1) (pc' := 15) (lv' := [(0, .ref a0)]) (st' := [.ref a0]) rfl ?_
  refine PC.pr (k := 1) (pc' := 16) (lv' := [(0, .ref a0)]) (st' := [.int 0, .ref a0]) rfl ?_
  refine PC.pr (k := 1) (pc' := 17) (lv' := [(0, .ref a0)]) (st' := [.ref a0, .int 0, .ref a0]) rfl ?_
  refine PC.gR (ci := 0) (j := 2) rfl rfl (by decide) ?_
  refine PC.gI (ci := 2) (j := 2) rfl rfl (by decide) ?_
  refine (PC.callI (j := 88) (args := [.ref a0, .int 0, .int (κ1 (rf a0 2) 2)]) (rest := []) (M := cM88) (ty := .int) rfl rfl rfl rfl rfl rfl (by decide) rfl rfl (by decide) ?_).weak
  refine PC.imp h (fun v2 κ2 h r2 hv => ?_)
  have h := h r2 hv
  exact PC.retI rfl h

/-- DoorPaints.actInTrial(II)I -/
theorem t_88_0 {xl : List Int32} {n : Nat} {ι : IS} {Q : Option Value → IS → Prop} {a0 : Nat} {x1 : Int32} {x2 : Int32} (h : PC xl n 88 6 [(0, .ref a0), (1, .int x1), (2, .int x2), (3, .int (-4)), (4, .int x1)] [] ι Q) : PC xl (n + 1) 88 0 [(0, .ref a0), (1, .int x1), (2, .int x2)] [] ι Q := by
  refine PC.pr1 (k := 0) (pc' := 2) (lv' := [(0, .ref a0), (1, .int x1), (2, .int x2)]) (st' := [.int (-4)]) rfl ?_
  refine PC.pr (k := 1) (pc' := 3) (lv' := [(3, .int (-4)), (0, .ref a0), (1, .int x1), (2, .int x2)]) (st' := []) rfl ?_
  refine PC.pr (k := 1) (pc' := 4) (lv' := [(3, .int (-4)), (0, .ref a0), (1, .int x1), (2, .int x2)]) (st' := [.int x1]) rfl ?_
  refine PC.pr (k := 1) (pc' := 6) (lv' := [(4, .int x1), (3, .int (-4)), (0, .ref a0), (1, .int x1), (2, .int x2)]) (st' := []) rfl ?_
  exact PC.lv (lvE.cons rfl (lvE.cons rfl (lvE.cons rfl (lvE.cons rfl (lvE.cons rfl (lvE.nil)))))) h
theorem t_88_6 {xl : List Int32} {n : Nat} {ι : IS} {Q : Option Value → IS → Prop} {a0 : Nat} {x1 : Int32} {x2 : Int32} {x3 : Int32} {x4 : Int32} (h : ((¬ x4 < x2 → Q (some (.int x3)) ι) ∧ (x4 < x2 → ((¬ x4 < (ι (rf a0 2) 2) → Q (some (.int x3)) ι) ∧ (x4 < (ι (rf a0 2) 2) → (0 ≤ x4.toInt → x4.toInt < ln (rf (rf a0 2) 1) → PC xl n 89 0 [(0, .ref (rf a0 5)), (1, .int (ι (rf (rf a0 2) 1) x4.toNatClampNeg))] [] ι (fun v1 κ1 => ∀ r1, v1 = some (.int r1) → ((¬ r1 = 0 → PC xl n 88 6 [(0, .ref a0), (1, .int x1), (2, .int x2), (3, .int x3), (4, .int (x4 + 1))] [] κ1 Q) ∧ (r1 = 0 → ((¬ x3 = (-4) → PC xl n 88 6 [(0, .ref a0), (1, .int x1), (2, .int x2), (3, .int x3), (4, .int (x4 + 1))] [] κ1 Q) ∧ (x3 = (-4) → PC xl n 88 6 [(0, .ref a0), (1, .int x1), (2, .int x2), (3, .int x4), (4, .int (x4 + 1))] [] κ1 Q))))))))))) : PC xl (n + 1) 88 6 [(0, .ref a0), (1, .int x1), (2, .int x2), (3, .int x3), (4, .int x4)] [] ι Q := by
  refine PC.pr1 (k := 0) (pc' := 8) (lv' := [(0, .ref a0), (1, .int x1), (2, .int x2), (3, .int x3), (4, .int x4)]) (st' := [.int x4]) rfl ?_
  refine PC.pr (k := 1) (pc' := 9) (lv' := [(0, .ref a0), (1, .int x1), (2, .int x2), (3, .int x3), (4, .int x4)]) (st' := [.int x2, .int x4]) rfl ?_
  refine PC.if2 (t := 59) rfl rfl (fun c => ?_) (fun c => ?_)
  · have h := h.1 (cmp_ge.1.mp c)
    refine PC.pr (k := 1) (pc' := 60) (lv' := [(0, .ref a0), (1, .int x1), (2, .int x2), (3, .int x3), (4, .int x4)]) (st' := [.int x3]) rfl ?_
    exact PC.retI rfl h
  · have h := h.2 (cmp_ge.2.mp c)
    refine PC.pr (k := 1) (pc' := 14) (lv' := [(0, .ref a0), (1, .int x1), (2, .int x2), (3, .int x3), (4, .int x4)]) (st' := [.int x4]) rfl ?_
    refine PC.pr (k := 1) (pc' := 15) (lv' := [(0, .ref a0), (1, .int x1), (2, .int x2), (3, .int x3), (4, .int x4)]) (st' := [.ref a0, .int x4]) rfl ?_
    refine PC.gR (ci := 0) (j := 2) rfl rfl (by decide) ?_
    refine PC.gI (ci := 2) (j := 2) rfl rfl (by decide) ?_
    refine PC.if2 (t := 59) rfl rfl (fun c => ?_) (fun c => ?_)
    · have h := h.1 (cmp_ge.1.mp c)
      refine PC.pr (k := 1) (pc' := 60) (lv' := [(0, .ref a0), (1, .int x1), (2, .int x2), (3, .int x3), (4, .int x4)]) (st' := [.int x3]) rfl ?_
      exact PC.retI rfl h
    · have h := h.2 (cmp_ge.2.mp c)
      refine PC.pr (k := 1) (pc' := 25) (lv' := [(0, .ref a0), (1, .int x1), (2, .int x2), (3, .int x3), (4, .int x4)]) (st' := [.ref a0]) rfl ?_
      refine PC.gR (ci := 0) (j := 5) rfl rfl (by decide) ?_
      refine PC.pr (k := 1) (pc' := 29) (lv' := [(0, .ref a0), (1, .int x1), (2, .int x2), (3, .int x3), (4, .int x4)]) (st' := [.ref a0, .ref (rf a0 5)]) rfl ?_
      refine PC.gR (ci := 0) (j := 2) rfl rfl (by decide) ?_
      refine PC.gR (ci := 2) (j := 1) rfl rfl (by decide) ?_
      refine PC.pr (k := 1) (pc' := 37) (lv' := [(0, .ref a0), (1, .int x1), (2, .int x2), (3, .int x3), (4, .int x4)]) (st' := [.int x4, .ref (rf (rf a0 2) 1), .ref (rf a0 5)]) rfl ?_
      refine PC.rd rfl (rf_lt _ _) (fun c1 c2 => ?_)
      have h := h c1 c2
      refine (PC.callI (j := 89) (args := [.ref (rf a0 5), .int (ι (rf (rf a0 2) 1) x4.toNatClampNeg)]) (rest := []) (M := cM89) (ty := .boolean) rfl rfl rfl rfl rfl rfl (by decide) rfl rfl (by decide) ?_).weak
      refine PC.imp h (fun v1 κ1 h r1 hv => ?_)
      have h := h r1 hv
      refine PC.if1 (t := 53) rfl rfl (fun c => ?_) (fun c => ?_)
      · have h := h.1 (cmp_ne.1.mp c)
        refine PC.pr (k := 1) (pc' := 56) (lv' := [(4, .int (x4 + 1)), (0, .ref a0), (1, .int x1), (2, .int x2), (3, .int x3)]) (st' := []) rfl ?_
        refine PC.pr (k := 1) (pc' := 6) (lv' := [(4, .int (x4 + 1)), (0, .ref a0), (1, .int x1), (2, .int x2), (3, .int x3)]) (st' := []) rfl ?_
        exact PC.lv (lvE.cons rfl (lvE.cons rfl (lvE.cons rfl (lvE.cons rfl (lvE.cons rfl (lvE.nil)))))) h
      · have h := h.2 (cmp_ne.2.mp c)
        refine PC.pr (k := 1) (pc' := 45) (lv' := [(0, .ref a0), (1, .int x1), (2, .int x2), (3, .int x3), (4, .int x4)]) (st' := [.int x3]) rfl ?_
        refine PC.pr (k := 1) (pc' := 47) (lv' := [(0, .ref a0), (1, .int x1), (2, .int x2), (3, .int x3), (4, .int x4)]) (st' := [.int (-4), .int x3]) rfl ?_
        refine PC.if2 (t := 53) rfl rfl (fun c => ?_) (fun c => ?_)
        · have h := h.1 (cmp_ne.1.mp c)
          refine PC.pr (k := 1) (pc' := 56) (lv' := [(4, .int (x4 + 1)), (0, .ref a0), (1, .int x1), (2, .int x2), (3, .int x3)]) (st' := []) rfl ?_
          refine PC.pr (k := 1) (pc' := 6) (lv' := [(4, .int (x4 + 1)), (0, .ref a0), (1, .int x1), (2, .int x2), (3, .int x3)]) (st' := []) rfl ?_
          exact PC.lv (lvE.cons rfl (lvE.cons rfl (lvE.cons rfl (lvE.cons rfl (lvE.cons rfl (lvE.nil)))))) h
        · have h := h.2 (cmp_ne.2.mp c)
          refine PC.pr (k := 1) (pc' := 52) (lv' := [(0, .ref a0), (1, .int x1), (2, .int x2), (3, .int x3), (4, .int x4)]) (st' := [.int x4]) rfl ?_
          refine PC.pr (k := 1) (pc' := 53) (lv' := [(3, .int x4), (0, .ref a0), (1, .int x1), (2, .int x2), (4, .int x4)]) (st' := []) rfl ?_
          refine PC.pr (k := 1) (pc' := 56) (lv' := [(4, .int (x4 + 1)), (3, .int x4), (0, .ref a0), (1, .int x1), (2, .int x2)]) (st' := []) rfl ?_
          refine PC.pr (k := 1) (pc' := 6) (lv' := [(4, .int (x4 + 1)), (3, .int x4), (0, .ref a0), (1, .int x1), (2, .int x2)]) (st' := []) rfl ?_
          exact PC.lv (lvE.cons rfl (lvE.cons rfl (lvE.cons rfl (lvE.cons rfl (lvE.cons rfl (lvE.nil)))))) h

/-- DoorPaints.ahead(I)I -/
theorem t_93_0 {xl : List Int32} {n : Nat} {ι : IS} {Q : Option Value → IS → Prop} {a0 : Nat} {x1 : Int32} (h : PC xl n 50 0 [(0, .ref (rf (rf a0 2) 0)), (1, .int x1)] [] ι (fun v1 κ1 => ∀ r1, v1 = some (.int r1) → ((¬ r1 = 0 → PC xl n 87 0 [(0, .ref a0)] [] κ1 (fun v2 κ2 => ∀ r2, v2 = some (.int r2) → (0 ≤ x1.toInt → x1.toInt < lr (rf (rf a0 5) 1) → PC xl n 60 0 [(0, .ref (re (rf (rf a0 5) 1) x1.toNatClampNeg))] [] κ2 (fun v3 κ3 => ∀ r3, v3 = some (.int r3) → Q (some (.int r3)) κ3)))) ∧ (r1 = 0 → Q (some (.int (-1))) κ1)))) : PC xl (n + 1) 93 0 [(0, .ref a0), (1, .int x1)] [] ι Q := by
  refine PC.pr1 (k := 0) (pc' := 1) (lv' := [(0, .ref a0), (1, .int x1)]) (st' := [.ref a0]) rfl ?_
  refine PC.gR (ci := 0) (j := 2) rfl rfl (by decide) ?_
  refine PC.gR (ci := 2) (j := 0) rfl rfl (by decide) ?_
  refine PC.pr (k := 1) (pc' := 8) (lv' := [(0, .ref a0), (1, .int x1)]) (st' := [.int x1, .ref (rf (rf a0 2) 0)]) rfl ?_
  refine (PC.callI (j := 50) (args := [.ref (rf (rf a0 2) 0), .int x1]) (rest := []) (M := cM50) (ty := .boolean) rfl rfl rfl rfl rfl rfl (by decide) rfl rfl (by decide) ?_).weak
  refine PC.imp h (fun v1 κ1 h r1 hv => ?_)
  have h := h r1 hv
  refine PC.if1 (t := 16) rfl rfl (fun c => ?_) (fun c => ?_)
  · have h := h.1 (cmp_ne.1.mp c)
    refine PC.pr (k := 1) (pc' := 17) (lv' := [(0, .ref a0), (1, .int x1)]) (st' := [.ref a0]) rfl ?_
    refine (PC.callI (j := 87) (args := [.ref a0]) (rest := []) (M := cM87) (ty := .int) rfl rfl rfl rfl rfl rfl (by decide) rfl rfl (by decide) ?_).weak
    refine PC.imp h (fun v2 κ2 h r2 hv => ?_)
    have h := h r2 hv
    refine PC.pr (k := 1) (pc' := 21) (lv' := [(0, .ref a0), (1, .int x1)]) (st' := []) rfl ?_
    refine PC.pr (k := 1) (pc' := 22) (lv' := [(0, .ref a0), (1, .int x1)]) (st' := [.ref a0]) rfl ?_
    refine PC.gR (ci := 0) (j := 5) rfl rfl (by decide) ?_
    refine PC.gR (ci := 3) (j := 1) rfl rfl (by decide) ?_
    refine PC.pr (k := 1) (pc' := 29) (lv' := [(0, .ref a0), (1, .int x1)]) (st' := [.int x1, .ref (rf (rf a0 5) 1)]) rfl ?_
    refine PC.ra rfl (fun c1 c2 => ?_)
    have h := h c1 c2
    refine (PC.callI (j := 60) (args := [.ref (re (rf (rf a0 5) 1) x1.toNatClampNeg)]) (rest := []) (M := cM60) (ty := .int) rfl rfl rfl rfl rfl rfl (by decide) rfl rfl (by decide) ?_).weak
    refine PC.imp h (fun v3 κ3 h r3 hv => ?_)
    have h := h r3 hv
    exact PC.retI rfl h
  · have h := h.2 (cmp_ne.2.mp c)
    refine PC.pr (k := 1) (pc' := 15) (lv' := [(0, .ref a0), (1, .int x1)]) (st' := [.int (-1)]) rfl ?_
    exact PC.retI rfl h

/-- DoorPaints.clears(I)I -/
theorem t_94_0 {xl : List Int32} {n : Nat} {ι : IS} {Q : Option Value → IS → Prop} {a0 : Nat} {x1 : Int32} (h : PC xl n 50 0 [(0, .ref (rf (rf a0 2) 0)), (1, .int x1)] [] ι (fun v1 κ1 => ∀ r1, v1 = some (.int r1) → ((¬ r1 = 0 → PC xl n 94 20 [(0, .ref a0), (1, .int x1), (2, .int 0), (3, .int 0)] [] κ1 Q) ∧ (r1 = 0 → Q (some (.int (-1))) κ1)))) : PC xl (n + 1) 94 0 [(0, .ref a0), (1, .int x1)] [] ι Q := by
  refine PC.pr1 (k := 0) (pc' := 1) (lv' := [(0, .ref a0), (1, .int x1)]) (st' := [.ref a0]) rfl ?_
  refine PC.gR (ci := 0) (j := 2) rfl rfl (by decide) ?_
  refine PC.gR (ci := 2) (j := 0) rfl rfl (by decide) ?_
  refine PC.pr (k := 1) (pc' := 8) (lv' := [(0, .ref a0), (1, .int x1)]) (st' := [.int x1, .ref (rf (rf a0 2) 0)]) rfl ?_
  refine (PC.callI (j := 50) (args := [.ref (rf (rf a0 2) 0), .int x1]) (rest := []) (M := cM50) (ty := .boolean) rfl rfl rfl rfl rfl rfl (by decide) rfl rfl (by decide) ?_).weak
  refine PC.imp h (fun v1 κ1 h r1 hv => ?_)
  have h := h r1 hv
  refine PC.if1 (t := 16) rfl rfl (fun c => ?_) (fun c => ?_)
  · have h := h.1 (cmp_ne.1.mp c)
    refine PC.pr (k := 1) (pc' := 17) (lv' := [(0, .ref a0), (1, .int x1)]) (st' := [.int 0]) rfl ?_
    refine PC.pr (k := 1) (pc' := 18) (lv' := [(2, .int 0), (0, .ref a0), (1, .int x1)]) (st' := []) rfl ?_
    refine PC.pr (k := 1) (pc' := 19) (lv' := [(2, .int 0), (0, .ref a0), (1, .int x1)]) (st' := [.int 0]) rfl ?_
    refine PC.pr (k := 1) (pc' := 20) (lv' := [(3, .int 0), (2, .int 0), (0, .ref a0), (1, .int x1)]) (st' := []) rfl ?_
    exact PC.lv (lvE.cons rfl (lvE.cons rfl (lvE.cons rfl (lvE.cons rfl (lvE.nil))))) h
  · have h := h.2 (cmp_ne.2.mp c)
    refine PC.pr (k := 1) (pc' := 15) (lv' := [(0, .ref a0), (1, .int x1)]) (st' := [.int (-1)]) rfl ?_
    exact PC.retI rfl h
theorem t_94_20 {xl : List Int32} {n : Nat} {ι : IS} {Q : Option Value → IS → Prop} {a0 : Nat} {x1 : Int32} {x2 : Int32} {x3 : Int32} (h : ((¬ x3 < (ι (rf (rf a0 2) 0) 2) → Q (some (.int x2)) ι) ∧ (x3 < (ι (rf (rf a0 2) 0) 2) → PC xl n 52 0 [(0, .ref (rf a0 5)), (1, .ref (rf (rf a0 2) 0))] [] ι (fun _ κ1 => PC xl n 70 0 [(0, .ref (rf a0 5)), (1, .int x3), (2, .int x1)] [] κ1 (fun v2 κ2 => ∀ r2, v2 = some (.int r2) → PC xl n 90 0 [(0, .int r2)] [] κ2 (fun v3 κ3 => ∀ r3, v3 = some (.int r3) → ((¬ r3 = 0 → PC xl n 94 20 [(0, .ref a0), (1, .int x1), (2, .int x2), (3, .int (x3 + 1))] [] κ3 Q) ∧ (r3 = 0 → (0 ≤ x1.toInt → x1.toInt < lr (rf (rf a0 5) 1) → PC xl n 59 0 [(0, .ref (re (rf (rf a0 5) 1) x1.toNatClampNeg))] [] κ3 (fun v4 κ4 => ∀ r4, v4 = some (.int r4) → ((¬ r4 = 0 → PC xl n 94 20 [(0, .ref a0), (1, .int x1), (2, .int x2), (3, .int (x3 + 1))] [] κ4 Q) ∧ (r4 = 0 → PC xl n 94 20 [(0, .ref a0), (1, .int x1), (2, .int (x2 ||| (1 <<< (x3 &&& 31)))), (3, .int (x3 + 1))] [] κ4 Q)))))))))))) : PC xl (n + 1) 94 20 [(0, .ref a0), (1, .int x1), (2, .int x2), (3, .int x3)] [] ι Q := by
  refine PC.pr1 (k := 0) (pc' := 21) (lv' := [(0, .ref a0), (1, .int x1), (2, .int x2), (3, .int x3)]) (st' := [.int x3]) rfl ?_
  refine PC.pr (k := 1) (pc' := 22) (lv' := [(0, .ref a0), (1, .int x1), (2, .int x2), (3, .int x3)]) (st' := [.ref a0, .int x3]) rfl ?_
  refine PC.gR (ci := 0) (j := 2) rfl rfl (by decide) ?_
  refine PC.gR (ci := 2) (j := 0) rfl rfl (by decide) ?_
  refine PC.gI (ci := 3) (j := 2) rfl rfl (by decide) ?_
  refine PC.if2 (t := 90) rfl rfl (fun c => ?_) (fun c => ?_)
  · have h := h.1 (cmp_ge.1.mp c)
    refine PC.pr (k := 1) (pc' := 91) (lv' := [(0, .ref a0), (1, .int x1), (2, .int x2), (3, .int x3)]) (st' := [.int x2]) rfl ?_
    exact PC.retI rfl h
  · have h := h.2 (cmp_ge.2.mp c)
    refine PC.pr (k := 1) (pc' := 35) (lv' := [(0, .ref a0), (1, .int x1), (2, .int x2), (3, .int x3)]) (st' := [.ref a0]) rfl ?_
    refine PC.gR (ci := 0) (j := 5) rfl rfl (by decide) ?_
    refine PC.pr (k := 1) (pc' := 39) (lv' := [(0, .ref a0), (1, .int x1), (2, .int x2), (3, .int x3)]) (st' := [.ref a0, .ref (rf a0 5)]) rfl ?_
    refine PC.gR (ci := 0) (j := 2) rfl rfl (by decide) ?_
    refine PC.gR (ci := 2) (j := 0) rfl rfl (by decide) ?_
    refine (PC.callV (j := 52) (args := [.ref (rf a0 5), .ref (rf (rf a0 2) 0)]) (rest := []) (M := cM52) rfl rfl rfl rfl rfl rfl (by decide) rfl rfl ?_).weak
    refine PC.imp h (fun _ κ1 h => ?_)
    refine PC.pr (k := 1) (pc' := 49) (lv' := [(0, .ref a0), (1, .int x1), (2, .int x2), (3, .int x3)]) (st' := [.ref a0]) rfl ?_
    refine PC.gR (ci := 0) (j := 5) rfl rfl (by decide) ?_
    refine PC.pr (k := 1) (pc' := 53) (lv' := [(0, .ref a0), (1, .int x1), (2, .int x2), (3, .int x3)]) (st' := [.int x3, .ref (rf a0 5)]) rfl ?_
    refine PC.pr (k := 1) (pc' := 54) (lv' := [(0, .ref a0), (1, .int x1), (2, .int x2), (3, .int x3)]) (st' := [.int x1, .int x3, .ref (rf a0 5)]) rfl ?_
    refine (PC.callI (j := 70) (args := [.ref (rf a0 5), .int x3, .int x1]) (rest := []) (M := cM70) (ty := .int) rfl rfl rfl rfl rfl rfl (by decide) rfl rfl (by decide) ?_).weak
    refine PC.imp h (fun v2 κ2 h r2 hv => ?_)
    have h := h r2 hv
    refine (PC.callI (j := 90) (args := [.int r2]) (rest := []) (M := cM90) (ty := .boolean) rfl rfl rfl rfl rfl rfl (by decide) rfl rfl (by decide) ?_).weak
    refine PC.imp h (fun v3 κ3 h r3 hv => ?_)
    have h := h r3 hv
    refine PC.if1 (t := 84) rfl rfl (fun c => ?_) (fun c => ?_)
    · have h := h.1 (cmp_ne.1.mp c)
      refine PC.pr (k := 1) (pc' := 87) (lv' := [(3, .int (x3 + 1)), (0, .ref a0), (1, .int x1), (2, .int x2)]) (st' := []) rfl ?_
      refine PC.pr (k := 1) (pc' := 20) (lv' := [(3, .int (x3 + 1)), (0, .ref a0), (1, .int x1), (2, .int x2)]) (st' := []) rfl ?_
      exact PC.lv (lvE.cons rfl (lvE.cons rfl (lvE.cons rfl (lvE.cons rfl (lvE.nil))))) h
    · have h := h.2 (cmp_ne.2.mp c)
      refine PC.pr (k := 1) (pc' := 64) (lv' := [(0, .ref a0), (1, .int x1), (2, .int x2), (3, .int x3)]) (st' := [.ref a0]) rfl ?_
      refine PC.gR (ci := 0) (j := 5) rfl rfl (by decide) ?_
      refine PC.gR (ci := 3) (j := 1) rfl rfl (by decide) ?_
      refine PC.pr (k := 1) (pc' := 71) (lv' := [(0, .ref a0), (1, .int x1), (2, .int x2), (3, .int x3)]) (st' := [.int x1, .ref (rf (rf a0 5) 1)]) rfl ?_
      refine PC.ra rfl (fun c1 c2 => ?_)
      have h := h c1 c2
      refine (PC.callI (j := 59) (args := [.ref (re (rf (rf a0 5) 1) x1.toNatClampNeg)]) (rest := []) (M := cM59) (ty := .boolean) rfl rfl rfl rfl rfl rfl (by decide) rfl rfl (by decide) ?_).weak
      refine PC.imp h (fun v4 κ4 h r4 hv => ?_)
      have h := h r4 hv
      refine PC.if1 (t := 84) rfl rfl (fun c => ?_) (fun c => ?_)
      · have h := h.1 (cmp_ne.1.mp c)
        refine PC.pr (k := 1) (pc' := 87) (lv' := [(3, .int (x3 + 1)), (0, .ref a0), (1, .int x1), (2, .int x2)]) (st' := []) rfl ?_
        refine PC.pr (k := 1) (pc' := 20) (lv' := [(3, .int (x3 + 1)), (0, .ref a0), (1, .int x1), (2, .int x2)]) (st' := []) rfl ?_
        exact PC.lv (lvE.cons rfl (lvE.cons rfl (lvE.cons rfl (lvE.cons rfl (lvE.nil))))) h
      · have h := h.2 (cmp_ne.2.mp c)
        refine PC.pr (k := 1) (pc' := 79) (lv' := [(0, .ref a0), (1, .int x1), (2, .int x2), (3, .int x3)]) (st' := [.int x2]) rfl ?_
        refine PC.pr (k := 1) (pc' := 80) (lv' := [(0, .ref a0), (1, .int x1), (2, .int x2), (3, .int x3)]) (st' := [.int 1, .int x2]) rfl ?_
        refine PC.pr (k := 1) (pc' := 81) (lv' := [(0, .ref a0), (1, .int x1), (2, .int x2), (3, .int x3)]) (st' := [.int x3, .int 1, .int x2]) rfl ?_
        refine PC.pr (k := 1) (pc' := 82) (lv' := [(0, .ref a0), (1, .int x1), (2, .int x2), (3, .int x3)]) (st' := [.int (1 <<< (x3 &&& 31)), .int x2]) rfl ?_
        refine PC.pr (k := 1) (pc' := 83) (lv' := [(0, .ref a0), (1, .int x1), (2, .int x2), (3, .int x3)]) (st' := [.int (x2 ||| (1 <<< (x3 &&& 31)))]) rfl ?_
        refine PC.pr (k := 1) (pc' := 84) (lv' := [(2, .int (x2 ||| (1 <<< (x3 &&& 31)))), (0, .ref a0), (1, .int x1), (3, .int x3)]) (st' := []) rfl ?_
        refine PC.pr (k := 1) (pc' := 87) (lv' := [(3, .int (x3 + 1)), (2, .int (x2 ||| (1 <<< (x3 &&& 31)))), (0, .ref a0), (1, .int x1)]) (st' := []) rfl ?_
        refine PC.pr (k := 1) (pc' := 20) (lv' := [(3, .int (x3 + 1)), (2, .int (x2 ||| (1 <<< (x3 &&& 31)))), (0, .ref a0), (1, .int x1)]) (st' := []) rfl ?_
        exact PC.lv (lvE.cons rfl (lvE.cons rfl (lvE.cons rfl (lvE.cons rfl (lvE.nil))))) h

/-- DoorPaints.best(II)I -/
theorem t_95_0 {xl : List Int32} {n : Nat} {ι : IS} {Q : Option Value → IS → Prop} {a0 : Nat} {x1 : Int32} {x2 : Int32} (h : ((x1 < 0 → Q (some (.int (-1))) ι) ∧ (¬ x1 < 0 → ((3 < x1 → Q (some (.int (-1))) ι) ∧ (¬ 3 < x1 → ((x2 < 0 → Q (some (.int (-1))) ι) ∧ (¬ x2 < 0 → ((¬ 1 < x2 → PC xl n 95 26 [(0, .ref a0), (1, .int x1), (2, .int x2)] [] ι Q) ∧ (1 < x2 → ((¬ x2 < 10 → PC xl n 95 26 [(0, .ref a0), (1, .int x1), (2, .int x2)] [] ι Q) ∧ (x2 < 10 → Q (some (.int (-1))) ι))))))))))) : PC xl (n + 1) 95 0 [(0, .ref a0), (1, .int x1), (2, .int x2)] [] ι Q := by
  refine PC.pr1 (k := 0) (pc' := 1) (lv' := [(0, .ref a0), (1, .int x1), (2, .int x2)]) (st' := [.int x1]) rfl ?_
  refine PC.if1 (t := 24) rfl rfl (fun c => ?_) (fun c => ?_)
  · have h := h.1 (cmp_lt.1.mp c)
    refine PC.pr (k := 1) (pc' := 25) (lv' := [(0, .ref a0), (1, .int x1), (2, .int x2)]) (st' := [.int (-1)]) rfl ?_
    exact PC.retI rfl h
  · have h := h.2 (cmp_lt.2.mp c)
    refine PC.pr (k := 1) (pc' := 5) (lv' := [(0, .ref a0), (1, .int x1), (2, .int x2)]) (st' := [.int x1]) rfl ?_
    refine PC.pr (k := 1) (pc' := 6) (lv' := [(0, .ref a0), (1, .int x1), (2, .int x2)]) (st' := [.int 3, .int x1]) rfl ?_
    refine PC.if2 (t := 24) rfl rfl (fun c => ?_) (fun c => ?_)
    · have h := h.1 (cmp_gt.1.mp c)
      refine PC.pr (k := 1) (pc' := 25) (lv' := [(0, .ref a0), (1, .int x1), (2, .int x2)]) (st' := [.int (-1)]) rfl ?_
      exact PC.retI rfl h
    · have h := h.2 (cmp_gt.2.mp c)
      refine PC.pr (k := 1) (pc' := 10) (lv' := [(0, .ref a0), (1, .int x1), (2, .int x2)]) (st' := [.int x2]) rfl ?_
      refine PC.if1 (t := 24) rfl rfl (fun c => ?_) (fun c => ?_)
      · have h := h.1 (cmp_lt.1.mp c)
        refine PC.pr (k := 1) (pc' := 25) (lv' := [(0, .ref a0), (1, .int x1), (2, .int x2)]) (st' := [.int (-1)]) rfl ?_
        exact PC.retI rfl h
      · have h := h.2 (cmp_lt.2.mp c)
        refine PC.pr (k := 1) (pc' := 14) (lv' := [(0, .ref a0), (1, .int x1), (2, .int x2)]) (st' := [.int x2]) rfl ?_
        refine PC.pr (k := 1) (pc' := 15) (lv' := [(0, .ref a0), (1, .int x1), (2, .int x2)]) (st' := [.int 1, .int x2]) rfl ?_
        refine PC.if2 (t := 26) rfl rfl (fun c => ?_) (fun c => ?_)
        · have h := h.1 (cmp_le.1.mp c)
          exact h
        · have h := h.2 (cmp_le.2.mp c)
          refine PC.pr (k := 1) (pc' := 19) (lv' := [(0, .ref a0), (1, .int x1), (2, .int x2)]) (st' := [.int x2]) rfl ?_
          refine PC.pr (k := 1) (pc' := 21) (lv' := [(0, .ref a0), (1, .int x1), (2, .int x2)]) (st' := [.int 10, .int x2]) rfl ?_
          refine PC.if2 (t := 26) rfl rfl (fun c => ?_) (fun c => ?_)
          · have h := h.1 (cmp_ge.1.mp c)
            exact h
          · have h := h.2 (cmp_ge.2.mp c)
            refine PC.pr (k := 1) (pc' := 25) (lv' := [(0, .ref a0), (1, .int x1), (2, .int x2)]) (st' := [.int (-1)]) rfl ?_
            exact PC.retI rfl h
theorem t_95_26 {xl : List Int32} {n : Nat} {ι : IS} {Q : Option Value → IS → Prop} {a0 : Nat} {x1 : Int32} {x2 : Int32} (h : PC xl n 96 0 [(0, .ref (rf a0 6)), (1, .ref (rf (rf a0 2) 0)), (2, .int x1)] [] ι (fun _ κ1 => ((x2.toInt = 0 → Q (some (.int (κ1 (rf a0 6) 4))) κ1) ∧ (x2.toInt = 1 → Q (some (.int (κ1 (rf a0 6) 5))) κ1) ∧ ((¬ x2.toInt = 0 ∧ ¬ x2.toInt = 1) → PC xl n 106 0 [(0, .ref (rf a0 6)), (1, .int (x2 - 10))] [] κ1 (fun v2 κ2 => ∀ r2, v2 = some (.int r2) → Q (some (.int r2)) κ2))))) : PC xl (n + 1) 95 26 [(0, .ref a0), (1, .int x1), (2, .int x2)] [] ι Q := by
  refine PC.pr1 (k := 0) (pc' := 27) (lv' := [(0, .ref a0), (1, .int x1), (2, .int x2)]) (st' := [.ref a0]) rfl ?_
  refine PC.gR (ci := 0) (j := 6) rfl rfl (by decide) ?_
  refine PC.pr (k := 1) (pc' := 31) (lv' := [(0, .ref a0), (1, .int x1), (2, .int x2)]) (st' := [.ref a0, .ref (rf a0 6)]) rfl ?_
  refine PC.gR (ci := 0) (j := 2) rfl rfl (by decide) ?_
  refine PC.gR (ci := 2) (j := 0) rfl rfl (by decide) ?_
  refine PC.pr (k := 1) (pc' := 38) (lv' := [(0, .ref a0), (1, .int x1), (2, .int x2)]) (st' := [.int x1, .ref (rf (rf a0 2) 0), .ref (rf a0 6)]) rfl ?_
  refine (PC.callV (j := 96) (args := [.ref (rf a0 6), .ref (rf (rf a0 2) 0), .int x1]) (rest := []) (M := cM96) rfl rfl rfl rfl rfl rfl (by decide) rfl rfl ?_).weak
  refine PC.imp h (fun _ κ1 h => ?_)
  refine PC.pr (k := 1) (pc' := 42) (lv' := [(0, .ref a0), (1, .int x1), (2, .int x2)]) (st' := [.int x2]) rfl ?_
  refine PC.lsw rfl (fun o t ho ht => ?_)
  have ho : (if (0 : Int) = x2.toInt then (26 : Int) else (if (1 : Int) = x2.toInt then (34 : Int) else (42 : Int))) = o := ho
  by_cases e0 : (0 : Int) = x2.toInt
  · rw [if_pos e0] at ho
    subst ho
    obtain rfl : 68 = t := Option.some.inj ht
    have h := h.1 e0.symm
    refine PC.pr (k := 1) (pc' := 69) (lv' := [(0, .ref a0), (1, .int x1), (2, .int x2)]) (st' := [.ref a0]) rfl ?_
    refine PC.gR (ci := 0) (j := 6) rfl rfl (by decide) ?_
    refine PC.gI (ci := 7) (j := 4) rfl rfl (by decide) ?_
    exact PC.retI rfl h
  · rw [if_neg e0] at ho
    by_cases e1 : (1 : Int) = x2.toInt
    · rw [if_pos e1] at ho
      subst ho
      obtain rfl : 76 = t := Option.some.inj ht
      have h := h.2.1 e1.symm
      refine PC.pr (k := 1) (pc' := 77) (lv' := [(0, .ref a0), (1, .int x1), (2, .int x2)]) (st' := [.ref a0]) rfl ?_
      refine PC.gR (ci := 0) (j := 6) rfl rfl (by decide) ?_
      refine PC.gI (ci := 7) (j := 5) rfl rfl (by decide) ?_
      exact PC.retI rfl h
    · rw [if_neg e1] at ho
      subst ho
      obtain rfl : 84 = t := Option.some.inj ht
      have h := h.2.2 ⟨fun q => e0 q.symm, fun q => e1 q.symm⟩
      refine PC.pr (k := 1) (pc' := 85) (lv' := [(0, .ref a0), (1, .int x1), (2, .int x2)]) (st' := [.ref a0]) rfl ?_
      refine PC.gR (ci := 0) (j := 6) rfl rfl (by decide) ?_
      refine PC.pr (k := 1) (pc' := 89) (lv' := [(0, .ref a0), (1, .int x1), (2, .int x2)]) (st' := [.int x2, .ref (rf a0 6)]) rfl ?_
      refine PC.pr (k := 1) (pc' := 91) (lv' := [(0, .ref a0), (1, .int x1), (2, .int x2)]) (st' := [.int 10, .int x2, .ref (rf a0 6)]) rfl ?_
      refine PC.pr (k := 1) (pc' := 92) (lv' := [(0, .ref a0), (1, .int x1), (2, .int x2)]) (st' := [.int (x2 - 10), .ref (rf a0 6)]) rfl ?_
      refine (PC.callI (j := 106) (args := [.ref (rf a0 6), .int (x2 - 10)]) (rest := []) (M := cM106) (ty := .int) rfl rfl rfl rfl rfl rfl (by decide) rfl rfl (by decide) ?_).weak
      refine PC.imp h (fun v2 κ2 h r2 hv => ?_)
      have h := h r2 hv
      exact PC.retI rfl h

/-- DoorPaints$Search.forBest(LDoorPaints$Town;I)V -/
theorem t_96_0 {xl : List Int32} {n : Nat} {ι : IS} {Q : Option Value → IS → Prop} {a0 : Nat} {a1 : Nat} {x2 : Int32} (h : PC xl n 97 0 [(0, .ref a0), (1, .ref a1), (2, .int x2)] [] (up (up ι a0 6 1) a0 4 1073741824) (fun _ κ1 => PC xl n 58 0 [(0, .ref (rf a0 0))] [] κ1 (fun v2 κ2 => ∀ r2, v2 = some (.int r2) → PC xl n 99 0 [(0, .int r2)] [] κ2 (fun v3 κ3 => ∀ r3, v3 = some (.int r3) → PC xl n 100 0 [(0, .ref a0), (1, .int 0), (2, .int r3), (3, .int 0)] [] κ3 (fun _ κ4 => Q none κ4))))) : PC xl (n + 1) 96 0 [(0, .ref a0), (1, .ref a1), (2, .int x2)] [] ι Q := by
  refine PC.pr1 (k := 0) (pc' := 1) (lv' := [(0, .ref a0), (1, .ref a1), (2, .int x2)]) (st' := [.ref a0]) rfl ?_
  refine PC.pr (k := 1) (pc' := 2) (lv' := [(0, .ref a0), (1, .ref a1), (2, .int x2)]) (st' := [.int 1, .ref a0]) rfl ?_
  refine PC.pI (ci := 7) (j := 6) rfl rfl ?_
  refine PC.pr (k := 1) (pc' := 6) (lv' := [(0, .ref a0), (1, .ref a1), (2, .int x2)]) (st' := [.ref a0]) rfl ?_
  refine PC.pr (k := 1) (pc' := 8) (lv' := [(0, .ref a0), (1, .ref a1), (2, .int x2)]) (st' := [.int 1073741824, .ref a0]) rfl ?_
  refine PC.pI (ci := 7) (j := 4) rfl rfl ?_
  refine PC.pr (k := 1) (pc' := 12) (lv' := [(0, .ref a0), (1, .ref a1), (2, .int x2)]) (st' := [.ref a0]) rfl ?_
  refine PC.pr (k := 1) (pc' := 13) (lv' := [(0, .ref a0), (1, .ref a1), (2, .int x2)]) (st' := [.ref a1, .ref a0]) rfl ?_
  refine PC.pr (k := 1) (pc' := 14) (lv' := [(0, .ref a0), (1, .ref a1), (2, .int x2)]) (st' := [.int x2, .ref a1, .ref a0]) rfl ?_
  refine (PC.callV (j := 97) (args := [.ref a0, .ref a1, .int x2]) (rest := []) (M := cM97) rfl rfl rfl rfl rfl rfl (by decide) rfl rfl ?_).weak
  refine PC.imp h (fun _ κ1 h => ?_)
  refine PC.pr (k := 1) (pc' := 18) (lv' := [(0, .ref a0), (1, .ref a1), (2, .int x2)]) (st' := [.ref a0]) rfl ?_
  refine PC.pr (k := 1) (pc' := 19) (lv' := [(0, .ref a0), (1, .ref a1), (2, .int x2)]) (st' := [.int 0, .ref a0]) rfl ?_
  refine PC.pr (k := 1) (pc' := 20) (lv' := [(0, .ref a0), (1, .ref a1), (2, .int x2)]) (st' := [.ref a0, .int 0, .ref a0]) rfl ?_
  refine PC.gR (ci := 7) (j := 0) rfl rfl (by decide) ?_
  refine (PC.callI (j := 58) (args := [.ref (rf a0 0)]) (rest := [.int 0, .ref a0]) (M := cM58) (ty := .int) rfl rfl rfl rfl rfl rfl (by decide) rfl rfl (by decide) ?_).weak
  refine PC.imp h (fun v2 κ2 h r2 hv => ?_)
  have h := h r2 hv
  refine (PC.callI (j := 99) (args := [.int r2]) (rest := [.int 0, .ref a0]) (M := cM99) (ty := .int) rfl rfl rfl rfl rfl rfl (by decide) rfl rfl (by decide) ?_).weak
  refine PC.imp h (fun v3 κ3 h r3 hv => ?_)
  have h := h r3 hv
  refine PC.pr (k := 1) (pc' := 30) (lv' := [(0, .ref a0), (1, .ref a1), (2, .int x2)]) (st' := [.int 0, .int r3, .int 0, .ref a0]) rfl ?_
  refine (PC.callV (j := 100) (args := [.ref a0, .int 0, .int r3, .int 0]) (rest := []) (M := cM100) rfl rfl rfl rfl rfl rfl (by decide) rfl rfl ?_).weak
  refine PC.imp h (fun _ κ4 h => ?_)
  exact PC.retV rfl h

/-- DoorPaints$Search.begin(LDoorPaints$Town;I)V -/
theorem t_97_0 {xl : List Int32} {n : Nat} {ι : IS} {Q : Option Value → IS → Prop} {a0 : Nat} {a1 : Nat} {x2 : Int32} (h : PC xl n 52 0 [(0, .ref (rf a0 0)), (1, .ref a1)] [] ι (fun _ κ1 => PC xl n 98 0 [(0, .ref a1)] [] κ1 (fun v2 κ2 => ∀ r2, v2 = some (.int r2) → ((r2 = 0 → Q none (up (up κ2 a0 3 0) a0 5 1073741824)) ∧ (¬ r2 = 0 → Q none (up (up κ2 a0 3 x2) a0 5 1073741824)))))) : PC xl (n + 1) 97 0 [(0, .ref a0), (1, .ref a1), (2, .int x2)] [] ι Q := by
  refine PC.pr1 (k := 0) (pc' := 1) (lv' := [(0, .ref a0), (1, .ref a1), (2, .int x2)]) (st' := [.ref a0]) rfl ?_
  refine PC.gR (ci := 7) (j := 0) rfl rfl (by decide) ?_
  refine PC.pr (k := 1) (pc' := 5) (lv' := [(0, .ref a0), (1, .ref a1), (2, .int x2)]) (st' := [.ref a1, .ref (rf a0 0)]) rfl ?_
  refine (PC.callV (j := 52) (args := [.ref (rf a0 0), .ref a1]) (rest := []) (M := cM52) rfl rfl rfl rfl rfl rfl (by decide) rfl rfl ?_).weak
  refine PC.imp h (fun _ κ1 h => ?_)
  refine PC.pr (k := 1) (pc' := 9) (lv' := [(0, .ref a0), (1, .ref a1), (2, .int x2)]) (st' := [.ref a0]) rfl ?_
  refine PC.pr (k := 1) (pc' := 10) (lv' := [(0, .ref a0), (1, .ref a1), (2, .int x2)]) (st' := [.ref a1, .ref a0]) rfl ?_
  refine (PC.callI (j := 98) (args := [.ref a1]) (rest := [.ref a0]) (M := cM98) (ty := .boolean) rfl rfl rfl rfl rfl rfl (by decide) rfl rfl (by decide) ?_).weak
  refine PC.imp h (fun v2 κ2 h r2 hv => ?_)
  have h := h r2 hv
  refine PC.if1 (t := 20) rfl rfl (fun c => ?_) (fun c => ?_)
  · have h := h.1 (cmp_eq.1.mp c)
    refine PC.pr (k := 1) (pc' := 21) (lv' := [(0, .ref a0), (1, .ref a1), (2, .int x2)]) (st' := [.int 0, .ref a0]) rfl ?_
    refine PC.pI (ci := 7) (j := 3) rfl rfl ?_
    refine PC.pr (k := 1) (pc' := 25) (lv' := [(0, .ref a0), (1, .ref a1), (2, .int x2)]) (st' := [.ref a0]) rfl ?_
    refine PC.pr (k := 1) (pc' := 27) (lv' := [(0, .ref a0), (1, .ref a1), (2, .int x2)]) (st' := [.int 1073741824, .ref a0]) rfl ?_
    refine PC.pI (ci := 7) (j := 5) rfl rfl ?_
    exact PC.retV rfl h
  · have h := h.2 (cmp_eq.2.mp c)
    refine PC.pr (k := 1) (pc' := 17) (lv' := [(0, .ref a0), (1, .ref a1), (2, .int x2)]) (st' := [.int x2, .ref a0]) rfl ?_
    refine PC.pr (k := 1) (pc' := 21) (lv' := [(0, .ref a0), (1, .ref a1), (2, .int x2)]) (st' := [.int x2, .ref a0]) rfl ?_
    refine PC.pI (ci := 7) (j := 3) rfl rfl ?_
    refine PC.pr (k := 1) (pc' := 25) (lv' := [(0, .ref a0), (1, .ref a1), (2, .int x2)]) (st' := [.ref a0]) rfl ?_
    refine PC.pr (k := 1) (pc' := 27) (lv' := [(0, .ref a0), (1, .ref a1), (2, .int x2)]) (st' := [.int 1073741824, .ref a0]) rfl ?_
    refine PC.pI (ci := 7) (j := 5) rfl rfl ?_
    exact PC.retV rfl h

/-- DoorPaints.few(I)I -/
theorem t_107_0 {xl : List Int32} {n : Nat} {ι : IS} {Q : Option Value → IS → Prop} {a0 : Nat} {x1 : Int32} (h : ((x1 = 0 → PC xl n 107 14 [(0, .ref a0), (1, .int x1), (2, .int 0)] [] ι Q) ∧ (¬ x1 = 0 → ((¬ x1 < 10 → PC xl n 107 14 [(0, .ref a0), (1, .int x1), (2, .int 0)] [] ι Q) ∧ (x1 < 10 → Q (some (.int (-1))) ι))))) : PC xl (n + 1) 107 0 [(0, .ref a0), (1, .int x1)] [] ι Q := by
  refine PC.pr1 (k := 0) (pc' := 1) (lv' := [(0, .ref a0), (1, .int x1)]) (st' := [.int x1]) rfl ?_
  refine PC.if1 (t := 12) rfl rfl (fun c => ?_) (fun c => ?_)
  · have h := h.1 (cmp_eq.1.mp c)
    refine PC.pr (k := 1) (pc' := 13) (lv' := [(0, .ref a0), (1, .int x1)]) (st' := [.int 0]) rfl ?_
    refine PC.pr (k := 1) (pc' := 14) (lv' := [(2, .int 0), (0, .ref a0), (1, .int x1)]) (st' := []) rfl ?_
    exact PC.lv (lvE.cons rfl (lvE.cons rfl (lvE.cons rfl (lvE.nil)))) h
  · have h := h.2 (cmp_eq.2.mp c)
    refine PC.pr (k := 1) (pc' := 5) (lv' := [(0, .ref a0), (1, .int x1)]) (st' := [.int x1]) rfl ?_
    refine PC.pr (k := 1) (pc' := 7) (lv' := [(0, .ref a0), (1, .int x1)]) (st' := [.int 10, .int x1]) rfl ?_
    refine PC.if2 (t := 12) rfl rfl (fun c => ?_) (fun c => ?_)
    · have h := h.1 (cmp_ge.1.mp c)
      refine PC.pr (k := 1) (pc' := 13) (lv' := [(0, .ref a0), (1, .int x1)]) (st' := [.int 0]) rfl ?_
      refine PC.pr (k := 1) (pc' := 14) (lv' := [(2, .int 0), (0, .ref a0), (1, .int x1)]) (st' := []) rfl ?_
      exact PC.lv (lvE.cons rfl (lvE.cons rfl (lvE.cons rfl (lvE.nil)))) h
    · have h := h.2 (cmp_ge.2.mp c)
      refine PC.pr (k := 1) (pc' := 11) (lv' := [(0, .ref a0), (1, .int x1)]) (st' := [.int (-1)]) rfl ?_
      exact PC.retI rfl h
theorem t_107_14 {xl : List Int32} {n : Nat} {ι : IS} {Q : Option Value → IS → Prop} {a0 : Nat} {x1 : Int32} {x2 : Int32} (h : ((3 < x2 → Q (some (.int (-4))) ι) ∧ (¬ 3 < x2 → PC xl n 108 0 [(0, .ref (rf a0 6)), (1, .ref (rf (rf a0 2) 0)), (2, .int x2)] [] ι (fun v1 κ1 => ∀ r1, v1 = some (.int r1) → ((r1 = 0 → PC xl n 107 14 [(0, .ref a0), (1, .int x1), (2, .int (x2 + 1))] [] κ1 Q) ∧ (¬ r1 = 0 → ((¬ x1 = 0 → PC xl n 106 0 [(0, .ref (rf a0 6)), (1, .int (x1 - 10))] [] κ1 (fun v2 κ2 => ∀ r2, v2 = some (.int r2) → Q (some (.int r2)) κ2)) ∧ (x1 = 0 → Q (some (.int x2)) κ1)))))))) : PC xl (n + 1) 107 14 [(0, .ref a0), (1, .int x1), (2, .int x2)] [] ι Q := by
  refine PC.pr1 (k := 0) (pc' := 15) (lv' := [(0, .ref a0), (1, .int x1), (2, .int x2)]) (st' := [.int x2]) rfl ?_
  refine PC.pr (k := 1) (pc' := 16) (lv' := [(0, .ref a0), (1, .int x1), (2, .int x2)]) (st' := [.int 3, .int x2]) rfl ?_
  refine PC.if2 (t := 63) rfl rfl (fun c => ?_) (fun c => ?_)
  · have h := h.1 (cmp_gt.1.mp c)
    refine PC.pr (k := 1) (pc' := 65) (lv' := [(0, .ref a0), (1, .int x1), (2, .int x2)]) (st' := [.int (-4)]) rfl ?_
    exact PC.retI rfl h
  · have h := h.2 (cmp_gt.2.mp c)
    refine PC.pr (k := 1) (pc' := 20) (lv' := [(0, .ref a0), (1, .int x1), (2, .int x2)]) (st' := [.ref a0]) rfl ?_
    refine PC.gR (ci := 0) (j := 6) rfl rfl (by decide) ?_
    refine PC.pr (k := 1) (pc' := 24) (lv' := [(0, .ref a0), (1, .int x1), (2, .int x2)]) (st' := [.ref a0, .ref (rf a0 6)]) rfl ?_
    refine PC.gR (ci := 0) (j := 2) rfl rfl (by decide) ?_
    refine PC.gR (ci := 2) (j := 0) rfl rfl (by decide) ?_
    refine PC.pr (k := 1) (pc' := 31) (lv' := [(0, .ref a0), (1, .int x1), (2, .int x2)]) (st' := [.int x2, .ref (rf (rf a0 2) 0), .ref (rf a0 6)]) rfl ?_
    refine (PC.callI (j := 108) (args := [.ref (rf a0 6), .ref (rf (rf a0 2) 0), .int x2]) (rest := []) (M := cM108) (ty := .boolean) rfl rfl rfl rfl rfl rfl (by decide) rfl rfl (by decide) ?_).weak
    refine PC.imp h (fun v1 κ1 h r1 hv => ?_)
    have h := h r1 hv
    refine PC.if1 (t := 57) rfl rfl (fun c => ?_) (fun c => ?_)
    · have h := h.1 (cmp_eq.1.mp c)
      refine PC.pr (k := 1) (pc' := 60) (lv' := [(2, .int (x2 + 1)), (0, .ref a0), (1, .int x1)]) (st' := []) rfl ?_
      refine PC.pr (k := 1) (pc' := 14) (lv' := [(2, .int (x2 + 1)), (0, .ref a0), (1, .int x1)]) (st' := []) rfl ?_
      exact PC.lv (lvE.cons rfl (lvE.cons rfl (lvE.cons rfl (lvE.nil)))) h
    · have h := h.2 (cmp_eq.2.mp c)
      refine PC.pr (k := 1) (pc' := 38) (lv' := [(0, .ref a0), (1, .int x1), (2, .int x2)]) (st' := [.int x1]) rfl ?_
      refine PC.if1 (t := 45) rfl rfl (fun c => ?_) (fun c => ?_)
      · have h := h.1 (cmp_ne.1.mp c)
        refine PC.pr (k := 1) (pc' := 46) (lv' := [(0, .ref a0), (1, .int x1), (2, .int x2)]) (st' := [.ref a0]) rfl ?_
        refine PC.gR (ci := 0) (j := 6) rfl rfl (by decide) ?_
        refine PC.pr (k := 1) (pc' := 50) (lv' := [(0, .ref a0), (1, .int x1), (2, .int x2)]) (st' := [.int x1, .ref (rf a0 6)]) rfl ?_
        refine PC.pr (k := 1) (pc' := 52) (lv' := [(0, .ref a0), (1, .int x1), (2, .int x2)]) (st' := [.int 10, .int x1, .ref (rf a0 6)]) rfl ?_
        refine PC.pr (k := 1) (pc' := 53) (lv' := [(0, .ref a0), (1, .int x1), (2, .int x2)]) (st' := [.int (x1 - 10), .ref (rf a0 6)]) rfl ?_
        refine (PC.callI (j := 106) (args := [.ref (rf a0 6), .int (x1 - 10)]) (rest := []) (M := cM106) (ty := .int) rfl rfl rfl rfl rfl rfl (by decide) rfl rfl (by decide) ?_).weak
        refine PC.imp h (fun v2 κ2 h r2 hv => ?_)
        have h := h r2 hv
        exact PC.retI rfl h
      · have h := h.2 (cmp_ne.2.mp c)
        refine PC.pr (k := 1) (pc' := 42) (lv' := [(0, .ref a0), (1, .int x1), (2, .int x2)]) (st' := [.int x2]) rfl ?_
        refine PC.pr (k := 1) (pc' := 56) (lv' := [(0, .ref a0), (1, .int x1), (2, .int x2)]) (st' := [.int x2]) rfl ?_
        exact PC.retI rfl h

/-- DoorPaints$Search.clearsAll(LDoorPaints$Town;I)Z -/
theorem t_108_0 {xl : List Int32} {n : Nat} {ι : IS} {Q : Option Value → IS → Prop} {a0 : Nat} {a1 : Nat} {x2 : Int32} (h : PC xl n 97 0 [(0, .ref a0), (1, .ref a1), (2, .int x2)] [] (up (up ι a0 6 0) a0 4 1) (fun _ κ1 => PC xl n 58 0 [(0, .ref (rf a0 0))] [] κ1 (fun v2 κ2 => ∀ r2, v2 = some (.int r2) → PC xl n 99 0 [(0, .int r2)] [] κ2 (fun v3 κ3 => ∀ r3, v3 = some (.int r3) → PC xl n 100 0 [(0, .ref a0), (1, .int 0), (2, .int r3), (3, .int 0)] [] κ3 (fun _ κ4 => ((¬ (κ4 a0 4) = 0 → Q (some (.int 0)) κ4) ∧ ((κ4 a0 4) = 0 → Q (some (.int 1)) κ4))))))) : PC xl (n + 1) 108 0 [(0, .ref a0), (1, .ref a1), (2, .int x2)] [] ι Q := by
  refine PC.pr1 (k := 0) (pc' := 1) (lv' := [(0, .ref a0), (1, .ref a1), (2, .int x2)]) (st' := [.ref a0]) rfl ?_
  refine PC.pr (k := 1) (pc' := 2) (lv' := [(0, .ref a0), (1, .ref a1), (2, .int x2)]) (st' := [.int 0, .ref a0]) rfl ?_
  refine PC.pI (ci := 7) (j := 6) rfl rfl ?_
  refine PC.pr (k := 1) (pc' := 6) (lv' := [(0, .ref a0), (1, .ref a1), (2, .int x2)]) (st' := [.ref a0]) rfl ?_
  refine PC.pr (k := 1) (pc' := 7) (lv' := [(0, .ref a0), (1, .ref a1), (2, .int x2)]) (st' := [.int 1, .ref a0]) rfl ?_
  refine PC.pI (ci := 7) (j := 4) rfl rfl ?_
  refine PC.pr (k := 1) (pc' := 11) (lv' := [(0, .ref a0), (1, .ref a1), (2, .int x2)]) (st' := [.ref a0]) rfl ?_
  refine PC.pr (k := 1) (pc' := 12) (lv' := [(0, .ref a0), (1, .ref a1), (2, .int x2)]) (st' := [.ref a1, .ref a0]) rfl ?_
  refine PC.pr (k := 1) (pc' := 13) (lv' := [(0, .ref a0), (1, .ref a1), (2, .int x2)]) (st' := [.int x2, .ref a1, .ref a0]) rfl ?_
  refine (PC.callV (j := 97) (args := [.ref a0, .ref a1, .int x2]) (rest := []) (M := cM97) rfl rfl rfl rfl rfl rfl (by decide) rfl rfl ?_).weak
  refine PC.imp h (fun _ κ1 h => ?_)
  refine PC.pr (k := 1) (pc' := 17) (lv' := [(0, .ref a0), (1, .ref a1), (2, .int x2)]) (st' := [.ref a0]) rfl ?_
  refine PC.pr (k := 1) (pc' := 18) (lv' := [(0, .ref a0), (1, .ref a1), (2, .int x2)]) (st' := [.int 0, .ref a0]) rfl ?_
  refine PC.pr (k := 1) (pc' := 19) (lv' := [(0, .ref a0), (1, .ref a1), (2, .int x2)]) (st' := [.ref a0, .int 0, .ref a0]) rfl ?_
  refine PC.gR (ci := 7) (j := 0) rfl rfl (by decide) ?_
  refine (PC.callI (j := 58) (args := [.ref (rf a0 0)]) (rest := [.int 0, .ref a0]) (M := cM58) (ty := .int) rfl rfl rfl rfl rfl rfl (by decide) rfl rfl (by decide) ?_).weak
  refine PC.imp h (fun v2 κ2 h r2 hv => ?_)
  have h := h r2 hv
  refine (PC.callI (j := 99) (args := [.int r2]) (rest := [.int 0, .ref a0]) (M := cM99) (ty := .int) rfl rfl rfl rfl rfl rfl (by decide) rfl rfl (by decide) ?_).weak
  refine PC.imp h (fun v3 κ3 h r3 hv => ?_)
  have h := h r3 hv
  refine PC.pr (k := 1) (pc' := 29) (lv' := [(0, .ref a0), (1, .ref a1), (2, .int x2)]) (st' := [.int 0, .int r3, .int 0, .ref a0]) rfl ?_
  refine (PC.callV (j := 100) (args := [.ref a0, .int 0, .int r3, .int 0]) (rest := []) (M := cM100) rfl rfl rfl rfl rfl rfl (by decide) rfl rfl ?_).weak
  refine PC.imp h (fun _ κ4 h => ?_)
  refine PC.pr (k := 1) (pc' := 33) (lv' := [(0, .ref a0), (1, .ref a1), (2, .int x2)]) (st' := [.ref a0]) rfl ?_
  refine PC.gI (ci := 7) (j := 4) rfl rfl (by decide) ?_
  refine PC.if1 (t := 43) rfl rfl (fun c => ?_) (fun c => ?_)
  · have h := h.1 (cmp_ne.1.mp c)
    refine PC.pr (k := 1) (pc' := 44) (lv' := [(0, .ref a0), (1, .ref a1), (2, .int x2)]) (st' := [.int 0]) rfl ?_
    exact PC.retI rfl h
  · have h := h.2 (cmp_ne.2.mp c)
    refine PC.pr (k := 1) (pc' := 40) (lv' := [(0, .ref a0), (1, .ref a1), (2, .int x2)]) (st' := [.int 1]) rfl ?_
    refine PC.pr (k := 1) (pc' := 44) (lv' := [(0, .ref a0), (1, .ref a1), (2, .int x2)]) (st' := [.int 1]) rfl ?_
    exact PC.retI rfl h

/-- DoorPaints.pots(I)I -/
theorem t_114_0 {xl : List Int32} {n : Nat} {ι : IS} {Q : Option Value → IS → Prop} {a0 : Nat} {x1 : Int32} (h : PC xl n 49 0 [(0, .ref (rf (rf a0 2) 0)), (1, .int x1)] [] ι (fun v1 κ1 => ∀ r1, v1 = some (.int r1) → ((¬ r1 = 0 → PC xl n 114 20 [(0, .ref a0), (1, .int x1), (2, .int 0), (3, .int 0)] [] κ1 Q) ∧ (r1 = 0 → Q (some (.int (-1))) κ1)))) : PC xl (n + 1) 114 0 [(0, .ref a0), (1, .int x1)] [] ι Q := by
  refine PC.pr1 (k := 0) (pc' := 1) (lv' := [(0, .ref a0), (1, .int x1)]) (st' := [.ref a0]) rfl ?_
  refine PC.gR (ci := 0) (j := 2) rfl rfl (by decide) ?_
  refine PC.gR (ci := 2) (j := 0) rfl rfl (by decide) ?_
  refine PC.pr (k := 1) (pc' := 8) (lv' := [(0, .ref a0), (1, .int x1)]) (st' := [.int x1, .ref (rf (rf a0 2) 0)]) rfl ?_
  refine (PC.callI (j := 49) (args := [.ref (rf (rf a0 2) 0), .int x1]) (rest := []) (M := cM49) (ty := .boolean) rfl rfl rfl rfl rfl rfl (by decide) rfl rfl (by decide) ?_).weak
  refine PC.imp h (fun v1 κ1 h r1 hv => ?_)
  have h := h r1 hv
  refine PC.if1 (t := 16) rfl rfl (fun c => ?_) (fun c => ?_)
  · have h := h.1 (cmp_ne.1.mp c)
    refine PC.pr (k := 1) (pc' := 17) (lv' := [(0, .ref a0), (1, .int x1)]) (st' := [.int 0]) rfl ?_
    refine PC.pr (k := 1) (pc' := 18) (lv' := [(2, .int 0), (0, .ref a0), (1, .int x1)]) (st' := []) rfl ?_
    refine PC.pr (k := 1) (pc' := 19) (lv' := [(2, .int 0), (0, .ref a0), (1, .int x1)]) (st' := [.int 0]) rfl ?_
    refine PC.pr (k := 1) (pc' := 20) (lv' := [(3, .int 0), (2, .int 0), (0, .ref a0), (1, .int x1)]) (st' := []) rfl ?_
    exact PC.lv (lvE.cons rfl (lvE.cons rfl (lvE.cons rfl (lvE.cons rfl (lvE.nil))))) h
  · have h := h.2 (cmp_ne.2.mp c)
    refine PC.pr (k := 1) (pc' := 15) (lv' := [(0, .ref a0), (1, .int x1)]) (st' := [.int (-1)]) rfl ?_
    exact PC.retI rfl h
theorem t_114_20 {xl : List Int32} {n : Nat} {ι : IS} {Q : Option Value → IS → Prop} {a0 : Nat} {x1 : Int32} {x2 : Int32} {x3 : Int32} (h : ((¬ x3 < (ι (rf (rf a0 2) 0) 2) → Q (some (.int x2)) ι) ∧ (x3 < (ι (rf (rf a0 2) 0) 2) → PC xl n 52 0 [(0, .ref (rf a0 5)), (1, .ref (rf (rf a0 2) 0))] [] ι (fun _ κ1 => PC xl n 63 0 [(0, .ref (rf (rf a0 2) 0)), (1, .int x3)] [] κ1 (fun v2 κ2 => ∀ r2, v2 = some (.int r2) → PC xl n 115 0 [(0, .ref (rf a0 5)), (1, .int x1), (2, .int r2)] [] κ2 (fun _ κ3 => PC xl n 88 0 [(0, .ref a0), (1, .int 0), (2, .int (κ3 (rf a0 2) 2))] [] κ3 (fun v4 κ4 => ∀ r4, v4 = some (.int r4) → PC xl n 116 0 [(0, .ref (rf a0 2)), (1, .ref (rf a0 5))] [] κ4 (fun v5 κ5 => ∀ r5, v5 = some (.int r5) → ((r5 = 0 → PC xl n 114 20 [(0, .ref a0), (1, .int x1), (2, .int x2), (3, .int (x3 + 1))] [] κ5 Q) ∧ (¬ r5 = 0 → PC xl n 114 20 [(0, .ref a0), (1, .int x1), (2, .int (x2 ||| (1 <<< (x3 &&& 31)))), (3, .int (x3 + 1))] [] κ5 Q)))))))))) : PC xl (n + 1) 114 20 [(0, .ref a0), (1, .int x1), (2, .int x2), (3, .int x3)] [] ι Q := by
  refine PC.pr1 (k := 0) (pc' := 21) (lv' := [(0, .ref a0), (1, .int x1), (2, .int x2), (3, .int x3)]) (st' := [.int x3]) rfl ?_
  refine PC.pr (k := 1) (pc' := 22) (lv' := [(0, .ref a0), (1, .int x1), (2, .int x2), (3, .int x3)]) (st' := [.ref a0, .int x3]) rfl ?_
  refine PC.gR (ci := 0) (j := 2) rfl rfl (by decide) ?_
  refine PC.gR (ci := 2) (j := 0) rfl rfl (by decide) ?_
  refine PC.gI (ci := 3) (j := 2) rfl rfl (by decide) ?_
  refine PC.if2 (t := 106) rfl rfl (fun c => ?_) (fun c => ?_)
  · have h := h.1 (cmp_ge.1.mp c)
    refine PC.pr (k := 1) (pc' := 107) (lv' := [(0, .ref a0), (1, .int x1), (2, .int x2), (3, .int x3)]) (st' := [.int x2]) rfl ?_
    exact PC.retI rfl h
  · have h := h.2 (cmp_ge.2.mp c)
    refine PC.pr (k := 1) (pc' := 35) (lv' := [(0, .ref a0), (1, .int x1), (2, .int x2), (3, .int x3)]) (st' := [.ref a0]) rfl ?_
    refine PC.gR (ci := 0) (j := 5) rfl rfl (by decide) ?_
    refine PC.pr (k := 1) (pc' := 39) (lv' := [(0, .ref a0), (1, .int x1), (2, .int x2), (3, .int x3)]) (st' := [.ref a0, .ref (rf a0 5)]) rfl ?_
    refine PC.gR (ci := 0) (j := 2) rfl rfl (by decide) ?_
    refine PC.gR (ci := 2) (j := 0) rfl rfl (by decide) ?_
    refine (PC.callV (j := 52) (args := [.ref (rf a0 5), .ref (rf (rf a0 2) 0)]) (rest := []) (M := cM52) rfl rfl rfl rfl rfl rfl (by decide) rfl rfl ?_).weak
    refine PC.imp h (fun _ κ1 h => ?_)
    refine PC.pr (k := 1) (pc' := 49) (lv' := [(0, .ref a0), (1, .int x1), (2, .int x2), (3, .int x3)]) (st' := [.ref a0]) rfl ?_
    refine PC.gR (ci := 0) (j := 5) rfl rfl (by decide) ?_
    refine PC.pr (k := 1) (pc' := 53) (lv' := [(0, .ref a0), (1, .int x1), (2, .int x2), (3, .int x3)]) (st' := [.int x1, .ref (rf a0 5)]) rfl ?_
    refine PC.pr (k := 1) (pc' := 54) (lv' := [(0, .ref a0), (1, .int x1), (2, .int x2), (3, .int x3)]) (st' := [.ref a0, .int x1, .ref (rf a0 5)]) rfl ?_
    refine PC.gR (ci := 0) (j := 2) rfl rfl (by decide) ?_
    refine PC.gR (ci := 2) (j := 0) rfl rfl (by decide) ?_
    refine PC.pr (k := 1) (pc' := 61) (lv' := [(0, .ref a0), (1, .int x1), (2, .int x2), (3, .int x3)]) (st' := [.int x3, .ref (rf (rf a0 2) 0), .int x1, .ref (rf a0 5)]) rfl ?_
    refine (PC.callI (j := 63) (args := [.ref (rf (rf a0 2) 0), .int x3]) (rest := [.int x1, .ref (rf a0 5)]) (M := cM63) (ty := .int) rfl rfl rfl rfl rfl rfl (by decide) rfl rfl (by decide) ?_).weak
    refine PC.imp h (fun v2 κ2 h r2 hv => ?_)
    have h := h r2 hv
    refine (PC.callV (j := 115) (args := [.ref (rf a0 5), .int x1, .int r2]) (rest := []) (M := cM115) rfl rfl rfl rfl rfl rfl (by decide) rfl rfl ?_).weak
    refine PC.imp h (fun _ κ3 h => ?_)
    refine PC.pr (k := 1) (pc' := 68) (lv' := [(0, .ref a0), (1, .int x1), (2, .int x2), (3, .int x3)]) (st' := [.ref a0]) rfl ?_
    refine PC.pr (k := 1) (pc' := 69) (lv' := [(0, .ref a0), (1, .int x1), (2, .int x2), (3, .int x3)]) (st' := [.int 0, .ref a0]) rfl ?_
    refine PC.pr (k := 1) (pc' := 70) (lv' := [(0, .ref a0), (1, .int x1), (2, .int x2), (3, .int x3)]) (st' := [.ref a0, .int 0, .ref a0]) rfl ?_
    refine PC.gR (ci := 0) (j := 2) rfl rfl (by decide) ?_
    refine PC.gI (ci := 2) (j := 2) rfl rfl (by decide) ?_
    refine (PC.callI (j := 88) (args := [.ref a0, .int 0, .int (κ3 (rf a0 2) 2)]) (rest := []) (M := cM88) (ty := .int) rfl rfl rfl rfl rfl rfl (by decide) rfl rfl (by decide) ?_).weak
    refine PC.imp h (fun v4 κ4 h r4 hv => ?_)
    have h := h r4 hv
    refine PC.pr (k := 1) (pc' := 80) (lv' := [(0, .ref a0), (1, .int x1), (2, .int x2), (3, .int x3)]) (st' := []) rfl ?_
    refine PC.pr (k := 1) (pc' := 81) (lv' := [(0, .ref a0), (1, .int x1), (2, .int x2), (3, .int x3)]) (st' := [.ref a0]) rfl ?_
    refine PC.gR (ci := 0) (j := 2) rfl rfl (by decide) ?_
    refine PC.pr (k := 1) (pc' := 85) (lv' := [(0, .ref a0), (1, .int x1), (2, .int x2), (3, .int x3)]) (st' := [.ref a0, .ref (rf a0 2)]) rfl ?_
    refine PC.gR (ci := 0) (j := 5) rfl rfl (by decide) ?_
    refine (PC.callI (j := 116) (args := [.ref (rf a0 2), .ref (rf a0 5)]) (rest := []) (M := cM116) (ty := .boolean) rfl rfl rfl rfl rfl rfl (by decide) rfl rfl (by decide) ?_).weak
    refine PC.imp h (fun v5 κ5 h r5 hv => ?_)
    have h := h r5 hv
    refine PC.if1 (t := 100) rfl rfl (fun c => ?_) (fun c => ?_)
    · have h := h.1 (cmp_eq.1.mp c)
      refine PC.pr (k := 1) (pc' := 103) (lv' := [(3, .int (x3 + 1)), (0, .ref a0), (1, .int x1), (2, .int x2)]) (st' := []) rfl ?_
      refine PC.pr (k := 1) (pc' := 20) (lv' := [(3, .int (x3 + 1)), (0, .ref a0), (1, .int x1), (2, .int x2)]) (st' := []) rfl ?_
      exact PC.lv (lvE.cons rfl (lvE.cons rfl (lvE.cons rfl (lvE.cons rfl (lvE.nil))))) h
    · have h := h.2 (cmp_eq.2.mp c)
      refine PC.pr (k := 1) (pc' := 95) (lv' := [(0, .ref a0), (1, .int x1), (2, .int x2), (3, .int x3)]) (st' := [.int x2]) rfl ?_
      refine PC.pr (k := 1) (pc' := 96) (lv' := [(0, .ref a0), (1, .int x1), (2, .int x2), (3, .int x3)]) (st' := [.int 1, .int x2]) rfl ?_
      refine PC.pr (k := 1) (pc' := 97) (lv' := [(0, .ref a0), (1, .int x1), (2, .int x2), (3, .int x3)]) (st' := [.int x3, .int 1, .int x2]) rfl ?_
      refine PC.pr (k := 1) (pc' := 98) (lv' := [(0, .ref a0), (1, .int x1), (2, .int x2), (3, .int x3)]) (st' := [.int (1 <<< (x3 &&& 31)), .int x2]) rfl ?_
      refine PC.pr (k := 1) (pc' := 99) (lv' := [(0, .ref a0), (1, .int x1), (2, .int x2), (3, .int x3)]) (st' := [.int (x2 ||| (1 <<< (x3 &&& 31)))]) rfl ?_
      refine PC.pr (k := 1) (pc' := 100) (lv' := [(2, .int (x2 ||| (1 <<< (x3 &&& 31)))), (0, .ref a0), (1, .int x1), (3, .int x3)]) (st' := []) rfl ?_
      refine PC.pr (k := 1) (pc' := 103) (lv' := [(3, .int (x3 + 1)), (2, .int (x2 ||| (1 <<< (x3 &&& 31)))), (0, .ref a0), (1, .int x1)]) (st' := []) rfl ?_
      refine PC.pr (k := 1) (pc' := 20) (lv' := [(3, .int (x3 + 1)), (2, .int (x2 ||| (1 <<< (x3 &&& 31)))), (0, .ref a0), (1, .int x1)]) (st' := []) rfl ?_
      exact PC.lv (lvE.cons rfl (lvE.cons rfl (lvE.cons rfl (lvE.cons rfl (lvE.nil))))) h

/-- DoorPaints.rained()I -/
theorem t_117_0 {xl : List Int32} {n : Nat} {ι : IS} {Q : Option Value → IS → Prop} {a0 : Nat} (h : PC xl n 117 4 [(0, .ref a0), (1, .int 0), (2, .int 0)] [] ι Q) : PC xl (n + 1) 117 0 [(0, .ref a0)] [] ι Q := by
  refine PC.pr1 (k := 0) (pc' := 1) (lv' := [(0, .ref a0)]) (st' := [.int 0]) rfl ?_
  refine PC.pr (k := 1) (pc' := 2) (lv' := [(1, .int 0), (0, .ref a0)]) (st' := []) rfl ?_
  refine PC.pr (k := 1) (pc' := 3) (lv' := [(1, .int 0), (0, .ref a0)]) (st' := [.int 0]) rfl ?_
  refine PC.pr (k := 1) (pc' := 4) (lv' := [(2, .int 0), (1, .int 0), (0, .ref a0)]) (st' := []) rfl ?_
  exact PC.lv (lvE.cons rfl (lvE.cons rfl (lvE.cons rfl (lvE.nil)))) h
theorem t_117_4 {xl : List Int32} {n : Nat} {ι : IS} {Q : Option Value → IS → Prop} {a0 : Nat} {x1 : Int32} {x2 : Int32} (h : (((ι (rf a0 2) 2) < x2 → Q (some (.int x1)) ι) ∧ (¬ (ι (rf a0 2) 2) < x2 → PC xl n 52 0 [(0, .ref (rf a0 5)), (1, .ref (rf (rf a0 2) 0))] [] ι (fun _ κ1 => PC xl n 88 0 [(0, .ref a0), (1, .int 0), (2, .int x2)] [] κ1 (fun v2 κ2 => ∀ r2, v2 = some (.int r2) → PC xl n 76 0 [(0, .ref (rf a0 5)), (1, .int 91)] [] κ2 (fun _ κ3 => PC xl n 88 0 [(0, .ref a0), (1, .int x2), (2, .int (κ3 (rf a0 2) 2))] [] κ3 (fun v4 κ4 => ∀ r4, v4 = some (.int r4) → PC xl n 116 0 [(0, .ref (rf a0 2)), (1, .ref (rf a0 5))] [] κ4 (fun v5 κ5 => ∀ r5, v5 = some (.int r5) → ((r5 = 0 → PC xl n 117 4 [(0, .ref a0), (1, .int x1), (2, .int (x2 + 1))] [] κ5 Q) ∧ (¬ r5 = 0 → PC xl n 117 4 [(0, .ref a0), (1, .int (x1 ||| (1 <<< (x2 &&& 31)))), (2, .int (x2 + 1))] [] κ5 Q)))))))))) : PC xl (n + 1) 117 4 [(0, .ref a0), (1, .int x1), (2, .int x2)] [] ι Q := by
  refine PC.pr1 (k := 0) (pc' := 5) (lv' := [(0, .ref a0), (1, .int x1), (2, .int x2)]) (st' := [.int x2]) rfl ?_
  refine PC.pr (k := 1) (pc' := 6) (lv' := [(0, .ref a0), (1, .int x1), (2, .int x2)]) (st' := [.ref a0, .int x2]) rfl ?_
  refine PC.gR (ci := 0) (j := 2) rfl rfl (by decide) ?_
  refine PC.gI (ci := 2) (j := 2) rfl rfl (by decide) ?_
  refine PC.if2 (t := 84) rfl rfl (fun c => ?_) (fun c => ?_)
  · have h := h.1 (cmp_gt.1.mp c)
    refine PC.pr (k := 1) (pc' := 85) (lv' := [(0, .ref a0), (1, .int x1), (2, .int x2)]) (st' := [.int x1]) rfl ?_
    exact PC.retI rfl h
  · have h := h.2 (cmp_gt.2.mp c)
    refine PC.pr (k := 1) (pc' := 16) (lv' := [(0, .ref a0), (1, .int x1), (2, .int x2)]) (st' := [.ref a0]) rfl ?_
    refine PC.gR (ci := 0) (j := 5) rfl rfl (by decide) ?_
    refine PC.pr (k := 1) (pc' := 20) (lv' := [(0, .ref a0), (1, .int x1), (2, .int x2)]) (st' := [.ref a0, .ref (rf a0 5)]) rfl ?_
    refine PC.gR (ci := 0) (j := 2) rfl rfl (by decide) ?_
    refine PC.gR (ci := 2) (j := 0) rfl rfl (by decide) ?_
    refine (PC.callV (j := 52) (args := [.ref (rf a0 5), .ref (rf (rf a0 2) 0)]) (rest := []) (M := cM52) rfl rfl rfl rfl rfl rfl (by decide) rfl rfl ?_).weak
    refine PC.imp h (fun _ κ1 h => ?_)
    refine PC.pr (k := 1) (pc' := 30) (lv' := [(0, .ref a0), (1, .int x1), (2, .int x2)]) (st' := [.ref a0]) rfl ?_
    refine PC.pr (k := 1) (pc' := 31) (lv' := [(0, .ref a0), (1, .int x1), (2, .int x2)]) (st' := [.int 0, .ref a0]) rfl ?_
    refine PC.pr (k := 1) (pc' := 32) (lv' := [(0, .ref a0), (1, .int x1), (2, .int x2)]) (st' := [.int x2, .int 0, .ref a0]) rfl ?_
    refine (PC.callI (j := 88) (args := [.ref a0, .int 0, .int x2]) (rest := []) (M := cM88) (ty := .int) rfl rfl rfl rfl rfl rfl (by decide) rfl rfl (by decide) ?_).weak
    refine PC.imp h (fun v2 κ2 h r2 hv => ?_)
    have h := h r2 hv
    refine PC.pr (k := 1) (pc' := 36) (lv' := [(0, .ref a0), (1, .int x1), (2, .int x2)]) (st' := []) rfl ?_
    refine PC.pr (k := 1) (pc' := 37) (lv' := [(0, .ref a0), (1, .int x1), (2, .int x2)]) (st' := [.ref a0]) rfl ?_
    refine PC.gR (ci := 0) (j := 5) rfl rfl (by decide) ?_
    refine PC.pr (k := 1) (pc' := 42) (lv' := [(0, .ref a0), (1, .int x1), (2, .int x2)]) (st' := [.int 91, .ref (rf a0 5)]) rfl ?_
    refine (PC.callV (j := 76) (args := [.ref (rf a0 5), .int 91]) (rest := []) (M := cM76) rfl rfl rfl rfl rfl rfl (by decide) rfl rfl ?_).weak
    refine PC.imp h (fun _ κ3 h => ?_)
    refine PC.pr (k := 1) (pc' := 46) (lv' := [(0, .ref a0), (1, .int x1), (2, .int x2)]) (st' := [.ref a0]) rfl ?_
    refine PC.pr (k := 1) (pc' := 47) (lv' := [(0, .ref a0), (1, .int x1), (2, .int x2)]) (st' := [.int x2, .ref a0]) rfl ?_
    refine PC.pr (k := 1) (pc' := 48) (lv' := [(0, .ref a0), (1, .int x1), (2, .int x2)]) (st' := [.ref a0, .int x2, .ref a0]) rfl ?_
    refine PC.gR (ci := 0) (j := 2) rfl rfl (by decide) ?_
    refine PC.gI (ci := 2) (j := 2) rfl rfl (by decide) ?_
    refine (PC.callI (j := 88) (args := [.ref a0, .int x2, .int (κ3 (rf a0 2) 2)]) (rest := []) (M := cM88) (ty := .int) rfl rfl rfl rfl rfl rfl (by decide) rfl rfl (by decide) ?_).weak
    refine PC.imp h (fun v4 κ4 h r4 hv => ?_)
    have h := h r4 hv
    refine PC.pr (k := 1) (pc' := 58) (lv' := [(0, .ref a0), (1, .int x1), (2, .int x2)]) (st' := []) rfl ?_
    refine PC.pr (k := 1) (pc' := 59) (lv' := [(0, .ref a0), (1, .int x1), (2, .int x2)]) (st' := [.ref a0]) rfl ?_
    refine PC.gR (ci := 0) (j := 2) rfl rfl (by decide) ?_
    refine PC.pr (k := 1) (pc' := 63) (lv' := [(0, .ref a0), (1, .int x1), (2, .int x2)]) (st' := [.ref a0, .ref (rf a0 2)]) rfl ?_
    refine PC.gR (ci := 0) (j := 5) rfl rfl (by decide) ?_
    refine (PC.callI (j := 116) (args := [.ref (rf a0 2), .ref (rf a0 5)]) (rest := []) (M := cM116) (ty := .boolean) rfl rfl rfl rfl rfl rfl (by decide) rfl rfl (by decide) ?_).weak
    refine PC.imp h (fun v5 κ5 h r5 hv => ?_)
    have h := h r5 hv
    refine PC.if1 (t := 78) rfl rfl (fun c => ?_) (fun c => ?_)
    · have h := h.1 (cmp_eq.1.mp c)
      refine PC.pr (k := 1) (pc' := 81) (lv' := [(2, .int (x2 + 1)), (0, .ref a0), (1, .int x1)]) (st' := []) rfl ?_
      refine PC.pr (k := 1) (pc' := 4) (lv' := [(2, .int (x2 + 1)), (0, .ref a0), (1, .int x1)]) (st' := []) rfl ?_
      exact PC.lv (lvE.cons rfl (lvE.cons rfl (lvE.cons rfl (lvE.nil)))) h
    · have h := h.2 (cmp_eq.2.mp c)
      refine PC.pr (k := 1) (pc' := 73) (lv' := [(0, .ref a0), (1, .int x1), (2, .int x2)]) (st' := [.int x1]) rfl ?_
      refine PC.pr (k := 1) (pc' := 74) (lv' := [(0, .ref a0), (1, .int x1), (2, .int x2)]) (st' := [.int 1, .int x1]) rfl ?_
      refine PC.pr (k := 1) (pc' := 75) (lv' := [(0, .ref a0), (1, .int x1), (2, .int x2)]) (st' := [.int x2, .int 1, .int x1]) rfl ?_
      refine PC.pr (k := 1) (pc' := 76) (lv' := [(0, .ref a0), (1, .int x1), (2, .int x2)]) (st' := [.int (1 <<< (x2 &&& 31)), .int x1]) rfl ?_
      refine PC.pr (k := 1) (pc' := 77) (lv' := [(0, .ref a0), (1, .int x1), (2, .int x2)]) (st' := [.int (x1 ||| (1 <<< (x2 &&& 31)))]) rfl ?_
      refine PC.pr (k := 1) (pc' := 78) (lv' := [(1, .int (x1 ||| (1 <<< (x2 &&& 31)))), (0, .ref a0), (2, .int x2)]) (st' := []) rfl ?_
      refine PC.pr (k := 1) (pc' := 81) (lv' := [(2, .int (x2 + 1)), (1, .int (x1 ||| (1 <<< (x2 &&& 31)))), (0, .ref a0)]) (st' := []) rfl ?_
      refine PC.pr (k := 1) (pc' := 4) (lv' := [(2, .int (x2 + 1)), (1, .int (x1 ||| (1 <<< (x2 &&& 31)))), (0, .ref a0)]) (st' := []) rfl ?_
      exact PC.lv (lvE.cons rfl (lvE.cons rfl (lvE.cons rfl (lvE.nil)))) h

/-- DoorPaints.orders(I)I -/
theorem t_118_0 {xl : List Int32} {n : Nat} {ι : IS} {Q : Option Value → IS → Prop} {a0 : Nat} {x1 : Int32} (h : ((x1 < 0 → Q (some (.int (-1))) ι) ∧ (¬ x1 < 0 → ((¬ 1 < x1 → ((¬ 5 < (ι (rf a0 2) 2) → PC xl n 119 0 [(0, .ref a0), (1, .int 0), (2, .int 0)] [] (up (up ι a0 11 0) a0 12 0) (fun _ κ1 => ((¬ x1 = 0 → Q (some (.int (κ1 a0 12))) κ1) ∧ (x1 = 0 → Q (some (.int (κ1 a0 11))) κ1)))) ∧ (5 < (ι (rf a0 2) 2) → Q (some (.int (-2))) ι))) ∧ (1 < x1 → Q (some (.int (-1))) ι))))) : PC xl (n + 1) 118 0 [(0, .ref a0), (1, .int x1)] [] ι Q := by
  refine PC.pr1 (k := 0) (pc' := 1) (lv' := [(0, .ref a0), (1, .int x1)]) (st' := [.int x1]) rfl ?_
  refine PC.if1 (t := 9) rfl rfl (fun c => ?_) (fun c => ?_)
  · have h := h.1 (cmp_lt.1.mp c)
    refine PC.pr (k := 1) (pc' := 10) (lv' := [(0, .ref a0), (1, .int x1)]) (st' := [.int (-1)]) rfl ?_
    exact PC.retI rfl h
  · have h := h.2 (cmp_lt.2.mp c)
    refine PC.pr (k := 1) (pc' := 5) (lv' := [(0, .ref a0), (1, .int x1)]) (st' := [.int x1]) rfl ?_
    refine PC.pr (k := 1) (pc' := 6) (lv' := [(0, .ref a0), (1, .int x1)]) (st' := [.int 1, .int x1]) rfl ?_
    refine PC.if2 (t := 11) rfl rfl (fun c => ?_) (fun c => ?_)
    · have h := h.1 (cmp_le.1.mp c)
      refine PC.pr (k := 1) (pc' := 12) (lv' := [(0, .ref a0), (1, .int x1)]) (st' := [.ref a0]) rfl ?_
      refine PC.gR (ci := 0) (j := 2) rfl rfl (by decide) ?_
      refine PC.gI (ci := 2) (j := 2) rfl rfl (by decide) ?_
      refine PC.pr (k := 1) (pc' := 19) (lv' := [(0, .ref a0), (1, .int x1)]) (st' := [.int 5, .int (ι (rf a0 2) 2)]) rfl ?_
      refine PC.if2 (t := 25) rfl rfl (fun c => ?_) (fun c => ?_)
      · have h := h.1 (cmp_le.1.mp c)
        refine PC.pr (k := 1) (pc' := 26) (lv' := [(0, .ref a0), (1, .int x1)]) (st' := [.ref a0]) rfl ?_
        refine PC.pr (k := 1) (pc' := 27) (lv' := [(0, .ref a0), (1, .int x1)]) (st' := [.int 0, .ref a0]) rfl ?_
        refine PC.pI (ci := 0) (j := 11) rfl rfl ?_
        refine PC.pr (k := 1) (pc' := 31) (lv' := [(0, .ref a0), (1, .int x1)]) (st' := [.ref a0]) rfl ?_
        refine PC.pr (k := 1) (pc' := 32) (lv' := [(0, .ref a0), (1, .int x1)]) (st' := [.int 0, .ref a0]) rfl ?_
        refine PC.pI (ci := 0) (j := 12) rfl rfl ?_
        refine PC.pr (k := 1) (pc' := 36) (lv' := [(0, .ref a0), (1, .int x1)]) (st' := [.ref a0]) rfl ?_
        refine PC.pr (k := 1) (pc' := 37) (lv' := [(0, .ref a0), (1, .int x1)]) (st' := [.int 0, .ref a0]) rfl ?_
        refine PC.pr (k := 1) (pc' := 38) (lv' := [(0, .ref a0), (1, .int x1)]) (st' := [.int 0, .int 0, .ref a0]) rfl ?_
        refine (PC.callV (j := 119) (args := [.ref a0, .int 0, .int 0]) (rest := []) (M := cM119) rfl rfl rfl rfl rfl rfl (by decide) rfl rfl ?_).weak
        refine PC.imp h (fun _ κ1 h => ?_)
        refine PC.pr (k := 1) (pc' := 42) (lv' := [(0, .ref a0), (1, .int x1)]) (st' := [.int x1]) rfl ?_
        refine PC.if1 (t := 52) rfl rfl (fun c => ?_) (fun c => ?_)
        · have h := h.1 (cmp_ne.1.mp c)
          refine PC.pr (k := 1) (pc' := 53) (lv' := [(0, .ref a0), (1, .int x1)]) (st' := [.ref a0]) rfl ?_
          refine PC.gI (ci := 0) (j := 12) rfl rfl (by decide) ?_
          exact PC.retI rfl h
        · have h := h.2 (cmp_ne.2.mp c)
          refine PC.pr (k := 1) (pc' := 46) (lv' := [(0, .ref a0), (1, .int x1)]) (st' := [.ref a0]) rfl ?_
          refine PC.gI (ci := 0) (j := 11) rfl rfl (by decide) ?_
          refine PC.pr (k := 1) (pc' := 56) (lv' := [(0, .ref a0), (1, .int x1)]) (st' := [.int (κ1 a0 11)]) rfl ?_
          exact PC.retI rfl h
      · have h := h.2 (cmp_le.2.mp c)
        refine PC.pr (k := 1) (pc' := 24) (lv' := [(0, .ref a0), (1, .int x1)]) (st' := [.int (-2)]) rfl ?_
        exact PC.retI rfl h
    · have h := h.2 (cmp_le.2.mp c)
      refine PC.pr (k := 1) (pc' := 10) (lv' := [(0, .ref a0), (1, .int x1)]) (st' := [.int (-1)]) rfl ?_
      exact PC.retI rfl h

/-- DoorPaints.arrange(II)V -/
theorem t_119_0 {xl : List Int32} {n : Nat} {ι : IS} {Q : Option Value → IS → Prop} {a0 : Nat} {x1 : Int32} {x2 : Int32} (h : ((¬ x1 < (ι (rf a0 2) 2) → PC xl n 120 0 [(0, .ref a0), (1, .int x1)] [] ι (fun _ κ1 => Q none κ1)) ∧ (x1 < (ι (rf a0 2) 2) → ((x1 < 5 → PC xl n 119 24 [(0, .ref a0), (1, .int x1), (2, .int x2), (3, .int 0)] [] ι Q) ∧ (¬ x1 < 5 → PC xl n 120 0 [(0, .ref a0), (1, .int x1)] [] ι (fun _ κ2 => Q none κ2)))))) : PC xl (n + 1) 119 0 [(0, .ref a0), (1, .int x1), (2, .int x2)] [] ι Q := by
  refine PC.pr1 (k := 0) (pc' := 1) (lv' := [(0, .ref a0), (1, .int x1), (2, .int x2)]) (st' := [.int x1]) rfl ?_
  refine PC.pr (k := 1) (pc' := 2) (lv' := [(0, .ref a0), (1, .int x1), (2, .int x2)]) (st' := [.ref a0, .int x1]) rfl ?_
  refine PC.gR (ci := 0) (j := 2) rfl rfl (by decide) ?_
  refine PC.gI (ci := 2) (j := 2) rfl rfl (by decide) ?_
  refine PC.if2 (t := 16) rfl rfl (fun c => ?_) (fun c => ?_)
  · have h := h.1 (cmp_ge.1.mp c)
    refine PC.pr (k := 1) (pc' := 17) (lv' := [(0, .ref a0), (1, .int x1), (2, .int x2)]) (st' := [.ref a0]) rfl ?_
    refine PC.pr (k := 1) (pc' := 18) (lv' := [(0, .ref a0), (1, .int x1), (2, .int x2)]) (st' := [.int x1, .ref a0]) rfl ?_
    refine (PC.callV (j := 120) (args := [.ref a0, .int x1]) (rest := []) (M := cM120) rfl rfl rfl rfl rfl rfl (by decide) rfl rfl ?_).weak
    refine PC.imp h (fun _ κ1 h => ?_)
    exact PC.retV rfl h
  · have h := h.2 (cmp_ge.2.mp c)
    refine PC.pr (k := 1) (pc' := 12) (lv' := [(0, .ref a0), (1, .int x1), (2, .int x2)]) (st' := [.int x1]) rfl ?_
    refine PC.pr (k := 1) (pc' := 13) (lv' := [(0, .ref a0), (1, .int x1), (2, .int x2)]) (st' := [.int 5, .int x1]) rfl ?_
    refine PC.if2 (t := 22) rfl rfl (fun c => ?_) (fun c => ?_)
    · have h := h.1 (cmp_lt.1.mp c)
      refine PC.pr (k := 1) (pc' := 23) (lv' := [(0, .ref a0), (1, .int x1), (2, .int x2)]) (st' := [.int 0]) rfl ?_
      refine PC.pr (k := 1) (pc' := 24) (lv' := [(3, .int 0), (0, .ref a0), (1, .int x1), (2, .int x2)]) (st' := []) rfl ?_
      exact PC.lv (lvE.cons rfl (lvE.cons rfl (lvE.cons rfl (lvE.cons rfl (lvE.nil))))) h
    · have h := h.2 (cmp_lt.2.mp c)
      refine PC.pr (k := 1) (pc' := 17) (lv' := [(0, .ref a0), (1, .int x1), (2, .int x2)]) (st' := [.ref a0]) rfl ?_
      refine PC.pr (k := 1) (pc' := 18) (lv' := [(0, .ref a0), (1, .int x1), (2, .int x2)]) (st' := [.int x1, .ref a0]) rfl ?_
      refine (PC.callV (j := 120) (args := [.ref a0, .int x1]) (rest := []) (M := cM120) rfl rfl rfl rfl rfl rfl (by decide) rfl rfl ?_).weak
      refine PC.imp h (fun _ κ2 h => ?_)
      exact PC.retV rfl h
theorem t_119_24 {xl : List Int32} {n : Nat} {ι : IS} {Q : Option Value → IS → Prop} {a0 : Nat} {x1 : Int32} {x2 : Int32} {x3 : Int32} (h : ((¬ x3 < (ι (rf a0 2) 2) → Q none ι) ∧ (x3 < (ι (rf a0 2) 2) → ((¬ ((x2 >>> (x3 &&& 31)) &&& 1) = 0 → PC xl n 119 24 [(0, .ref a0), (1, .int x1), (2, .int x2), (3, .int (x3 + 1))] [] ι Q) ∧ (((x2 >>> (x3 &&& 31)) &&& 1) = 0 → (0 ≤ x1.toInt → x1.toInt < ln (rf a0 7) → PC xl n 119 0 [(0, .ref a0), (1, .int (x1 + 1)), (2, .int (x2 ||| (1 <<< (x3 &&& 31))))] [] (up ι (rf a0 7) x1.toNatClampNeg x3) (fun _ κ1 => PC xl n 119 24 [(0, .ref a0), (1, .int x1), (2, .int x2), (3, .int (x3 + 1))] [] κ1 Q))))))) : PC xl (n + 1) 119 24 [(0, .ref a0), (1, .int x1), (2, .int x2), (3, .int x3)] [] ι Q := by
  refine PC.pr1 (k := 0) (pc' := 25) (lv' := [(0, .ref a0), (1, .int x1), (2, .int x2), (3, .int x3)]) (st' := [.int x3]) rfl ?_
  refine PC.pr (k := 1) (pc' := 26) (lv' := [(0, .ref a0), (1, .int x1), (2, .int x2), (3, .int x3)]) (st' := [.ref a0, .int x3]) rfl ?_
  refine PC.gR (ci := 0) (j := 2) rfl rfl (by decide) ?_
  refine PC.gI (ci := 2) (j := 2) rfl rfl (by decide) ?_
  refine PC.if2 (t := 68) rfl rfl (fun c => ?_) (fun c => ?_)
  · have h := h.1 (cmp_ge.1.mp c)
    exact PC.retV rfl h
  · have h := h.2 (cmp_ge.2.mp c)
    refine PC.pr (k := 1) (pc' := 36) (lv' := [(0, .ref a0), (1, .int x1), (2, .int x2), (3, .int x3)]) (st' := [.int x2]) rfl ?_
    refine PC.pr (k := 1) (pc' := 37) (lv' := [(0, .ref a0), (1, .int x1), (2, .int x2), (3, .int x3)]) (st' := [.int x3, .int x2]) rfl ?_
    refine PC.pr (k := 1) (pc' := 38) (lv' := [(0, .ref a0), (1, .int x1), (2, .int x2), (3, .int x3)]) (st' := [.int (x2 >>> (x3 &&& 31))]) rfl ?_
    refine PC.pr (k := 1) (pc' := 39) (lv' := [(0, .ref a0), (1, .int x1), (2, .int x2), (3, .int x3)]) (st' := [.int 1, .int (x2 >>> (x3 &&& 31))]) rfl ?_
    refine PC.pr (k := 1) (pc' := 40) (lv' := [(0, .ref a0), (1, .int x1), (2, .int x2), (3, .int x3)]) (st' := [.int ((x2 >>> (x3 &&& 31)) &&& 1)]) rfl ?_
    refine PC.if1 (t := 62) rfl rfl (fun c => ?_) (fun c => ?_)
    · have h := h.1 (cmp_ne.1.mp c)
      refine PC.pr (k := 1) (pc' := 65) (lv' := [(3, .int (x3 + 1)), (0, .ref a0), (1, .int x1), (2, .int x2)]) (st' := []) rfl ?_
      refine PC.pr (k := 1) (pc' := 24) (lv' := [(3, .int (x3 + 1)), (0, .ref a0), (1, .int x1), (2, .int x2)]) (st' := []) rfl ?_
      exact PC.lv (lvE.cons rfl (lvE.cons rfl (lvE.cons rfl (lvE.cons rfl (lvE.nil))))) h
    · have h := h.2 (cmp_ne.2.mp c)
      refine PC.pr (k := 1) (pc' := 44) (lv' := [(0, .ref a0), (1, .int x1), (2, .int x2), (3, .int x3)]) (st' := [.ref a0]) rfl ?_
      refine PC.gR (ci := 0) (j := 7) rfl rfl (by decide) ?_
      refine PC.pr (k := 1) (pc' := 48) (lv' := [(0, .ref a0), (1, .int x1), (2, .int x2), (3, .int x3)]) (st' := [.int x1, .ref (rf a0 7)]) rfl ?_
      refine PC.pr (k := 1) (pc' := 49) (lv' := [(0, .ref a0), (1, .int x1), (2, .int x2), (3, .int x3)]) (st' := [.int x3, .int x1, .ref (rf a0 7)]) rfl ?_
      refine PC.wI rfl (fun c1 c2 => ?_)
      have h := h c1 c2
      refine PC.pr (k := 1) (pc' := 51) (lv' := [(0, .ref a0), (1, .int x1), (2, .int x2), (3, .int x3)]) (st' := [.ref a0]) rfl ?_
      refine PC.pr (k := 1) (pc' := 52) (lv' := [(0, .ref a0), (1, .int x1), (2, .int x2), (3, .int x3)]) (st' := [.int x1, .ref a0]) rfl ?_
      refine PC.pr (k := 1) (pc' := 53) (lv' := [(0, .ref a0), (1, .int x1), (2, .int x2), (3, .int x3)]) (st' := [.int 1, .int x1, .ref a0]) rfl ?_
      refine PC.pr (k := 1) (pc' := 54) (lv' := [(0, .ref a0), (1, .int x1), (2, .int x2), (3, .int x3)]) (st' := [.int (x1 + 1), .ref a0]) rfl ?_
      refine PC.pr (k := 1) (pc' := 55) (lv' := [(0, .ref a0), (1, .int x1), (2, .int x2), (3, .int x3)]) (st' := [.int x2, .int (x1 + 1), .ref a0]) rfl ?_
      refine PC.pr (k := 1) (pc' := 56) (lv' := [(0, .ref a0), (1, .int x1), (2, .int x2), (3, .int x3)]) (st' := [.int 1, .int x2, .int (x1 + 1), .ref a0]) rfl ?_
      refine PC.pr (k := 1) (pc' := 57) (lv' := [(0, .ref a0), (1, .int x1), (2, .int x2), (3, .int x3)]) (st' := [.int x3, .int 1, .int x2, .int (x1 + 1), .ref a0]) rfl ?_
      refine PC.pr (k := 1) (pc' := 58) (lv' := [(0, .ref a0), (1, .int x1), (2, .int x2), (3, .int x3)]) (st' := [.int (1 <<< (x3 &&& 31)), .int x2, .int (x1 + 1), .ref a0]) rfl ?_
      refine PC.pr (k := 1) (pc' := 59) (lv' := [(0, .ref a0), (1, .int x1), (2, .int x2), (3, .int x3)]) (st' := [.int (x2 ||| (1 <<< (x3 &&& 31))), .int (x1 + 1), .ref a0]) rfl ?_
      refine (PC.callV (j := 119) (args := [.ref a0, .int (x1 + 1), .int (x2 ||| (1 <<< (x3 &&& 31)))]) (rest := []) (M := cM119) rfl rfl rfl rfl rfl rfl (by decide) rfl rfl ?_).weak
      refine PC.imp h (fun _ κ1 h => ?_)
      refine PC.pr (k := 1) (pc' := 65) (lv' := [(3, .int (x3 + 1)), (0, .ref a0), (1, .int x1), (2, .int x2)]) (st' := []) rfl ?_
      refine PC.pr (k := 1) (pc' := 24) (lv' := [(3, .int (x3 + 1)), (0, .ref a0), (1, .int x1), (2, .int x2)]) (st' := []) rfl ?_
      exact PC.lv (lvE.cons rfl (lvE.cons rfl (lvE.cons rfl (lvE.cons rfl (lvE.nil))))) h

/-- DoorPaints.judgeOrder(I)V -/
theorem t_120_0 {xl : List Int32} {n : Nat} {ι : IS} {Q : Option Value → IS → Prop} {a0 : Nat} {x1 : Int32} (h : PC xl n 52 0 [(0, .ref (rf a0 5)), (1, .ref (rf (rf a0 2) 0))] [] ι (fun _ κ1 => PC xl n 120 16 [(0, .ref a0), (1, .int x1), (2, .int 0)] [] κ1 Q)) : PC xl (n + 1) 120 0 [(0, .ref a0), (1, .int x1)] [] ι Q := by
  refine PC.pr1 (k := 0) (pc' := 1) (lv' := [(0, .ref a0), (1, .int x1)]) (st' := [.ref a0]) rfl ?_
  refine PC.gR (ci := 0) (j := 5) rfl rfl (by decide) ?_
  refine PC.pr (k := 1) (pc' := 5) (lv' := [(0, .ref a0), (1, .int x1)]) (st' := [.ref a0, .ref (rf a0 5)]) rfl ?_
  refine PC.gR (ci := 0) (j := 2) rfl rfl (by decide) ?_
  refine PC.gR (ci := 2) (j := 0) rfl rfl (by decide) ?_
  refine (PC.callV (j := 52) (args := [.ref (rf a0 5), .ref (rf (rf a0 2) 0)]) (rest := []) (M := cM52) rfl rfl rfl rfl rfl rfl (by decide) rfl rfl ?_).weak
  refine PC.imp h (fun _ κ1 h => ?_)
  refine PC.pr (k := 1) (pc' := 15) (lv' := [(0, .ref a0), (1, .int x1)]) (st' := [.int 0]) rfl ?_
  refine PC.pr (k := 1) (pc' := 16) (lv' := [(2, .int 0), (0, .ref a0), (1, .int x1)]) (st' := []) rfl ?_
  exact PC.lv (lvE.cons rfl (lvE.cons rfl (lvE.cons rfl (lvE.nil)))) h
theorem t_120_16 {xl : List Int32} {n : Nat} {ι : IS} {Q : Option Value → IS → Prop} {a0 : Nat} {x1 : Int32} {x2 : Int32} (h : ((¬ x2 < x1 → PC xl n 116 0 [(0, .ref (rf a0 2)), (1, .ref (rf a0 5))] [] ι (fun v1 κ1 => ∀ r1, v1 = some (.int r1) → ((r1 = 0 → Q none κ1) ∧ (¬ r1 = 0 → ((¬ 0 < x1 → Q none (up (up κ1 a0 11 ((κ1 a0 11) + 1)) a0 12 (((up κ1 a0 11 ((κ1 a0 11) + 1)) a0 12) ||| 0))) ∧ (0 < x1 → (0 ≤ (x1 - 1).toInt → (x1 - 1).toInt < ln (rf a0 7) → Q none (up (up κ1 a0 11 ((κ1 a0 11) + 1)) a0 12 (((up κ1 a0 11 ((κ1 a0 11) + 1)) a0 12) ||| (1 <<< (((up κ1 a0 11 ((κ1 a0 11) + 1)) (rf a0 7) (x1 - 1).toNatClampNeg) &&& 31))))))))))) ∧ (x2 < x1 → (0 ≤ x2.toInt → x2.toInt < ln (rf a0 7) → (0 ≤ (ι (rf a0 7) x2.toNatClampNeg).toInt → (ι (rf a0 7) x2.toNatClampNeg).toInt < ln (rf (rf a0 2) 1) → PC xl n 89 0 [(0, .ref (rf a0 5)), (1, .int (ι (rf (rf a0 2) 1) (ι (rf a0 7) x2.toNatClampNeg).toNatClampNeg))] [] ι (fun v2 κ2 => ∀ r2, v2 = some (.int r2) → PC xl n 120 16 [(0, .ref a0), (1, .int x1), (2, .int (x2 + 1))] [] κ2 Q)))))) : PC xl (n + 1) 120 16 [(0, .ref a0), (1, .int x1), (2, .int x2)] [] ι Q := by
  refine PC.pr1 (k := 0) (pc' := 17) (lv' := [(0, .ref a0), (1, .int x1), (2, .int x2)]) (st' := [.int x2]) rfl ?_
  refine PC.pr (k := 1) (pc' := 18) (lv' := [(0, .ref a0), (1, .int x1), (2, .int x2)]) (st' := [.int x1, .int x2]) rfl ?_
  refine PC.if2 (t := 49) rfl rfl (fun c => ?_) (fun c => ?_)
  · have h := h.1 (cmp_ge.1.mp c)
    refine PC.pr (k := 1) (pc' := 50) (lv' := [(0, .ref a0), (1, .int x1), (2, .int x2)]) (st' := [.ref a0]) rfl ?_
    refine PC.gR (ci := 0) (j := 2) rfl rfl (by decide) ?_
    refine PC.pr (k := 1) (pc' := 54) (lv' := [(0, .ref a0), (1, .int x1), (2, .int x2)]) (st' := [.ref a0, .ref (rf a0 2)]) rfl ?_
    refine PC.gR (ci := 0) (j := 5) rfl rfl (by decide) ?_
    refine (PC.callI (j := 116) (args := [.ref (rf a0 2), .ref (rf a0 5)]) (rest := []) (M := cM116) (ty := .boolean) rfl rfl rfl rfl rfl rfl (by decide) rfl rfl (by decide) ?_).weak
    refine PC.imp h (fun v1 κ1 h r1 hv => ?_)
    have h := h r1 hv
    refine PC.if1 (t := 100) rfl rfl (fun c => ?_) (fun c => ?_)
    · have h := h.1 (cmp_eq.1.mp c)
      exact PC.retV rfl h
    · have h := h.2 (cmp_eq.2.mp c)
      refine PC.pr (k := 1) (pc' := 64) (lv' := [(0, .ref a0), (1, .int x1), (2, .int x2)]) (st' := [.ref a0]) rfl ?_
      refine PC.pr (k := 1) (pc' := 65) (lv' := [(0, .ref a0), (1, .int x1), (2, .int x2)]) (st' := [.ref a0, .ref a0]) rfl ?_
      refine PC.gI (ci := 0) (j := 11) rfl rfl (by decide) ?_
      refine PC.pr (k := 1) (pc' := 69) (lv' := [(0, .ref a0), (1, .int x1), (2, .int x2)]) (st' := [.int 1, .int (κ1 a0 11), .ref a0]) rfl ?_
      refine PC.pr (k := 1) (pc' := 70) (lv' := [(0, .ref a0), (1, .int x1), (2, .int x2)]) (st' := [.int ((κ1 a0 11) + 1), .ref a0]) rfl ?_
      refine PC.pI (ci := 0) (j := 11) rfl rfl ?_
      refine PC.pr (k := 1) (pc' := 74) (lv' := [(0, .ref a0), (1, .int x1), (2, .int x2)]) (st' := [.ref a0]) rfl ?_
      refine PC.pr (k := 1) (pc' := 75) (lv' := [(0, .ref a0), (1, .int x1), (2, .int x2)]) (st' := [.ref a0, .ref a0]) rfl ?_
      refine PC.gI (ci := 0) (j := 12) rfl rfl (by decide) ?_
      refine PC.pr (k := 1) (pc' := 79) (lv' := [(0, .ref a0), (1, .int x1), (2, .int x2)]) (st' := [.int x1, .int ((up κ1 a0 11 ((κ1 a0 11) + 1)) a0 12), .ref a0]) rfl ?_
      refine PC.if1 (t := 95) rfl rfl (fun c => ?_) (fun c => ?_)
      · have h := h.1 (cmp_le.1.mp c)
        refine PC.pr (k := 1) (pc' := 96) (lv' := [(0, .ref a0), (1, .int x1), (2, .int x2)]) (st' := [.int 0, .int ((up κ1 a0 11 ((κ1 a0 11) + 1)) a0 12), .ref a0]) rfl ?_
        refine PC.pr (k := 1) (pc' := 97) (lv' := [(0, .ref a0), (1, .int x1), (2, .int x2)]) (st' := [.int (((up κ1 a0 11 ((κ1 a0 11) + 1)) a0 12) ||| 0), .ref a0]) rfl ?_
        refine PC.pI (ci := 0) (j := 12) rfl rfl ?_
        exact PC.retV rfl h
      · have h := h.2 (cmp_le.2.mp c)
        refine PC.pr (k := 1) (pc' := 83) (lv' := [(0, .ref a0), (1, .int x1), (2, .int x2)]) (st' := [.int 1, .int ((up κ1 a0 11 ((κ1 a0 11) + 1)) a0 12), .ref a0]) rfl ?_
        refine PC.pr (k := 1) (pc' := 84) (lv' := [(0, .ref a0), (1, .int x1), (2, .int x2)]) (st' := [.ref a0, .int 1, .int ((up κ1 a0 11 ((κ1 a0 11) + 1)) a0 12), .ref a0]) rfl ?_
        refine PC.gR (ci := 0) (j := 7) rfl rfl (by decide) ?_
        refine PC.pr (k := 1) (pc' := 88) (lv' := [(0, .ref a0), (1, .int x1), (2, .int x2)]) (st' := [.int x1, .ref (rf a0 7), .int 1, .int ((up κ1 a0 11 ((κ1 a0 11) + 1)) a0 12), .ref a0]) rfl ?_
        refine PC.pr (k := 1) (pc' := 89) (lv' := [(0, .ref a0), (1, .int x1), (2, .int x2)]) (st' := [.int 1, .int x1, .ref (rf a0 7), .int 1, .int ((up κ1 a0 11 ((κ1 a0 11) + 1)) a0 12), .ref a0]) rfl ?_
        refine PC.pr (k := 1) (pc' := 90) (lv' := [(0, .ref a0), (1, .int x1), (2, .int x2)]) (st' := [.int (x1 - 1), .ref (rf a0 7), .int 1, .int ((up κ1 a0 11 ((κ1 a0 11) + 1)) a0 12), .ref a0]) rfl ?_
        refine PC.rd rfl (rf_lt _ _) (fun c1 c2 => ?_)
        have h := h c1 c2
        refine PC.pr (k := 1) (pc' := 92) (lv' := [(0, .ref a0), (1, .int x1), (2, .int x2)]) (st' := [.int (1 <<< (((up κ1 a0 11 ((κ1 a0 11) + 1)) (rf a0 7) (x1 - 1).toNatClampNeg) &&& 31)), .int ((up κ1 a0 11 ((κ1 a0 11) + 1)) a0 12), .ref a0]) rfl ?_
        refine PC.pr (k := 1) (pc' := 96) (lv' := [(0, .ref a0), (1, .int x1), (2, .int x2)]) (st' := [.int (1 <<< (((up κ1 a0 11 ((κ1 a0 11) + 1)) (rf a0 7) (x1 - 1).toNatClampNeg) &&& 31)), .int ((up κ1 a0 11 ((κ1 a0 11) + 1)) a0 12), .ref a0]) rfl ?_
        refine PC.pr (k := 1) (pc' := 97) (lv' := [(0, .ref a0), (1, .int x1), (2, .int x2)]) (st' := [.int (((up κ1 a0 11 ((κ1 a0 11) + 1)) a0 12) ||| (1 <<< (((up κ1 a0 11 ((κ1 a0 11) + 1)) (rf a0 7) (x1 - 1).toNatClampNeg) &&& 31))), .ref a0]) rfl ?_
        refine PC.pI (ci := 0) (j := 12) rfl rfl ?_
        exact PC.retV rfl h
  · have h := h.2 (cmp_ge.2.mp c)
    refine PC.pr (k := 1) (pc' := 22) (lv' := [(0, .ref a0), (1, .int x1), (2, .int x2)]) (st' := [.ref a0]) rfl ?_
    refine PC.gR (ci := 0) (j := 5) rfl rfl (by decide) ?_
    refine PC.pr (k := 1) (pc' := 26) (lv' := [(0, .ref a0), (1, .int x1), (2, .int x2)]) (st' := [.ref a0, .ref (rf a0 5)]) rfl ?_
    refine PC.gR (ci := 0) (j := 2) rfl rfl (by decide) ?_
    refine PC.gR (ci := 2) (j := 1) rfl rfl (by decide) ?_
    refine PC.pr (k := 1) (pc' := 33) (lv' := [(0, .ref a0), (1, .int x1), (2, .int x2)]) (st' := [.ref a0, .ref (rf (rf a0 2) 1), .ref (rf a0 5)]) rfl ?_
    refine PC.gR (ci := 0) (j := 7) rfl rfl (by decide) ?_
    refine PC.pr (k := 1) (pc' := 37) (lv' := [(0, .ref a0), (1, .int x1), (2, .int x2)]) (st' := [.int x2, .ref (rf a0 7), .ref (rf (rf a0 2) 1), .ref (rf a0 5)]) rfl ?_
    refine PC.rd rfl (rf_lt _ _) (fun c1 c2 => ?_)
    have h := h c1 c2
    refine PC.rd rfl (rf_lt _ _) (fun c1 c2 => ?_)
    have h := h c1 c2
    refine (PC.callI (j := 89) (args := [.ref (rf a0 5), .int (ι (rf (rf a0 2) 1) (ι (rf a0 7) x2.toNatClampNeg).toNatClampNeg)]) (rest := []) (M := cM89) (ty := .boolean) rfl rfl rfl rfl rfl rfl (by decide) rfl rfl (by decide) ?_).weak
    refine PC.imp h (fun v2 κ2 h r2 hv => ?_)
    have h := h r2 hv
    refine PC.pr (k := 1) (pc' := 43) (lv' := [(0, .ref a0), (1, .int x1), (2, .int x2)]) (st' := []) rfl ?_
    refine PC.pr (k := 1) (pc' := 46) (lv' := [(2, .int (x2 + 1)), (0, .ref a0), (1, .int x1)]) (st' := []) rfl ?_
    refine PC.pr (k := 1) (pc' := 16) (lv' := [(2, .int (x2 + 1)), (0, .ref a0), (1, .int x1)]) (st' := []) rfl ?_
    exact PC.lv (lvE.cons rfl (lvE.cons rfl (lvE.cons rfl (lvE.nil)))) h

/-- DoorPaints.luck(III)J -/
theorem t_121_0 {xl : List Int32} {n : Nat} {ι : IS} {Q : Option Value → IS → Prop} {a0 : Nat} {x1 : Int32} {x2 : Int32} {x3 : Int32} (h : ((x1 < 0 → Q (some (.long (-1))) ι) ∧ (¬ x1 < 0 → ((10 < x1 → Q (some (.long (-1))) ι) ∧ (¬ 10 < x1 → PC xl n 50 0 [(0, .ref (rf (rf a0 2) 0)), (1, .int x2)] [] ι (fun v1 κ1 => ∀ r1, v1 = some (.int r1) → ((r1 = 0 → Q (some (.long (-1))) κ1) ∧ (¬ r1 = 0 → ((x3 < 0 → Q (some (.long (-1))) κ1) ∧ (¬ x3 < 0 → ((¬ 1 < x3 → PC xl n 122 0 [(0, .ref (rf a0 2))] [] κ1 (fun v2 κ2 => ∀ r2, v2 = some (.int r2) → PC xl n 121 52 [(0, .ref a0), (1, .int x1), (2, .int x2), (3, .int x3), (4, .int r2), (5, .long 0), (7, .int 0), (8, .null)] [] κ2 Q)) ∧ (1 < x3 → Q (some (.long (-1))) κ1)))))))))))) : PC xl (n + 1) 121 0 [(0, .ref a0), (1, .int x1), (2, .int x2), (3, .int x3)] [] ι Q := by
  refine PC.pr1 (k := 0) (pc' := 1) (lv' := [(0, .ref a0), (1, .int x1), (2, .int x2), (3, .int x3)]) (st' := [.int x1]) rfl ?_
  refine PC.if1 (t := 33) rfl rfl (fun c => ?_) (fun c => ?_)
  · have h := h.1 (cmp_lt.1.mp c)
    refine PC.pr (k := 1) (pc' := 36) (lv' := [(0, .ref a0), (1, .int x1), (2, .int x2), (3, .int x3)]) (st' := [.long (-1)]) rfl ?_
    exact PC.retJ rfl h
  · have h := h.2 (cmp_lt.2.mp c)
    refine PC.pr (k := 1) (pc' := 5) (lv' := [(0, .ref a0), (1, .int x1), (2, .int x2), (3, .int x3)]) (st' := [.int x1]) rfl ?_
    refine PC.pr (k := 1) (pc' := 7) (lv' := [(0, .ref a0), (1, .int x1), (2, .int x2), (3, .int x3)]) (st' := [.int 10, .int x1]) rfl ?_
    refine PC.if2 (t := 33) rfl rfl (fun c => ?_) (fun c => ?_)
    · have h := h.1 (cmp_gt.1.mp c)
      refine PC.pr (k := 1) (pc' := 36) (lv' := [(0, .ref a0), (1, .int x1), (2, .int x2), (3, .int x3)]) (st' := [.long (-1)]) rfl ?_
      exact PC.retJ rfl h
    · have h := h.2 (cmp_gt.2.mp c)
      refine PC.pr (k := 1) (pc' := 11) (lv' := [(0, .ref a0), (1, .int x1), (2, .int x2), (3, .int x3)]) (st' := [.ref a0]) rfl ?_
      refine PC.gR (ci := 0) (j := 2) rfl rfl (by decide) ?_
      refine PC.gR (ci := 2) (j := 0) rfl rfl (by decide) ?_
      refine PC.pr (k := 1) (pc' := 18) (lv' := [(0, .ref a0), (1, .int x1), (2, .int x2), (3, .int x3)]) (st' := [.int x2, .ref (rf (rf a0 2) 0)]) rfl ?_
      refine (PC.callI (j := 50) (args := [.ref (rf (rf a0 2) 0), .int x2]) (rest := []) (M := cM50) (ty := .boolean) rfl rfl rfl rfl rfl rfl (by decide) rfl rfl (by decide) ?_).weak
      refine PC.imp h (fun v1 κ1 h r1 hv => ?_)
      have h := h r1 hv
      refine PC.if1 (t := 33) rfl rfl (fun c => ?_) (fun c => ?_)
      · have h := h.1 (cmp_eq.1.mp c)
        refine PC.pr (k := 1) (pc' := 36) (lv' := [(0, .ref a0), (1, .int x1), (2, .int x2), (3, .int x3)]) (st' := [.long (-1)]) rfl ?_
        exact PC.retJ rfl h
      · have h := h.2 (cmp_eq.2.mp c)
        refine PC.pr (k := 1) (pc' := 25) (lv' := [(0, .ref a0), (1, .int x1), (2, .int x2), (3, .int x3)]) (st' := [.int x3]) rfl ?_
        refine PC.if1 (t := 33) rfl rfl (fun c => ?_) (fun c => ?_)
        · have h := h.1 (cmp_lt.1.mp c)
          refine PC.pr (k := 1) (pc' := 36) (lv' := [(0, .ref a0), (1, .int x1), (2, .int x2), (3, .int x3)]) (st' := [.long (-1)]) rfl ?_
          exact PC.retJ rfl h
        · have h := h.2 (cmp_lt.2.mp c)
          refine PC.pr (k := 1) (pc' := 29) (lv' := [(0, .ref a0), (1, .int x1), (2, .int x2), (3, .int x3)]) (st' := [.int x3]) rfl ?_
          refine PC.pr (k := 1) (pc' := 30) (lv' := [(0, .ref a0), (1, .int x1), (2, .int x2), (3, .int x3)]) (st' := [.int 1, .int x3]) rfl ?_
          refine PC.if2 (t := 37) rfl rfl (fun c => ?_) (fun c => ?_)
          · have h := h.1 (cmp_le.1.mp c)
            refine PC.pr (k := 1) (pc' := 38) (lv' := [(0, .ref a0), (1, .int x1), (2, .int x2), (3, .int x3)]) (st' := [.ref a0]) rfl ?_
            refine PC.gR (ci := 0) (j := 2) rfl rfl (by decide) ?_
            refine (PC.callI (j := 122) (args := [.ref (rf a0 2)]) (rest := []) (M := cM122) (ty := .int) rfl rfl rfl rfl rfl rfl (by decide) rfl rfl (by decide) ?_).weak
            refine PC.imp h (fun v2 κ2 h r2 hv => ?_)
            have h := h r2 hv
            refine PC.pr (k := 1) (pc' := 46) (lv' := [(4, .int r2), (0, .ref a0), (1, .int x1), (2, .int x2), (3, .int x3)]) (st' := []) rfl ?_
            refine PC.pr (k := 1) (pc' := 47) (lv' := [(4, .int r2), (0, .ref a0), (1, .int x1), (2, .int x2), (3, .int x3)]) (st' := [.long 0]) rfl ?_
            refine PC.pr (k := 1) (pc' := 49) (lv' := [(5, .long 0), (4, .int r2), (0, .ref a0), (1, .int x1), (2, .int x2), (3, .int x3)]) (st' := []) rfl ?_
            refine PC.pr (k := 1) (pc' := 50) (lv' := [(5, .long 0), (4, .int r2), (0, .ref a0), (1, .int x1), (2, .int x2), (3, .int x3)]) (st' := [.int 0]) rfl ?_
            refine PC.pr (k := 1) (pc' := 52) (lv' := [(7, .int 0), (5, .long 0), (4, .int r2), (0, .ref a0), (1, .int x1), (2, .int x2), (3, .int x3)]) (st' := []) rfl ?_
            exact PC.lv (lvE.cons rfl (lvE.cons rfl (lvE.cons rfl (lvE.cons rfl (lvE.cons rfl (lvE.cons rfl (lvE.cons rfl (lvE.nil)))))))) h
          · have h := h.2 (cmp_le.2.mp c)
            refine PC.pr (k := 1) (pc' := 36) (lv' := [(0, .ref a0), (1, .int x1), (2, .int x2), (3, .int x3)]) (st' := [.long (-1)]) rfl ?_
            exact PC.retJ rfl h
theorem t_121_52 {xl : List Int32} {n : Nat} {ι : IS} {Q : Option Value → IS → Prop} {a0 : Nat} {x1 : Int32} {x2 : Int32} {x3 : Int32} {x4 : Int32} {y5 : Int64} {x7 : Int32} {w8 : Value} (h : ((¬ x7 < (1 <<< (x4 &&& 31)) → PC xl n 125 0 [(0, .int x4)] [] ι (fun v1 κ1 => ∀ r1, v1 = some (.long r1) → PC xl n 126 0 [(0, .long y5), (2, .long r1), (4, .int x3)] [] κ1 (fun v2 κ2 => ∀ r2, v2 = some (.long r2) → Q (some (.long r2)) κ2))) ∧ (x7 < (1 <<< (x4 &&& 31)) → PC xl n 123 0 [(0, .int x7), (1, .int x4), (2, .int x1)] [] ι (fun v3 κ3 => ∀ r3, v3 = some (.long r3) → ((¬ 0 < (lg_cmp r3 0) → PC xl n 121 52 [(0, .ref a0), (1, .int x1), (2, .int x2), (3, .int x3), (4, .int x4), (5, .long y5), (7, .int (x7 + 1)), (8, .long r3)] [] κ3 Q) ∧ (0 < (lg_cmp r3 0) → PC xl n 124 0 [(0, .ref a0), (1, .int x7)] [] κ3 (fun _ κ4 => (0 ≤ x2.toInt → x2.toInt < lr (rf (rf a0 5) 1) → PC xl n 59 0 [(0, .ref (re (rf (rf a0 5) 1) x2.toNatClampNeg))] [] κ4 (fun v5 κ5 => ∀ r5, v5 = some (.int r5) → ((r5 = 0 → PC xl n 121 52 [(0, .ref a0), (1, .int x1), (2, .int x2), (3, .int x3), (4, .int x4), (5, .long (y5 + 0)), (7, .int (x7 + 1)), (8, .long r3)] [] κ5 Q) ∧ (¬ r5 = 0 → PC xl n 121 52 [(0, .ref a0), (1, .int x1), (2, .int x2), (3, .int x3), (4, .int x4), (5, .long (y5 + r3)), (7, .int (x7 + 1)), (8, .long r3)] [] κ5 Q))))))))))) : PC xl (n + 1) 121 52 [(0, .ref a0), (1, .int x1), (2, .int x2), (3, .int x3), (4, .int x4), (5, .long y5), (7, .int x7), (8, w8)] [] ι Q := by
  refine PC.pr1 (k := 0) (pc' := 54) (lv' := [(0, .ref a0), (1, .int x1), (2, .int x2), (3, .int x3), (4, .int x4), (5, .long y5), (7, .int x7), (8, w8)]) (st' := [.int x7]) rfl ?_
  refine PC.pr (k := 1) (pc' := 55) (lv' := [(0, .ref a0), (1, .int x1), (2, .int x2), (3, .int x3), (4, .int x4), (5, .long y5), (7, .int x7), (8, w8)]) (st' := [.int 1, .int x7]) rfl ?_
  refine PC.pr (k := 1) (pc' := 57) (lv' := [(0, .ref a0), (1, .int x1), (2, .int x2), (3, .int x3), (4, .int x4), (5, .long y5), (7, .int x7), (8, w8)]) (st' := [.int x4, .int 1, .int x7]) rfl ?_
  refine PC.pr (k := 1) (pc' := 58) (lv' := [(0, .ref a0), (1, .int x1), (2, .int x2), (3, .int x3), (4, .int x4), (5, .long y5), (7, .int x7), (8, w8)]) (st' := [.int (1 <<< (x4 &&& 31)), .int x7]) rfl ?_
  refine PC.if2 (t := 116) rfl rfl (fun c => ?_) (fun c => ?_)
  · have h := h.1 (cmp_ge.1.mp c)
    refine PC.pr (k := 1) (pc' := 118) (lv' := [(0, .ref a0), (1, .int x1), (2, .int x2), (3, .int x3), (4, .int x4), (5, .long y5), (7, .int x7), (8, w8)]) (st' := [.long y5]) rfl ?_
    refine PC.pr (k := 1) (pc' := 120) (lv' := [(0, .ref a0), (1, .int x1), (2, .int x2), (3, .int x3), (4, .int x4), (5, .long y5), (7, .int x7), (8, w8)]) (st' := [.int x4, .long y5]) rfl ?_
    refine (PC.callJ (j := 125) (args := [.int x4]) (rest := [.long y5]) (M := cM125) rfl rfl rfl rfl rfl rfl (by decide) rfl rfl rfl ?_).weak
    refine PC.imp h (fun v1 κ1 h r1 hv => ?_)
    have h := h r1 hv
    refine PC.pr (k := 1) (pc' := 124) (lv' := [(0, .ref a0), (1, .int x1), (2, .int x2), (3, .int x3), (4, .int x4), (5, .long y5), (7, .int x7), (8, w8)]) (st' := [.int x3, .long r1, .long y5]) rfl ?_
    refine (PC.callJ (j := 126) (args := [.long y5, .long r1, .int x3]) (rest := []) (M := cM126) rfl rfl rfl rfl rfl rfl (by decide) rfl rfl rfl ?_).weak
    refine PC.imp h (fun v2 κ2 h r2 hv => ?_)
    have h := h r2 hv
    exact PC.retJ rfl h
  · have h := h.2 (cmp_ge.2.mp c)
    refine PC.pr (k := 1) (pc' := 63) (lv' := [(0, .ref a0), (1, .int x1), (2, .int x2), (3, .int x3), (4, .int x4), (5, .long y5), (7, .int x7), (8, w8)]) (st' := [.int x7]) rfl ?_
    refine PC.pr (k := 1) (pc' := 65) (lv' := [(0, .ref a0), (1, .int x1), (2, .int x2), (3, .int x3), (4, .int x4), (5, .long y5), (7, .int x7), (8, w8)]) (st' := [.int x4, .int x7]) rfl ?_
    refine PC.pr (k := 1) (pc' := 66) (lv' := [(0, .ref a0), (1, .int x1), (2, .int x2), (3, .int x3), (4, .int x4), (5, .long y5), (7, .int x7), (8, w8)]) (st' := [.int x1, .int x4, .int x7]) rfl ?_
    refine (PC.callJ (j := 123) (args := [.int x7, .int x4, .int x1]) (rest := []) (M := cM123) rfl rfl rfl rfl rfl rfl (by decide) rfl rfl rfl ?_).weak
    refine PC.imp h (fun v3 κ3 h r3 hv => ?_)
    have h := h r3 hv
    refine PC.pr (k := 1) (pc' := 71) (lv' := [(8, .long r3), (0, .ref a0), (1, .int x1), (2, .int x2), (3, .int x3), (4, .int x4), (5, .long y5), (7, .int x7)]) (st' := []) rfl ?_
    refine PC.pr (k := 1) (pc' := 73) (lv' := [(8, .long r3), (0, .ref a0), (1, .int x1), (2, .int x2), (3, .int x3), (4, .int x4), (5, .long y5), (7, .int x7)]) (st' := [.long r3]) rfl ?_
    refine PC.pr (k := 1) (pc' := 74) (lv' := [(8, .long r3), (0, .ref a0), (1, .int x1), (2, .int x2), (3, .int x3), (4, .int x4), (5, .long y5), (7, .int x7)]) (st' := [.long 0, .long r3]) rfl ?_
    refine PC.pr (k := 1) (pc' := 75) (lv' := [(8, .long r3), (0, .ref a0), (1, .int x1), (2, .int x2), (3, .int x3), (4, .int x4), (5, .long y5), (7, .int x7)]) (st' := [.int (lg_cmp r3 0)]) rfl ?_
    refine PC.if1 (t := 110) rfl rfl (fun c => ?_) (fun c => ?_)
    · have h := h.1 (cmp_le.1.mp c)
      refine PC.pr (k := 1) (pc' := 113) (lv' := [(7, .int (x7 + 1)), (8, .long r3), (0, .ref a0), (1, .int x1), (2, .int x2), (3, .int x3), (4, .int x4), (5, .long y5)]) (st' := []) rfl ?_
      refine PC.pr (k := 1) (pc' := 52) (lv' := [(7, .int (x7 + 1)), (8, .long r3), (0, .ref a0), (1, .int x1), (2, .int x2), (3, .int x3), (4, .int x4), (5, .long y5)]) (st' := []) rfl ?_
      exact PC.lv (lvE.cons rfl (lvE.cons rfl (lvE.cons rfl (lvE.cons rfl (lvE.cons rfl (lvE.cons rfl (lvE.cons rfl (lvE.cons rfl (lvE.nil))))))))) h
    · have h := h.2 (cmp_le.2.mp c)
      refine PC.pr (k := 1) (pc' := 79) (lv' := [(8, .long r3), (0, .ref a0), (1, .int x1), (2, .int x2), (3, .int x3), (4, .int x4), (5, .long y5), (7, .int x7)]) (st' := [.ref a0]) rfl ?_
      refine PC.pr (k := 1) (pc' := 81) (lv' := [(8, .long r3), (0, .ref a0), (1, .int x1), (2, .int x2), (3, .int x3), (4, .int x4), (5, .long y5), (7, .int x7)]) (st' := [.int x7, .ref a0]) rfl ?_
      refine (PC.callV (j := 124) (args := [.ref a0, .int x7]) (rest := []) (M := cM124) rfl rfl rfl rfl rfl rfl (by decide) rfl rfl ?_).weak
      refine PC.imp h (fun _ κ4 h => ?_)
      refine PC.pr (k := 1) (pc' := 86) (lv' := [(8, .long r3), (0, .ref a0), (1, .int x1), (2, .int x2), (3, .int x3), (4, .int x4), (5, .long y5), (7, .int x7)]) (st' := [.long y5]) rfl ?_
      refine PC.pr (k := 1) (pc' := 87) (lv' := [(8, .long r3), (0, .ref a0), (1, .int x1), (2, .int x2), (3, .int x3), (4, .int x4), (5, .long y5), (7, .int x7)]) (st' := [.ref a0, .long y5]) rfl ?_
      refine PC.gR (ci := 0) (j := 5) rfl rfl (by decide) ?_
      refine PC.gR (ci := 3) (j := 1) rfl rfl (by decide) ?_
      refine PC.pr (k := 1) (pc' := 94) (lv' := [(8, .long r3), (0, .ref a0), (1, .int x1), (2, .int x2), (3, .int x3), (4, .int x4), (5, .long y5), (7, .int x7)]) (st' := [.int x2, .ref (rf (rf a0 5) 1), .long y5]) rfl ?_
      refine PC.ra rfl (fun c1 c2 => ?_)
      have h := h c1 c2
      refine (PC.callI (j := 59) (args := [.ref (re (rf (rf a0 5) 1) x2.toNatClampNeg)]) (rest := [.long y5]) (M := cM59) (ty := .boolean) rfl rfl rfl rfl rfl rfl (by decide) rfl rfl (by decide) ?_).weak
      refine PC.imp h (fun v5 κ5 h r5 hv => ?_)
      have h := h r5 hv
      refine PC.if1 (t := 106) rfl rfl (fun c => ?_) (fun c => ?_)
      · have h := h.1 (cmp_eq.1.mp c)
        refine PC.pr (k := 1) (pc' := 107) (lv' := [(8, .long r3), (0, .ref a0), (1, .int x1), (2, .int x2), (3, .int x3), (4, .int x4), (5, .long y5), (7, .int x7)]) (st' := [.long 0, .long y5]) rfl ?_
        refine PC.pr (k := 1) (pc' := 108) (lv' := [(8, .long r3), (0, .ref a0), (1, .int x1), (2, .int x2), (3, .int x3), (4, .int x4), (5, .long y5), (7, .int x7)]) (st' := [.long (y5 + 0)]) rfl ?_
        refine PC.pr (k := 1) (pc' := 110) (lv' := [(5, .long (y5 + 0)), (8, .long r3), (0, .ref a0), (1, .int x1), (2, .int x2), (3, .int x3), (4, .int x4), (7, .int x7)]) (st' := []) rfl ?_
        refine PC.pr (k := 1) (pc' := 113) (lv' := [(7, .int (x7 + 1)), (5, .long (y5 + 0)), (8, .long r3), (0, .ref a0), (1, .int x1), (2, .int x2), (3, .int x3), (4, .int x4)]) (st' := []) rfl ?_
        refine PC.pr (k := 1) (pc' := 52) (lv' := [(7, .int (x7 + 1)), (5, .long (y5 + 0)), (8, .long r3), (0, .ref a0), (1, .int x1), (2, .int x2), (3, .int x3), (4, .int x4)]) (st' := []) rfl ?_
        exact PC.lv (lvE.cons rfl (lvE.cons rfl (lvE.cons rfl (lvE.cons rfl (lvE.cons rfl (lvE.cons rfl (lvE.cons rfl (lvE.cons rfl (lvE.nil))))))))) h
      · have h := h.2 (cmp_eq.2.mp c)
        refine PC.pr (k := 1) (pc' := 103) (lv' := [(8, .long r3), (0, .ref a0), (1, .int x1), (2, .int x2), (3, .int x3), (4, .int x4), (5, .long y5), (7, .int x7)]) (st' := [.long r3, .long y5]) rfl ?_
        refine PC.pr (k := 1) (pc' := 107) (lv' := [(8, .long r3), (0, .ref a0), (1, .int x1), (2, .int x2), (3, .int x3), (4, .int x4), (5, .long y5), (7, .int x7)]) (st' := [.long r3, .long y5]) rfl ?_
        refine PC.pr (k := 1) (pc' := 108) (lv' := [(8, .long r3), (0, .ref a0), (1, .int x1), (2, .int x2), (3, .int x3), (4, .int x4), (5, .long y5), (7, .int x7)]) (st' := [.long (y5 + r3)]) rfl ?_
        refine PC.pr (k := 1) (pc' := 110) (lv' := [(5, .long (y5 + r3)), (8, .long r3), (0, .ref a0), (1, .int x1), (2, .int x2), (3, .int x3), (4, .int x4), (7, .int x7)]) (st' := []) rfl ?_
        refine PC.pr (k := 1) (pc' := 113) (lv' := [(7, .int (x7 + 1)), (5, .long (y5 + r3)), (8, .long r3), (0, .ref a0), (1, .int x1), (2, .int x2), (3, .int x3), (4, .int x4)]) (st' := []) rfl ?_
        refine PC.pr (k := 1) (pc' := 52) (lv' := [(7, .int (x7 + 1)), (5, .long (y5 + r3)), (8, .long r3), (0, .ref a0), (1, .int x1), (2, .int x2), (3, .int x3), (4, .int x4)]) (st' := []) rfl ?_
        exact PC.lv (lvE.cons rfl (lvE.cons rfl (lvE.cons rfl (lvE.cons rfl (lvE.cons rfl (lvE.cons rfl (lvE.cons rfl (lvE.cons rfl (lvE.nil))))))))) h

/-- DoorPaints.actChosen(I)V -/
theorem t_124_0 {xl : List Int32} {n : Nat} {ι : IS} {Q : Option Value → IS → Prop} {a0 : Nat} {x1 : Int32} (h : PC xl n 52 0 [(0, .ref (rf a0 5)), (1, .ref (rf (rf a0 2) 0))] [] ι (fun _ κ1 => PC xl n 124 18 [(0, .ref a0), (1, .int x1), (2, .int 0), (3, .int 0), (4, .null)] [] κ1 Q)) : PC xl (n + 1) 124 0 [(0, .ref a0), (1, .int x1)] [] ι Q := by
  refine PC.pr1 (k := 0) (pc' := 1) (lv' := [(0, .ref a0), (1, .int x1)]) (st' := [.ref a0]) rfl ?_
  refine PC.gR (ci := 0) (j := 5) rfl rfl (by decide) ?_
  refine PC.pr (k := 1) (pc' := 5) (lv' := [(0, .ref a0), (1, .int x1)]) (st' := [.ref a0, .ref (rf a0 5)]) rfl ?_
  refine PC.gR (ci := 0) (j := 2) rfl rfl (by decide) ?_
  refine PC.gR (ci := 2) (j := 0) rfl rfl (by decide) ?_
  refine (PC.callV (j := 52) (args := [.ref (rf a0 5), .ref (rf (rf a0 2) 0)]) (rest := []) (M := cM52) rfl rfl rfl rfl rfl rfl (by decide) rfl rfl ?_).weak
  refine PC.imp h (fun _ κ1 h => ?_)
  refine PC.pr (k := 1) (pc' := 15) (lv' := [(0, .ref a0), (1, .int x1)]) (st' := [.int 0]) rfl ?_
  refine PC.pr (k := 1) (pc' := 16) (lv' := [(2, .int 0), (0, .ref a0), (1, .int x1)]) (st' := []) rfl ?_
  refine PC.pr (k := 1) (pc' := 17) (lv' := [(2, .int 0), (0, .ref a0), (1, .int x1)]) (st' := [.int 0]) rfl ?_
  refine PC.pr (k := 1) (pc' := 18) (lv' := [(3, .int 0), (2, .int 0), (0, .ref a0), (1, .int x1)]) (st' := []) rfl ?_
  exact PC.lv (lvE.cons rfl (lvE.cons rfl (lvE.cons rfl (lvE.cons rfl (lvE.nil))))) h
theorem t_124_18 {xl : List Int32} {n : Nat} {ι : IS} {Q : Option Value → IS → Prop} {a0 : Nat} {x1 : Int32} {x2 : Int32} {x3 : Int32} {w4 : Value} (h : ((¬ x3 < (ι (rf a0 2) 2) → Q none ι) ∧ (x3 < (ι (rf a0 2) 2) → (0 ≤ x3.toInt → x3.toInt < ln (rf (rf a0 2) 1) → PC xl n 42 0 [(0, .int (ι (rf (rf a0 2) 1) x3.toNatClampNeg))] [] ι (fun v1 κ1 => ∀ r1, v1 = some (.int r1) → ((r1 = 0 → ((¬ ((x1 >>> (x2 &&& 31)) &&& 1) = 1 → PC xl n 124 18 [(0, .ref a0), (1, .int x1), (2, .int (x2 + 1)), (3, .int (x3 + 1)), (4, .int (ι (rf (rf a0 2) 1) x3.toNatClampNeg))] [] κ1 Q) ∧ (((x1 >>> (x2 &&& 31)) &&& 1) = 1 → PC xl n 89 0 [(0, .ref (rf a0 5)), (1, .int (ι (rf (rf a0 2) 1) x3.toNatClampNeg))] [] κ1 (fun v2 κ2 => ∀ r2, v2 = some (.int r2) → PC xl n 124 18 [(0, .ref a0), (1, .int x1), (2, .int (x2 + 1)), (3, .int (x3 + 1)), (4, .int (ι (rf (rf a0 2) 1) x3.toNatClampNeg))] [] κ2 Q)))) ∧ (¬ r1 = 0 → PC xl n 76 0 [(0, .ref (rf a0 5)), (1, .int (ι (rf (rf a0 2) 1) x3.toNatClampNeg))] [] κ1 (fun _ κ3 => PC xl n 124 18 [(0, .ref a0), (1, .int x1), (2, .int x2), (3, .int (x3 + 1)), (4, .int (ι (rf (rf a0 2) 1) x3.toNatClampNeg))] [] κ3 Q)))))))) : PC xl (n + 1) 124 18 [(0, .ref a0), (1, .int x1), (2, .int x2), (3, .int x3), (4, w4)] [] ι Q := by
  refine PC.pr1 (k := 0) (pc' := 19) (lv' := [(0, .ref a0), (1, .int x1), (2, .int x2), (3, .int x3), (4, w4)]) (st' := [.int x3]) rfl ?_
  refine PC.pr (k := 1) (pc' := 20) (lv' := [(0, .ref a0), (1, .int x1), (2, .int x2), (3, .int x3), (4, w4)]) (st' := [.ref a0, .int x3]) rfl ?_
  refine PC.gR (ci := 0) (j := 2) rfl rfl (by decide) ?_
  refine PC.gI (ci := 2) (j := 2) rfl rfl (by decide) ?_
  refine PC.if2 (t := 88) rfl rfl (fun c => ?_) (fun c => ?_)
  · have h := h.1 (cmp_ge.1.mp c)
    exact PC.retV rfl h
  · have h := h.2 (cmp_ge.2.mp c)
    refine PC.pr (k := 1) (pc' := 30) (lv' := [(0, .ref a0), (1, .int x1), (2, .int x2), (3, .int x3), (4, w4)]) (st' := [.ref a0]) rfl ?_
    refine PC.gR (ci := 0) (j := 2) rfl rfl (by decide) ?_
    refine PC.gR (ci := 2) (j := 1) rfl rfl (by decide) ?_
    refine PC.pr (k := 1) (pc' := 37) (lv' := [(0, .ref a0), (1, .int x1), (2, .int x2), (3, .int x3), (4, w4)]) (st' := [.int x3, .ref (rf (rf a0 2) 1)]) rfl ?_
    refine PC.rd rfl (rf_lt _ _) (fun c1 c2 => ?_)
    have h := h c1 c2
    refine PC.pr (k := 1) (pc' := 40) (lv' := [(4, .int (ι (rf (rf a0 2) 1) x3.toNatClampNeg)), (0, .ref a0), (1, .int x1), (2, .int x2), (3, .int x3)]) (st' := []) rfl ?_
    refine PC.pr (k := 1) (pc' := 42) (lv' := [(4, .int (ι (rf (rf a0 2) 1) x3.toNatClampNeg)), (0, .ref a0), (1, .int x1), (2, .int x2), (3, .int x3)]) (st' := [.int (ι (rf (rf a0 2) 1) x3.toNatClampNeg)]) rfl ?_
    refine (PC.callI (j := 42) (args := [.int (ι (rf (rf a0 2) 1) x3.toNatClampNeg)]) (rest := []) (M := cM42) (ty := .boolean) rfl rfl rfl rfl rfl rfl (by decide) rfl rfl (by decide) ?_).weak
    refine PC.imp h (fun v1 κ1 h r1 hv => ?_)
    have h := h r1 hv
    refine PC.if1 (t := 60) rfl rfl (fun c => ?_) (fun c => ?_)
    · have h := h.1 (cmp_eq.1.mp c)
      refine PC.pr (k := 1) (pc' := 61) (lv' := [(4, .int (ι (rf (rf a0 2) 1) x3.toNatClampNeg)), (0, .ref a0), (1, .int x1), (2, .int x2), (3, .int x3)]) (st' := [.int x1]) rfl ?_
      refine PC.pr (k := 1) (pc' := 62) (lv' := [(4, .int (ι (rf (rf a0 2) 1) x3.toNatClampNeg)), (0, .ref a0), (1, .int x1), (2, .int x2), (3, .int x3)]) (st' := [.int x2, .int x1]) rfl ?_
      refine PC.pr (k := 1) (pc' := 63) (lv' := [(4, .int (ι (rf (rf a0 2) 1) x3.toNatClampNeg)), (0, .ref a0), (1, .int x1), (2, .int x2), (3, .int x3)]) (st' := [.int (x1 >>> (x2 &&& 31))]) rfl ?_
      refine PC.pr (k := 1) (pc' := 64) (lv' := [(4, .int (ι (rf (rf a0 2) 1) x3.toNatClampNeg)), (0, .ref a0), (1, .int x1), (2, .int x2), (3, .int x3)]) (st' := [.int 1, .int (x1 >>> (x2 &&& 31))]) rfl ?_
      refine PC.pr (k := 1) (pc' := 65) (lv' := [(4, .int (ι (rf (rf a0 2) 1) x3.toNatClampNeg)), (0, .ref a0), (1, .int x1), (2, .int x2), (3, .int x3)]) (st' := [.int ((x1 >>> (x2 &&& 31)) &&& 1)]) rfl ?_
      refine PC.pr (k := 1) (pc' := 66) (lv' := [(4, .int (ι (rf (rf a0 2) 1) x3.toNatClampNeg)), (0, .ref a0), (1, .int x1), (2, .int x2), (3, .int x3)]) (st' := [.int 1, .int ((x1 >>> (x2 &&& 31)) &&& 1)]) rfl ?_
      refine PC.if2 (t := 79) rfl rfl (fun c => ?_) (fun c => ?_)
      · have h := h.1 (cmp_ne.1.mp c)
        refine PC.pr (k := 1) (pc' := 82) (lv' := [(2, .int (x2 + 1)), (4, .int (ι (rf (rf a0 2) 1) x3.toNatClampNeg)), (0, .ref a0), (1, .int x1), (3, .int x3)]) (st' := []) rfl ?_
        refine PC.pr (k := 1) (pc' := 85) (lv' := [(3, .int (x3 + 1)), (2, .int (x2 + 1)), (4, .int (ι (rf (rf a0 2) 1) x3.toNatClampNeg)), (0, .ref a0), (1, .int x1)]) (st' := []) rfl ?_
        refine PC.pr (k := 1) (pc' := 18) (lv' := [(3, .int (x3 + 1)), (2, .int (x2 + 1)), (4, .int (ι (rf (rf a0 2) 1) x3.toNatClampNeg)), (0, .ref a0), (1, .int x1)]) (st' := []) rfl ?_
        exact PC.lv (lvE.cons rfl (lvE.cons rfl (lvE.cons rfl (lvE.cons rfl (lvE.cons rfl (lvE.nil)))))) h
      · have h := h.2 (cmp_ne.2.mp c)
        refine PC.pr (k := 1) (pc' := 70) (lv' := [(4, .int (ι (rf (rf a0 2) 1) x3.toNatClampNeg)), (0, .ref a0), (1, .int x1), (2, .int x2), (3, .int x3)]) (st' := [.ref a0]) rfl ?_
        refine PC.gR (ci := 0) (j := 5) rfl rfl (by decide) ?_
        refine PC.pr (k := 1) (pc' := 75) (lv' := [(4, .int (ι (rf (rf a0 2) 1) x3.toNatClampNeg)), (0, .ref a0), (1, .int x1), (2, .int x2), (3, .int x3)]) (st' := [.int (ι (rf (rf a0 2) 1) x3.toNatClampNeg), .ref (rf a0 5)]) rfl ?_
        refine (PC.callI (j := 89) (args := [.ref (rf a0 5), .int (ι (rf (rf a0 2) 1) x3.toNatClampNeg)]) (rest := []) (M := cM89) (ty := .boolean) rfl rfl rfl rfl rfl rfl (by decide) rfl rfl (by decide) ?_).weak
        refine PC.imp h (fun v2 κ2 h r2 hv => ?_)
        have h := h r2 hv
        refine PC.pr (k := 1) (pc' := 79) (lv' := [(4, .int (ι (rf (rf a0 2) 1) x3.toNatClampNeg)), (0, .ref a0), (1, .int x1), (2, .int x2), (3, .int x3)]) (st' := []) rfl ?_
        refine PC.pr (k := 1) (pc' := 82) (lv' := [(2, .int (x2 + 1)), (4, .int (ι (rf (rf a0 2) 1) x3.toNatClampNeg)), (0, .ref a0), (1, .int x1), (3, .int x3)]) (st' := []) rfl ?_
        refine PC.pr (k := 1) (pc' := 85) (lv' := [(3, .int (x3 + 1)), (2, .int (x2 + 1)), (4, .int (ι (rf (rf a0 2) 1) x3.toNatClampNeg)), (0, .ref a0), (1, .int x1)]) (st' := []) rfl ?_
        refine PC.pr (k := 1) (pc' := 18) (lv' := [(3, .int (x3 + 1)), (2, .int (x2 + 1)), (4, .int (ι (rf (rf a0 2) 1) x3.toNatClampNeg)), (0, .ref a0), (1, .int x1)]) (st' := []) rfl ?_
        exact PC.lv (lvE.cons rfl (lvE.cons rfl (lvE.cons rfl (lvE.cons rfl (lvE.cons rfl (lvE.nil)))))) h
    · have h := h.2 (cmp_eq.2.mp c)
      refine PC.pr (k := 1) (pc' := 49) (lv' := [(4, .int (ι (rf (rf a0 2) 1) x3.toNatClampNeg)), (0, .ref a0), (1, .int x1), (2, .int x2), (3, .int x3)]) (st' := [.ref a0]) rfl ?_
      refine PC.gR (ci := 0) (j := 5) rfl rfl (by decide) ?_
      refine PC.pr (k := 1) (pc' := 54) (lv' := [(4, .int (ι (rf (rf a0 2) 1) x3.toNatClampNeg)), (0, .ref a0), (1, .int x1), (2, .int x2), (3, .int x3)]) (st' := [.int (ι (rf (rf a0 2) 1) x3.toNatClampNeg), .ref (rf a0 5)]) rfl ?_
      refine (PC.callV (j := 76) (args := [.ref (rf a0 5), .int (ι (rf (rf a0 2) 1) x3.toNatClampNeg)]) (rest := []) (M := cM76) rfl rfl rfl rfl rfl rfl (by decide) rfl rfl ?_).weak
      refine PC.imp h (fun _ κ3 h => ?_)
      refine PC.pr (k := 1) (pc' := 82) (lv' := [(4, .int (ι (rf (rf a0 2) 1) x3.toNatClampNeg)), (0, .ref a0), (1, .int x1), (2, .int x2), (3, .int x3)]) (st' := []) rfl ?_
      refine PC.pr (k := 1) (pc' := 85) (lv' := [(3, .int (x3 + 1)), (4, .int (ι (rf (rf a0 2) 1) x3.toNatClampNeg)), (0, .ref a0), (1, .int x1), (2, .int x2)]) (st' := []) rfl ?_
      refine PC.pr (k := 1) (pc' := 18) (lv' := [(3, .int (x3 + 1)), (4, .int (ι (rf (rf a0 2) 1) x3.toNatClampNeg)), (0, .ref a0), (1, .int x1), (2, .int x2)]) (st' := []) rfl ?_
      exact PC.lv (lvE.cons rfl (lvE.cons rfl (lvE.cons rfl (lvE.cons rfl (lvE.cons rfl (lvE.nil)))))) h

/-- DoorPaints.mean(II)J -/
theorem t_127_0 {xl : List Int32} {n : Nat} {ι : IS} {Q : Option Value → IS → Prop} {a0 : Nat} {x1 : Int32} {x2 : Int32} (h : ((x1 < 0 → Q (some (.long (-1))) ι) ∧ (¬ x1 < 0 → ((10 < x1 → Q (some (.long (-1))) ι) ∧ (¬ 10 < x1 → ((x2 < 0 → Q (some (.long (-1))) ι) ∧ (¬ x2 < 0 → ((¬ 1 < x2 → PC xl n 122 0 [(0, .ref (rf a0 2))] [] ι (fun v1 κ1 => ∀ r1, v1 = some (.int r1) → PC xl n 127 37 [(0, .ref a0), (1, .int x1), (2, .int x2), (3, .int r1), (4, .long 0), (6, .int 0), (7, .null)] [] κ1 Q)) ∧ (1 < x2 → Q (some (.long (-1))) ι))))))))) : PC xl (n + 1) 127 0 [(0, .ref a0), (1, .int x1), (2, .int x2)] [] ι Q := by
  refine PC.pr1 (k := 0) (pc' := 1) (lv' := [(0, .ref a0), (1, .int x1), (2, .int x2)]) (st' := [.int x1]) rfl ?_
  refine PC.if1 (t := 19) rfl rfl (fun c => ?_) (fun c => ?_)
  · have h := h.1 (cmp_lt.1.mp c)
    refine PC.pr (k := 1) (pc' := 22) (lv' := [(0, .ref a0), (1, .int x1), (2, .int x2)]) (st' := [.long (-1)]) rfl ?_
    exact PC.retJ rfl h
  · have h := h.2 (cmp_lt.2.mp c)
    refine PC.pr (k := 1) (pc' := 5) (lv' := [(0, .ref a0), (1, .int x1), (2, .int x2)]) (st' := [.int x1]) rfl ?_
    refine PC.pr (k := 1) (pc' := 7) (lv' := [(0, .ref a0), (1, .int x1), (2, .int x2)]) (st' := [.int 10, .int x1]) rfl ?_
    refine PC.if2 (t := 19) rfl rfl (fun c => ?_) (fun c => ?_)
    · have h := h.1 (cmp_gt.1.mp c)
      refine PC.pr (k := 1) (pc' := 22) (lv' := [(0, .ref a0), (1, .int x1), (2, .int x2)]) (st' := [.long (-1)]) rfl ?_
      exact PC.retJ rfl h
    · have h := h.2 (cmp_gt.2.mp c)
      refine PC.pr (k := 1) (pc' := 11) (lv' := [(0, .ref a0), (1, .int x1), (2, .int x2)]) (st' := [.int x2]) rfl ?_
      refine PC.if1 (t := 19) rfl rfl (fun c => ?_) (fun c => ?_)
      · have h := h.1 (cmp_lt.1.mp c)
        refine PC.pr (k := 1) (pc' := 22) (lv' := [(0, .ref a0), (1, .int x1), (2, .int x2)]) (st' := [.long (-1)]) rfl ?_
        exact PC.retJ rfl h
      · have h := h.2 (cmp_lt.2.mp c)
        refine PC.pr (k := 1) (pc' := 15) (lv' := [(0, .ref a0), (1, .int x1), (2, .int x2)]) (st' := [.int x2]) rfl ?_
        refine PC.pr (k := 1) (pc' := 16) (lv' := [(0, .ref a0), (1, .int x1), (2, .int x2)]) (st' := [.int 1, .int x2]) rfl ?_
        refine PC.if2 (t := 23) rfl rfl (fun c => ?_) (fun c => ?_)
        · have h := h.1 (cmp_le.1.mp c)
          refine PC.pr (k := 1) (pc' := 24) (lv' := [(0, .ref a0), (1, .int x1), (2, .int x2)]) (st' := [.ref a0]) rfl ?_
          refine PC.gR (ci := 0) (j := 2) rfl rfl (by decide) ?_
          refine (PC.callI (j := 122) (args := [.ref (rf a0 2)]) (rest := []) (M := cM122) (ty := .int) rfl rfl rfl rfl rfl rfl (by decide) rfl rfl (by decide) ?_).weak
          refine PC.imp h (fun v1 κ1 h r1 hv => ?_)
          have h := h r1 hv
          refine PC.pr (k := 1) (pc' := 31) (lv' := [(3, .int r1), (0, .ref a0), (1, .int x1), (2, .int x2)]) (st' := []) rfl ?_
          refine PC.pr (k := 1) (pc' := 32) (lv' := [(3, .int r1), (0, .ref a0), (1, .int x1), (2, .int x2)]) (st' := [.long 0]) rfl ?_
          refine PC.pr (k := 1) (pc' := 34) (lv' := [(4, .long 0), (3, .int r1), (0, .ref a0), (1, .int x1), (2, .int x2)]) (st' := []) rfl ?_
          refine PC.pr (k := 1) (pc' := 35) (lv' := [(4, .long 0), (3, .int r1), (0, .ref a0), (1, .int x1), (2, .int x2)]) (st' := [.int 0]) rfl ?_
          refine PC.pr (k := 1) (pc' := 37) (lv' := [(6, .int 0), (4, .long 0), (3, .int r1), (0, .ref a0), (1, .int x1), (2, .int x2)]) (st' := []) rfl ?_
          exact PC.lv (lvE.cons rfl (lvE.cons rfl (lvE.cons rfl (lvE.cons rfl (lvE.cons rfl (lvE.cons rfl (lvE.nil))))))) h
        · have h := h.2 (cmp_le.2.mp c)
          refine PC.pr (k := 1) (pc' := 22) (lv' := [(0, .ref a0), (1, .int x1), (2, .int x2)]) (st' := [.long (-1)]) rfl ?_
          exact PC.retJ rfl h
theorem t_127_37 {xl : List Int32} {n : Nat} {ι : IS} {Q : Option Value → IS → Prop} {a0 : Nat} {x1 : Int32} {x2 : Int32} {x3 : Int32} {y4 : Int64} {x6 : Int32} {w7 : Value} (h : ((¬ x6 < (1 <<< (x3 &&& 31)) → PC xl n 125 0 [(0, .int x3)] [] ι (fun v1 κ1 => ∀ r1, v1 = some (.long r1) → PC xl n 126 0 [(0, .long y4), (2, .long r1), (4, .int x2)] [] κ1 (fun v2 κ2 => ∀ r2, v2 = some (.long r2) → Q (some (.long r2)) κ2))) ∧ (x6 < (1 <<< (x3 &&& 31)) → PC xl n 123 0 [(0, .int x6), (1, .int x3), (2, .int x1)] [] ι (fun v3 κ3 => ∀ r3, v3 = some (.long r3) → ((¬ 0 < (lg_cmp r3 0) → PC xl n 127 37 [(0, .ref a0), (1, .int x1), (2, .int x2), (3, .int x3), (4, .long y4), (6, .int (x6 + 1)), (7, .long r3)] [] κ3 Q) ∧ (0 < (lg_cmp r3 0) → PC xl n 124 0 [(0, .ref a0), (1, .int x6)] [] κ3 (fun _ κ4 => PC xl n 91 0 [(0, .ref a0)] [] κ4 (fun v5 κ5 => ∀ r5, v5 = some (.int r5) → PC xl n 127 37 [(0, .ref a0), (1, .int x1), (2, .int x2), (3, .int x3), (4, .long (y4 + (r3 * (r5).toInt64))), (6, .int (x6 + 1)), (7, .long r3)] [] κ5 Q)))))))) : PC xl (n + 1) 127 37 [(0, .ref a0), (1, .int x1), (2, .int x2), (3, .int x3), (4, .long y4), (6, .int x6), (7, w7)] [] ι Q := by
  refine PC.pr1 (k := 0) (pc' := 39) (lv' := [(0, .ref a0), (1, .int x1), (2, .int x2), (3, .int x3), (4, .long y4), (6, .int x6), (7, w7)]) (st' := [.int x6]) rfl ?_
  refine PC.pr (k := 1) (pc' := 40) (lv' := [(0, .ref a0), (1, .int x1), (2, .int x2), (3, .int x3), (4, .long y4), (6, .int x6), (7, w7)]) (st' := [.int 1, .int x6]) rfl ?_
  refine PC.pr (k := 1) (pc' := 41) (lv' := [(0, .ref a0), (1, .int x1), (2, .int x2), (3, .int x3), (4, .long y4), (6, .int x6), (7, w7)]) (st' := [.int x3, .int 1, .int x6]) rfl ?_
  refine PC.pr (k := 1) (pc' := 42) (lv' := [(0, .ref a0), (1, .int x1), (2, .int x2), (3, .int x3), (4, .long y4), (6, .int x6), (7, w7)]) (st' := [.int (1 <<< (x3 &&& 31)), .int x6]) rfl ?_
  refine PC.if2 (t := 86) rfl rfl (fun c => ?_) (fun c => ?_)
  · have h := h.1 (cmp_ge.1.mp c)
    refine PC.pr (k := 1) (pc' := 88) (lv' := [(0, .ref a0), (1, .int x1), (2, .int x2), (3, .int x3), (4, .long y4), (6, .int x6), (7, w7)]) (st' := [.long y4]) rfl ?_
    refine PC.pr (k := 1) (pc' := 89) (lv' := [(0, .ref a0), (1, .int x1), (2, .int x2), (3, .int x3), (4, .long y4), (6, .int x6), (7, w7)]) (st' := [.int x3, .long y4]) rfl ?_
    refine (PC.callJ (j := 125) (args := [.int x3]) (rest := [.long y4]) (M := cM125) rfl rfl rfl rfl rfl rfl (by decide) rfl rfl rfl ?_).weak
    refine PC.imp h (fun v1 κ1 h r1 hv => ?_)
    have h := h r1 hv
    refine PC.pr (k := 1) (pc' := 93) (lv' := [(0, .ref a0), (1, .int x1), (2, .int x2), (3, .int x3), (4, .long y4), (6, .int x6), (7, w7)]) (st' := [.int x2, .long r1, .long y4]) rfl ?_
    refine (PC.callJ (j := 126) (args := [.long y4, .long r1, .int x2]) (rest := []) (M := cM126) rfl rfl rfl rfl rfl rfl (by decide) rfl rfl rfl ?_).weak
    refine PC.imp h (fun v2 κ2 h r2 hv => ?_)
    have h := h r2 hv
    exact PC.retJ rfl h
  · have h := h.2 (cmp_ge.2.mp c)
    refine PC.pr (k := 1) (pc' := 47) (lv' := [(0, .ref a0), (1, .int x1), (2, .int x2), (3, .int x3), (4, .long y4), (6, .int x6), (7, w7)]) (st' := [.int x6]) rfl ?_
    refine PC.pr (k := 1) (pc' := 48) (lv' := [(0, .ref a0), (1, .int x1), (2, .int x2), (3, .int x3), (4, .long y4), (6, .int x6), (7, w7)]) (st' := [.int x3, .int x6]) rfl ?_
    refine PC.pr (k := 1) (pc' := 49) (lv' := [(0, .ref a0), (1, .int x1), (2, .int x2), (3, .int x3), (4, .long y4), (6, .int x6), (7, w7)]) (st' := [.int x1, .int x3, .int x6]) rfl ?_
    refine (PC.callJ (j := 123) (args := [.int x6, .int x3, .int x1]) (rest := []) (M := cM123) rfl rfl rfl rfl rfl rfl (by decide) rfl rfl rfl ?_).weak
    refine PC.imp h (fun v3 κ3 h r3 hv => ?_)
    have h := h r3 hv
    refine PC.pr (k := 1) (pc' := 54) (lv' := [(7, .long r3), (0, .ref a0), (1, .int x1), (2, .int x2), (3, .int x3), (4, .long y4), (6, .int x6)]) (st' := []) rfl ?_
    refine PC.pr (k := 1) (pc' := 56) (lv' := [(7, .long r3), (0, .ref a0), (1, .int x1), (2, .int x2), (3, .int x3), (4, .long y4), (6, .int x6)]) (st' := [.long r3]) rfl ?_
    refine PC.pr (k := 1) (pc' := 57) (lv' := [(7, .long r3), (0, .ref a0), (1, .int x1), (2, .int x2), (3, .int x3), (4, .long y4), (6, .int x6)]) (st' := [.long 0, .long r3]) rfl ?_
    refine PC.pr (k := 1) (pc' := 58) (lv' := [(7, .long r3), (0, .ref a0), (1, .int x1), (2, .int x2), (3, .int x3), (4, .long y4), (6, .int x6)]) (st' := [.int (lg_cmp r3 0)]) rfl ?_
    refine PC.if1 (t := 80) rfl rfl (fun c => ?_) (fun c => ?_)
    · have h := h.1 (cmp_le.1.mp c)
      refine PC.pr (k := 1) (pc' := 83) (lv' := [(6, .int (x6 + 1)), (7, .long r3), (0, .ref a0), (1, .int x1), (2, .int x2), (3, .int x3), (4, .long y4)]) (st' := []) rfl ?_
      refine PC.pr (k := 1) (pc' := 37) (lv' := [(6, .int (x6 + 1)), (7, .long r3), (0, .ref a0), (1, .int x1), (2, .int x2), (3, .int x3), (4, .long y4)]) (st' := []) rfl ?_
      exact PC.lv (lvE.cons rfl (lvE.cons rfl (lvE.cons rfl (lvE.cons rfl (lvE.cons rfl (lvE.cons rfl (lvE.cons rfl (lvE.nil)))))))) h
    · have h := h.2 (cmp_le.2.mp c)
      refine PC.pr (k := 1) (pc' := 62) (lv' := [(7, .long r3), (0, .ref a0), (1, .int x1), (2, .int x2), (3, .int x3), (4, .long y4), (6, .int x6)]) (st' := [.ref a0]) rfl ?_
      refine PC.pr (k := 1) (pc' := 64) (lv' := [(7, .long r3), (0, .ref a0), (1, .int x1), (2, .int x2), (3, .int x3), (4, .long y4), (6, .int x6)]) (st' := [.int x6, .ref a0]) rfl ?_
      refine (PC.callV (j := 124) (args := [.ref a0, .int x6]) (rest := []) (M := cM124) rfl rfl rfl rfl rfl rfl (by decide) rfl rfl ?_).weak
      refine PC.imp h (fun _ κ4 h => ?_)
      refine PC.pr (k := 1) (pc' := 69) (lv' := [(7, .long r3), (0, .ref a0), (1, .int x1), (2, .int x2), (3, .int x3), (4, .long y4), (6, .int x6)]) (st' := [.long y4]) rfl ?_
      refine PC.pr (k := 1) (pc' := 71) (lv' := [(7, .long r3), (0, .ref a0), (1, .int x1), (2, .int x2), (3, .int x3), (4, .long y4), (6, .int x6)]) (st' := [.long r3, .long y4]) rfl ?_
      refine PC.pr (k := 1) (pc' := 72) (lv' := [(7, .long r3), (0, .ref a0), (1, .int x1), (2, .int x2), (3, .int x3), (4, .long y4), (6, .int x6)]) (st' := [.ref a0, .long r3, .long y4]) rfl ?_
      refine (PC.callI (j := 91) (args := [.ref a0]) (rest := [.long r3, .long y4]) (M := cM91) (ty := .int) rfl rfl rfl rfl rfl rfl (by decide) rfl rfl (by decide) ?_).weak
      refine PC.imp h (fun v5 κ5 h r5 hv => ?_)
      have h := h r5 hv
      refine PC.pr (k := 1) (pc' := 76) (lv' := [(7, .long r3), (0, .ref a0), (1, .int x1), (2, .int x2), (3, .int x3), (4, .long y4), (6, .int x6)]) (st' := [.long (r5).toInt64, .long r3, .long y4]) rfl ?_
      refine PC.pr (k := 1) (pc' := 77) (lv' := [(7, .long r3), (0, .ref a0), (1, .int x1), (2, .int x2), (3, .int x3), (4, .long y4), (6, .int x6)]) (st' := [.long (r3 * (r5).toInt64), .long y4]) rfl ?_
      refine PC.pr (k := 1) (pc' := 78) (lv' := [(7, .long r3), (0, .ref a0), (1, .int x1), (2, .int x2), (3, .int x3), (4, .long y4), (6, .int x6)]) (st' := [.long (y4 + (r3 * (r5).toInt64))]) rfl ?_
      refine PC.pr (k := 1) (pc' := 80) (lv' := [(4, .long (y4 + (r3 * (r5).toInt64))), (7, .long r3), (0, .ref a0), (1, .int x1), (2, .int x2), (3, .int x3), (6, .int x6)]) (st' := []) rfl ?_
      refine PC.pr (k := 1) (pc' := 83) (lv' := [(6, .int (x6 + 1)), (4, .long (y4 + (r3 * (r5).toInt64))), (7, .long r3), (0, .ref a0), (1, .int x1), (2, .int x2), (3, .int x3)]) (st' := []) rfl ?_
      refine PC.pr (k := 1) (pc' := 37) (lv' := [(6, .int (x6 + 1)), (4, .long (y4 + (r3 * (r5).toInt64))), (7, .long r3), (0, .ref a0), (1, .int x1), (2, .int x2), (3, .int x3)]) (st' := []) rfl ?_
      exact PC.lv (lvE.cons rfl (lvE.cons rfl (lvE.cons rfl (lvE.cons rfl (lvE.cons rfl (lvE.cons rfl (lvE.cons rfl (lvE.nil)))))))) h

/-- DoorPaints.drift(III)I -/
theorem t_128_0 {xl : List Int32} {n : Nat} {ι : IS} {Q : Option Value → IS → Prop} {a0 : Nat} {x1 : Int32} {x2 : Int32} {x3 : Int32} (h : ((x2 < 1 → Q (some (.int (-1))) ι) ∧ (¬ x2 < 1 → ((60 < x2 → Q (some (.int (-1))) ι) ∧ (¬ 60 < x2 → ((x3 < 0 → Q (some (.int (-1))) ι) ∧ (¬ x3 < 0 → ((¬ 1 < x3 → PC xl n 98 0 [(0, .ref (rf (rf a0 2) 0))] [] ι (fun v1 κ1 => ∀ r1, v1 = some (.int r1) → ((¬ r1 = 0 → PC xl n 52 0 [(0, .ref (rf a0 5)), (1, .ref (rf (rf a0 2) 0))] [] κ1 (fun _ κ2 => PC xl n 128 58 [(0, .ref a0), (1, .int x1), (2, .int x2), (3, .int x3), (4, .int x1), (5, .int 0)] [] κ2 Q)) ∧ (r1 = 0 → Q (some (.int (-2))) κ1)))) ∧ (1 < x3 → Q (some (.int (-1))) ι))))))))) : PC xl (n + 1) 128 0 [(0, .ref a0), (1, .int x1), (2, .int x2), (3, .int x3)] [] ι Q := by
  refine PC.pr1 (k := 0) (pc' := 1) (lv' := [(0, .ref a0), (1, .int x1), (2, .int x2), (3, .int x3)]) (st' := [.int x2]) rfl ?_
  refine PC.pr (k := 1) (pc' := 2) (lv' := [(0, .ref a0), (1, .int x1), (2, .int x2), (3, .int x3)]) (st' := [.int 1, .int x2]) rfl ?_
  refine PC.if2 (t := 20) rfl rfl (fun c => ?_) (fun c => ?_)
  · have h := h.1 (cmp_lt.1.mp c)
    refine PC.pr (k := 1) (pc' := 21) (lv' := [(0, .ref a0), (1, .int x1), (2, .int x2), (3, .int x3)]) (st' := [.int (-1)]) rfl ?_
    exact PC.retI rfl h
  · have h := h.2 (cmp_lt.2.mp c)
    refine PC.pr (k := 1) (pc' := 6) (lv' := [(0, .ref a0), (1, .int x1), (2, .int x2), (3, .int x3)]) (st' := [.int x2]) rfl ?_
    refine PC.pr (k := 1) (pc' := 8) (lv' := [(0, .ref a0), (1, .int x1), (2, .int x2), (3, .int x3)]) (st' := [.int 60, .int x2]) rfl ?_
    refine PC.if2 (t := 20) rfl rfl (fun c => ?_) (fun c => ?_)
    · have h := h.1 (cmp_gt.1.mp c)
      refine PC.pr (k := 1) (pc' := 21) (lv' := [(0, .ref a0), (1, .int x1), (2, .int x2), (3, .int x3)]) (st' := [.int (-1)]) rfl ?_
      exact PC.retI rfl h
    · have h := h.2 (cmp_gt.2.mp c)
      refine PC.pr (k := 1) (pc' := 12) (lv' := [(0, .ref a0), (1, .int x1), (2, .int x2), (3, .int x3)]) (st' := [.int x3]) rfl ?_
      refine PC.if1 (t := 20) rfl rfl (fun c => ?_) (fun c => ?_)
      · have h := h.1 (cmp_lt.1.mp c)
        refine PC.pr (k := 1) (pc' := 21) (lv' := [(0, .ref a0), (1, .int x1), (2, .int x2), (3, .int x3)]) (st' := [.int (-1)]) rfl ?_
        exact PC.retI rfl h
      · have h := h.2 (cmp_lt.2.mp c)
        refine PC.pr (k := 1) (pc' := 16) (lv' := [(0, .ref a0), (1, .int x1), (2, .int x2), (3, .int x3)]) (st' := [.int x3]) rfl ?_
        refine PC.pr (k := 1) (pc' := 17) (lv' := [(0, .ref a0), (1, .int x1), (2, .int x2), (3, .int x3)]) (st' := [.int 1, .int x3]) rfl ?_
        refine PC.if2 (t := 22) rfl rfl (fun c => ?_) (fun c => ?_)
        · have h := h.1 (cmp_le.1.mp c)
          refine PC.pr (k := 1) (pc' := 23) (lv' := [(0, .ref a0), (1, .int x1), (2, .int x2), (3, .int x3)]) (st' := [.ref a0]) rfl ?_
          refine PC.gR (ci := 0) (j := 2) rfl rfl (by decide) ?_
          refine PC.gR (ci := 2) (j := 0) rfl rfl (by decide) ?_
          refine (PC.callI (j := 98) (args := [.ref (rf (rf a0 2) 0)]) (rest := []) (M := cM98) (ty := .boolean) rfl rfl rfl rfl rfl rfl (by decide) rfl rfl (by decide) ?_).weak
          refine PC.imp h (fun v1 κ1 h r1 hv => ?_)
          have h := h r1 hv
          refine PC.if1 (t := 38) rfl rfl (fun c => ?_) (fun c => ?_)
          · have h := h.1 (cmp_ne.1.mp c)
            refine PC.pr (k := 1) (pc' := 39) (lv' := [(0, .ref a0), (1, .int x1), (2, .int x2), (3, .int x3)]) (st' := [.ref a0]) rfl ?_
            refine PC.gR (ci := 0) (j := 5) rfl rfl (by decide) ?_
            refine PC.pr (k := 1) (pc' := 43) (lv' := [(0, .ref a0), (1, .int x1), (2, .int x2), (3, .int x3)]) (st' := [.ref a0, .ref (rf a0 5)]) rfl ?_
            refine PC.gR (ci := 0) (j := 2) rfl rfl (by decide) ?_
            refine PC.gR (ci := 2) (j := 0) rfl rfl (by decide) ?_
            refine (PC.callV (j := 52) (args := [.ref (rf a0 5), .ref (rf (rf a0 2) 0)]) (rest := []) (M := cM52) rfl rfl rfl rfl rfl rfl (by decide) rfl rfl ?_).weak
            refine PC.imp h (fun _ κ2 h => ?_)
            refine PC.pr (k := 1) (pc' := 53) (lv' := [(0, .ref a0), (1, .int x1), (2, .int x2), (3, .int x3)]) (st' := [.int x1]) rfl ?_
            refine PC.pr (k := 1) (pc' := 55) (lv' := [(4, .int x1), (0, .ref a0), (1, .int x1), (2, .int x2), (3, .int x3)]) (st' := []) rfl ?_
            refine PC.pr (k := 1) (pc' := 56) (lv' := [(4, .int x1), (0, .ref a0), (1, .int x1), (2, .int x2), (3, .int x3)]) (st' := [.int 0]) rfl ?_
            refine PC.pr (k := 1) (pc' := 58) (lv' := [(5, .int 0), (4, .int x1), (0, .ref a0), (1, .int x1), (2, .int x2), (3, .int x3)]) (st' := []) rfl ?_
            exact PC.lv (lvE.cons rfl (lvE.cons rfl (lvE.cons rfl (lvE.cons rfl (lvE.cons rfl (lvE.cons rfl (lvE.nil))))))) h
          · have h := h.2 (cmp_ne.2.mp c)
            refine PC.pr (k := 1) (pc' := 37) (lv' := [(0, .ref a0), (1, .int x1), (2, .int x2), (3, .int x3)]) (st' := [.int (-2)]) rfl ?_
            exact PC.retI rfl h
        · have h := h.2 (cmp_le.2.mp c)
          refine PC.pr (k := 1) (pc' := 21) (lv' := [(0, .ref a0), (1, .int x1), (2, .int x2), (3, .int x3)]) (st' := [.int (-1)]) rfl ?_
          exact PC.retI rfl h
theorem t_128_58 {xl : List Int32} {n : Nat} {ι : IS} {Q : Option Value → IS → Prop} {a0 : Nat} {x1 : Int32} {x2 : Int32} {x3 : Int32} {x4 : Int32} {x5 : Int32} (h : ((¬ x5 < x2 → ((¬ x3 = 0 → PC xl n 58 0 [(0, .ref (rf a0 5))] [] ι (fun v1 κ1 => ∀ r1, v1 = some (.int r1) → Q (some (.int r1)) κ1)) ∧ (x3 = 0 → PC xl n 80 0 [(0, .ref (rf a0 5))] [] ι (fun v2 κ2 => ∀ r2, v2 = some (.int r2) → Q (some (.int r2)) κ2)))) ∧ (x5 < x2 → PC xl n 129 0 [(0, .ref (rf a0 5)), (1, .int (((((x4 * 1103515245) + 12345)).toUInt32 >>> ((16 : Int32).toUInt32 &&& Int32.toUInt32 31)).toInt32 &&& 32767))] [] ι (fun _ κ3 => PC xl n 128 58 [(0, .ref a0), (1, .int x1), (2, .int x2), (3, .int x3), (4, .int ((x4 * 1103515245) + 12345)), (5, .int (x5 + 1))] [] κ3 Q)))) : PC xl (n + 1) 128 58 [(0, .ref a0), (1, .int x1), (2, .int x2), (3, .int x3), (4, .int x4), (5, .int x5)] [] ι Q := by
  refine PC.pr1 (k := 0) (pc' := 60) (lv' := [(0, .ref a0), (1, .int x1), (2, .int x2), (3, .int x3), (4, .int x4), (5, .int x5)]) (st' := [.int x5]) rfl ?_
  refine PC.pr (k := 1) (pc' := 61) (lv' := [(0, .ref a0), (1, .int x1), (2, .int x2), (3, .int x3), (4, .int x4), (5, .int x5)]) (st' := [.int x2, .int x5]) rfl ?_
  refine PC.if2 (t := 98) rfl rfl (fun c => ?_) (fun c => ?_)
  · have h := h.1 (cmp_ge.1.mp c)
    refine PC.pr (k := 1) (pc' := 99) (lv' := [(0, .ref a0), (1, .int x1), (2, .int x2), (3, .int x3), (4, .int x4), (5, .int x5)]) (st' := [.int x3]) rfl ?_
    refine PC.if1 (t := 112) rfl rfl (fun c => ?_) (fun c => ?_)
    · have h := h.1 (cmp_ne.1.mp c)
      refine PC.pr (k := 1) (pc' := 113) (lv' := [(0, .ref a0), (1, .int x1), (2, .int x2), (3, .int x3), (4, .int x4), (5, .int x5)]) (st' := [.ref a0]) rfl ?_
      refine PC.gR (ci := 0) (j := 5) rfl rfl (by decide) ?_
      refine (PC.callI (j := 58) (args := [.ref (rf a0 5)]) (rest := []) (M := cM58) (ty := .int) rfl rfl rfl rfl rfl rfl (by decide) rfl rfl (by decide) ?_).weak
      refine PC.imp h (fun v1 κ1 h r1 hv => ?_)
      have h := h r1 hv
      exact PC.retI rfl h
    · have h := h.2 (cmp_ne.2.mp c)
      refine PC.pr (k := 1) (pc' := 103) (lv' := [(0, .ref a0), (1, .int x1), (2, .int x2), (3, .int x3), (4, .int x4), (5, .int x5)]) (st' := [.ref a0]) rfl ?_
      refine PC.gR (ci := 0) (j := 5) rfl rfl (by decide) ?_
      refine (PC.callI (j := 80) (args := [.ref (rf a0 5)]) (rest := []) (M := cM80) (ty := .int) rfl rfl rfl rfl rfl rfl (by decide) rfl rfl (by decide) ?_).weak
      refine PC.imp h (fun v2 κ2 h r2 hv => ?_)
      have h := h r2 hv
      refine PC.pr (k := 1) (pc' := 119) (lv' := [(0, .ref a0), (1, .int x1), (2, .int x2), (3, .int x3), (4, .int x4), (5, .int x5)]) (st' := [.int r2]) rfl ?_
      exact PC.retI rfl h
  · have h := h.2 (cmp_ge.2.mp c)
    refine PC.pr (k := 1) (pc' := 66) (lv' := [(0, .ref a0), (1, .int x1), (2, .int x2), (3, .int x3), (4, .int x4), (5, .int x5)]) (st' := [.int x4]) rfl ?_
    refine PC.pr (k := 1) (pc' := 69) (lv' := [(0, .ref a0), (1, .int x1), (2, .int x2), (3, .int x3), (4, .int x4), (5, .int x5)]) (st' := [.int 1103515245, .int x4]) rfl ?_
    refine PC.pr (k := 1) (pc' := 70) (lv' := [(0, .ref a0), (1, .int x1), (2, .int x2), (3, .int x3), (4, .int x4), (5, .int x5)]) (st' := [.int (x4 * 1103515245)]) rfl ?_
    refine PC.pr (k := 1) (pc' := 73) (lv' := [(0, .ref a0), (1, .int x1), (2, .int x2), (3, .int x3), (4, .int x4), (5, .int x5)]) (st' := [.int 12345, .int (x4 * 1103515245)]) rfl ?_
    refine PC.pr (k := 1) (pc' := 74) (lv' := [(0, .ref a0), (1, .int x1), (2, .int x2), (3, .int x3), (4, .int x4), (5, .int x5)]) (st' := [.int ((x4 * 1103515245) + 12345)]) rfl ?_
    refine PC.pr (k := 1) (pc' := 76) (lv' := [(4, .int ((x4 * 1103515245) + 12345)), (0, .ref a0), (1, .int x1), (2, .int x2), (3, .int x3), (5, .int x5)]) (st' := []) rfl ?_
    refine PC.pr (k := 1) (pc' := 77) (lv' := [(4, .int ((x4 * 1103515245) + 12345)), (0, .ref a0), (1, .int x1), (2, .int x2), (3, .int x3), (5, .int x5)]) (st' := [.ref a0]) rfl ?_
    refine PC.gR (ci := 0) (j := 5) rfl rfl (by decide) ?_
    refine PC.pr (k := 1) (pc' := 82) (lv' := [(4, .int ((x4 * 1103515245) + 12345)), (0, .ref a0), (1, .int x1), (2, .int x2), (3, .int x3), (5, .int x5)]) (st' := [.int ((x4 * 1103515245) + 12345), .ref (rf a0 5)]) rfl ?_
    refine PC.pr (k := 1) (pc' := 84) (lv' := [(4, .int ((x4 * 1103515245) + 12345)), (0, .ref a0), (1, .int x1), (2, .int x2), (3, .int x3), (5, .int x5)]) (st' := [.int 16, .int ((x4 * 1103515245) + 12345), .ref (rf a0 5)]) rfl ?_
    refine PC.pr (k := 1) (pc' := 85) (lv' := [(4, .int ((x4 * 1103515245) + 12345)), (0, .ref a0), (1, .int x1), (2, .int x2), (3, .int x3), (5, .int x5)]) (st' := [.int ((((x4 * 1103515245) + 12345)).toUInt32 >>> ((16 : Int32).toUInt32 &&& Int32.toUInt32 31)).toInt32, .ref (rf a0 5)]) rfl ?_
    refine PC.pr (k := 1) (pc' := 88) (lv' := [(4, .int ((x4 * 1103515245) + 12345)), (0, .ref a0), (1, .int x1), (2, .int x2), (3, .int x3), (5, .int x5)]) (st' := [.int 32767, .int ((((x4 * 1103515245) + 12345)).toUInt32 >>> ((16 : Int32).toUInt32 &&& Int32.toUInt32 31)).toInt32, .ref (rf a0 5)]) rfl ?_
    refine PC.pr (k := 1) (pc' := 89) (lv' := [(4, .int ((x4 * 1103515245) + 12345)), (0, .ref a0), (1, .int x1), (2, .int x2), (3, .int x3), (5, .int x5)]) (st' := [.int (((((x4 * 1103515245) + 12345)).toUInt32 >>> ((16 : Int32).toUInt32 &&& Int32.toUInt32 31)).toInt32 &&& 32767), .ref (rf a0 5)]) rfl ?_
    refine (PC.callV (j := 129) (args := [.ref (rf a0 5), .int (((((x4 * 1103515245) + 12345)).toUInt32 >>> ((16 : Int32).toUInt32 &&& Int32.toUInt32 31)).toInt32 &&& 32767)]) (rest := []) (M := cM129) rfl rfl rfl rfl rfl rfl (by decide) rfl rfl ?_).weak
    refine PC.imp h (fun _ κ3 h => ?_)
    refine PC.pr (k := 1) (pc' := 95) (lv' := [(5, .int (x5 + 1)), (4, .int ((x4 * 1103515245) + 12345)), (0, .ref a0), (1, .int x1), (2, .int x2), (3, .int x3)]) (st' := []) rfl ?_
    refine PC.pr (k := 1) (pc' := 58) (lv' := [(5, .int (x5 + 1)), (4, .int ((x4 * 1103515245) + 12345)), (0, .ref a0), (1, .int x1), (2, .int x2), (3, .int x3)]) (st' := []) rfl ?_
    exact PC.lv (lvE.cons rfl (lvE.cons rfl (lvE.cons rfl (lvE.cons rfl (lvE.cons rfl (lvE.cons rfl (lvE.nil))))))) h

