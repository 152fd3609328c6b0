/-! WHAT RUNS ASK (written by a program) -/
/-- DoorPaints.keep(I)I -/
theorem t_130_0 {xl : List Int32} {n : Nat} {ι : IS} {Q : Option Value → IS → Prop} {a0 : Nat} {x1 : Int32} (h : ((x1 < 0 → Q (some (.int (-1))) ι) ∧ (¬ x1 < 0 → ((x1 < 2 → (0 ≤ x1.toInt → x1.toInt < ln (rf a0 4) → (((ι (rf a0 4) x1.toNatClampNeg) = 0 → (0 ≤ x1.toInt → x1.toInt < lr (rf a0 3) → PC xl n 51 0 [(0, .ref (re (rf a0 3) x1.toNatClampNeg)), (1, .ref (rf a0 2))] [] ι (fun _ κ1 => (0 ≤ x1.toInt → x1.toInt < ln (rf a0 4) → Q (some (.int 0)) (up κ1 (rf a0 4) x1.toNatClampNeg (vp_nar .boolean 1)))))) ∧ (¬ (ι (rf a0 4) x1.toNatClampNeg) = 0 → (0 ≤ x1.toInt → x1.toInt < lr (rf a0 3) → PC xl n 51 0 [(0, .ref (re (rf a0 3) x1.toNatClampNeg)), (1, .ref (rf a0 2))] [] ι (fun _ κ2 => (0 ≤ x1.toInt → x1.toInt < ln (rf a0 4) → Q (some (.int 1)) (up κ2 (rf a0 4) x1.toNatClampNeg (vp_nar .boolean 1))))))))) ∧ (¬ x1 < 2 → Q (some (.int (-1))) ι))))) : PC xl (n + 1) 130 0 [(0, .ref a0), (1, .int x1)] [] ι Q := by
  refine PC.pr1 (k := 0) (pc' := 1) (lv' := [(0, .ref a0), (1, .int x1)]) (st' := [.int x1]) rfl ?_
  refine PC.if1 (t := 9) rfl rfl (fun c => ?_) (fun c => ?_)
  · have h := h.1 (cmp_lt.1.mp c)
    refine PC.pr (k := 1) (pc' := 10) (lv' := [(0, .ref a0), (1, .int x1)]) (st' := [.int (-1)]) rfl ?_
    exact PC.retI rfl h
  · have h := h.2 (cmp_lt.2.mp c)
    refine PC.pr (k := 1) (pc' := 5) (lv' := [(0, .ref a0), (1, .int x1)]) (st' := [.int x1]) rfl ?_
    refine PC.pr (k := 1) (pc' := 6) (lv' := [(0, .ref a0), (1, .int x1)]) (st' := [.int 2, .int x1]) rfl ?_
    refine PC.if2 (t := 11) rfl rfl (fun c => ?_) (fun c => ?_)
    · have h := h.1 (cmp_lt.1.mp c)
      refine PC.pr (k := 1) (pc' := 12) (lv' := [(0, .ref a0), (1, .int x1)]) (st' := [.ref a0]) rfl ?_
      refine PC.gR (ci := 0) (j := 4) rfl rfl (by decide) ?_
      refine PC.pr (k := 1) (pc' := 16) (lv' := [(0, .ref a0), (1, .int x1)]) (st' := [.int x1, .ref (rf a0 4)]) rfl ?_
      refine PC.ba rfl (rf_lt _ _) (fun c1 c2 => ?_)
      have h := h c1 c2
      refine PC.if1 (t := 24) rfl rfl (fun c => ?_) (fun c => ?_)
      · have h := h.1 (cmp_eq.1.mp c)
        refine PC.pr (k := 1) (pc' := 25) (lv' := [(0, .ref a0), (1, .int x1)]) (st' := [.int 0]) rfl ?_
        refine PC.pr (k := 1) (pc' := 26) (lv' := [(2, .int 0), (0, .ref a0), (1, .int x1)]) (st' := []) rfl ?_
        refine PC.pr (k := 1) (pc' := 27) (lv' := [(2, .int 0), (0, .ref a0), (1, .int x1)]) (st' := [.ref a0]) rfl ?_
        refine PC.gR (ci := 0) (j := 3) rfl rfl (by decide) ?_
        refine PC.pr (k := 1) (pc' := 31) (lv' := [(2, .int 0), (0, .ref a0), (1, .int x1)]) (st' := [.int x1, .ref (rf a0 3)]) rfl ?_
        refine PC.ra rfl (fun c1 c2 => ?_)
        have h := h c1 c2
        refine PC.pr (k := 1) (pc' := 33) (lv' := [(2, .int 0), (0, .ref a0), (1, .int x1)]) (st' := [.ref a0, .ref (re (rf a0 3) x1.toNatClampNeg)]) rfl ?_
        refine PC.gR (ci := 0) (j := 2) rfl rfl (by decide) ?_
        refine (PC.callV (j := 51) (args := [.ref (re (rf a0 3) x1.toNatClampNeg), .ref (rf a0 2)]) (rest := []) (M := cM51) rfl rfl rfl rfl rfl rfl (by decide) rfl rfl ?_).weak
        refine PC.imp h (fun _ κ1 h => ?_)
        refine PC.pr (k := 1) (pc' := 40) (lv' := [(2, .int 0), (0, .ref a0), (1, .int x1)]) (st' := [.ref a0]) rfl ?_
        refine PC.gR (ci := 0) (j := 4) rfl rfl (by decide) ?_
        refine PC.pr (k := 1) (pc' := 44) (lv' := [(2, .int 0), (0, .ref a0), (1, .int x1)]) (st' := [.int x1, .ref (rf a0 4)]) rfl ?_
        refine PC.pr (k := 1) (pc' := 45) (lv' := [(2, .int 0), (0, .ref a0), (1, .int x1)]) (st' := [.int 1, .int x1, .ref (rf a0 4)]) rfl ?_
        refine PC.wB rfl (fun c1 c2 => ?_)
        have h := h c1 c2
        refine PC.pr (k := 1) (pc' := 47) (lv' := [(2, .int 0), (0, .ref a0), (1, .int x1)]) (st' := [.int 0]) rfl ?_
        exact PC.retI rfl h
      · have h := h.2 (cmp_eq.2.mp c)
        refine PC.pr (k := 1) (pc' := 21) (lv' := [(0, .ref a0), (1, .int x1)]) (st' := [.int 1]) rfl ?_
        refine PC.pr (k := 1) (pc' := 25) (lv' := [(0, .ref a0), (1, .int x1)]) (st' := [.int 1]) rfl ?_
        refine PC.pr (k := 1) (pc' := 26) (lv' := [(2, .int 1), (0, .ref a0), (1, .int x1)]) (st' := []) rfl ?_
        refine PC.pr (k := 1) (pc' := 27) (lv' := [(2, .int 1), (0, .ref a0), (1, .int x1)]) (st' := [.ref a0]) rfl ?_
        refine PC.gR (ci := 0) (j := 3) rfl rfl (by decide) ?_
        refine PC.pr (k := 1) (pc' := 31) (lv' := [(2, .int 1), (0, .ref a0), (1, .int x1)]) (st' := [.int x1, .ref (rf a0 3)]) rfl ?_
        refine PC.ra rfl (fun c1 c2 => ?_)
        have h := h c1 c2
        refine PC.pr (k := 1) (pc' := 33) (lv' := [(2, .int 1), (0, .ref a0), (1, .int x1)]) (st' := [.ref a0, .ref (re (rf a0 3) x1.toNatClampNeg)]) rfl ?_
        refine PC.gR (ci := 0) (j := 2) rfl rfl (by decide) ?_
        refine (PC.callV (j := 51) (args := [.ref (re (rf a0 3) x1.toNatClampNeg), .ref (rf a0 2)]) (rest := []) (M := cM51) rfl rfl rfl rfl rfl rfl (by decide) rfl rfl ?_).weak
        refine PC.imp h (fun _ κ2 h => ?_)
        refine PC.pr (k := 1) (pc' := 40) (lv' := [(2, .int 1), (0, .ref a0), (1, .int x1)]) (st' := [.ref a0]) rfl ?_
        refine PC.gR (ci := 0) (j := 4) rfl rfl (by decide) ?_
        refine PC.pr (k := 1) (pc' := 44) (lv' := [(2, .int 1), (0, .ref a0), (1, .int x1)]) (st' := [.int x1, .ref (rf a0 4)]) rfl ?_
        refine PC.pr (k := 1) (pc' := 45) (lv' := [(2, .int 1), (0, .ref a0), (1, .int x1)]) (st' := [.int 1, .int x1, .ref (rf a0 4)]) rfl ?_
        refine PC.wB rfl (fun c1 c2 => ?_)
        have h := h c1 c2
        refine PC.pr (k := 1) (pc' := 47) (lv' := [(2, .int 1), (0, .ref a0), (1, .int x1)]) (st' := [.int 1]) rfl ?_
        exact PC.retI rfl h
    · have h := h.2 (cmp_lt.2.mp c)
      refine PC.pr (k := 1) (pc' := 10) (lv' := [(0, .ref a0), (1, .int x1)]) (st' := [.int (-1)]) rfl ?_
      exact PC.retI rfl h

/-- DoorPaintsModel.flag(Z)I -/
theorem t_175_0 {xl : List Int32} {n : Nat} {ι : IS} {Q : Option Value → IS → Prop} {x0 : Int32} (h : ((x0 = 0 → Q (some (.int 0)) ι) ∧ (¬ x0 = 0 → Q (some (.int 1)) ι))) : PC xl (n + 1) 175 0 [(0, .int x0)] [] ι Q := by
  refine PC.pr1 (k := 0) (pc' := 1) (lv' := [(0, .int x0)]) (st' := [.int x0]) rfl ?_
  refine PC.if1 (t := 8) rfl rfl (fun c => ?_) (fun c => ?_)
  · have h := h.1 (cmp_eq.1.mp c)
    refine PC.pr (k := 1) (pc' := 9) (lv' := [(0, .int x0)]) (st' := [.int 0]) rfl ?_
    exact PC.retI rfl h
  · have h := h.2 (cmp_eq.2.mp c)
    refine PC.pr (k := 1) (pc' := 5) (lv' := [(0, .int x0)]) (st' := [.int 1]) rfl ?_
    refine PC.pr (k := 1) (pc' := 9) (lv' := [(0, .int x0)]) (st' := [.int 1]) rfl ?_
    exact PC.retI rfl h

/-- DoorPaintsModel.keep(I)I -/
theorem t_230_0 {xl : List Int32} {n : Nat} {ι : IS} {Q : Option Value → IS → Prop} {a0 : Nat} {x1 : Int32} (h : PC xl n 148 0 [(0, .long (x1).toInt64), (2, .long 0), (4, .long 1)] [] ι (fun v1 κ1 => ∀ r1, v1 = some (.int r1) → ((¬ r1 = 0 → (0 ≤ x1.toInt → x1.toInt < ln (rf a0 2) → PC xl n 175 0 [(0, .int (κ1 (rf a0 2) x1.toNatClampNeg))] [] κ1 (fun v2 κ2 => ∀ r2, v2 = some (.int r2) → (0 ≤ x1.toInt → x1.toInt < ln (rf a0 2) → PC xl n 231 0 [(0, .ref a0), (1, .int (80 * (x1 + 1))), (2, .int 0)] [] (up κ2 (rf a0 2) x1.toNatClampNeg (vp_nar .boolean 1)) (fun _ κ3 => Q (some (.int r2)) κ3))))) ∧ (r1 = 0 → Q (some (.int (-1))) κ1)))) : PC xl (n + 1) 230 0 [(0, .ref a0), (1, .int x1)] [] ι Q := by
  refine PC.pr1 (k := 0) (pc' := 1) (lv' := [(0, .ref a0), (1, .int x1)]) (st' := [.int x1]) rfl ?_
  refine PC.pr (k := 1) (pc' := 2) (lv' := [(0, .ref a0), (1, .int x1)]) (st' := [.long (x1).toInt64]) rfl ?_
  refine PC.pr (k := 1) (pc' := 3) (lv' := [(0, .ref a0), (1, .int x1)]) (st' := [.long 0, .long (x1).toInt64]) rfl ?_
  refine PC.pr (k := 1) (pc' := 4) (lv' := [(0, .ref a0), (1, .int x1)]) (st' := [.long 1, .long 0, .long (x1).toInt64]) rfl ?_
  refine (PC.callI (j := 148) (args := [.long (x1).toInt64, .long 0, .long 1]) (rest := []) (M := cM148) (ty := .boolean) rfl rfl rfl rfl rfl rfl (by decide) rfl rfl (by decide) ?_).weak
  refine PC.imp h (fun v1 κ1 h r1 hv => ?_)
  have h := h r1 hv
  refine PC.if1 (t := 12) rfl rfl (fun c => ?_) (fun c => ?_)
  · have h := h.1 (cmp_ne.1.mp c)
    refine PC.pr (k := 1) (pc' := 13) (lv' := [(0, .ref a0), (1, .int x1)]) (st' := [.ref a0]) rfl ?_
    refine PC.gR (ci := 9) (j := 2) rfl rfl (by decide) ?_
    refine PC.pr (k := 1) (pc' := 17) (lv' := [(0, .ref a0), (1, .int x1)]) (st' := [.int x1, .ref (rf a0 2)]) rfl ?_
    refine PC.ba rfl (rf_lt _ _) (fun c1 c2 => ?_)
    have h := h c1 c2
    refine (PC.callI (j := 175) (args := [.int (κ1 (rf a0 2) x1.toNatClampNeg)]) (rest := []) (M := cM175) (ty := .int) rfl rfl rfl rfl rfl rfl (by decide) rfl rfl (by decide) ?_).weak
    refine PC.imp h (fun v2 κ2 h r2 hv => ?_)
    have h := h r2 hv
    refine PC.pr (k := 1) (pc' := 22) (lv' := [(2, .int r2), (0, .ref a0), (1, .int x1)]) (st' := []) rfl ?_
    refine PC.pr (k := 1) (pc' := 23) (lv' := [(2, .int r2), (0, .ref a0), (1, .int x1)]) (st' := [.ref a0]) rfl ?_
    refine PC.gR (ci := 9) (j := 2) rfl rfl (by decide) ?_
    refine PC.pr (k := 1) (pc' := 27) (lv' := [(2, .int r2), (0, .ref a0), (1, .int x1)]) (st' := [.int x1, .ref (rf a0 2)]) rfl ?_
    refine PC.pr (k := 1) (pc' := 28) (lv' := [(2, .int r2), (0, .ref a0), (1, .int x1)]) (st' := [.int 1, .int x1, .ref (rf a0 2)]) rfl ?_
    refine PC.wB rfl (fun c1 c2 => ?_)
    have h := h c1 c2
    refine PC.pr (k := 1) (pc' := 30) (lv' := [(2, .int r2), (0, .ref a0), (1, .int x1)]) (st' := [.ref a0]) rfl ?_
    refine PC.pr (k := 1) (pc' := 32) (lv' := [(2, .int r2), (0, .ref a0), (1, .int x1)]) (st' := [.int 80, .ref a0]) rfl ?_
    refine PC.pr (k := 1) (pc' := 33) (lv' := [(2, .int r2), (0, .ref a0), (1, .int x1)]) (st' := [.int x1, .int 80, .ref a0]) rfl ?_
    refine PC.pr (k := 1) (pc' := 34) (lv' := [(2, .int r2), (0, .ref a0), (1, .int x1)]) (st' := [.int 1, .int x1, .int 80, .ref a0]) rfl ?_
    refine PC.pr (k := 1) (pc' := 35) (lv' := [(2, .int r2), (0, .ref a0), (1, .int x1)]) (st' := [.int (x1 + 1), .int 80, .ref a0]) rfl ?_
    refine PC.pr (k := 1) (pc' := 36) (lv' := [(2, .int r2), (0, .ref a0), (1, .int x1)]) (st' := [.int (80 * (x1 + 1)), .ref a0]) rfl ?_
    refine PC.pr (k := 1) (pc' := 37) (lv' := [(2, .int r2), (0, .ref a0), (1, .int x1)]) (st' := [.int 0, .int (80 * (x1 + 1)), .ref a0]) rfl ?_
    refine (PC.callV (j := 231) (args := [.ref a0, .int (80 * (x1 + 1)), .int 0]) (rest := []) (M := cM231) rfl rfl rfl rfl rfl rfl (by decide) rfl rfl ?_).weak
    refine PC.imp h (fun _ κ3 h => ?_)
    refine PC.pr (k := 1) (pc' := 41) (lv' := [(2, .int r2), (0, .ref a0), (1, .int x1)]) (st' := [.int r2]) rfl ?_
    exact PC.retI rfl h
  · have h := h.2 (cmp_ne.2.mp c)
    refine PC.pr (k := 1) (pc' := 11) (lv' := [(0, .ref a0), (1, .int x1)]) (st' := [.int (-1)]) rfl ?_
    exact PC.retI rfl h

/-- DoorPaintsModel.copies(II)V -/
theorem t_231_0 {xl : List Int32} {n : Nat} {ι : IS} {Q : Option Value → IS → Prop} {a0 : Nat} {x1 : Int32} {x2 : Int32} (h : PC xl n 231 2 [(0, .ref a0), (1, .int x1), (2, .int x2), (3, .int 0)] [] ι Q) : PC xl (n + 1) 231 0 [(0, .ref a0), (1, .int x1), (2, .int x2)] [] ι Q := by
  refine PC.pr1 (k := 0) (pc' := 1) (lv' := [(0, .ref a0), (1, .int x1), (2, .int x2)]) (st' := [.int 0]) rfl ?_
  refine PC.pr (k := 1) (pc' := 2) (lv' := [(3, .int 0), (0, .ref a0), (1, .int x1), (2, .int x2)]) (st' := []) rfl ?_
  exact PC.lv (lvE.cons rfl (lvE.cons rfl (lvE.cons rfl (lvE.cons rfl (lvE.nil))))) h
theorem t_231_2 {xl : List Int32} {n : Nat} {ι : IS} {Q : Option Value → IS → Prop} {a0 : Nat} {x1 : Int32} {x2 : Int32} {x3 : Int32} (h : ((¬ x3 < 80 → Q none ι) ∧ (x3 < 80 → (0 ≤ (x2 + x3).toInt → (x2 + x3).toInt < ln (rf a0 0) → (0 ≤ (x1 + x3).toInt → (x1 + x3).toInt < ln (rf a0 0) → PC xl n 231 2 [(0, .ref a0), (1, .int x1), (2, .int x2), (3, .int (x3 + 1))] [] (up ι (rf a0 0) (x1 + x3).toNatClampNeg (ι (rf a0 0) (x2 + x3).toNatClampNeg)) Q))))) : PC xl (n + 1) 231 2 [(0, .ref a0), (1, .int x1), (2, .int x2), (3, .int x3)] [] ι Q := by
  refine PC.pr1 (k := 0) (pc' := 3) (lv' := [(0, .ref a0), (1, .int x1), (2, .int x2), (3, .int x3)]) (st' := [.int x3]) rfl ?_
  refine PC.pr (k := 1) (pc' := 5) (lv' := [(0, .ref a0), (1, .int x1), (2, .int x2), (3, .int x3)]) (st' := [.int 80, .int x3]) rfl ?_
  refine PC.if2 (t := 30) rfl rfl (fun c => ?_) (fun c => ?_)
  · have h := h.1 (cmp_ge.1.mp c)
    exact PC.retV rfl h
  · have h := h.2 (cmp_ge.2.mp c)
    refine PC.pr (k := 1) (pc' := 9) (lv' := [(0, .ref a0), (1, .int x1), (2, .int x2), (3, .int x3)]) (st' := [.ref a0]) rfl ?_
    refine PC.gR (ci := 9) (j := 0) rfl rfl (by decide) ?_
    refine PC.pr (k := 1) (pc' := 13) (lv' := [(0, .ref a0), (1, .int x1), (2, .int x2), (3, .int x3)]) (st' := [.int x1, .ref (rf a0 0)]) rfl ?_
    refine PC.pr (k := 1) (pc' := 14) (lv' := [(0, .ref a0), (1, .int x1), (2, .int x2), (3, .int x3)]) (st' := [.int x3, .int x1, .ref (rf a0 0)]) rfl ?_
    refine PC.pr (k := 1) (pc' := 15) (lv' := [(0, .ref a0), (1, .int x1), (2, .int x2), (3, .int x3)]) (st' := [.int (x1 + x3), .ref (rf a0 0)]) rfl ?_
    refine PC.pr (k := 1) (pc' := 16) (lv' := [(0, .ref a0), (1, .int x1), (2, .int x2), (3, .int x3)]) (st' := [.ref a0, .int (x1 + x3), .ref (rf a0 0)]) rfl ?_
    refine PC.gR (ci := 9) (j := 0) rfl rfl (by decide) ?_
    refine PC.pr (k := 1) (pc' := 20) (lv' := [(0, .ref a0), (1, .int x1), (2, .int x2), (3, .int x3)]) (st' := [.int x2, .ref (rf a0 0), .int (x1 + x3), .ref (rf a0 0)]) rfl ?_
    refine PC.pr (k := 1) (pc' := 21) (lv' := [(0, .ref a0), (1, .int x1), (2, .int x2), (3, .int x3)]) (st' := [.int x3, .int x2, .ref (rf a0 0), .int (x1 + x3), .ref (rf a0 0)]) rfl ?_
    refine PC.pr (k := 1) (pc' := 22) (lv' := [(0, .ref a0), (1, .int x1), (2, .int x2), (3, .int x3)]) (st' := [.int (x2 + x3), .ref (rf a0 0), .int (x1 + x3), .ref (rf a0 0)]) rfl ?_
    refine PC.rd rfl (rf_lt _ _) (fun c1 c2 => ?_)
    have h := h c1 c2
    refine PC.wI rfl (fun c1 c2 => ?_)
    have h := h c1 c2
    refine PC.pr (k := 1) (pc' := 27) (lv' := [(3, .int (x3 + 1)), (0, .ref a0), (1, .int x1), (2, .int x2)]) (st' := []) rfl ?_
    refine PC.pr (k := 1) (pc' := 2) (lv' := [(3, .int (x3 + 1)), (0, .ref a0), (1, .int x1), (2, .int x2)]) (st' := []) rfl ?_
    exact PC.lv (lvE.cons rfl (lvE.cons rfl (lvE.cons rfl (lvE.cons rfl (lvE.nil))))) h

