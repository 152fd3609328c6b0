/-! WHAT RUNS ASK (written by a program) -/
/-- DoorPaints$Town.undergo(I)Z -/
theorem t_89_0 {xl : List Int32} {n : Nat} {ι : IS} {Q : Option Value → IS → Prop} {a0 : Nat} {x1 : Int32} (h : PC xl n 42 0 [(0, .int x1)] [] ι (fun v1 κ1 => ∀ r1, v1 = some (.int r1) → ((r1 = 0 → PC xl n 70 0 [(0, .ref a0), (1, .int (x1 / 10)), (2, .int (x1 - x1 / 10 * 10))] [] κ1 (fun v2 κ2 => ∀ r2, v2 = some (.int r2) → PC xl n 90 0 [(0, .int r2)] [] κ2 (fun v3 κ3 => ∀ r3, v3 = some (.int r3) → ((¬ r3 = 0 → Q (some (.int 0)) κ3) ∧ (r3 = 0 → Q (some (.int 1)) κ3))))) ∧ (¬ r1 = 0 → PC xl n 76 0 [(0, .ref a0), (1, .int x1)] [] κ1 (fun _ κ4 => Q (some (.int 1)) κ4))))) : PC xl (n + 1) 89 0 [(0, .ref a0), (1, .int x1)] [] ι Q := by
  refine PC.pr1 (k := 0) (pc' := 1) (lv' := [(0, .ref a0), (1, .int x1)]) (st' := [.int x1]) rfl ?_
  refine (PC.callI (j := 42) (args := [.int x1]) (rest := []) (M := cM42) (ty := .boolean) rfl rfl rfl rfl rfl rfl (by decide) rfl rfl (by decide) ?_).weak
  refine PC.imp h (fun v1 κ1 h r1 hv => ?_)
  have h := h r1 hv
  refine PC.if1 (t := 14) rfl rfl (fun c => ?_) (fun c => ?_)
  · have h := h.1 (cmp_eq.1.mp c)
    refine PC.pr (k := 1) (pc' := 15) (lv' := [(0, .ref a0), (1, .int x1)]) (st' := [.ref a0]) rfl ?_
    refine PC.pr (k := 1) (pc' := 16) (lv' := [(0, .ref a0), (1, .int x1)]) (st' := [.int x1, .ref a0]) rfl ?_
    refine PC.pr (k := 1) (pc' := 18) (lv' := [(0, .ref a0), (1, .int x1)]) (st' := [.int 10, .int x1, .ref a0]) rfl ?_
    refine PC.pr (k := 1) (pc' := 19) (lv' := [(0, .ref a0), (1, .int x1)]) (st' := [.int (x1 / 10), .ref a0]) rfl ?_
    refine PC.pr (k := 1) (pc' := 20) (lv' := [(0, .ref a0), (1, .int x1)]) (st' := [.int x1, .int (x1 / 10), .ref a0]) rfl ?_
    refine PC.pr (k := 1) (pc' := 22) (lv' := [(0, .ref a0), (1, .int x1)]) (st' := [.int 10, .int x1, .int (x1 / 10), .ref a0]) rfl ?_
    refine PC.pr (k := 1) (pc' := 23) (lv' := [(0, .ref a0), (1, .int x1)]) (st' := [.int (x1 - x1 / 10 * 10), .int (x1 / 10), .ref a0]) rfl ?_
    refine (PC.callI (j := 70) (args := [.ref a0, .int (x1 / 10), .int (x1 - x1 / 10 * 10)]) (rest := []) (M := cM70) (ty := .int) rfl rfl rfl rfl rfl rfl (by decide) rfl rfl (by decide) ?_).weak
    refine PC.imp h (fun v2 κ2 h r2 hv => ?_)
    have h := h r2 hv
    refine (PC.callI (j := 90) (args := [.int r2]) (rest := []) (M := cM90) (ty := .boolean) rfl rfl rfl rfl rfl rfl (by decide) rfl rfl (by decide) ?_).weak
    refine PC.imp h (fun v3 κ3 h r3 hv => ?_)
    have h := h r3 hv
    refine PC.if1 (t := 36) rfl rfl (fun c => ?_) (fun c => ?_)
    · have h := h.1 (cmp_ne.1.mp c)
      refine PC.pr (k := 1) (pc' := 37) (lv' := [(0, .ref a0), (1, .int x1)]) (st' := [.int 0]) rfl ?_
      exact PC.retI rfl h
    · have h := h.2 (cmp_ne.2.mp c)
      refine PC.pr (k := 1) (pc' := 33) (lv' := [(0, .ref a0), (1, .int x1)]) (st' := [.int 1]) rfl ?_
      refine PC.pr (k := 1) (pc' := 37) (lv' := [(0, .ref a0), (1, .int x1)]) (st' := [.int 1]) rfl ?_
      exact PC.retI rfl h
  · have h := h.2 (cmp_eq.2.mp c)
    refine PC.pr (k := 1) (pc' := 8) (lv' := [(0, .ref a0), (1, .int x1)]) (st' := [.ref a0]) rfl ?_
    refine PC.pr (k := 1) (pc' := 9) (lv' := [(0, .ref a0), (1, .int x1)]) (st' := [.int x1, .ref a0]) rfl ?_
    refine (PC.callV (j := 76) (args := [.ref a0, .int x1]) (rest := []) (M := cM76) rfl rfl rfl rfl rfl rfl (by decide) rfl rfl ?_).weak
    refine PC.imp h (fun _ κ4 h => ?_)
    refine PC.pr (k := 1) (pc' := 13) (lv' := [(0, .ref a0), (1, .int x1)]) (st' := [.int 1]) rfl ?_
    exact PC.retI rfl h

/-- DoorPaints.takenInTrial()I -/
theorem t_91_0 {xl : List Int32} {n : Nat} {ι : IS} {Q : Option Value → IS → Prop} {a0 : Nat} (h : PC xl n 61 0 [(0, .ref (rf (rf a0 2) 0))] [] ι (fun v1 κ1 => ∀ r1, v1 = some (.int r1) → PC xl n 61 0 [(0, .ref (rf a0 5))] [] κ1 (fun v2 κ2 => ∀ r2, v2 = some (.int r2) → Q (some (.int (r1 - r2))) κ2))) : PC xl (n + 1) 91 0 [(0, .ref a0)] [] ι Q := by
  refine PC.pr1 (k := 0) (pc' := 1) (lv' := [(0, .ref a0)]) (st' := [.ref a0]) rfl ?_
  refine PC.gR (ci := 0) (j := 2) rfl rfl (by decide) ?_
  refine PC.gR (ci := 2) (j := 0) rfl rfl (by decide) ?_
  refine (PC.callI (j := 61) (args := [.ref (rf (rf a0 2) 0)]) (rest := []) (M := cM61) (ty := .int) rfl rfl rfl rfl rfl rfl (by decide) rfl rfl (by decide) ?_).weak
  refine PC.imp h (fun v1 κ1 h r1 hv => ?_)
  have h := h r1 hv
  refine PC.pr (k := 1) (pc' := 11) (lv' := [(0, .ref a0)]) (st' := [.ref a0, .int r1]) rfl ?_
  refine PC.gR (ci := 0) (j := 5) rfl rfl (by decide) ?_
  refine (PC.callI (j := 61) (args := [.ref (rf a0 5)]) (rest := [.int r1]) (M := cM61) (ty := .int) rfl rfl rfl rfl rfl rfl (by decide) rfl rfl (by decide) ?_).weak
  refine PC.imp h (fun v2 κ2 h r2 hv => ?_)
  have h := h r2 hv
  refine PC.pr (k := 1) (pc' := 18) (lv' := [(0, .ref a0)]) (st' := [.int (r1 - r2)]) rfl ?_
  exact PC.retI rfl h

/-- DoorPaints$Town.markedBits()I -/
theorem t_92_0 {xl : List Int32} {n : Nat} {ι : IS} {Q : Option Value → IS → Prop} {a0 : Nat} (h : PC xl n 92 4 [(0, .ref a0), (1, .int 0), (2, .int 0)] [] ι Q) : PC xl (n + 1) 92 0 [(0, .ref a0)] [] ι Q := by
  refine PC.pr1 (k := 0) (pc' := 1) (lv' := [(0, .ref a0)]) (st' := [.int 0]) rfl ?_
  refine PC.pr (k := 1) (pc' := 2) (lv' := [(1, .int 0), (0, .ref a0)]) (st' := []) rfl ?_
  refine PC.pr (k := 1) (pc' := 3) (lv' := [(1, .int 0), (0, .ref a0)]) (st' := [.int 0]) rfl ?_
  refine PC.pr (k := 1) (pc' := 4) (lv' := [(2, .int 0), (1, .int 0), (0, .ref a0)]) (st' := []) rfl ?_
  exact PC.lv (lvE.cons rfl (lvE.cons rfl (lvE.cons rfl (lvE.nil)))) h
theorem t_92_4 {xl : List Int32} {n : Nat} {ι : IS} {Q : Option Value → IS → Prop} {a0 : Nat} {x1 : Int32} {x2 : Int32} (h : ((¬ x2 < (ι a0 2) → Q (some (.int x1)) ι) ∧ (x2 < (ι a0 2) → (0 ≤ x2.toInt → x2.toInt < lr (rf a0 0) → (((ι (re (rf a0 0) x2.toNatClampNeg) 3) = 0 → PC xl n 92 4 [(0, .ref a0), (1, .int (x1 ||| 0)), (2, .int (x2 + 1))] [] ι Q) ∧ (¬ (ι (re (rf a0 0) x2.toNatClampNeg) 3) = 0 → PC xl n 92 4 [(0, .ref a0), (1, .int (x1 ||| (1 <<< (x2 &&& 31)))), (2, .int (x2 + 1))] [] ι Q)))))) : PC xl (n + 1) 92 4 [(0, .ref a0), (1, .int x1), (2, .int x2)] [] ι Q := by
  refine PC.pr1 (k := 0) (pc' := 5) (lv' := [(0, .ref a0), (1, .int x1), (2, .int x2)]) (st' := [.int x2]) rfl ?_
  refine PC.pr (k := 1) (pc' := 6) (lv' := [(0, .ref a0), (1, .int x1), (2, .int x2)]) (st' := [.ref a0, .int x2]) rfl ?_
  refine PC.gI (ci := 3) (j := 2) rfl rfl (by decide) ?_
  refine PC.if2 (t := 40) rfl rfl (fun c => ?_) (fun c => ?_)
  · have h := h.1 (cmp_ge.1.mp c)
    refine PC.pr (k := 1) (pc' := 41) (lv' := [(0, .ref a0), (1, .int x1), (2, .int x2)]) (st' := [.int x1]) rfl ?_
    exact PC.retI rfl h
  · have h := h.2 (cmp_ge.2.mp c)
    refine PC.pr (k := 1) (pc' := 13) (lv' := [(0, .ref a0), (1, .int x1), (2, .int x2)]) (st' := [.int x1]) rfl ?_
    refine PC.pr (k := 1) (pc' := 14) (lv' := [(0, .ref a0), (1, .int x1), (2, .int x2)]) (st' := [.ref a0, .int x1]) rfl ?_
    refine PC.gR (ci := 3) (j := 0) rfl rfl (by decide) ?_
    refine PC.pr (k := 1) (pc' := 18) (lv' := [(0, .ref a0), (1, .int x1), (2, .int x2)]) (st' := [.int x2, .ref (rf a0 0), .int x1]) rfl ?_
    refine PC.ra rfl (fun c1 c2 => ?_)
    have h := h c1 c2
    refine PC.gI (ci := 4) (j := 3) rfl rfl (by decide) ?_
    refine PC.if1 (t := 31) rfl rfl (fun c => ?_) (fun c => ?_)
    · have h := h.1 (cmp_eq.1.mp c)
      refine PC.pr (k := 1) (pc' := 32) (lv' := [(0, .ref a0), (1, .int x1), (2, .int x2)]) (st' := [.int 0, .int x1]) rfl ?_
      refine PC.pr (k := 1) (pc' := 33) (lv' := [(0, .ref a0), (1, .int x1), (2, .int x2)]) (st' := [.int (x1 ||| 0)]) rfl ?_
      refine PC.pr (k := 1) (pc' := 34) (lv' := [(1, .int (x1 ||| 0)), (0, .ref a0), (2, .int x2)]) (st' := []) rfl ?_
      refine PC.pr (k := 1) (pc' := 37) (lv' := [(2, .int (x2 + 1)), (1, .int (x1 ||| 0)), (0, .ref a0)]) (st' := []) rfl ?_
      refine PC.pr (k := 1) (pc' := 4) (lv' := [(2, .int (x2 + 1)), (1, .int (x1 ||| 0)), (0, .ref a0)]) (st' := []) rfl ?_
      exact PC.lv (lvE.cons rfl (lvE.cons rfl (lvE.cons rfl (lvE.nil)))) h
    · have h := h.2 (cmp_eq.2.mp c)
      refine PC.pr (k := 1) (pc' := 26) (lv' := [(0, .ref a0), (1, .int x1), (2, .int x2)]) (st' := [.int 1, .int x1]) rfl ?_
      refine PC.pr (k := 1) (pc' := 27) (lv' := [(0, .ref a0), (1, .int x1), (2, .int x2)]) (st' := [.int x2, .int 1, .int x1]) rfl ?_
      refine PC.pr (k := 1) (pc' := 28) (lv' := [(0, .ref a0), (1, .int x1), (2, .int x2)]) (st' := [.int (1 <<< (x2 &&& 31)), .int x1]) rfl ?_
      refine PC.pr (k := 1) (pc' := 32) (lv' := [(0, .ref a0), (1, .int x1), (2, .int x2)]) (st' := [.int (1 <<< (x2 &&& 31)), .int x1]) rfl ?_
      refine PC.pr (k := 1) (pc' := 33) (lv' := [(0, .ref a0), (1, .int x1), (2, .int x2)]) (st' := [.int (x1 ||| (1 <<< (x2 &&& 31)))]) rfl ?_
      refine PC.pr (k := 1) (pc' := 34) (lv' := [(1, .int (x1 ||| (1 <<< (x2 &&& 31)))), (0, .ref a0), (2, .int x2)]) (st' := []) rfl ?_
      refine PC.pr (k := 1) (pc' := 37) (lv' := [(2, .int (x2 + 1)), (1, .int (x1 ||| (1 <<< (x2 &&& 31)))), (0, .ref a0)]) (st' := []) rfl ?_
      refine PC.pr (k := 1) (pc' := 4) (lv' := [(2, .int (x2 + 1)), (1, .int (x1 ||| (1 <<< (x2 &&& 31)))), (0, .ref a0)]) (st' := []) rfl ?_
      exact PC.lv (lvE.cons rfl (lvE.cons rfl (lvE.cons rfl (lvE.nil)))) h

/-- DoorPaints$Town.hasVisits()Z -/
theorem t_98_0 {xl : List Int32} {n : Nat} {ι : IS} {Q : Option Value → IS → Prop} {a0 : Nat} (h : ((¬ 0 < (ι a0 2) → Q (some (.int 0)) ι) ∧ (0 < (ι a0 2) → ((¬ 0 < (ι a0 3) → Q (some (.int 0)) ι) ∧ (0 < (ι a0 3) → Q (some (.int 1)) ι))))) : PC xl (n + 1) 98 0 [(0, .ref a0)] [] ι Q := by
  refine PC.pr1 (k := 0) (pc' := 1) (lv' := [(0, .ref a0)]) (st' := [.ref a0]) rfl ?_
  refine PC.gI (ci := 3) (j := 2) rfl rfl (by decide) ?_
  refine PC.if1 (t := 18) rfl rfl (fun c => ?_) (fun c => ?_)
  · have h := h.1 (cmp_le.1.mp c)
    refine PC.pr (k := 1) (pc' := 19) (lv' := [(0, .ref a0)]) (st' := [.int 0]) rfl ?_
    exact PC.retI rfl h
  · have h := h.2 (cmp_le.2.mp c)
    refine PC.pr (k := 1) (pc' := 8) (lv' := [(0, .ref a0)]) (st' := [.ref a0]) rfl ?_
    refine PC.gI (ci := 3) (j := 3) rfl rfl (by decide) ?_
    refine PC.if1 (t := 18) rfl rfl (fun c => ?_) (fun c => ?_)
    · have h := h.1 (cmp_le.1.mp c)
      refine PC.pr (k := 1) (pc' := 19) (lv' := [(0, .ref a0)]) (st' := [.int 0]) rfl ?_
      exact PC.retI rfl h
    · have h := h.2 (cmp_le.2.mp c)
      refine PC.pr (k := 1) (pc' := 15) (lv' := [(0, .ref a0)]) (st' := [.int 1]) rfl ?_
      refine PC.pr (k := 1) (pc' := 19) (lv' := [(0, .ref a0)]) (st' := [.int 1]) rfl ?_
      exact PC.retI rfl h

/-- DoorPaints$Town.lend(II)V -/
theorem t_115_0 {xl : List Int32} {n : Nat} {ι : IS} {Q : Option Value → IS → Prop} {a0 : Nat} {x1 : Int32} {x2 : Int32} (h : Q none (up (up ι a0 4 x1) a0 5 x2)) : PC xl (n + 1) 115 0 [(0, .ref a0), (1, .int x1), (2, .int x2)] [] ι Q := by
  refine PC.pr1 (k := 0) (pc' := 1) (lv' := [(0, .ref a0), (1, .int x1), (2, .int x2)]) (st' := [.ref a0]) rfl ?_
  refine PC.pr (k := 1) (pc' := 2) (lv' := [(0, .ref a0), (1, .int x1), (2, .int x2)]) (st' := [.int x1, .ref a0]) rfl ?_
  refine PC.pI (ci := 3) (j := 4) rfl rfl ?_
  refine PC.pr (k := 1) (pc' := 6) (lv' := [(0, .ref a0), (1, .int x1), (2, .int x2)]) (st' := [.ref a0]) rfl ?_
  refine PC.pr (k := 1) (pc' := 7) (lv' := [(0, .ref a0), (1, .int x1), (2, .int x2)]) (st' := [.int x2, .ref a0]) rfl ?_
  refine PC.pI (ci := 3) (j := 5) rfl rfl ?_
  exact PC.retV rfl h

/-- DoorPaints$Told.agreesWith(LDoorPaints$Town;)Z -/
theorem t_116_0 {xl : List Int32} {n : Nat} {ι : IS} {Q : Option Value → IS → Prop} {a0 : Nat} {a1 : Nat} (h : PC xl n 116 2 [(0, .ref a0), (1, .ref a1), (2, .int 0), (3, .null)] [] ι Q) : PC xl (n + 1) 116 0 [(0, .ref a0), (1, .ref a1)] [] ι Q := by
  refine PC.pr1 (k := 0) (pc' := 1) (lv' := [(0, .ref a0), (1, .ref a1)]) (st' := [.int 0]) rfl ?_
  refine PC.pr (k := 1) (pc' := 2) (lv' := [(2, .int 0), (0, .ref a0), (1, .ref a1)]) (st' := []) rfl ?_
  exact PC.lv (lvE.cons rfl (lvE.cons rfl (lvE.cons rfl (lvE.nil)))) h
theorem t_116_2 {xl : List Int32} {n : Nat} {ι : IS} {Q : Option Value → IS → Prop} {a0 : Nat} {a1 : Nat} {x2 : Int32} {w3 : Value} (h : ((¬ x2 < (ι a0 6) → Q (some (.int 1)) ι) ∧ (x2 < (ι a0 6) → (0 ≤ x2.toInt → x2.toInt < ln (rf a0 3) → PC xl n 50 0 [(0, .ref a1), (1, .int (ι (rf a0 3) x2.toNatClampNeg))] [] ι (fun v1 κ1 => ∀ r1, v1 = some (.int r1) → ((r1 = 0 → Q (some (.int 0)) κ1) ∧ (¬ r1 = 0 → (0 ≤ (ι (rf a0 3) x2.toNatClampNeg).toInt → (ι (rf a0 3) x2.toNatClampNeg).toInt < lr (rf a1 1) → (0 ≤ x2.toInt → x2.toInt < ln (rf a0 4) → PC xl n 65 0 [(0, .ref (re (rf a1 1) (ι (rf a0 3) x2.toNatClampNeg).toNatClampNeg)), (1, .int (κ1 (rf a0 4) x2.toNatClampNeg))] [] κ1 (fun v2 κ2 => ∀ r2, v2 = some (.int r2) → (0 ≤ x2.toInt → x2.toInt < ln (rf a0 5) → ((r2 = (κ2 (rf a0 5) x2.toNatClampNeg) → PC xl n 116 2 [(0, .ref a0), (1, .ref a1), (2, .int (x2 + 1)), (3, .int (ι (rf a0 3) x2.toNatClampNeg))] [] κ2 Q) ∧ (¬ r2 = (κ2 (rf a0 5) x2.toNatClampNeg) → Q (some (.int 0)) κ2))))))))))))) : PC xl (n + 1) 116 2 [(0, .ref a0), (1, .ref a1), (2, .int x2), (3, w3)] [] ι Q := by
  refine PC.pr1 (k := 0) (pc' := 3) (lv' := [(0, .ref a0), (1, .ref a1), (2, .int x2), (3, w3)]) (st' := [.int x2]) rfl ?_
  refine PC.pr (k := 1) (pc' := 4) (lv' := [(0, .ref a0), (1, .ref a1), (2, .int x2), (3, w3)]) (st' := [.ref a0, .int x2]) rfl ?_
  refine PC.gI (ci := 2) (j := 6) rfl rfl (by decide) ?_
  refine PC.if2 (t := 57) rfl rfl (fun c => ?_) (fun c => ?_)
  · have h := h.1 (cmp_ge.1.mp c)
    refine PC.pr (k := 1) (pc' := 58) (lv' := [(0, .ref a0), (1, .ref a1), (2, .int x2), (3, w3)]) (st' := [.int 1]) rfl ?_
    exact PC.retI rfl h
  · have h := h.2 (cmp_ge.2.mp c)
    refine PC.pr (k := 1) (pc' := 11) (lv' := [(0, .ref a0), (1, .ref a1), (2, .int x2), (3, w3)]) (st' := [.ref a0]) rfl ?_
    refine PC.gR (ci := 2) (j := 3) rfl rfl (by decide) ?_
    refine PC.pr (k := 1) (pc' := 15) (lv' := [(0, .ref a0), (1, .ref a1), (2, .int x2), (3, w3)]) (st' := [.int x2, .ref (rf a0 3)]) rfl ?_
    refine PC.rd rfl (rf_lt _ _) (fun c1 c2 => ?_)
    have h := h c1 c2
    refine PC.pr (k := 1) (pc' := 17) (lv' := [(3, .int (ι (rf a0 3) x2.toNatClampNeg)), (0, .ref a0), (1, .ref a1), (2, .int x2)]) (st' := []) rfl ?_
    refine PC.pr (k := 1) (pc' := 18) (lv' := [(3, .int (ι (rf a0 3) x2.toNatClampNeg)), (0, .ref a0), (1, .ref a1), (2, .int x2)]) (st' := [.ref a1]) rfl ?_
    refine PC.pr (k := 1) (pc' := 19) (lv' := [(3, .int (ι (rf a0 3) x2.toNatClampNeg)), (0, .ref a0), (1, .ref a1), (2, .int x2)]) (st' := [.int (ι (rf a0 3) x2.toNatClampNeg), .ref a1]) rfl ?_
    refine (PC.callI (j := 50) (args := [.ref a1, .int (ι (rf a0 3) x2.toNatClampNeg)]) (rest := []) (M := cM50) (ty := .boolean) rfl rfl rfl rfl rfl rfl (by decide) rfl rfl (by decide) ?_).weak
    refine PC.imp h (fun v1 κ1 h r1 hv => ?_)
    have h := h r1 hv
    refine PC.if1 (t := 49) rfl rfl (fun c => ?_) (fun c => ?_)
    · have h := h.1 (cmp_eq.1.mp c)
      refine PC.pr (k := 1) (pc' := 50) (lv' := [(3, .int (ι (rf a0 3) x2.toNatClampNeg)), (0, .ref a0), (1, .ref a1), (2, .int x2)]) (st' := [.int 0]) rfl ?_
      exact PC.retI rfl h
    · have h := h.2 (cmp_eq.2.mp c)
      refine PC.pr (k := 1) (pc' := 26) (lv' := [(3, .int (ι (rf a0 3) x2.toNatClampNeg)), (0, .ref a0), (1, .ref a1), (2, .int x2)]) (st' := [.ref a1]) rfl ?_
      refine PC.gR (ci := 3) (j := 1) rfl rfl (by decide) ?_
      refine PC.pr (k := 1) (pc' := 30) (lv' := [(3, .int (ι (rf a0 3) x2.toNatClampNeg)), (0, .ref a0), (1, .ref a1), (2, .int x2)]) (st' := [.int (ι (rf a0 3) x2.toNatClampNeg), .ref (rf a1 1)]) rfl ?_
      refine PC.ra rfl (fun c1 c2 => ?_)
      have h := h c1 c2
      refine PC.pr (k := 1) (pc' := 32) (lv' := [(3, .int (ι (rf a0 3) x2.toNatClampNeg)), (0, .ref a0), (1, .ref a1), (2, .int x2)]) (st' := [.ref a0, .ref (re (rf a1 1) (ι (rf a0 3) x2.toNatClampNeg).toNatClampNeg)]) rfl ?_
      refine PC.gR (ci := 2) (j := 4) rfl rfl (by decide) ?_
      refine PC.pr (k := 1) (pc' := 36) (lv' := [(3, .int (ι (rf a0 3) x2.toNatClampNeg)), (0, .ref a0), (1, .ref a1), (2, .int x2)]) (st' := [.int x2, .ref (rf a0 4), .ref (re (rf a1 1) (ι (rf a0 3) x2.toNatClampNeg).toNatClampNeg)]) rfl ?_
      refine PC.rd rfl (rf_lt _ _) (fun c1 c2 => ?_)
      have h := h c1 c2
      refine (PC.callI (j := 65) (args := [.ref (re (rf a1 1) (ι (rf a0 3) x2.toNatClampNeg).toNatClampNeg), .int (κ1 (rf a0 4) x2.toNatClampNeg)]) (rest := []) (M := cM65) (ty := .int) rfl rfl rfl rfl rfl rfl (by decide) rfl rfl (by decide) ?_).weak
      refine PC.imp h (fun v2 κ2 h r2 hv => ?_)
      have h := h r2 hv
      refine PC.pr (k := 1) (pc' := 41) (lv' := [(3, .int (ι (rf a0 3) x2.toNatClampNeg)), (0, .ref a0), (1, .ref a1), (2, .int x2)]) (st' := [.ref a0, .int r2]) rfl ?_
      refine PC.gR (ci := 2) (j := 5) rfl rfl (by decide) ?_
      refine PC.pr (k := 1) (pc' := 45) (lv' := [(3, .int (ι (rf a0 3) x2.toNatClampNeg)), (0, .ref a0), (1, .ref a1), (2, .int x2)]) (st' := [.int x2, .ref (rf a0 5), .int r2]) rfl ?_
      refine PC.rd rfl (rf_lt _ _) (fun c1 c2 => ?_)
      have h := h c1 c2
      refine PC.if2 (t := 51) rfl rfl (fun c => ?_) (fun c => ?_)
      · have h := h.1 (cmp_eq.1.mp c)
        refine PC.pr (k := 1) (pc' := 54) (lv' := [(2, .int (x2 + 1)), (3, .int (ι (rf a0 3) x2.toNatClampNeg)), (0, .ref a0), (1, .ref a1)]) (st' := []) rfl ?_
        refine PC.pr (k := 1) (pc' := 2) (lv' := [(2, .int (x2 + 1)), (3, .int (ι (rf a0 3) x2.toNatClampNeg)), (0, .ref a0), (1, .ref a1)]) (st' := []) rfl ?_
        exact PC.lv (lvE.cons rfl (lvE.cons rfl (lvE.cons rfl (lvE.cons rfl (lvE.nil))))) h
      · have h := h.2 (cmp_eq.2.mp c)
        refine PC.pr (k := 1) (pc' := 50) (lv' := [(3, .int (ι (rf a0 3) x2.toNatClampNeg)), (0, .ref a0), (1, .ref a1), (2, .int x2)]) (st' := [.int 0]) rfl ?_
        exact PC.retI rfl h

/-- DoorPaints$Town.actBySeed(I)V -/
theorem t_129_0 {xl : List Int32} {n : Nat} {ι : IS} {Q : Option Value → IS → Prop} {a0 : Nat} {x1 : Int32} (h : (((x1 - x1 / 8 * 8) < 5 → PC xl n 98 0 [(0, .ref a0)] [] ι (fun v1 κ1 => ∀ r1, v1 = some (.int r1) → ((r1 = 0 → Q none κ1) ∧ (¬ r1 = 0 → (¬ (κ1 a0 2) = 0 → (¬ (κ1 a0 3) = 0 → PC xl n 70 0 [(0, .ref a0), (1, .int ((x1 / 8) - (x1 / 8) / (κ1 a0 2) * (κ1 a0 2))), (2, .int ((x1 / 32) - (x1 / 32) / (κ1 a0 3) * (κ1 a0 3)))] [] κ1 (fun v2 κ2 => ∀ r2, v2 = some (.int r2) → Q none κ2))))))) ∧ (¬ (x1 - x1 / 8 * 8) < 5 → PC xl n 76 0 [(0, .ref a0), (1, .int ((90 + (x1 - x1 / 8 * 8)) - 5))] [] ι (fun _ κ3 => Q none κ3)))) : PC xl (n + 1) 129 0 [(0, .ref a0), (1, .int x1)] [] ι Q := by
  refine PC.pr1 (k := 0) (pc' := 1) (lv' := [(0, .ref a0), (1, .int x1)]) (st' := [.int x1]) rfl ?_
  refine PC.pr (k := 1) (pc' := 3) (lv' := [(0, .ref a0), (1, .int x1)]) (st' := [.int 8, .int x1]) rfl ?_
  refine PC.pr (k := 1) (pc' := 4) (lv' := [(0, .ref a0), (1, .int x1)]) (st' := [.int (x1 - x1 / 8 * 8)]) rfl ?_
  refine PC.pr (k := 1) (pc' := 5) (lv' := [(2, .int (x1 - x1 / 8 * 8)), (0, .ref a0), (1, .int x1)]) (st' := []) rfl ?_
  refine PC.pr (k := 1) (pc' := 6) (lv' := [(2, .int (x1 - x1 / 8 * 8)), (0, .ref a0), (1, .int x1)]) (st' := [.int (x1 - x1 / 8 * 8)]) rfl ?_
  refine PC.pr (k := 1) (pc' := 7) (lv' := [(2, .int (x1 - x1 / 8 * 8)), (0, .ref a0), (1, .int x1)]) (st' := [.int 5, .int (x1 - x1 / 8 * 8)]) rfl ?_
  refine PC.if2 (t := 23) rfl rfl (fun c => ?_) (fun c => ?_)
  · have h := h.1 (cmp_lt.1.mp c)
    refine PC.pr (k := 1) (pc' := 24) (lv' := [(2, .int (x1 - x1 / 8 * 8)), (0, .ref a0), (1, .int x1)]) (st' := [.ref a0]) rfl ?_
    refine (PC.callI (j := 98) (args := [.ref a0]) (rest := []) (M := cM98) (ty := .boolean) rfl rfl rfl rfl rfl rfl (by decide) rfl rfl (by decide) ?_).weak
    refine PC.imp h (fun v1 κ1 h r1 hv => ?_)
    have h := h r1 hv
    refine PC.if1 (t := 53) rfl rfl (fun c => ?_) (fun c => ?_)
    · have h := h.1 (cmp_eq.1.mp c)
      exact PC.retV rfl h
    · have h := h.2 (cmp_eq.2.mp c)
      refine PC.pr (k := 1) (pc' := 31) (lv' := [(2, .int (x1 - x1 / 8 * 8)), (0, .ref a0), (1, .int x1)]) (st' := [.ref a0]) rfl ?_
      refine PC.pr (k := 1) (pc' := 32) (lv' := [(2, .int (x1 - x1 / 8 * 8)), (0, .ref a0), (1, .int x1)]) (st' := [.int x1, .ref a0]) rfl ?_
      refine PC.pr (k := 1) (pc' := 34) (lv' := [(2, .int (x1 - x1 / 8 * 8)), (0, .ref a0), (1, .int x1)]) (st' := [.int 8, .int x1, .ref a0]) rfl ?_
      refine PC.pr (k := 1) (pc' := 35) (lv' := [(2, .int (x1 - x1 / 8 * 8)), (0, .ref a0), (1, .int x1)]) (st' := [.int (x1 / 8), .ref a0]) rfl ?_
      refine PC.pr (k := 1) (pc' := 36) (lv' := [(2, .int (x1 - x1 / 8 * 8)), (0, .ref a0), (1, .int x1)]) (st' := [.ref a0, .int (x1 / 8), .ref a0]) rfl ?_
      refine PC.gI (ci := 3) (j := 2) rfl rfl (by decide) ?_
      refine PC.irm rfl (fun c1 => ?_)
      have h := h c1
      refine PC.pr (k := 1) (pc' := 41) (lv' := [(2, .int (x1 - x1 / 8 * 8)), (0, .ref a0), (1, .int x1)]) (st' := [.int x1, .int ((x1 / 8) - (x1 / 8) / (κ1 a0 2) * (κ1 a0 2)), .ref a0]) rfl ?_
      refine PC.pr (k := 1) (pc' := 43) (lv' := [(2, .int (x1 - x1 / 8 * 8)), (0, .ref a0), (1, .int x1)]) (st' := [.int 32, .int x1, .int ((x1 / 8) - (x1 / 8) / (κ1 a0 2) * (κ1 a0 2)), .ref a0]) rfl ?_
      refine PC.pr (k := 1) (pc' := 44) (lv' := [(2, .int (x1 - x1 / 8 * 8)), (0, .ref a0), (1, .int x1)]) (st' := [.int (x1 / 32), .int ((x1 / 8) - (x1 / 8) / (κ1 a0 2) * (κ1 a0 2)), .ref a0]) rfl ?_
      refine PC.pr (k := 1) (pc' := 45) (lv' := [(2, .int (x1 - x1 / 8 * 8)), (0, .ref a0), (1, .int x1)]) (st' := [.ref a0, .int (x1 / 32), .int ((x1 / 8) - (x1 / 8) / (κ1 a0 2) * (κ1 a0 2)), .ref a0]) rfl ?_
      refine PC.gI (ci := 3) (j := 3) rfl rfl (by decide) ?_
      refine PC.irm rfl (fun c1 => ?_)
      have h := h c1
      refine (PC.callI (j := 70) (args := [.ref a0, .int ((x1 / 8) - (x1 / 8) / (κ1 a0 2) * (κ1 a0 2)), .int ((x1 / 32) - (x1 / 32) / (κ1 a0 3) * (κ1 a0 3))]) (rest := []) (M := cM70) (ty := .int) rfl rfl rfl rfl rfl rfl (by decide) rfl rfl (by decide) ?_).weak
      refine PC.imp h (fun v2 κ2 h r2 hv => ?_)
      have h := h r2 hv
      refine PC.pr (k := 1) (pc' := 53) (lv' := [(2, .int (x1 - x1 / 8 * 8)), (0, .ref a0), (1, .int x1)]) (st' := []) rfl ?_
      exact PC.retV rfl h
  · have h := h.2 (cmp_lt.2.mp c)
    refine PC.pr (k := 1) (pc' := 11) (lv' := [(2, .int (x1 - x1 / 8 * 8)), (0, .ref a0), (1, .int x1)]) (st' := [.ref a0]) rfl ?_
    refine PC.pr (k := 1) (pc' := 13) (lv' := [(2, .int (x1 - x1 / 8 * 8)), (0, .ref a0), (1, .int x1)]) (st' := [.int 90, .ref a0]) rfl ?_
    refine PC.pr (k := 1) (pc' := 14) (lv' := [(2, .int (x1 - x1 / 8 * 8)), (0, .ref a0), (1, .int x1)]) (st' := [.int (x1 - x1 / 8 * 8), .int 90, .ref a0]) rfl ?_
    refine PC.pr (k := 1) (pc' := 15) (lv' := [(2, .int (x1 - x1 / 8 * 8)), (0, .ref a0), (1, .int x1)]) (st' := [.int (90 + (x1 - x1 / 8 * 8)), .ref a0]) rfl ?_
    refine PC.pr (k := 1) (pc' := 16) (lv' := [(2, .int (x1 - x1 / 8 * 8)), (0, .ref a0), (1, .int x1)]) (st' := [.int 5, .int (90 + (x1 - x1 / 8 * 8)), .ref a0]) rfl ?_
    refine PC.pr (k := 1) (pc' := 17) (lv' := [(2, .int (x1 - x1 / 8 * 8)), (0, .ref a0), (1, .int x1)]) (st' := [.int ((90 + (x1 - x1 / 8 * 8)) - 5), .ref a0]) rfl ?_
    refine (PC.callV (j := 76) (args := [.ref a0, .int ((90 + (x1 - x1 / 8 * 8)) - 5)]) (rest := []) (M := cM76) rfl rfl rfl rfl rfl rfl (by decide) rfl rfl ?_).weak
    refine PC.imp h (fun _ κ3 h => ?_)
    refine PC.pr (k := 1) (pc' := 53) (lv' := [(2, .int (x1 - x1 / 8 * 8)), (0, .ref a0), (1, .int x1)]) (st' := []) rfl ?_
    exact PC.retV rfl h

/-- DoorPaintsModel.runs(I)I -/
theorem t_202_0 {xl : List Int32} {n : Nat} {ι : IS} {Q : Option Value → IS → Prop} {a0 : Nat} {x1 : Int32} (h : PC xl n 148 0 [(0, .long (x1).toInt64), (2, .long 0), (4, .long 4)] [] ι (fun v1 κ1 => ∀ r1, v1 = some (.int r1) → ((¬ r1 = 0 → PC xl n 168 0 [(0, .ref a0)] [] κ1 (fun _ κ2 => PC xl n 202 28 [(0, .ref a0), (1, .int x1), (2, .int (-4)), (3, .int 0)] [] (up κ2 a0 22 0) Q)) ∧ (r1 = 0 → Q (some (.int (-1))) κ1)))) : PC xl (n + 1) 202 0 [(0, .ref a0), (1, .int x1)] [] ι Q := by
  refine PC.pr1 (k := 0) (pc' := 1) (lv' := [(0, .ref a0), (1, .int x1)]) (st' := [.int x1]) rfl ?_
  refine PC.pr (k := 1) (pc' := 2) (lv' := [(0, .ref a0), (1, .int x1)]) (st' := [.long (x1).toInt64]) rfl ?_
  refine PC.pr (k := 1) (pc' := 3) (lv' := [(0, .ref a0), (1, .int x1)]) (st' := [.long 0, .long (x1).toInt64]) rfl ?_
  refine PC.pr (k := 1) (pc' := 6) (lv' := [(0, .ref a0), (1, .int x1)]) (st' := [.long 4, .long 0, .long (x1).toInt64]) rfl ?_
  refine (PC.callI (j := 148) (args := [.long (x1).toInt64, .long 0, .long 4]) (rest := []) (M := cM148) (ty := .boolean) rfl rfl rfl rfl rfl rfl (by decide) rfl rfl (by decide) ?_).weak
  refine PC.imp h (fun v1 κ1 h r1 hv => ?_)
  have h := h r1 hv
  refine PC.if1 (t := 14) rfl rfl (fun c => ?_) (fun c => ?_)
  · have h := h.1 (cmp_ne.1.mp c)
    refine PC.pr (k := 1) (pc' := 15) (lv' := [(0, .ref a0), (1, .int x1)]) (st' := [.ref a0]) rfl ?_
    refine (PC.callV (j := 168) (args := [.ref a0]) (rest := []) (M := cM168) rfl rfl rfl rfl rfl rfl (by decide) rfl rfl ?_).weak
    refine PC.imp h (fun _ κ2 h => ?_)
    refine PC.pr (k := 1) (pc' := 19) (lv' := [(0, .ref a0), (1, .int x1)]) (st' := [.ref a0]) rfl ?_
    refine PC.pr (k := 1) (pc' := 20) (lv' := [(0, .ref a0), (1, .int x1)]) (st' := [.int 0, .ref a0]) rfl ?_
    refine PC.pI (ci := 9) (j := 22) rfl rfl ?_
    refine PC.pr (k := 1) (pc' := 25) (lv' := [(0, .ref a0), (1, .int x1)]) (st' := [.int (-4)]) rfl ?_
    refine PC.pr (k := 1) (pc' := 26) (lv' := [(2, .int (-4)), (0, .ref a0), (1, .int x1)]) (st' := []) rfl ?_
    refine PC.pr (k := 1) (pc' := 27) (lv' := [(2, .int (-4)), (0, .ref a0), (1, .int x1)]) (st' := [.int 0]) rfl ?_
    refine PC.pr (k := 1) (pc' := 28) (lv' := [(3, .int 0), (2, .int (-4)), (0, .ref a0), (1, .int x1)]) (st' := []) rfl ?_
    exact PC.lv (lvE.cons rfl (lvE.cons rfl (lvE.cons rfl (lvE.cons rfl (lvE.nil))))) h
  · have h := h.2 (cmp_ne.2.mp c)
    refine PC.pr (k := 1) (pc' := 13) (lv' := [(0, .ref a0), (1, .int x1)]) (st' := [.int (-1)]) rfl ?_
    exact PC.retI rfl h
theorem t_202_28 {xl : List Int32} {n : Nat} {ι : IS} {Q : Option Value → IS → Prop} {a0 : Nat} {x1 : Int32} {x2 : Int32} {x3 : Int32} (h : (0 ≤ (52 : Int32).toInt → (52 : Int32).toInt < ln (rf a0 0) → ((¬ x3 < (ι (rf a0 0) (52 : Int32).toNatClampNeg) → PC xl n 202 82 [(0, .ref a0), (1, .int x1), (2, .int x2), (3, .int 0), (4, .int 0)] [] ι Q) ∧ (x3 < (ι (rf a0 0) (52 : Int32).toNatClampNeg) → (0 ≤ (53 + x3).toInt → (53 + x3).toInt < ln (rf a0 0) → PC xl n 203 0 [(0, .ref a0), (1, .int (ι (rf a0 0) (53 + x3).toNatClampNeg))] [] ι (fun _ κ1 => ((¬ (κ1 a0 23) = 0 → PC xl n 202 69 [(0, .ref a0), (1, .int x1), (2, .int x2), (3, .int x3)] [] κ1 Q) ∧ ((κ1 a0 23) = 0 → ((¬ x2 = (-4) → PC xl n 202 69 [(0, .ref a0), (1, .int x1), (2, .int x2), (3, .int x3)] [] κ1 Q) ∧ (x2 = (-4) → PC xl n 202 70 [(0, .ref a0), (1, .int x1), (2, .int x2), (3, .int x3)] [.int x3] κ1 Q)))))))))) : PC xl (n + 1) 202 28 [(0, .ref a0), (1, .int x1), (2, .int x2), (3, .int x3)] [] ι Q := by
  refine PC.pr1 (k := 0) (pc' := 29) (lv' := [(0, .ref a0), (1, .int x1), (2, .int x2), (3, .int x3)]) (st' := [.int x3]) rfl ?_
  refine PC.pr (k := 1) (pc' := 30) (lv' := [(0, .ref a0), (1, .int x1), (2, .int x2), (3, .int x3)]) (st' := [.ref a0, .int x3]) rfl ?_
  refine PC.gR (ci := 9) (j := 0) rfl rfl (by decide) ?_
  refine PC.pr (k := 1) (pc' := 35) (lv' := [(0, .ref a0), (1, .int x1), (2, .int x2), (3, .int x3)]) (st' := [.int 52, .ref (rf a0 0), .int x3]) rfl ?_
  refine PC.rd rfl (rf_lt _ _) (fun c1 c2 => ?_)
  have h := h c1 c2
  refine PC.if2 (t := 77) rfl rfl (fun c => ?_) (fun c => ?_)
  · have h := h.1 (cmp_ge.1.mp c)
    refine PC.pr (k := 1) (pc' := 78) (lv' := [(0, .ref a0), (1, .int x1), (2, .int x2), (3, .int x3)]) (st' := [.int 0]) rfl ?_
    refine PC.pr (k := 1) (pc' := 79) (lv' := [(3, .int 0), (0, .ref a0), (1, .int x1), (2, .int x2)]) (st' := []) rfl ?_
    refine PC.pr (k := 1) (pc' := 80) (lv' := [(3, .int 0), (0, .ref a0), (1, .int x1), (2, .int x2)]) (st' := [.int 0]) rfl ?_
    refine PC.pr (k := 1) (pc' := 82) (lv' := [(4, .int 0), (3, .int 0), (0, .ref a0), (1, .int x1), (2, .int x2)]) (st' := []) rfl ?_
    exact PC.lv (lvE.cons rfl (lvE.cons rfl (lvE.cons rfl (lvE.cons rfl (lvE.cons rfl (lvE.nil)))))) h
  · have h := h.2 (cmp_ge.2.mp c)
    refine PC.pr (k := 1) (pc' := 40) (lv' := [(0, .ref a0), (1, .int x1), (2, .int x2), (3, .int x3)]) (st' := [.ref a0]) rfl ?_
    refine PC.pr (k := 1) (pc' := 41) (lv' := [(0, .ref a0), (1, .int x1), (2, .int x2), (3, .int x3)]) (st' := [.ref a0, .ref a0]) rfl ?_
    refine PC.gR (ci := 9) (j := 0) rfl rfl (by decide) ?_
    refine PC.pr (k := 1) (pc' := 46) (lv' := [(0, .ref a0), (1, .int x1), (2, .int x2), (3, .int x3)]) (st' := [.int 53, .ref (rf a0 0), .ref a0]) rfl ?_
    refine PC.pr (k := 1) (pc' := 47) (lv' := [(0, .ref a0), (1, .int x1), (2, .int x2), (3, .int x3)]) (st' := [.int x3, .int 53, .ref (rf a0 0), .ref a0]) rfl ?_
    refine PC.pr (k := 1) (pc' := 48) (lv' := [(0, .ref a0), (1, .int x1), (2, .int x2), (3, .int x3)]) (st' := [.int (53 + x3), .ref (rf a0 0), .ref a0]) rfl ?_
    refine PC.rd rfl (rf_lt _ _) (fun c1 c2 => ?_)
    have h := h c1 c2
    refine (PC.callV (j := 203) (args := [.ref a0, .int (ι (rf a0 0) (53 + x3).toNatClampNeg)]) (rest := []) (M := cM203) rfl rfl rfl rfl rfl rfl (by decide) rfl rfl ?_).weak
    refine PC.imp h (fun _ κ1 h => ?_)
    refine PC.pr (k := 1) (pc' := 53) (lv' := [(0, .ref a0), (1, .int x1), (2, .int x2), (3, .int x3)]) (st' := [.ref a0]) rfl ?_
    refine PC.gI (ci := 9) (j := 23) rfl rfl (by decide) ?_
    refine PC.if1 (t := 69) rfl rfl (fun c => ?_) (fun c => ?_)
    · have h := h.1 (cmp_ne.1.mp c)
      exact h
    · have h := h.2 (cmp_ne.2.mp c)
      refine PC.pr (k := 1) (pc' := 60) (lv' := [(0, .ref a0), (1, .int x1), (2, .int x2), (3, .int x3)]) (st' := [.int x2]) rfl ?_
      refine PC.pr (k := 1) (pc' := 62) (lv' := [(0, .ref a0), (1, .int x1), (2, .int x2), (3, .int x3)]) (st' := [.int (-4), .int x2]) rfl ?_
      refine PC.if2 (t := 69) rfl rfl (fun c => ?_) (fun c => ?_)
      · have h := h.1 (cmp_ne.1.mp c)
        exact h
      · have h := h.2 (cmp_ne.2.mp c)
        refine PC.pr (k := 1) (pc' := 66) (lv' := [(0, .ref a0), (1, .int x1), (2, .int x2), (3, .int x3)]) (st' := [.int x3]) rfl ?_
        refine PC.pr (k := 1) (pc' := 70) (lv' := [(0, .ref a0), (1, .int x1), (2, .int x2), (3, .int x3)]) (st' := [.int x3]) rfl ?_
        exact h
theorem t_202_69 {xl : List Int32} {n : Nat} {ι : IS} {Q : Option Value → IS → Prop} {a0 : Nat} {x1 : Int32} {x2 : Int32} {x3 : Int32} (h : PC xl n 202 70 [(0, .ref a0), (1, .int x1), (2, .int x2), (3, .int x3)] [.int x2] ι Q) : PC xl (n + 1) 202 69 [(0, .ref a0), (1, .int x1), (2, .int x2), (3, .int x3)] [] ι Q := by
  refine PC.pr1 (k := 0) (pc' := 70) (lv' := [(0, .ref a0), (1, .int x1), (2, .int x2), (3, .int x3)]) (st' := [.int x2]) rfl ?_
  exact h
theorem t_202_70 {xl : List Int32} {n : Nat} {ι : IS} {Q : Option Value → IS → Prop} {a0 : Nat} {x1 : Int32} {w2 : Value} {x3 : Int32} {u0 : Int32} (h : PC xl n 202 28 [(0, .ref a0), (1, .int x1), (2, .int u0), (3, .int (x3 + 1))] [] ι Q) : PC xl (n + 1) 202 70 [(0, .ref a0), (1, .int x1), (2, w2), (3, .int x3)] [.int u0] ι Q := by
  refine PC.pr1 (k := 0) (pc' := 71) (lv' := [(2, .int u0), (0, .ref a0), (1, .int x1), (3, .int x3)]) (st' := []) rfl ?_
  refine PC.pr (k := 1) (pc' := 74) (lv' := [(3, .int (x3 + 1)), (2, .int u0), (0, .ref a0), (1, .int x1)]) (st' := []) rfl ?_
  refine PC.pr (k := 1) (pc' := 28) (lv' := [(3, .int (x3 + 1)), (2, .int u0), (0, .ref a0), (1, .int x1)]) (st' := []) rfl ?_
  exact PC.lv (lvE.cons rfl (lvE.cons rfl (lvE.cons rfl (lvE.cons rfl (lvE.nil))))) h
theorem t_202_82 {xl : List Int32} {n : Nat} {ι : IS} {Q : Option Value → IS → Prop} {a0 : Nat} {x1 : Int32} {x2 : Int32} {x3 : Int32} {x4 : Int32} (h : ((¬ x4 < (ι a0 3) → ((¬ x1 = 0 → ((¬ x1 = 1 → ((¬ x1 = 2 → ((¬ x1 = 3 → Q (some (.int x3)) ι) ∧ (x1 = 3 → PC xl n 193 0 [(0, .ref a0)] [] ι (fun v1 κ1 => ∀ r1, v1 = some (.int r1) → Q (some (.int r1)) κ1)))) ∧ (x1 = 2 → Q (some (.int x2)) ι))) ∧ (x1 = 1 → PC xl n 171 0 [(0, .ref a0)] [] ι (fun v2 κ2 => ∀ r2, v2 = some (.int r2) → Q (some (.int r2)) κ2)))) ∧ (x1 = 0 → Q (some (.int (ι a0 22))) ι))) ∧ (x4 < (ι a0 3) → PC xl n 170 0 [(0, .ref a0), (1, .int x4), (2, .int 3)] [] ι (fun v3 κ3 => ∀ r3, v3 = some (.int r3) → ((r3 = 0 → PC xl n 175 0 [(0, .int 0)] [] κ3 (fun v4 κ4 => ∀ r4, v4 = some (.int r4) → PC xl n 202 82 [(0, .ref a0), (1, .int x1), (2, .int x2), (3, .int (x3 ||| (r4 <<< (x4 &&& 31)))), (4, .int (x4 + 1))] [] κ4 Q)) ∧ (¬ r3 = 0 → PC xl n 175 0 [(0, .int 1)] [] κ3 (fun v5 κ5 => ∀ r5, v5 = some (.int r5) → PC xl n 202 82 [(0, .ref a0), (1, .int x1), (2, .int x2), (3, .int (x3 ||| (r5 <<< (x4 &&& 31)))), (4, .int (x4 + 1))] [] κ5 Q))))))) : PC xl (n + 1) 202 82 [(0, .ref a0), (1, .int x1), (2, .int x2), (3, .int x3), (4, .int x4)] [] ι Q := by
  refine PC.pr1 (k := 0) (pc' := 84) (lv' := [(0, .ref a0), (1, .int x1), (2, .int x2), (3, .int x3), (4, .int x4)]) (st' := [.int x4]) rfl ?_
  refine PC.pr (k := 1) (pc' := 85) (lv' := [(0, .ref a0), (1, .int x1), (2, .int x2), (3, .int x3), (4, .int x4)]) (st' := [.ref a0, .int x4]) rfl ?_
  refine PC.gI (ci := 9) (j := 3) rfl rfl (by decide) ?_
  refine PC.if2 (t := 121) rfl rfl (fun c => ?_) (fun c => ?_)
  · have h := h.1 (cmp_ge.1.mp c)
    refine PC.pr (k := 1) (pc' := 122) (lv' := [(0, .ref a0), (1, .int x1), (2, .int x2), (3, .int x3), (4, .int x4)]) (st' := [.int x1]) rfl ?_
    refine PC.if1 (t := 132) rfl rfl (fun c => ?_) (fun c => ?_)
    · have h := h.1 (cmp_ne.1.mp c)
      refine PC.pr (k := 1) (pc' := 133) (lv' := [(0, .ref a0), (1, .int x1), (2, .int x2), (3, .int x3), (4, .int x4)]) (st' := [.int x1]) rfl ?_
      refine PC.pr (k := 1) (pc' := 134) (lv' := [(0, .ref a0), (1, .int x1), (2, .int x2), (3, .int x3), (4, .int x4)]) (st' := [.int 1, .int x1]) rfl ?_
      refine PC.if2 (t := 144) rfl rfl (fun c => ?_) (fun c => ?_)
      · have h := h.1 (cmp_ne.1.mp c)
        refine PC.pr (k := 1) (pc' := 145) (lv' := [(0, .ref a0), (1, .int x1), (2, .int x2), (3, .int x3), (4, .int x4)]) (st' := [.int x1]) rfl ?_
        refine PC.pr (k := 1) (pc' := 146) (lv' := [(0, .ref a0), (1, .int x1), (2, .int x2), (3, .int x3), (4, .int x4)]) (st' := [.int 2, .int x1]) rfl ?_
        refine PC.if2 (t := 153) rfl rfl (fun c => ?_) (fun c => ?_)
        · have h := h.1 (cmp_ne.1.mp c)
          refine PC.pr (k := 1) (pc' := 154) (lv' := [(0, .ref a0), (1, .int x1), (2, .int x2), (3, .int x3), (4, .int x4)]) (st' := [.int x1]) rfl ?_
          refine PC.pr (k := 1) (pc' := 155) (lv' := [(0, .ref a0), (1, .int x1), (2, .int x2), (3, .int x3), (4, .int x4)]) (st' := [.int 3, .int x1]) rfl ?_
          refine PC.if2 (t := 165) rfl rfl (fun c => ?_) (fun c => ?_)
          · have h := h.1 (cmp_ne.1.mp c)
            refine PC.pr (k := 1) (pc' := 166) (lv' := [(0, .ref a0), (1, .int x1), (2, .int x2), (3, .int x3), (4, .int x4)]) (st' := [.int x3]) rfl ?_
            exact PC.retI rfl h
          · have h := h.2 (cmp_ne.2.mp c)
            refine PC.pr (k := 1) (pc' := 159) (lv' := [(0, .ref a0), (1, .int x1), (2, .int x2), (3, .int x3), (4, .int x4)]) (st' := [.ref a0]) rfl ?_
            refine (PC.callI (j := 193) (args := [.ref a0]) (rest := []) (M := cM193) (ty := .int) rfl rfl rfl rfl rfl rfl (by decide) rfl rfl (by decide) ?_).weak
            refine PC.imp h (fun v1 κ1 h r1 hv => ?_)
            have h := h r1 hv
            refine PC.pr (k := 1) (pc' := 166) (lv' := [(0, .ref a0), (1, .int x1), (2, .int x2), (3, .int x3), (4, .int x4)]) (st' := [.int r1]) rfl ?_
            exact PC.retI rfl h
        · have h := h.2 (cmp_ne.2.mp c)
          refine PC.pr (k := 1) (pc' := 150) (lv' := [(0, .ref a0), (1, .int x1), (2, .int x2), (3, .int x3), (4, .int x4)]) (st' := [.int x2]) rfl ?_
          refine PC.pr (k := 1) (pc' := 166) (lv' := [(0, .ref a0), (1, .int x1), (2, .int x2), (3, .int x3), (4, .int x4)]) (st' := [.int x2]) rfl ?_
          exact PC.retI rfl h
      · have h := h.2 (cmp_ne.2.mp c)
        refine PC.pr (k := 1) (pc' := 138) (lv' := [(0, .ref a0), (1, .int x1), (2, .int x2), (3, .int x3), (4, .int x4)]) (st' := [.ref a0]) rfl ?_
        refine (PC.callI (j := 171) (args := [.ref a0]) (rest := []) (M := cM171) (ty := .int) rfl rfl rfl rfl rfl rfl (by decide) rfl rfl (by decide) ?_).weak
        refine PC.imp h (fun v2 κ2 h r2 hv => ?_)
        have h := h r2 hv
        refine PC.pr (k := 1) (pc' := 166) (lv' := [(0, .ref a0), (1, .int x1), (2, .int x2), (3, .int x3), (4, .int x4)]) (st' := [.int r2]) rfl ?_
        exact PC.retI rfl h
    · have h := h.2 (cmp_ne.2.mp c)
      refine PC.pr (k := 1) (pc' := 126) (lv' := [(0, .ref a0), (1, .int x1), (2, .int x2), (3, .int x3), (4, .int x4)]) (st' := [.ref a0]) rfl ?_
      refine PC.gI (ci := 9) (j := 22) rfl rfl (by decide) ?_
      refine PC.pr (k := 1) (pc' := 166) (lv' := [(0, .ref a0), (1, .int x1), (2, .int x2), (3, .int x3), (4, .int x4)]) (st' := [.int (ι a0 22)]) rfl ?_
      exact PC.retI rfl h
  · have h := h.2 (cmp_ge.2.mp c)
    refine PC.pr (k := 1) (pc' := 92) (lv' := [(0, .ref a0), (1, .int x1), (2, .int x2), (3, .int x3), (4, .int x4)]) (st' := [.int x3]) rfl ?_
    refine PC.pr (k := 1) (pc' := 93) (lv' := [(0, .ref a0), (1, .int x1), (2, .int x2), (3, .int x3), (4, .int x4)]) (st' := [.ref a0, .int x3]) rfl ?_
    refine PC.pr (k := 1) (pc' := 95) (lv' := [(0, .ref a0), (1, .int x1), (2, .int x2), (3, .int x3), (4, .int x4)]) (st' := [.int x4, .ref a0, .int x3]) rfl ?_
    refine PC.pr (k := 1) (pc' := 96) (lv' := [(0, .ref a0), (1, .int x1), (2, .int x2), (3, .int x3), (4, .int x4)]) (st' := [.int 3, .int x4, .ref a0, .int x3]) rfl ?_
    refine (PC.callI (j := 170) (args := [.ref a0, .int x4, .int 3]) (rest := [.int x3]) (M := cM170) (ty := .int) rfl rfl rfl rfl rfl rfl (by decide) rfl rfl (by decide) ?_).weak
    refine PC.imp h (fun v3 κ3 h r3 hv => ?_)
    have h := h r3 hv
    refine PC.if1 (t := 106) rfl rfl (fun c => ?_) (fun c => ?_)
    · have h := h.1 (cmp_eq.1.mp c)
      refine PC.pr (k := 1) (pc' := 107) (lv' := [(0, .ref a0), (1, .int x1), (2, .int x2), (3, .int x3), (4, .int x4)]) (st' := [.int 0, .int x3]) rfl ?_
      refine (PC.callI (j := 175) (args := [.int 0]) (rest := [.int x3]) (M := cM175) (ty := .int) rfl rfl rfl rfl rfl rfl (by decide) rfl rfl (by decide) ?_).weak
      refine PC.imp h (fun v4 κ4 h r4 hv => ?_)
      have h := h r4 hv
      refine PC.pr (k := 1) (pc' := 112) (lv' := [(0, .ref a0), (1, .int x1), (2, .int x2), (3, .int x3), (4, .int x4)]) (st' := [.int x4, .int r4, .int x3]) rfl ?_
      refine PC.pr (k := 1) (pc' := 113) (lv' := [(0, .ref a0), (1, .int x1), (2, .int x2), (3, .int x3), (4, .int x4)]) (st' := [.int (r4 <<< (x4 &&& 31)), .int x3]) rfl ?_
      refine PC.pr (k := 1) (pc' := 114) (lv' := [(0, .ref a0), (1, .int x1), (2, .int x2), (3, .int x3), (4, .int x4)]) (st' := [.int (x3 ||| (r4 <<< (x4 &&& 31)))]) rfl ?_
      refine PC.pr (k := 1) (pc' := 115) (lv' := [(3, .int (x3 ||| (r4 <<< (x4 &&& 31)))), (0, .ref a0), (1, .int x1), (2, .int x2), (4, .int x4)]) (st' := []) rfl ?_
      refine PC.pr (k := 1) (pc' := 118) (lv' := [(4, .int (x4 + 1)), (3, .int (x3 ||| (r4 <<< (x4 &&& 31)))), (0, .ref a0), (1, .int x1), (2, .int x2)]) (st' := []) rfl ?_
      refine PC.pr (k := 1) (pc' := 82) (lv' := [(4, .int (x4 + 1)), (3, .int (x3 ||| (r4 <<< (x4 &&& 31)))), (0, .ref a0), (1, .int x1), (2, .int x2)]) (st' := []) rfl ?_
      exact PC.lv (lvE.cons rfl (lvE.cons rfl (lvE.cons rfl (lvE.cons rfl (lvE.cons rfl (lvE.nil)))))) h
    · have h := h.2 (cmp_eq.2.mp c)
      refine PC.pr (k := 1) (pc' := 103) (lv' := [(0, .ref a0), (1, .int x1), (2, .int x2), (3, .int x3), (4, .int x4)]) (st' := [.int 1, .int x3]) rfl ?_
      refine PC.pr (k := 1) (pc' := 107) (lv' := [(0, .ref a0), (1, .int x1), (2, .int x2), (3, .int x3), (4, .int x4)]) (st' := [.int 1, .int x3]) rfl ?_
      refine (PC.callI (j := 175) (args := [.int 1]) (rest := [.int x3]) (M := cM175) (ty := .int) rfl rfl rfl rfl rfl rfl (by decide) rfl rfl (by decide) ?_).weak
      refine PC.imp h (fun v5 κ5 h r5 hv => ?_)
      have h := h r5 hv
      refine PC.pr (k := 1) (pc' := 112) (lv' := [(0, .ref a0), (1, .int x1), (2, .int x2), (3, .int x3), (4, .int x4)]) (st' := [.int x4, .int r5, .int x3]) rfl ?_
      refine PC.pr (k := 1) (pc' := 113) (lv' := [(0, .ref a0), (1, .int x1), (2, .int x2), (3, .int x3), (4, .int x4)]) (st' := [.int (r5 <<< (x4 &&& 31)), .int x3]) rfl ?_
      refine PC.pr (k := 1) (pc' := 114) (lv' := [(0, .ref a0), (1, .int x1), (2, .int x2), (3, .int x3), (4, .int x4)]) (st' := [.int (x3 ||| (r5 <<< (x4 &&& 31)))]) rfl ?_
      refine PC.pr (k := 1) (pc' := 115) (lv' := [(3, .int (x3 ||| (r5 <<< (x4 &&& 31)))), (0, .ref a0), (1, .int x1), (2, .int x2), (4, .int x4)]) (st' := []) rfl ?_
      refine PC.pr (k := 1) (pc' := 118) (lv' := [(4, .int (x4 + 1)), (3, .int (x3 ||| (r5 <<< (x4 &&& 31)))), (0, .ref a0), (1, .int x1), (2, .int x2)]) (st' := []) rfl ?_
      refine PC.pr (k := 1) (pc' := 82) (lv' := [(4, .int (x4 + 1)), (3, .int (x3 ||| (r5 <<< (x4 &&& 31)))), (0, .ref a0), (1, .int x1), (2, .int x2)]) (st' := []) rfl ?_
      exact PC.lv (lvE.cons rfl (lvE.cons rfl (lvE.cons rfl (lvE.cons rfl (lvE.cons rfl (lvE.nil)))))) h

/-- DoorPaintsModel.acts(I)V -/
theorem t_203_0 {xl : List Int32} {n : Nat} {ι : IS} {Q : Option Value → IS → Prop} {a0 : Nat} {x1 : Int32} (h : ((x1 < 90 → PC xl n 186 0 [(0, .ref a0), (1, .int (x1 / 10)), (2, .int (x1 - x1 / 10 * 10))] [] (up ι a0 23 1) (fun v1 κ1 => ∀ r1, v1 = some (.int r1) → ((¬ r1 = 0 → Q none (up κ1 a0 23 0)) ∧ (r1 = 0 → PC xl n 187 0 [(0, .ref a0), (1, .int (x1 / 10)), (2, .int (x1 - x1 / 10 * 10))] [] κ1 (fun v2 κ2 => ∀ r2, v2 = some (.int r2) → Q none (up κ2 a0 22 ((κ1 a0 22) + r2))))))) ∧ (¬ x1 < 90 → PC xl n 191 0 [(0, .ref a0), (1, .int x1)] [] (up ι a0 23 1) (fun _ κ3 => Q none κ3)))) : PC xl (n + 1) 203 0 [(0, .ref a0), (1, .int x1)] [] ι Q := by
  refine PC.pr1 (k := 0) (pc' := 1) (lv' := [(0, .ref a0), (1, .int x1)]) (st' := [.ref a0]) rfl ?_
  refine PC.pr (k := 1) (pc' := 2) (lv' := [(0, .ref a0), (1, .int x1)]) (st' := [.int 1, .ref a0]) rfl ?_
  refine PC.pI (ci := 9) (j := 23) rfl rfl ?_
  refine PC.pr (k := 1) (pc' := 6) (lv' := [(0, .ref a0), (1, .int x1)]) (st' := [.int x1]) rfl ?_
  refine PC.pr (k := 1) (pc' := 8) (lv' := [(0, .ref a0), (1, .int x1)]) (st' := [.int 90, .int x1]) rfl ?_
  refine PC.if2 (t := 19) rfl rfl (fun c => ?_) (fun c => ?_)
  · have h := h.1 (cmp_lt.1.mp c)
    refine PC.pr (k := 1) (pc' := 20) (lv' := [(0, .ref a0), (1, .int x1)]) (st' := [.ref a0]) rfl ?_
    refine PC.pr (k := 1) (pc' := 21) (lv' := [(0, .ref a0), (1, .int x1)]) (st' := [.int x1, .ref a0]) rfl ?_
    refine PC.pr (k := 1) (pc' := 23) (lv' := [(0, .ref a0), (1, .int x1)]) (st' := [.int 10, .int x1, .ref a0]) rfl ?_
    refine PC.pr (k := 1) (pc' := 24) (lv' := [(0, .ref a0), (1, .int x1)]) (st' := [.int (x1 / 10), .ref a0]) rfl ?_
    refine PC.pr (k := 1) (pc' := 25) (lv' := [(0, .ref a0), (1, .int x1)]) (st' := [.int x1, .int (x1 / 10), .ref a0]) rfl ?_
    refine PC.pr (k := 1) (pc' := 27) (lv' := [(0, .ref a0), (1, .int x1)]) (st' := [.int 10, .int x1, .int (x1 / 10), .ref a0]) rfl ?_
    refine PC.pr (k := 1) (pc' := 28) (lv' := [(0, .ref a0), (1, .int x1)]) (st' := [.int (x1 - x1 / 10 * 10), .int (x1 / 10), .ref a0]) rfl ?_
    refine (PC.callI (j := 186) (args := [.ref a0, .int (x1 / 10), .int (x1 - x1 / 10 * 10)]) (rest := []) (M := cM186) (ty := .int) rfl rfl rfl rfl rfl rfl (by decide) rfl rfl (by decide) ?_).weak
    refine PC.imp h (fun v1 κ1 h r1 hv => ?_)
    have h := h r1 hv
    refine PC.if1 (t := 58) rfl rfl (fun c => ?_) (fun c => ?_)
    · have h := h.1 (cmp_ne.1.mp c)
      refine PC.pr (k := 1) (pc' := 59) (lv' := [(0, .ref a0), (1, .int x1)]) (st' := [.ref a0]) rfl ?_
      refine PC.pr (k := 1) (pc' := 60) (lv' := [(0, .ref a0), (1, .int x1)]) (st' := [.int 0, .ref a0]) rfl ?_
      refine PC.pI (ci := 9) (j := 23) rfl rfl ?_
      exact PC.retV rfl h
    · have h := h.2 (cmp_ne.2.mp c)
      refine PC.pr (k := 1) (pc' := 35) (lv' := [(0, .ref a0), (1, .int x1)]) (st' := [.ref a0]) rfl ?_
      refine PC.pr (k := 1) (pc' := 36) (lv' := [(0, .ref a0), (1, .int x1)]) (st' := [.ref a0, .ref a0]) rfl ?_
      refine PC.gI (ci := 9) (j := 22) rfl rfl (by decide) ?_
      refine PC.pr (k := 1) (pc' := 40) (lv' := [(0, .ref a0), (1, .int x1)]) (st' := [.ref a0, .int (κ1 a0 22), .ref a0]) rfl ?_
      refine PC.pr (k := 1) (pc' := 41) (lv' := [(0, .ref a0), (1, .int x1)]) (st' := [.int x1, .ref a0, .int (κ1 a0 22), .ref a0]) rfl ?_
      refine PC.pr (k := 1) (pc' := 43) (lv' := [(0, .ref a0), (1, .int x1)]) (st' := [.int 10, .int x1, .ref a0, .int (κ1 a0 22), .ref a0]) rfl ?_
      refine PC.pr (k := 1) (pc' := 44) (lv' := [(0, .ref a0), (1, .int x1)]) (st' := [.int (x1 / 10), .ref a0, .int (κ1 a0 22), .ref a0]) rfl ?_
      refine PC.pr (k := 1) (pc' := 45) (lv' := [(0, .ref a0), (1, .int x1)]) (st' := [.int x1, .int (x1 / 10), .ref a0, .int (κ1 a0 22), .ref a0]) rfl ?_
      refine PC.pr (k := 1) (pc' := 47) (lv' := [(0, .ref a0), (1, .int x1)]) (st' := [.int 10, .int x1, .int (x1 / 10), .ref a0, .int (κ1 a0 22), .ref a0]) rfl ?_
      refine PC.pr (k := 1) (pc' := 48) (lv' := [(0, .ref a0), (1, .int x1)]) (st' := [.int (x1 - x1 / 10 * 10), .int (x1 / 10), .ref a0, .int (κ1 a0 22), .ref a0]) rfl ?_
      refine (PC.callI (j := 187) (args := [.ref a0, .int (x1 / 10), .int (x1 - x1 / 10 * 10)]) (rest := [.int (κ1 a0 22), .ref a0]) (M := cM187) (ty := .int) rfl rfl rfl rfl rfl rfl (by decide) rfl rfl (by decide) ?_).weak
      refine PC.imp h (fun v2 κ2 h r2 hv => ?_)
      have h := h r2 hv
      refine PC.pr (k := 1) (pc' := 52) (lv' := [(0, .ref a0), (1, .int x1)]) (st' := [.int ((κ1 a0 22) + r2), .ref a0]) rfl ?_
      refine PC.pI (ci := 9) (j := 22) rfl rfl ?_
      refine PC.pr (k := 1) (pc' := 63) (lv' := [(0, .ref a0), (1, .int x1)]) (st' := []) rfl ?_
      exact PC.retV rfl h
  · have h := h.2 (cmp_lt.2.mp c)
    refine PC.pr (k := 1) (pc' := 12) (lv' := [(0, .ref a0), (1, .int x1)]) (st' := [.ref a0]) rfl ?_
    refine PC.pr (k := 1) (pc' := 13) (lv' := [(0, .ref a0), (1, .int x1)]) (st' := [.int x1, .ref a0]) rfl ?_
    refine (PC.callV (j := 191) (args := [.ref a0, .int x1]) (rest := []) (M := cM191) rfl rfl rfl rfl rfl rfl (by decide) rfl rfl ?_).weak
    refine PC.imp h (fun _ κ3 h => ?_)
    refine PC.pr (k := 1) (pc' := 63) (lv' := [(0, .ref a0), (1, .int x1)]) (st' := []) rfl ?_
    exact PC.retV rfl h

/-- DoorPaintsModel.ahead(I)I -/
theorem t_204_0 {xl : List Int32} {n : Nat} {ι : IS} {Q : Option Value → IS → Prop} {a0 : Nat} {x1 : Int32} (h : PC xl n 181 0 [(0, .ref a0), (1, .int x1)] [] ι (fun v1 κ1 => ∀ r1, v1 = some (.int r1) → ((¬ r1 = 0 → PC xl n 168 0 [(0, .ref a0)] [] κ1 (fun _ κ2 => PC xl n 205 0 [(0, .ref a0)] [] κ2 (fun _ κ3 => PC xl n 173 0 [(0, .ref a0), (1, .int x1)] [] κ3 (fun v4 κ4 => ∀ r4, v4 = some (.int r4) → Q (some (.int r4)) κ4)))) ∧ (r1 = 0 → Q (some (.int (-1))) κ1)))) : PC xl (n + 1) 204 0 [(0, .ref a0), (1, .int x1)] [] ι Q := by
  refine PC.pr1 (k := 0) (pc' := 1) (lv' := [(0, .ref a0), (1, .int x1)]) (st' := [.ref a0]) rfl ?_
  refine PC.pr (k := 1) (pc' := 2) (lv' := [(0, .ref a0), (1, .int x1)]) (st' := [.int x1, .ref a0]) rfl ?_
  refine (PC.callI (j := 181) (args := [.ref a0, .int x1]) (rest := []) (M := cM181) (ty := .boolean) rfl rfl rfl rfl rfl rfl (by decide) rfl rfl (by decide) ?_).weak
  refine PC.imp h (fun v1 κ1 h r1 hv => ?_)
  have h := h r1 hv
  refine PC.if1 (t := 10) rfl rfl (fun c => ?_) (fun c => ?_)
  · have h := h.1 (cmp_ne.1.mp c)
    refine PC.pr (k := 1) (pc' := 11) (lv' := [(0, .ref a0), (1, .int x1)]) (st' := [.ref a0]) rfl ?_
    refine (PC.callV (j := 168) (args := [.ref a0]) (rest := []) (M := cM168) rfl rfl rfl rfl rfl rfl (by decide) rfl rfl ?_).weak
    refine PC.imp h (fun _ κ2 h => ?_)
    refine PC.pr (k := 1) (pc' := 15) (lv' := [(0, .ref a0), (1, .int x1)]) (st' := [.ref a0]) rfl ?_
    refine (PC.callV (j := 205) (args := [.ref a0]) (rest := []) (M := cM205) rfl rfl rfl rfl rfl rfl (by decide) rfl rfl ?_).weak
    refine PC.imp h (fun _ κ3 h => ?_)
    refine PC.pr (k := 1) (pc' := 19) (lv' := [(0, .ref a0), (1, .int x1)]) (st' := [.ref a0]) rfl ?_
    refine PC.pr (k := 1) (pc' := 20) (lv' := [(0, .ref a0), (1, .int x1)]) (st' := [.int x1, .ref a0]) rfl ?_
    refine (PC.callI (j := 173) (args := [.ref a0, .int x1]) (rest := []) (M := cM173) (ty := .int) rfl rfl rfl rfl rfl rfl (by decide) rfl rfl (by decide) ?_).weak
    refine PC.imp h (fun v4 κ4 h r4 hv => ?_)
    have h := h r4 hv
    exact PC.retI rfl h
  · have h := h.2 (cmp_ne.2.mp c)
    refine PC.pr (k := 1) (pc' := 9) (lv' := [(0, .ref a0), (1, .int x1)]) (st' := [.int (-1)]) rfl ?_
    exact PC.retI rfl h

/-- DoorPaintsModel.plansGo()V -/
theorem t_205_0 {xl : List Int32} {n : Nat} {ι : IS} {Q : Option Value → IS → Prop} {a0 : Nat} (h : PC xl n 205 7 [(0, .ref a0), (1, .int 0)] [] (up ι a0 22 0) Q) : PC xl (n + 1) 205 0 [(0, .ref a0)] [] ι Q := by
  refine PC.pr1 (k := 0) (pc' := 1) (lv' := [(0, .ref a0)]) (st' := [.ref a0]) rfl ?_
  refine PC.pr (k := 1) (pc' := 2) (lv' := [(0, .ref a0)]) (st' := [.int 0, .ref a0]) rfl ?_
  refine PC.pI (ci := 9) (j := 22) rfl rfl ?_
  refine PC.pr (k := 1) (pc' := 6) (lv' := [(0, .ref a0)]) (st' := [.int 0]) rfl ?_
  refine PC.pr (k := 1) (pc' := 7) (lv' := [(1, .int 0), (0, .ref a0)]) (st' := []) rfl ?_
  exact PC.lv (lvE.cons rfl (lvE.cons rfl (lvE.nil))) h
theorem t_205_7 {xl : List Int32} {n : Nat} {ι : IS} {Q : Option Value → IS → Prop} {a0 : Nat} {x1 : Int32} (h : (0 ≤ (52 : Int32).toInt → (52 : Int32).toInt < ln (rf a0 0) → ((¬ x1 < (ι (rf a0 0) (52 : Int32).toNatClampNeg) → Q none ι) ∧ (x1 < (ι (rf a0 0) (52 : Int32).toNatClampNeg) → (0 ≤ (53 + x1).toInt → (53 + x1).toInt < ln (rf a0 0) → PC xl n 203 0 [(0, .ref a0), (1, .int (ι (rf a0 0) (53 + x1).toNatClampNeg))] [] ι (fun _ κ1 => PC xl n 205 7 [(0, .ref a0), (1, .int (x1 + 1))] [] κ1 Q)))))) : PC xl (n + 1) 205 7 [(0, .ref a0), (1, .int x1)] [] ι Q := by
  refine PC.pr1 (k := 0) (pc' := 8) (lv' := [(0, .ref a0), (1, .int x1)]) (st' := [.int x1]) rfl ?_
  refine PC.pr (k := 1) (pc' := 9) (lv' := [(0, .ref a0), (1, .int x1)]) (st' := [.ref a0, .int x1]) rfl ?_
  refine PC.gR (ci := 9) (j := 0) rfl rfl (by decide) ?_
  refine PC.pr (k := 1) (pc' := 14) (lv' := [(0, .ref a0), (1, .int x1)]) (st' := [.int 52, .ref (rf a0 0), .int x1]) rfl ?_
  refine PC.rd rfl (rf_lt _ _) (fun c1 c2 => ?_)
  have h := h c1 c2
  refine PC.if2 (t := 37) rfl rfl (fun c => ?_) (fun c => ?_)
  · have h := h.1 (cmp_ge.1.mp c)
    exact PC.retV rfl h
  · have h := h.2 (cmp_ge.2.mp c)
    refine PC.pr (k := 1) (pc' := 19) (lv' := [(0, .ref a0), (1, .int x1)]) (st' := [.ref a0]) rfl ?_
    refine PC.pr (k := 1) (pc' := 20) (lv' := [(0, .ref a0), (1, .int x1)]) (st' := [.ref a0, .ref a0]) rfl ?_
    refine PC.gR (ci := 9) (j := 0) rfl rfl (by decide) ?_
    refine PC.pr (k := 1) (pc' := 25) (lv' := [(0, .ref a0), (1, .int x1)]) (st' := [.int 53, .ref (rf a0 0), .ref a0]) rfl ?_
    refine PC.pr (k := 1) (pc' := 26) (lv' := [(0, .ref a0), (1, .int x1)]) (st' := [.int x1, .int 53, .ref (rf a0 0), .ref a0]) rfl ?_
    refine PC.pr (k := 1) (pc' := 27) (lv' := [(0, .ref a0), (1, .int x1)]) (st' := [.int (53 + x1), .ref (rf a0 0), .ref a0]) rfl ?_
    refine PC.rd rfl (rf_lt _ _) (fun c1 c2 => ?_)
    have h := h c1 c2
    refine (PC.callV (j := 203) (args := [.ref a0, .int (ι (rf a0 0) (53 + x1).toNatClampNeg)]) (rest := []) (M := cM203) rfl rfl rfl rfl rfl rfl (by decide) rfl rfl ?_).weak
    refine PC.imp h (fun _ κ1 h => ?_)
    refine PC.pr (k := 1) (pc' := 34) (lv' := [(1, .int (x1 + 1)), (0, .ref a0)]) (st' := []) rfl ?_
    refine PC.pr (k := 1) (pc' := 7) (lv' := [(1, .int (x1 + 1)), (0, .ref a0)]) (st' := []) rfl ?_
    exact PC.lv (lvE.cons rfl (lvE.cons rfl (lvE.nil))) h

/-- DoorPaintsModel.clears(I)I -/
theorem t_206_0 {xl : List Int32} {n : Nat} {ι : IS} {Q : Option Value → IS → Prop} {a0 : Nat} {x1 : Int32} (h : PC xl n 181 0 [(0, .ref a0), (1, .int x1)] [] ι (fun v1 κ1 => ∀ r1, v1 = some (.int r1) → ((¬ r1 = 0 → PC xl n 206 14 [(0, .ref a0), (1, .int x1), (2, .int 0), (3, .int 0)] [] κ1 Q) ∧ (r1 = 0 → Q (some (.int (-1))) κ1)))) : PC xl (n + 1) 206 0 [(0, .ref a0), (1, .int x1)] [] ι Q := by
  refine PC.pr1 (k := 0) (pc' := 1) (lv' := [(0, .ref a0), (1, .int x1)]) (st' := [.ref a0]) rfl ?_
  refine PC.pr (k := 1) (pc' := 2) (lv' := [(0, .ref a0), (1, .int x1)]) (st' := [.int x1, .ref a0]) rfl ?_
  refine (PC.callI (j := 181) (args := [.ref a0, .int x1]) (rest := []) (M := cM181) (ty := .boolean) rfl rfl rfl rfl rfl rfl (by decide) rfl rfl (by decide) ?_).weak
  refine PC.imp h (fun v1 κ1 h r1 hv => ?_)
  have h := h r1 hv
  refine PC.if1 (t := 10) rfl rfl (fun c => ?_) (fun c => ?_)
  · have h := h.1 (cmp_ne.1.mp c)
    refine PC.pr (k := 1) (pc' := 11) (lv' := [(0, .ref a0), (1, .int x1)]) (st' := [.int 0]) rfl ?_
    refine PC.pr (k := 1) (pc' := 12) (lv' := [(2, .int 0), (0, .ref a0), (1, .int x1)]) (st' := []) rfl ?_
    refine PC.pr (k := 1) (pc' := 13) (lv' := [(2, .int 0), (0, .ref a0), (1, .int x1)]) (st' := [.int 0]) rfl ?_
    refine PC.pr (k := 1) (pc' := 14) (lv' := [(3, .int 0), (2, .int 0), (0, .ref a0), (1, .int x1)]) (st' := []) rfl ?_
    exact PC.lv (lvE.cons rfl (lvE.cons rfl (lvE.cons rfl (lvE.cons rfl (lvE.nil))))) h
  · have h := h.2 (cmp_ne.2.mp c)
    refine PC.pr (k := 1) (pc' := 9) (lv' := [(0, .ref a0), (1, .int x1)]) (st' := [.int (-1)]) rfl ?_
    exact PC.retI rfl h
theorem t_206_14 {xl : List Int32} {n : Nat} {ι : IS} {Q : Option Value → IS → Prop} {a0 : Nat} {x1 : Int32} {x2 : Int32} {x3 : Int32} (h : ((¬ x3 < (ι a0 3) → Q (some (.int x2)) ι) ∧ (x3 < (ι a0 3) → PC xl n 168 0 [(0, .ref a0)] [] ι (fun _ κ1 => PC xl n 186 0 [(0, .ref a0), (1, .int x3), (2, .int x1)] [] κ1 (fun v2 κ2 => ∀ r2, v2 = some (.int r2) → ((¬ r2 = 0 → PC xl n 206 63 [(0, .ref a0), (1, .int x1), (2, .int x2), (3, .int x3)] [] κ2 Q) ∧ (r2 = 0 → PC xl n 187 0 [(0, .ref a0), (1, .int x3), (2, .int x1)] [] κ2 (fun v3 κ3 => ∀ r3, v3 = some (.int r3) → PC xl n 172 0 [(0, .ref a0), (1, .int x1)] [] κ3 (fun v4 κ4 => ∀ r4, v4 = some (.int r4) → ((¬ r4 = 0 → PC xl n 175 0 [(0, .int 0)] [] κ4 (fun v5 κ5 => ∀ r5, v5 = some (.int r5) → PC xl n 206 63 [(0, .ref a0), (1, .int x1), (2, .int (x2 ||| (r5 <<< (x3 &&& 31)))), (3, .int x3)] [] κ5 Q)) ∧ (r4 = 0 → PC xl n 175 0 [(0, .int 1)] [] κ4 (fun v6 κ6 => ∀ r6, v6 = some (.int r6) → PC xl n 206 63 [(0, .ref a0), (1, .int x1), (2, .int (x2 ||| (r6 <<< (x3 &&& 31)))), (3, .int x3)] [] κ6 Q)))))))))))) : PC xl (n + 1) 206 14 [(0, .ref a0), (1, .int x1), (2, .int x2), (3, .int x3)] [] ι Q := by
  refine PC.pr1 (k := 0) (pc' := 15) (lv' := [(0, .ref a0), (1, .int x1), (2, .int x2), (3, .int x3)]) (st' := [.int x3]) rfl ?_
  refine PC.pr (k := 1) (pc' := 16) (lv' := [(0, .ref a0), (1, .int x1), (2, .int x2), (3, .int x3)]) (st' := [.ref a0, .int x3]) rfl ?_
  refine PC.gI (ci := 9) (j := 3) rfl rfl (by decide) ?_
  refine PC.if2 (t := 69) rfl rfl (fun c => ?_) (fun c => ?_)
  · have h := h.1 (cmp_ge.1.mp c)
    refine PC.pr (k := 1) (pc' := 70) (lv' := [(0, .ref a0), (1, .int x1), (2, .int x2), (3, .int x3)]) (st' := [.int x2]) rfl ?_
    exact PC.retI rfl h
  · have h := h.2 (cmp_ge.2.mp c)
    refine PC.pr (k := 1) (pc' := 23) (lv' := [(0, .ref a0), (1, .int x1), (2, .int x2), (3, .int x3)]) (st' := [.ref a0]) rfl ?_
    refine (PC.callV (j := 168) (args := [.ref a0]) (rest := []) (M := cM168) rfl rfl rfl rfl rfl rfl (by decide) rfl rfl ?_).weak
    refine PC.imp h (fun _ κ1 h => ?_)
    refine PC.pr (k := 1) (pc' := 27) (lv' := [(0, .ref a0), (1, .int x1), (2, .int x2), (3, .int x3)]) (st' := [.ref a0]) rfl ?_
    refine PC.pr (k := 1) (pc' := 28) (lv' := [(0, .ref a0), (1, .int x1), (2, .int x2), (3, .int x3)]) (st' := [.int x3, .ref a0]) rfl ?_
    refine PC.pr (k := 1) (pc' := 29) (lv' := [(0, .ref a0), (1, .int x1), (2, .int x2), (3, .int x3)]) (st' := [.int x1, .int x3, .ref a0]) rfl ?_
    refine (PC.callI (j := 186) (args := [.ref a0, .int x3, .int x1]) (rest := []) (M := cM186) (ty := .int) rfl rfl rfl rfl rfl rfl (by decide) rfl rfl (by decide) ?_).weak
    refine PC.imp h (fun v2 κ2 h r2 hv => ?_)
    have h := h r2 hv
    refine PC.if1 (t := 63) rfl rfl (fun c => ?_) (fun c => ?_)
    · have h := h.1 (cmp_ne.1.mp c)
      exact h
    · have h := h.2 (cmp_ne.2.mp c)
      refine PC.pr (k := 1) (pc' := 36) (lv' := [(0, .ref a0), (1, .int x1), (2, .int x2), (3, .int x3)]) (st' := [.ref a0]) rfl ?_
      refine PC.pr (k := 1) (pc' := 37) (lv' := [(0, .ref a0), (1, .int x1), (2, .int x2), (3, .int x3)]) (st' := [.int x3, .ref a0]) rfl ?_
      refine PC.pr (k := 1) (pc' := 38) (lv' := [(0, .ref a0), (1, .int x1), (2, .int x2), (3, .int x3)]) (st' := [.int x1, .int x3, .ref a0]) rfl ?_
      refine (PC.callI (j := 187) (args := [.ref a0, .int x3, .int x1]) (rest := []) (M := cM187) (ty := .int) rfl rfl rfl rfl rfl rfl (by decide) rfl rfl (by decide) ?_).weak
      refine PC.imp h (fun v3 κ3 h r3 hv => ?_)
      have h := h r3 hv
      refine PC.pr (k := 1) (pc' := 42) (lv' := [(0, .ref a0), (1, .int x1), (2, .int x2), (3, .int x3)]) (st' := []) rfl ?_
      refine PC.pr (k := 1) (pc' := 43) (lv' := [(0, .ref a0), (1, .int x1), (2, .int x2), (3, .int x3)]) (st' := [.int x2]) rfl ?_
      refine PC.pr (k := 1) (pc' := 44) (lv' := [(0, .ref a0), (1, .int x1), (2, .int x2), (3, .int x3)]) (st' := [.ref a0, .int x2]) rfl ?_
      refine PC.pr (k := 1) (pc' := 45) (lv' := [(0, .ref a0), (1, .int x1), (2, .int x2), (3, .int x3)]) (st' := [.int x1, .ref a0, .int x2]) rfl ?_
      refine (PC.callI (j := 172) (args := [.ref a0, .int x1]) (rest := [.int x2]) (M := cM172) (ty := .boolean) rfl rfl rfl rfl rfl rfl (by decide) rfl rfl (by decide) ?_).weak
      refine PC.imp h (fun v4 κ4 h r4 hv => ?_)
      have h := h r4 hv
      refine PC.if1 (t := 55) rfl rfl (fun c => ?_) (fun c => ?_)
      · have h := h.1 (cmp_ne.1.mp c)
        refine PC.pr (k := 1) (pc' := 56) (lv' := [(0, .ref a0), (1, .int x1), (2, .int x2), (3, .int x3)]) (st' := [.int 0, .int x2]) rfl ?_
        refine (PC.callI (j := 175) (args := [.int 0]) (rest := [.int x2]) (M := cM175) (ty := .int) rfl rfl rfl rfl rfl rfl (by decide) rfl rfl (by decide) ?_).weak
        refine PC.imp h (fun v5 κ5 h r5 hv => ?_)
        have h := h r5 hv
        refine PC.pr (k := 1) (pc' := 60) (lv' := [(0, .ref a0), (1, .int x1), (2, .int x2), (3, .int x3)]) (st' := [.int x3, .int r5, .int x2]) rfl ?_
        refine PC.pr (k := 1) (pc' := 61) (lv' := [(0, .ref a0), (1, .int x1), (2, .int x2), (3, .int x3)]) (st' := [.int (r5 <<< (x3 &&& 31)), .int x2]) rfl ?_
        refine PC.pr (k := 1) (pc' := 62) (lv' := [(0, .ref a0), (1, .int x1), (2, .int x2), (3, .int x3)]) (st' := [.int (x2 ||| (r5 <<< (x3 &&& 31)))]) rfl ?_
        refine PC.pr (k := 1) (pc' := 63) (lv' := [(2, .int (x2 ||| (r5 <<< (x3 &&& 31)))), (0, .ref a0), (1, .int x1), (3, .int x3)]) (st' := []) rfl ?_
        exact PC.lv (lvE.cons rfl (lvE.cons rfl (lvE.cons rfl (lvE.cons rfl (lvE.nil))))) h
      · have h := h.2 (cmp_ne.2.mp c)
        refine PC.pr (k := 1) (pc' := 52) (lv' := [(0, .ref a0), (1, .int x1), (2, .int x2), (3, .int x3)]) (st' := [.int 1, .int x2]) rfl ?_
        refine PC.pr (k := 1) (pc' := 56) (lv' := [(0, .ref a0), (1, .int x1), (2, .int x2), (3, .int x3)]) (st' := [.int 1, .int x2]) rfl ?_
        refine (PC.callI (j := 175) (args := [.int 1]) (rest := [.int x2]) (M := cM175) (ty := .int) rfl rfl rfl rfl rfl rfl (by decide) rfl rfl (by decide) ?_).weak
        refine PC.imp h (fun v6 κ6 h r6 hv => ?_)
        have h := h r6 hv
        refine PC.pr (k := 1) (pc' := 60) (lv' := [(0, .ref a0), (1, .int x1), (2, .int x2), (3, .int x3)]) (st' := [.int x3, .int r6, .int x2]) rfl ?_
        refine PC.pr (k := 1) (pc' := 61) (lv' := [(0, .ref a0), (1, .int x1), (2, .int x2), (3, .int x3)]) (st' := [.int (r6 <<< (x3 &&& 31)), .int x2]) rfl ?_
        refine PC.pr (k := 1) (pc' := 62) (lv' := [(0, .ref a0), (1, .int x1), (2, .int x2), (3, .int x3)]) (st' := [.int (x2 ||| (r6 <<< (x3 &&& 31)))]) rfl ?_
        refine PC.pr (k := 1) (pc' := 63) (lv' := [(2, .int (x2 ||| (r6 <<< (x3 &&& 31)))), (0, .ref a0), (1, .int x1), (3, .int x3)]) (st' := []) rfl ?_
        exact PC.lv (lvE.cons rfl (lvE.cons rfl (lvE.cons rfl (lvE.cons rfl (lvE.nil))))) h
theorem t_206_63 {xl : List Int32} {n : Nat} {ι : IS} {Q : Option Value → IS → Prop} {a0 : Nat} {x1 : Int32} {x2 : Int32} {x3 : Int32} (h : PC xl n 206 14 [(0, .ref a0), (1, .int x1), (2, .int x2), (3, .int (x3 + 1))] [] ι Q) : PC xl (n + 1) 206 63 [(0, .ref a0), (1, .int x1), (2, .int x2), (3, .int x3)] [] ι Q := by
  refine PC.pr1 (k := 0) (pc' := 66) (lv' := [(3, .int (x3 + 1)), (0, .ref a0), (1, .int x1), (2, .int x2)]) (st' := []) rfl ?_
  refine PC.pr (k := 1) (pc' := 14) (lv' := [(3, .int (x3 + 1)), (0, .ref a0), (1, .int x1), (2, .int x2)]) (st' := []) rfl ?_
  exact PC.lv (lvE.cons rfl (lvE.cons rfl (lvE.cons rfl (lvE.cons rfl (lvE.nil))))) h

/-- DoorPaintsModel.pots(I)I -/
theorem t_219_0 {xl : List Int32} {n : Nat} {ι : IS} {Q : Option Value → IS → Prop} {a0 : Nat} {x1 : Int32} (h : PC xl n 177 0 [(0, .ref a0), (1, .int x1)] [] ι (fun v1 κ1 => ∀ r1, v1 = some (.int r1) → ((¬ r1 = 0 → PC xl n 219 14 [(0, .ref a0), (1, .int x1), (2, .int 0), (3, .int 0)] [] κ1 Q) ∧ (r1 = 0 → Q (some (.int (-1))) κ1)))) : PC xl (n + 1) 219 0 [(0, .ref a0), (1, .int x1)] [] ι Q := by
  refine PC.pr1 (k := 0) (pc' := 1) (lv' := [(0, .ref a0), (1, .int x1)]) (st' := [.ref a0]) rfl ?_
  refine PC.pr (k := 1) (pc' := 2) (lv' := [(0, .ref a0), (1, .int x1)]) (st' := [.int x1, .ref a0]) rfl ?_
  refine (PC.callI (j := 177) (args := [.ref a0, .int x1]) (rest := []) (M := cM177) (ty := .boolean) rfl rfl rfl rfl rfl rfl (by decide) rfl rfl (by decide) ?_).weak
  refine PC.imp h (fun v1 κ1 h r1 hv => ?_)
  have h := h r1 hv
  refine PC.if1 (t := 10) rfl rfl (fun c => ?_) (fun c => ?_)
  · have h := h.1 (cmp_ne.1.mp c)
    refine PC.pr (k := 1) (pc' := 11) (lv' := [(0, .ref a0), (1, .int x1)]) (st' := [.int 0]) rfl ?_
    refine PC.pr (k := 1) (pc' := 12) (lv' := [(2, .int 0), (0, .ref a0), (1, .int x1)]) (st' := []) rfl ?_
    refine PC.pr (k := 1) (pc' := 13) (lv' := [(2, .int 0), (0, .ref a0), (1, .int x1)]) (st' := [.int 0]) rfl ?_
    refine PC.pr (k := 1) (pc' := 14) (lv' := [(3, .int 0), (2, .int 0), (0, .ref a0), (1, .int x1)]) (st' := []) rfl ?_
    exact PC.lv (lvE.cons rfl (lvE.cons rfl (lvE.cons rfl (lvE.cons rfl (lvE.nil))))) h
  · have h := h.2 (cmp_ne.2.mp c)
    refine PC.pr (k := 1) (pc' := 9) (lv' := [(0, .ref a0), (1, .int x1)]) (st' := [.int (-1)]) rfl ?_
    exact PC.retI rfl h
theorem t_219_14 {xl : List Int32} {n : Nat} {ι : IS} {Q : Option Value → IS → Prop} {a0 : Nat} {x1 : Int32} {x2 : Int32} {x3 : Int32} (h : ((¬ x3 < (ι a0 3) → Q (some (.int x2)) (up ι a0 20 (-4))) ∧ (x3 < (ι a0 3) → PC xl n 168 0 [(0, .ref a0)] [] ι (fun _ κ1 => PC xl n 205 0 [(0, .ref a0)] [] (up (up κ1 a0 20 x1) a0 21 x3) (fun _ κ2 => PC xl n 220 0 [(0, .ref a0)] [] κ2 (fun v3 κ3 => ∀ r3, v3 = some (.int r3) → PC xl n 175 0 [(0, .int r3)] [] κ3 (fun v4 κ4 => ∀ r4, v4 = some (.int r4) → PC xl n 219 14 [(0, .ref a0), (1, .int x1), (2, .int (x2 ||| (r4 <<< (x3 &&& 31)))), (3, .int (x3 + 1))] [] κ4 Q))))))) : PC xl (n + 1) 219 14 [(0, .ref a0), (1, .int x1), (2, .int x2), (3, .int x3)] [] ι Q := by
  refine PC.pr1 (k := 0) (pc' := 15) (lv' := [(0, .ref a0), (1, .int x1), (2, .int x2), (3, .int x3)]) (st' := [.int x3]) rfl ?_
  refine PC.pr (k := 1) (pc' := 16) (lv' := [(0, .ref a0), (1, .int x1), (2, .int x2), (3, .int x3)]) (st' := [.ref a0, .int x3]) rfl ?_
  refine PC.gI (ci := 9) (j := 3) rfl rfl (by decide) ?_
  refine PC.if2 (t := 58) rfl rfl (fun c => ?_) (fun c => ?_)
  · have h := h.1 (cmp_ge.1.mp c)
    refine PC.pr (k := 1) (pc' := 59) (lv' := [(0, .ref a0), (1, .int x1), (2, .int x2), (3, .int x3)]) (st' := [.ref a0]) rfl ?_
    refine PC.pr (k := 1) (pc' := 61) (lv' := [(0, .ref a0), (1, .int x1), (2, .int x2), (3, .int x3)]) (st' := [.int (-4), .ref a0]) rfl ?_
    refine PC.pI (ci := 9) (j := 20) rfl rfl ?_
    refine PC.pr (k := 1) (pc' := 65) (lv' := [(0, .ref a0), (1, .int x1), (2, .int x2), (3, .int x3)]) (st' := [.int x2]) rfl ?_
    exact PC.retI rfl h
  · have h := h.2 (cmp_ge.2.mp c)
    refine PC.pr (k := 1) (pc' := 23) (lv' := [(0, .ref a0), (1, .int x1), (2, .int x2), (3, .int x3)]) (st' := [.ref a0]) rfl ?_
    refine (PC.callV (j := 168) (args := [.ref a0]) (rest := []) (M := cM168) rfl rfl rfl rfl rfl rfl (by decide) rfl rfl ?_).weak
    refine PC.imp h (fun _ κ1 h => ?_)
    refine PC.pr (k := 1) (pc' := 27) (lv' := [(0, .ref a0), (1, .int x1), (2, .int x2), (3, .int x3)]) (st' := [.ref a0]) rfl ?_
    refine PC.pr (k := 1) (pc' := 28) (lv' := [(0, .ref a0), (1, .int x1), (2, .int x2), (3, .int x3)]) (st' := [.int x1, .ref a0]) rfl ?_
    refine PC.pI (ci := 9) (j := 20) rfl rfl ?_
    refine PC.pr (k := 1) (pc' := 32) (lv' := [(0, .ref a0), (1, .int x1), (2, .int x2), (3, .int x3)]) (st' := [.ref a0]) rfl ?_
    refine PC.pr (k := 1) (pc' := 33) (lv' := [(0, .ref a0), (1, .int x1), (2, .int x2), (3, .int x3)]) (st' := [.int x3, .ref a0]) rfl ?_
    refine PC.pI (ci := 9) (j := 21) rfl rfl ?_
    refine PC.pr (k := 1) (pc' := 37) (lv' := [(0, .ref a0), (1, .int x1), (2, .int x2), (3, .int x3)]) (st' := [.ref a0]) rfl ?_
    refine (PC.callV (j := 205) (args := [.ref a0]) (rest := []) (M := cM205) rfl rfl rfl rfl rfl rfl (by decide) rfl rfl ?_).weak
    refine PC.imp h (fun _ κ2 h => ?_)
    refine PC.pr (k := 1) (pc' := 41) (lv' := [(0, .ref a0), (1, .int x1), (2, .int x2), (3, .int x3)]) (st' := [.int x2]) rfl ?_
    refine PC.pr (k := 1) (pc' := 42) (lv' := [(0, .ref a0), (1, .int x1), (2, .int x2), (3, .int x3)]) (st' := [.ref a0, .int x2]) rfl ?_
    refine (PC.callI (j := 220) (args := [.ref a0]) (rest := [.int x2]) (M := cM220) (ty := .boolean) rfl rfl rfl rfl rfl rfl (by decide) rfl rfl (by decide) ?_).weak
    refine PC.imp h (fun v3 κ3 h r3 hv => ?_)
    have h := h r3 hv
    refine (PC.callI (j := 175) (args := [.int r3]) (rest := [.int x2]) (M := cM175) (ty := .int) rfl rfl rfl rfl rfl rfl (by decide) rfl rfl (by decide) ?_).weak
    refine PC.imp h (fun v4 κ4 h r4 hv => ?_)
    have h := h r4 hv
    refine PC.pr (k := 1) (pc' := 49) (lv' := [(0, .ref a0), (1, .int x1), (2, .int x2), (3, .int x3)]) (st' := [.int x3, .int r4, .int x2]) rfl ?_
    refine PC.pr (k := 1) (pc' := 50) (lv' := [(0, .ref a0), (1, .int x1), (2, .int x2), (3, .int x3)]) (st' := [.int (r4 <<< (x3 &&& 31)), .int x2]) rfl ?_
    refine PC.pr (k := 1) (pc' := 51) (lv' := [(0, .ref a0), (1, .int x1), (2, .int x2), (3, .int x3)]) (st' := [.int (x2 ||| (r4 <<< (x3 &&& 31)))]) rfl ?_
    refine PC.pr (k := 1) (pc' := 52) (lv' := [(2, .int (x2 ||| (r4 <<< (x3 &&& 31)))), (0, .ref a0), (1, .int x1), (3, .int x3)]) (st' := []) rfl ?_
    refine PC.pr (k := 1) (pc' := 55) (lv' := [(3, .int (x3 + 1)), (2, .int (x2 ||| (r4 <<< (x3 &&& 31)))), (0, .ref a0), (1, .int x1)]) (st' := []) rfl ?_
    refine PC.pr (k := 1) (pc' := 14) (lv' := [(3, .int (x3 + 1)), (2, .int (x2 ||| (r4 <<< (x3 &&& 31)))), (0, .ref a0), (1, .int x1)]) (st' := []) rfl ?_
    exact PC.lv (lvE.cons rfl (lvE.cons rfl (lvE.cons rfl (lvE.cons rfl (lvE.nil))))) h

/-- DoorPaintsModel.isSo()Z -/
theorem t_220_0 {xl : List Int32} {n : Nat} {ι : IS} {Q : Option Value → IS → Prop} {a0 : Nat} (h : PC xl n 220 4 [(0, .ref a0), (1, .int 1), (2, .int 0), (3, .null), (4, .null), (5, .null)] [] ι Q) : PC xl (n + 1) 220 0 [(0, .ref a0)] [] ι Q := by
  refine PC.pr1 (k := 0) (pc' := 1) (lv' := [(0, .ref a0)]) (st' := [.int 1]) rfl ?_
  refine PC.pr (k := 1) (pc' := 2) (lv' := [(1, .int 1), (0, .ref a0)]) (st' := []) rfl ?_
  refine PC.pr (k := 1) (pc' := 3) (lv' := [(1, .int 1), (0, .ref a0)]) (st' := [.int 0]) rfl ?_
  refine PC.pr (k := 1) (pc' := 4) (lv' := [(2, .int 0), (1, .int 1), (0, .ref a0)]) (st' := []) rfl ?_
  exact PC.lv (lvE.cons rfl (lvE.cons rfl (lvE.cons rfl (lvE.nil)))) h
theorem t_220_4 {xl : List Int32} {n : Nat} {ι : IS} {Q : Option Value → IS → Prop} {a0 : Nat} {x1 : Int32} {x2 : Int32} {w3 : Value} {w4 : Value} {w5 : Value} (h : (0 ≤ (61 : Int32).toInt → (61 : Int32).toInt < ln (rf a0 0) → ((¬ x2 < (ι (rf a0 0) (61 : Int32).toNatClampNeg) → Q (some (.int x1)) ι) ∧ (x2 < (ι (rf a0 0) (61 : Int32).toNatClampNeg) → (0 ≤ (62 + (3 * x2)).toInt → (62 + (3 * x2)).toInt < ln (rf a0 0) → (0 ≤ ((62 + (3 * x2)) + 1).toInt → ((62 + (3 * x2)) + 1).toInt < ln (rf a0 0) → PC xl n 169 0 [(0, .ref a0), (1, .int (ι (rf a0 0) (62 + (3 * x2)).toNatClampNeg)), (2, .int 0)] [] ι (fun v1 κ1 => ∀ r1, v1 = some (.int r1) → ((¬ (ι (rf a0 0) ((62 + (3 * x2)) + 1).toNatClampNeg) < r1 → PC xl n 220 65 [(0, .ref a0), (1, .int x1), (2, .int x2), (3, .int (ι (rf a0 0) (62 + (3 * x2)).toNatClampNeg)), (4, .int (ι (rf a0 0) ((62 + (3 * x2)) + 1).toNatClampNeg)), (5, w5)] [.int (-4)] κ1 Q) ∧ ((ι (rf a0 0) ((62 + (3 * x2)) + 1).toNatClampNeg) < r1 → PC xl n 174 0 [(0, .ref a0), (1, .int (ι (rf a0 0) (62 + (3 * x2)).toNatClampNeg)), (2, .int (ι (rf a0 0) ((62 + (3 * x2)) + 1).toNatClampNeg))] [] κ1 (fun v2 κ2 => ∀ r2, v2 = some (.int r2) → PC xl n 220 65 [(0, .ref a0), (1, .int x1), (2, .int x2), (3, .int (ι (rf a0 0) (62 + (3 * x2)).toNatClampNeg)), (4, .int (ι (rf a0 0) ((62 + (3 * x2)) + 1).toNatClampNeg)), (5, w5)] [.int r2] κ2 Q)))))))))) : PC xl (n + 1) 220 4 [(0, .ref a0), (1, .int x1), (2, .int x2), (3, w3), (4, w4), (5, w5)] [] ι Q := by
  refine PC.pr1 (k := 0) (pc' := 5) (lv' := [(0, .ref a0), (1, .int x1), (2, .int x2), (3, w3), (4, w4), (5, w5)]) (st' := [.int x2]) rfl ?_
  refine PC.pr (k := 1) (pc' := 6) (lv' := [(0, .ref a0), (1, .int x1), (2, .int x2), (3, w3), (4, w4), (5, w5)]) (st' := [.ref a0, .int x2]) rfl ?_
  refine PC.gR (ci := 9) (j := 0) rfl rfl (by decide) ?_
  refine PC.pr (k := 1) (pc' := 11) (lv' := [(0, .ref a0), (1, .int x1), (2, .int x2), (3, w3), (4, w4), (5, w5)]) (st' := [.int 61, .ref (rf a0 0), .int x2]) rfl ?_
  refine PC.rd rfl (rf_lt _ _) (fun c1 c2 => ?_)
  have h := h c1 c2
  refine PC.if2 (t := 101) rfl rfl (fun c => ?_) (fun c => ?_)
  · have h := h.1 (cmp_ge.1.mp c)
    refine PC.pr (k := 1) (pc' := 102) (lv' := [(0, .ref a0), (1, .int x1), (2, .int x2), (3, w3), (4, w4), (5, w5)]) (st' := [.int x1]) rfl ?_
    exact PC.retI rfl h
  · have h := h.2 (cmp_ge.2.mp c)
    refine PC.pr (k := 1) (pc' := 16) (lv' := [(0, .ref a0), (1, .int x1), (2, .int x2), (3, w3), (4, w4), (5, w5)]) (st' := [.ref a0]) rfl ?_
    refine PC.gR (ci := 9) (j := 0) rfl rfl (by decide) ?_
    refine PC.pr (k := 1) (pc' := 21) (lv' := [(0, .ref a0), (1, .int x1), (2, .int x2), (3, w3), (4, w4), (5, w5)]) (st' := [.int 62, .ref (rf a0 0)]) rfl ?_
    refine PC.pr (k := 1) (pc' := 22) (lv' := [(0, .ref a0), (1, .int x1), (2, .int x2), (3, w3), (4, w4), (5, w5)]) (st' := [.int 3, .int 62, .ref (rf a0 0)]) rfl ?_
    refine PC.pr (k := 1) (pc' := 23) (lv' := [(0, .ref a0), (1, .int x1), (2, .int x2), (3, w3), (4, w4), (5, w5)]) (st' := [.int x2, .int 3, .int 62, .ref (rf a0 0)]) rfl ?_
    refine PC.pr (k := 1) (pc' := 24) (lv' := [(0, .ref a0), (1, .int x1), (2, .int x2), (3, w3), (4, w4), (5, w5)]) (st' := [.int (3 * x2), .int 62, .ref (rf a0 0)]) rfl ?_
    refine PC.pr (k := 1) (pc' := 25) (lv' := [(0, .ref a0), (1, .int x1), (2, .int x2), (3, w3), (4, w4), (5, w5)]) (st' := [.int (62 + (3 * x2)), .ref (rf a0 0)]) rfl ?_
    refine PC.rd rfl (rf_lt _ _) (fun c1 c2 => ?_)
    have h := h c1 c2
    refine PC.pr (k := 1) (pc' := 27) (lv' := [(3, .int (ι (rf a0 0) (62 + (3 * x2)).toNatClampNeg)), (0, .ref a0), (1, .int x1), (2, .int x2), (4, w4), (5, w5)]) (st' := []) rfl ?_
    refine PC.pr (k := 1) (pc' := 28) (lv' := [(3, .int (ι (rf a0 0) (62 + (3 * x2)).toNatClampNeg)), (0, .ref a0), (1, .int x1), (2, .int x2), (4, w4), (5, w5)]) (st' := [.ref a0]) rfl ?_
    refine PC.gR (ci := 9) (j := 0) rfl rfl (by decide) ?_
    refine PC.pr (k := 1) (pc' := 33) (lv' := [(3, .int (ι (rf a0 0) (62 + (3 * x2)).toNatClampNeg)), (0, .ref a0), (1, .int x1), (2, .int x2), (4, w4), (5, w5)]) (st' := [.int 62, .ref (rf a0 0)]) rfl ?_
    refine PC.pr (k := 1) (pc' := 34) (lv' := [(3, .int (ι (rf a0 0) (62 + (3 * x2)).toNatClampNeg)), (0, .ref a0), (1, .int x1), (2, .int x2), (4, w4), (5, w5)]) (st' := [.int 3, .int 62, .ref (rf a0 0)]) rfl ?_
    refine PC.pr (k := 1) (pc' := 35) (lv' := [(3, .int (ι (rf a0 0) (62 + (3 * x2)).toNatClampNeg)), (0, .ref a0), (1, .int x1), (2, .int x2), (4, w4), (5, w5)]) (st' := [.int x2, .int 3, .int 62, .ref (rf a0 0)]) rfl ?_
    refine PC.pr (k := 1) (pc' := 36) (lv' := [(3, .int (ι (rf a0 0) (62 + (3 * x2)).toNatClampNeg)), (0, .ref a0), (1, .int x1), (2, .int x2), (4, w4), (5, w5)]) (st' := [.int (3 * x2), .int 62, .ref (rf a0 0)]) rfl ?_
    refine PC.pr (k := 1) (pc' := 37) (lv' := [(3, .int (ι (rf a0 0) (62 + (3 * x2)).toNatClampNeg)), (0, .ref a0), (1, .int x1), (2, .int x2), (4, w4), (5, w5)]) (st' := [.int (62 + (3 * x2)), .ref (rf a0 0)]) rfl ?_
    refine PC.pr (k := 1) (pc' := 38) (lv' := [(3, .int (ι (rf a0 0) (62 + (3 * x2)).toNatClampNeg)), (0, .ref a0), (1, .int x1), (2, .int x2), (4, w4), (5, w5)]) (st' := [.int 1, .int (62 + (3 * x2)), .ref (rf a0 0)]) rfl ?_
    refine PC.pr (k := 1) (pc' := 39) (lv' := [(3, .int (ι (rf a0 0) (62 + (3 * x2)).toNatClampNeg)), (0, .ref a0), (1, .int x1), (2, .int x2), (4, w4), (5, w5)]) (st' := [.int ((62 + (3 * x2)) + 1), .ref (rf a0 0)]) rfl ?_
    refine PC.rd rfl (rf_lt _ _) (fun c1 c2 => ?_)
    have h := h c1 c2
    refine PC.pr (k := 1) (pc' := 42) (lv' := [(4, .int (ι (rf a0 0) ((62 + (3 * x2)) + 1).toNatClampNeg)), (3, .int (ι (rf a0 0) (62 + (3 * x2)).toNatClampNeg)), (0, .ref a0), (1, .int x1), (2, .int x2), (5, w5)]) (st' := []) rfl ?_
    refine PC.pr (k := 1) (pc' := 44) (lv' := [(4, .int (ι (rf a0 0) ((62 + (3 * x2)) + 1).toNatClampNeg)), (3, .int (ι (rf a0 0) (62 + (3 * x2)).toNatClampNeg)), (0, .ref a0), (1, .int x1), (2, .int x2), (5, w5)]) (st' := [.int (ι (rf a0 0) ((62 + (3 * x2)) + 1).toNatClampNeg)]) rfl ?_
    refine PC.pr (k := 1) (pc' := 45) (lv' := [(4, .int (ι (rf a0 0) ((62 + (3 * x2)) + 1).toNatClampNeg)), (3, .int (ι (rf a0 0) (62 + (3 * x2)).toNatClampNeg)), (0, .ref a0), (1, .int x1), (2, .int x2), (5, w5)]) (st' := [.ref a0, .int (ι (rf a0 0) ((62 + (3 * x2)) + 1).toNatClampNeg)]) rfl ?_
    refine PC.pr (k := 1) (pc' := 46) (lv' := [(4, .int (ι (rf a0 0) ((62 + (3 * x2)) + 1).toNatClampNeg)), (3, .int (ι (rf a0 0) (62 + (3 * x2)).toNatClampNeg)), (0, .ref a0), (1, .int x1), (2, .int x2), (5, w5)]) (st' := [.int (ι (rf a0 0) (62 + (3 * x2)).toNatClampNeg), .ref a0, .int (ι (rf a0 0) ((62 + (3 * x2)) + 1).toNatClampNeg)]) rfl ?_
    refine PC.pr (k := 1) (pc' := 47) (lv' := [(4, .int (ι (rf a0 0) ((62 + (3 * x2)) + 1).toNatClampNeg)), (3, .int (ι (rf a0 0) (62 + (3 * x2)).toNatClampNeg)), (0, .ref a0), (1, .int x1), (2, .int x2), (5, w5)]) (st' := [.int 0, .int (ι (rf a0 0) (62 + (3 * x2)).toNatClampNeg), .ref a0, .int (ι (rf a0 0) ((62 + (3 * x2)) + 1).toNatClampNeg)]) rfl ?_
    refine (PC.callI (j := 169) (args := [.ref a0, .int (ι (rf a0 0) (62 + (3 * x2)).toNatClampNeg), .int 0]) (rest := [.int (ι (rf a0 0) ((62 + (3 * x2)) + 1).toNatClampNeg)]) (M := cM169) (ty := .int) rfl rfl rfl rfl rfl rfl (by decide) rfl rfl (by decide) ?_).weak
    refine PC.imp h (fun v1 κ1 h r1 hv => ?_)
    have h := h r1 hv
    refine PC.if2 (t := 63) rfl rfl (fun c => ?_) (fun c => ?_)
    · have h := h.1 (cmp_ge.1.mp c)
      refine PC.pr (k := 1) (pc' := 65) (lv' := [(4, .int (ι (rf a0 0) ((62 + (3 * x2)) + 1).toNatClampNeg)), (3, .int (ι (rf a0 0) (62 + (3 * x2)).toNatClampNeg)), (0, .ref a0), (1, .int x1), (2, .int x2), (5, w5)]) (st' := [.int (-4)]) rfl ?_
      exact PC.lv (lvE.cons rfl (lvE.cons rfl (lvE.cons rfl (lvE.cons rfl (lvE.cons rfl (lvE.cons rfl (lvE.nil))))))) h
    · have h := h.2 (cmp_ge.2.mp c)
      refine PC.pr (k := 1) (pc' := 54) (lv' := [(4, .int (ι (rf a0 0) ((62 + (3 * x2)) + 1).toNatClampNeg)), (3, .int (ι (rf a0 0) (62 + (3 * x2)).toNatClampNeg)), (0, .ref a0), (1, .int x1), (2, .int x2), (5, w5)]) (st' := [.ref a0]) rfl ?_
      refine PC.pr (k := 1) (pc' := 55) (lv' := [(4, .int (ι (rf a0 0) ((62 + (3 * x2)) + 1).toNatClampNeg)), (3, .int (ι (rf a0 0) (62 + (3 * x2)).toNatClampNeg)), (0, .ref a0), (1, .int x1), (2, .int x2), (5, w5)]) (st' := [.int (ι (rf a0 0) (62 + (3 * x2)).toNatClampNeg), .ref a0]) rfl ?_
      refine PC.pr (k := 1) (pc' := 57) (lv' := [(4, .int (ι (rf a0 0) ((62 + (3 * x2)) + 1).toNatClampNeg)), (3, .int (ι (rf a0 0) (62 + (3 * x2)).toNatClampNeg)), (0, .ref a0), (1, .int x1), (2, .int x2), (5, w5)]) (st' := [.int (ι (rf a0 0) ((62 + (3 * x2)) + 1).toNatClampNeg), .int (ι (rf a0 0) (62 + (3 * x2)).toNatClampNeg), .ref a0]) rfl ?_
      refine (PC.callI (j := 174) (args := [.ref a0, .int (ι (rf a0 0) (62 + (3 * x2)).toNatClampNeg), .int (ι (rf a0 0) ((62 + (3 * x2)) + 1).toNatClampNeg)]) (rest := []) (M := cM174) (ty := .int) rfl rfl rfl rfl rfl rfl (by decide) rfl rfl (by decide) ?_).weak
      refine PC.imp h (fun v2 κ2 h r2 hv => ?_)
      have h := h r2 hv
      refine PC.pr (k := 1) (pc' := 65) (lv' := [(4, .int (ι (rf a0 0) ((62 + (3 * x2)) + 1).toNatClampNeg)), (3, .int (ι (rf a0 0) (62 + (3 * x2)).toNatClampNeg)), (0, .ref a0), (1, .int x1), (2, .int x2), (5, w5)]) (st' := [.int r2]) rfl ?_
      exact PC.lv (lvE.cons rfl (lvE.cons rfl (lvE.cons rfl (lvE.cons rfl (lvE.cons rfl (lvE.cons rfl (lvE.nil))))))) h
theorem t_220_65 {xl : List Int32} {n : Nat} {ι : IS} {Q : Option Value → IS → Prop} {a0 : Nat} {x1 : Int32} {x2 : Int32} {x3 : Int32} {x4 : Int32} {w5 : Value} {u0 : Int32} (h : ((x1 = 0 → PC xl n 220 93 [(0, .ref a0), (1, .int x1), (2, .int x2), (3, .int x3), (4, .int x4), (5, .int u0)] [] ι Q) ∧ (¬ x1 = 0 → (0 ≤ ((62 + (3 * x2)) + 2).toInt → ((62 + (3 * x2)) + 2).toInt < ln (rf a0 0) → ((¬ u0 = (ι (rf a0 0) ((62 + (3 * x2)) + 2).toNatClampNeg) → PC xl n 220 93 [(0, .ref a0), (1, .int x1), (2, .int x2), (3, .int x3), (4, .int x4), (5, .int u0)] [] ι Q) ∧ (u0 = (ι (rf a0 0) ((62 + (3 * x2)) + 2).toNatClampNeg) → PC xl n 220 94 [(0, .ref a0), (1, .int x1), (2, .int x2), (3, .int x3), (4, .int x4), (5, .int u0)] [.int 1] ι Q)))))) : PC xl (n + 1) 220 65 [(0, .ref a0), (1, .int x1), (2, .int x2), (3, .int x3), (4, .int x4), (5, w5)] [.int u0] ι Q := by
  refine PC.pr1 (k := 0) (pc' := 67) (lv' := [(5, .int u0), (0, .ref a0), (1, .int x1), (2, .int x2), (3, .int x3), (4, .int x4)]) (st' := []) rfl ?_
  refine PC.pr (k := 1) (pc' := 68) (lv' := [(5, .int u0), (0, .ref a0), (1, .int x1), (2, .int x2), (3, .int x3), (4, .int x4)]) (st' := [.int x1]) rfl ?_
  refine PC.if1 (t := 93) rfl rfl (fun c => ?_) (fun c => ?_)
  · have h := h.1 (cmp_eq.1.mp c)
    exact PC.lv (lvE.cons rfl (lvE.cons rfl (lvE.cons rfl (lvE.cons rfl (lvE.cons rfl (lvE.cons rfl (lvE.nil))))))) h
  · have h := h.2 (cmp_eq.2.mp c)
    refine PC.pr (k := 1) (pc' := 73) (lv' := [(5, .int u0), (0, .ref a0), (1, .int x1), (2, .int x2), (3, .int x3), (4, .int x4)]) (st' := [.int u0]) rfl ?_
    refine PC.pr (k := 1) (pc' := 74) (lv' := [(5, .int u0), (0, .ref a0), (1, .int x1), (2, .int x2), (3, .int x3), (4, .int x4)]) (st' := [.ref a0, .int u0]) rfl ?_
    refine PC.gR (ci := 9) (j := 0) rfl rfl (by decide) ?_
    refine PC.pr (k := 1) (pc' := 79) (lv' := [(5, .int u0), (0, .ref a0), (1, .int x1), (2, .int x2), (3, .int x3), (4, .int x4)]) (st' := [.int 62, .ref (rf a0 0), .int u0]) rfl ?_
    refine PC.pr (k := 1) (pc' := 80) (lv' := [(5, .int u0), (0, .ref a0), (1, .int x1), (2, .int x2), (3, .int x3), (4, .int x4)]) (st' := [.int 3, .int 62, .ref (rf a0 0), .int u0]) rfl ?_
    refine PC.pr (k := 1) (pc' := 81) (lv' := [(5, .int u0), (0, .ref a0), (1, .int x1), (2, .int x2), (3, .int x3), (4, .int x4)]) (st' := [.int x2, .int 3, .int 62, .ref (rf a0 0), .int u0]) rfl ?_
    refine PC.pr (k := 1) (pc' := 82) (lv' := [(5, .int u0), (0, .ref a0), (1, .int x1), (2, .int x2), (3, .int x3), (4, .int x4)]) (st' := [.int (3 * x2), .int 62, .ref (rf a0 0), .int u0]) rfl ?_
    refine PC.pr (k := 1) (pc' := 83) (lv' := [(5, .int u0), (0, .ref a0), (1, .int x1), (2, .int x2), (3, .int x3), (4, .int x4)]) (st' := [.int (62 + (3 * x2)), .ref (rf a0 0), .int u0]) rfl ?_
    refine PC.pr (k := 1) (pc' := 84) (lv' := [(5, .int u0), (0, .ref a0), (1, .int x1), (2, .int x2), (3, .int x3), (4, .int x4)]) (st' := [.int 2, .int (62 + (3 * x2)), .ref (rf a0 0), .int u0]) rfl ?_
    refine PC.pr (k := 1) (pc' := 85) (lv' := [(5, .int u0), (0, .ref a0), (1, .int x1), (2, .int x2), (3, .int x3), (4, .int x4)]) (st' := [.int ((62 + (3 * x2)) + 2), .ref (rf a0 0), .int u0]) rfl ?_
    refine PC.rd rfl (rf_lt _ _) (fun c1 c2 => ?_)
    have h := h c1 c2
    refine PC.if2 (t := 93) rfl rfl (fun c => ?_) (fun c => ?_)
    · have h := h.1 (cmp_ne.1.mp c)
      exact PC.lv (lvE.cons rfl (lvE.cons rfl (lvE.cons rfl (lvE.cons rfl (lvE.cons rfl (lvE.cons rfl (lvE.nil))))))) h
    · have h := h.2 (cmp_ne.2.mp c)
      refine PC.pr (k := 1) (pc' := 90) (lv' := [(5, .int u0), (0, .ref a0), (1, .int x1), (2, .int x2), (3, .int x3), (4, .int x4)]) (st' := [.int 1]) rfl ?_
      refine PC.pr (k := 1) (pc' := 94) (lv' := [(5, .int u0), (0, .ref a0), (1, .int x1), (2, .int x2), (3, .int x3), (4, .int x4)]) (st' := [.int 1]) rfl ?_
      exact PC.lv (lvE.cons rfl (lvE.cons rfl (lvE.cons rfl (lvE.cons rfl (lvE.cons rfl (lvE.cons rfl (lvE.nil))))))) h
theorem t_220_93 {xl : List Int32} {n : Nat} {ι : IS} {Q : Option Value → IS → Prop} {a0 : Nat} {x1 : Int32} {x2 : Int32} {x3 : Int32} {x4 : Int32} {x5 : Int32} (h : PC xl n 220 94 [(0, .ref a0), (1, .int x1), (2, .int x2), (3, .int x3), (4, .int x4), (5, .int x5)] [.int 0] ι Q) : PC xl (n + 1) 220 93 [(0, .ref a0), (1, .int x1), (2, .int x2), (3, .int x3), (4, .int x4), (5, .int x5)] [] ι Q := by
  refine PC.pr1 (k := 0) (pc' := 94) (lv' := [(0, .ref a0), (1, .int x1), (2, .int x2), (3, .int x3), (4, .int x4), (5, .int x5)]) (st' := [.int 0]) rfl ?_
  exact h
theorem t_220_94 {xl : List Int32} {n : Nat} {ι : IS} {Q : Option Value → IS → Prop} {a0 : Nat} {x1 : Int32} {x2 : Int32} {x3 : Int32} {x4 : Int32} {x5 : Int32} {u0 : Int32} (h : PC xl n 220 4 [(0, .ref a0), (1, .int u0), (2, .int (x2 + 1)), (3, .int x3), (4, .int x4), (5, .int x5)] [] ι Q) : PC xl (n + 1) 220 94 [(0, .ref a0), (1, .int x1), (2, .int x2), (3, .int x3), (4, .int x4), (5, .int x5)] [.int u0] ι Q := by
  refine PC.pr1 (k := 0) (pc' := 95) (lv' := [(1, .int u0), (0, .ref a0), (2, .int x2), (3, .int x3), (4, .int x4), (5, .int x5)]) (st' := []) rfl ?_
  refine PC.pr (k := 1) (pc' := 98) (lv' := [(2, .int (x2 + 1)), (1, .int u0), (0, .ref a0), (3, .int x3), (4, .int x4), (5, .int x5)]) (st' := []) rfl ?_
  refine PC.pr (k := 1) (pc' := 4) (lv' := [(2, .int (x2 + 1)), (1, .int u0), (0, .ref a0), (3, .int x3), (4, .int x4), (5, .int x5)]) (st' := []) rfl ?_
  exact PC.lv (lvE.cons rfl (lvE.cons rfl (lvE.cons rfl (lvE.cons rfl (lvE.cons rfl (lvE.cons rfl (lvE.nil))))))) h

/-- DoorPaintsModel.rained()I -/
theorem t_221_0 {xl : List Int32} {n : Nat} {ι : IS} {Q : Option Value → IS → Prop} {a0 : Nat} (h : PC xl n 221 4 [(0, .ref a0), (1, .int 0), (2, .int 0), (3, .null)] [] ι Q) : PC xl (n + 1) 221 0 [(0, .ref a0)] [] ι Q := by
  refine PC.pr1 (k := 0) (pc' := 1) (lv' := [(0, .ref a0)]) (st' := [.int 0]) rfl ?_
  refine PC.pr (k := 1) (pc' := 2) (lv' := [(1, .int 0), (0, .ref a0)]) (st' := []) rfl ?_
  refine PC.pr (k := 1) (pc' := 3) (lv' := [(1, .int 0), (0, .ref a0)]) (st' := [.int 0]) rfl ?_
  refine PC.pr (k := 1) (pc' := 4) (lv' := [(2, .int 0), (1, .int 0), (0, .ref a0)]) (st' := []) rfl ?_
  exact PC.lv (lvE.cons rfl (lvE.cons rfl (lvE.cons rfl (lvE.nil)))) h
theorem t_221_4 {xl : List Int32} {n : Nat} {ι : IS} {Q : Option Value → IS → Prop} {a0 : Nat} {x1 : Int32} {x2 : Int32} {w3 : Value} (h : (0 ≤ (52 : Int32).toInt → (52 : Int32).toInt < ln (rf a0 0) → (((ι (rf a0 0) (52 : Int32).toNatClampNeg) < x2 → Q (some (.int x1)) ι) ∧ (¬ (ι (rf a0 0) (52 : Int32).toNatClampNeg) < x2 → PC xl n 168 0 [(0, .ref a0)] [] ι (fun _ κ1 => PC xl n 221 21 [(0, .ref a0), (1, .int x1), (2, .int x2), (3, .int 0)] [] κ1 Q))))) : PC xl (n + 1) 221 4 [(0, .ref a0), (1, .int x1), (2, .int x2), (3, w3)] [] ι Q := by
  refine PC.pr1 (k := 0) (pc' := 5) (lv' := [(0, .ref a0), (1, .int x1), (2, .int x2), (3, w3)]) (st' := [.int x2]) rfl ?_
  refine PC.pr (k := 1) (pc' := 6) (lv' := [(0, .ref a0), (1, .int x1), (2, .int x2), (3, w3)]) (st' := [.ref a0, .int x2]) rfl ?_
  refine PC.gR (ci := 9) (j := 0) rfl rfl (by decide) ?_
  refine PC.pr (k := 1) (pc' := 11) (lv' := [(0, .ref a0), (1, .int x1), (2, .int x2), (3, w3)]) (st' := [.int 52, .ref (rf a0 0), .int x2]) rfl ?_
  refine PC.rd rfl (rf_lt _ _) (fun c1 c2 => ?_)
  have h := h c1 c2
  refine PC.if2 (t := 91) rfl rfl (fun c => ?_) (fun c => ?_)
  · have h := h.1 (cmp_gt.1.mp c)
    refine PC.pr (k := 1) (pc' := 92) (lv' := [(0, .ref a0), (1, .int x1), (2, .int x2), (3, w3)]) (st' := [.int x1]) rfl ?_
    exact PC.retI rfl h
  · have h := h.2 (cmp_gt.2.mp c)
    refine PC.pr (k := 1) (pc' := 16) (lv' := [(0, .ref a0), (1, .int x1), (2, .int x2), (3, w3)]) (st' := [.ref a0]) rfl ?_
    refine (PC.callV (j := 168) (args := [.ref a0]) (rest := []) (M := cM168) rfl rfl rfl rfl rfl rfl (by decide) rfl rfl ?_).weak
    refine PC.imp h (fun _ κ1 h => ?_)
    refine PC.pr (k := 1) (pc' := 20) (lv' := [(0, .ref a0), (1, .int x1), (2, .int x2), (3, w3)]) (st' := [.int 0]) rfl ?_
    refine PC.pr (k := 1) (pc' := 21) (lv' := [(3, .int 0), (0, .ref a0), (1, .int x1), (2, .int x2)]) (st' := []) rfl ?_
    exact PC.lv (lvE.cons rfl (lvE.cons rfl (lvE.cons rfl (lvE.cons rfl (lvE.nil))))) h
theorem t_221_21 {xl : List Int32} {n : Nat} {ι : IS} {Q : Option Value → IS → Prop} {a0 : Nat} {x1 : Int32} {x2 : Int32} {x3 : Int32} (h : (0 ≤ (52 : Int32).toInt → (52 : Int32).toInt < ln (rf a0 0) → (((ι (rf a0 0) (52 : Int32).toNatClampNeg) < x3 → PC xl n 220 0 [(0, .ref a0)] [] ι (fun v1 κ1 => ∀ r1, v1 = some (.int r1) → PC xl n 175 0 [(0, .int r1)] [] κ1 (fun v2 κ2 => ∀ r2, v2 = some (.int r2) → PC xl n 221 4 [(0, .ref a0), (1, .int (x1 ||| (r2 <<< (x2 &&& 31)))), (2, .int (x2 + 1)), (3, .int x3)] [] κ2 Q))) ∧ (¬ (ι (rf a0 0) (52 : Int32).toNatClampNeg) < x3 → ((¬ x3 = x2 → PC xl n 221 43 [(0, .ref a0), (1, .int x1), (2, .int x2), (3, .int x3)] [] ι Q) ∧ (x3 = x2 → PC xl n 203 0 [(0, .ref a0), (1, .int 91)] [] ι (fun _ κ3 => PC xl n 221 43 [(0, .ref a0), (1, .int x1), (2, .int x2), (3, .int x3)] [] κ3 Q))))))) : PC xl (n + 1) 221 21 [(0, .ref a0), (1, .int x1), (2, .int x2), (3, .int x3)] [] ι Q := by
  refine PC.pr1 (k := 0) (pc' := 22) (lv' := [(0, .ref a0), (1, .int x1), (2, .int x2), (3, .int x3)]) (st' := [.int x3]) rfl ?_
  refine PC.pr (k := 1) (pc' := 23) (lv' := [(0, .ref a0), (1, .int x1), (2, .int x2), (3, .int x3)]) (st' := [.ref a0, .int x3]) rfl ?_
  refine PC.gR (ci := 9) (j := 0) rfl rfl (by decide) ?_
  refine PC.pr (k := 1) (pc' := 28) (lv' := [(0, .ref a0), (1, .int x1), (2, .int x2), (3, .int x3)]) (st' := [.int 52, .ref (rf a0 0), .int x3]) rfl ?_
  refine PC.rd rfl (rf_lt _ _) (fun c1 c2 => ?_)
  have h := h c1 c2
  refine PC.if2 (t := 73) rfl rfl (fun c => ?_) (fun c => ?_)
  · have h := h.1 (cmp_gt.1.mp c)
    refine PC.pr (k := 1) (pc' := 74) (lv' := [(0, .ref a0), (1, .int x1), (2, .int x2), (3, .int x3)]) (st' := [.int x1]) rfl ?_
    refine PC.pr (k := 1) (pc' := 75) (lv' := [(0, .ref a0), (1, .int x1), (2, .int x2), (3, .int x3)]) (st' := [.ref a0, .int x1]) rfl ?_
    refine (PC.callI (j := 220) (args := [.ref a0]) (rest := [.int x1]) (M := cM220) (ty := .boolean) rfl rfl rfl rfl rfl rfl (by decide) rfl rfl (by decide) ?_).weak
    refine PC.imp h (fun v1 κ1 h r1 hv => ?_)
    have h := h r1 hv
    refine (PC.callI (j := 175) (args := [.int r1]) (rest := [.int x1]) (M := cM175) (ty := .int) rfl rfl rfl rfl rfl rfl (by decide) rfl rfl (by decide) ?_).weak
    refine PC.imp h (fun v2 κ2 h r2 hv => ?_)
    have h := h r2 hv
    refine PC.pr (k := 1) (pc' := 82) (lv' := [(0, .ref a0), (1, .int x1), (2, .int x2), (3, .int x3)]) (st' := [.int x2, .int r2, .int x1]) rfl ?_
    refine PC.pr (k := 1) (pc' := 83) (lv' := [(0, .ref a0), (1, .int x1), (2, .int x2), (3, .int x3)]) (st' := [.int (r2 <<< (x2 &&& 31)), .int x1]) rfl ?_
    refine PC.pr (k := 1) (pc' := 84) (lv' := [(0, .ref a0), (1, .int x1), (2, .int x2), (3, .int x3)]) (st' := [.int (x1 ||| (r2 <<< (x2 &&& 31)))]) rfl ?_
    refine PC.pr (k := 1) (pc' := 85) (lv' := [(1, .int (x1 ||| (r2 <<< (x2 &&& 31)))), (0, .ref a0), (2, .int x2), (3, .int x3)]) (st' := []) rfl ?_
    refine PC.pr (k := 1) (pc' := 88) (lv' := [(2, .int (x2 + 1)), (1, .int (x1 ||| (r2 <<< (x2 &&& 31)))), (0, .ref a0), (3, .int x3)]) (st' := []) rfl ?_
    refine PC.pr (k := 1) (pc' := 4) (lv' := [(2, .int (x2 + 1)), (1, .int (x1 ||| (r2 <<< (x2 &&& 31)))), (0, .ref a0), (3, .int x3)]) (st' := []) rfl ?_
    exact PC.lv (lvE.cons rfl (lvE.cons rfl (lvE.cons rfl (lvE.cons rfl (lvE.nil))))) h
  · have h := h.2 (cmp_gt.2.mp c)
    refine PC.pr (k := 1) (pc' := 33) (lv' := [(0, .ref a0), (1, .int x1), (2, .int x2), (3, .int x3)]) (st' := [.int x3]) rfl ?_
    refine PC.pr (k := 1) (pc' := 34) (lv' := [(0, .ref a0), (1, .int x1), (2, .int x2), (3, .int x3)]) (st' := [.int x2, .int x3]) rfl ?_
    refine PC.if2 (t := 43) rfl rfl (fun c => ?_) (fun c => ?_)
    · have h := h.1 (cmp_ne.1.mp c)
      exact h
    · have h := h.2 (cmp_ne.2.mp c)
      refine PC.pr (k := 1) (pc' := 38) (lv' := [(0, .ref a0), (1, .int x1), (2, .int x2), (3, .int x3)]) (st' := [.ref a0]) rfl ?_
      refine PC.pr (k := 1) (pc' := 40) (lv' := [(0, .ref a0), (1, .int x1), (2, .int x2), (3, .int x3)]) (st' := [.int 91, .ref a0]) rfl ?_
      refine (PC.callV (j := 203) (args := [.ref a0, .int 91]) (rest := []) (M := cM203) rfl rfl rfl rfl rfl rfl (by decide) rfl rfl ?_).weak
      refine PC.imp h (fun _ κ3 h => ?_)
      exact h
theorem t_221_43 {xl : List Int32} {n : Nat} {ι : IS} {Q : Option Value → IS → Prop} {a0 : Nat} {x1 : Int32} {x2 : Int32} {x3 : Int32} (h : (0 ≤ (52 : Int32).toInt → (52 : Int32).toInt < ln (rf a0 0) → ((¬ x3 < (ι (rf a0 0) (52 : Int32).toNatClampNeg) → PC xl n 221 67 [(0, .ref a0), (1, .int x1), (2, .int x2), (3, .int x3)] [] ι Q) ∧ (x3 < (ι (rf a0 0) (52 : Int32).toNatClampNeg) → (0 ≤ (53 + x3).toInt → (53 + x3).toInt < ln (rf a0 0) → PC xl n 203 0 [(0, .ref a0), (1, .int (ι (rf a0 0) (53 + x3).toNatClampNeg))] [] ι (fun _ κ1 => PC xl n 221 67 [(0, .ref a0), (1, .int x1), (2, .int x2), (3, .int x3)] [] κ1 Q)))))) : PC xl (n + 1) 221 43 [(0, .ref a0), (1, .int x1), (2, .int x2), (3, .int x3)] [] ι Q := by
  refine PC.pr1 (k := 0) (pc' := 44) (lv' := [(0, .ref a0), (1, .int x1), (2, .int x2), (3, .int x3)]) (st' := [.int x3]) rfl ?_
  refine PC.pr (k := 1) (pc' := 45) (lv' := [(0, .ref a0), (1, .int x1), (2, .int x2), (3, .int x3)]) (st' := [.ref a0, .int x3]) rfl ?_
  refine PC.gR (ci := 9) (j := 0) rfl rfl (by decide) ?_
  refine PC.pr (k := 1) (pc' := 50) (lv' := [(0, .ref a0), (1, .int x1), (2, .int x2), (3, .int x3)]) (st' := [.int 52, .ref (rf a0 0), .int x3]) rfl ?_
  refine PC.rd rfl (rf_lt _ _) (fun c1 c2 => ?_)
  have h := h c1 c2
  refine PC.if2 (t := 67) rfl rfl (fun c => ?_) (fun c => ?_)
  · have h := h.1 (cmp_ge.1.mp c)
    exact h
  · have h := h.2 (cmp_ge.2.mp c)
    refine PC.pr (k := 1) (pc' := 55) (lv' := [(0, .ref a0), (1, .int x1), (2, .int x2), (3, .int x3)]) (st' := [.ref a0]) rfl ?_
    refine PC.pr (k := 1) (pc' := 56) (lv' := [(0, .ref a0), (1, .int x1), (2, .int x2), (3, .int x3)]) (st' := [.ref a0, .ref a0]) rfl ?_
    refine PC.gR (ci := 9) (j := 0) rfl rfl (by decide) ?_
    refine PC.pr (k := 1) (pc' := 61) (lv' := [(0, .ref a0), (1, .int x1), (2, .int x2), (3, .int x3)]) (st' := [.int 53, .ref (rf a0 0), .ref a0]) rfl ?_
    refine PC.pr (k := 1) (pc' := 62) (lv' := [(0, .ref a0), (1, .int x1), (2, .int x2), (3, .int x3)]) (st' := [.int x3, .int 53, .ref (rf a0 0), .ref a0]) rfl ?_
    refine PC.pr (k := 1) (pc' := 63) (lv' := [(0, .ref a0), (1, .int x1), (2, .int x2), (3, .int x3)]) (st' := [.int (53 + x3), .ref (rf a0 0), .ref a0]) rfl ?_
    refine PC.rd rfl (rf_lt _ _) (fun c1 c2 => ?_)
    have h := h c1 c2
    refine (PC.callV (j := 203) (args := [.ref a0, .int (ι (rf a0 0) (53 + x3).toNatClampNeg)]) (rest := []) (M := cM203) rfl rfl rfl rfl rfl rfl (by decide) rfl rfl ?_).weak
    refine PC.imp h (fun _ κ1 h => ?_)
    exact h
theorem t_221_67 {xl : List Int32} {n : Nat} {ι : IS} {Q : Option Value → IS → Prop} {a0 : Nat} {x1 : Int32} {x2 : Int32} {x3 : Int32} (h : PC xl n 221 21 [(0, .ref a0), (1, .int x1), (2, .int x2), (3, .int (x3 + 1))] [] ι Q) : PC xl (n + 1) 221 67 [(0, .ref a0), (1, .int x1), (2, .int x2), (3, .int x3)] [] ι Q := by
  refine PC.pr1 (k := 0) (pc' := 70) (lv' := [(3, .int (x3 + 1)), (0, .ref a0), (1, .int x1), (2, .int x2)]) (st' := []) rfl ?_
  refine PC.pr (k := 1) (pc' := 21) (lv' := [(3, .int (x3 + 1)), (0, .ref a0), (1, .int x1), (2, .int x2)]) (st' := []) rfl ?_
  exact PC.lv (lvE.cons rfl (lvE.cons rfl (lvE.cons rfl (lvE.cons rfl (lvE.nil))))) h

/-- DoorPaintsModel.drift(III)I -/
theorem t_229_0 {xl : List Int32} {n : Nat} {ι : IS} {Q : Option Value → IS → Prop} {a0 : Nat} {x1 : Int32} {x2 : Int32} {x3 : Int32} (h : PC xl n 148 0 [(0, .long (x2).toInt64), (2, .long 1), (4, .long 60)] [] ι (fun v1 κ1 => ∀ r1, v1 = some (.int r1) → ((r1 = 0 → Q (some (.int (-1))) κ1) ∧ (¬ r1 = 0 → PC xl n 208 0 [(0, .int x3)] [] κ1 (fun v2 κ2 => ∀ r2, v2 = some (.int r2) → ((¬ r2 = 0 → (((κ2 a0 3) = 0 → Q (some (.int (-2))) κ2) ∧ (¬ (κ2 a0 3) = 0 → ((¬ (κ2 a0 4) = 0 → PC xl n 168 0 [(0, .ref a0)] [] κ2 (fun _ κ3 => PC xl n 229 48 [(0, .ref a0), (1, .int x1), (2, .int x2), (3, .int x3), (4, .int x1), (5, .int 0), (6, .null), (7, .null)] [] κ3 Q)) ∧ ((κ2 a0 4) = 0 → Q (some (.int (-2))) κ2))))) ∧ (r2 = 0 → Q (some (.int (-1))) κ2))))))) : PC xl (n + 1) 229 0 [(0, .ref a0), (1, .int x1), (2, .int x2), (3, .int x3)] [] ι Q := by
  refine PC.pr1 (k := 0) (pc' := 1) (lv' := [(0, .ref a0), (1, .int x1), (2, .int x2), (3, .int x3)]) (st' := [.int x2]) rfl ?_
  refine PC.pr (k := 1) (pc' := 2) (lv' := [(0, .ref a0), (1, .int x1), (2, .int x2), (3, .int x3)]) (st' := [.long (x2).toInt64]) rfl ?_
  refine PC.pr (k := 1) (pc' := 3) (lv' := [(0, .ref a0), (1, .int x1), (2, .int x2), (3, .int x3)]) (st' := [.long 1, .long (x2).toInt64]) rfl ?_
  refine PC.pr (k := 1) (pc' := 6) (lv' := [(0, .ref a0), (1, .int x1), (2, .int x2), (3, .int x3)]) (st' := [.long 60, .long 1, .long (x2).toInt64]) rfl ?_
  refine (PC.callI (j := 148) (args := [.long (x2).toInt64, .long 1, .long 60]) (rest := []) (M := cM148) (ty := .boolean) rfl rfl rfl rfl rfl rfl (by decide) rfl rfl (by decide) ?_).weak
  refine PC.imp h (fun v1 κ1 h r1 hv => ?_)
  have h := h r1 hv
  refine PC.if1 (t := 19) rfl rfl (fun c => ?_) (fun c => ?_)
  · have h := h.1 (cmp_eq.1.mp c)
    refine PC.pr (k := 1) (pc' := 20) (lv' := [(0, .ref a0), (1, .int x1), (2, .int x2), (3, .int x3)]) (st' := [.int (-1)]) rfl ?_
    exact PC.retI rfl h
  · have h := h.2 (cmp_eq.2.mp c)
    refine PC.pr (k := 1) (pc' := 13) (lv' := [(0, .ref a0), (1, .int x1), (2, .int x2), (3, .int x3)]) (st' := [.int x3]) rfl ?_
    refine (PC.callI (j := 208) (args := [.int x3]) (rest := []) (M := cM208) (ty := .boolean) rfl rfl rfl rfl rfl rfl (by decide) rfl rfl (by decide) ?_).weak
    refine PC.imp h (fun v2 κ2 h r2 hv => ?_)
    have h := h r2 hv
    refine PC.if1 (t := 21) rfl rfl (fun c => ?_) (fun c => ?_)
    · have h := h.1 (cmp_ne.1.mp c)
      refine PC.pr (k := 1) (pc' := 22) (lv' := [(0, .ref a0), (1, .int x1), (2, .int x2), (3, .int x3)]) (st' := [.ref a0]) rfl ?_
      refine PC.gI (ci := 9) (j := 3) rfl rfl (by decide) ?_
      refine PC.if1 (t := 35) rfl rfl (fun c => ?_) (fun c => ?_)
      · have h := h.1 (cmp_eq.1.mp c)
        refine PC.pr (k := 1) (pc' := 37) (lv' := [(0, .ref a0), (1, .int x1), (2, .int x2), (3, .int x3)]) (st' := [.int (-2)]) rfl ?_
        exact PC.retI rfl h
      · have h := h.2 (cmp_eq.2.mp c)
        refine PC.pr (k := 1) (pc' := 29) (lv' := [(0, .ref a0), (1, .int x1), (2, .int x2), (3, .int x3)]) (st' := [.ref a0]) rfl ?_
        refine PC.gI (ci := 9) (j := 4) rfl rfl (by decide) ?_
        refine PC.if1 (t := 38) rfl rfl (fun c => ?_) (fun c => ?_)
        · have h := h.1 (cmp_ne.1.mp c)
          refine PC.pr (k := 1) (pc' := 39) (lv' := [(0, .ref a0), (1, .int x1), (2, .int x2), (3, .int x3)]) (st' := [.int x1]) rfl ?_
          refine PC.pr (k := 1) (pc' := 41) (lv' := [(4, .int x1), (0, .ref a0), (1, .int x1), (2, .int x2), (3, .int x3)]) (st' := []) rfl ?_
          refine PC.pr (k := 1) (pc' := 42) (lv' := [(4, .int x1), (0, .ref a0), (1, .int x1), (2, .int x2), (3, .int x3)]) (st' := [.ref a0]) rfl ?_
          refine (PC.callV (j := 168) (args := [.ref a0]) (rest := []) (M := cM168) rfl rfl rfl rfl rfl rfl (by decide) rfl rfl ?_).weak
          refine PC.imp h (fun _ κ3 h => ?_)
          refine PC.pr (k := 1) (pc' := 46) (lv' := [(4, .int x1), (0, .ref a0), (1, .int x1), (2, .int x2), (3, .int x3)]) (st' := [.int 0]) rfl ?_
          refine PC.pr (k := 1) (pc' := 48) (lv' := [(5, .int 0), (4, .int x1), (0, .ref a0), (1, .int x1), (2, .int x2), (3, .int x3)]) (st' := []) rfl ?_
          exact PC.lv (lvE.cons rfl (lvE.cons rfl (lvE.cons rfl (lvE.cons rfl (lvE.cons rfl (lvE.cons rfl (lvE.nil))))))) h
        · have h := h.2 (cmp_ne.2.mp c)
          refine PC.pr (k := 1) (pc' := 37) (lv' := [(0, .ref a0), (1, .int x1), (2, .int x2), (3, .int x3)]) (st' := [.int (-2)]) rfl ?_
          exact PC.retI rfl h
    · have h := h.2 (cmp_ne.2.mp c)
      refine PC.pr (k := 1) (pc' := 20) (lv' := [(0, .ref a0), (1, .int x1), (2, .int x2), (3, .int x3)]) (st' := [.int (-1)]) rfl ?_
      exact PC.retI rfl h
theorem t_229_48 {xl : List Int32} {n : Nat} {ι : IS} {Q : Option Value → IS → Prop} {a0 : Nat} {w1 : Value} {x2 : Int32} {x3 : Int32} {x4 : Int32} {x5 : Int32} {w6 : Value} {w7 : Value} (h : ((¬ x5 < x2 → ((¬ x3 = 0 → PC xl n 171 0 [(0, .ref a0)] [] ι (fun v1 κ1 => ∀ r1, v1 = some (.int r1) → Q (some (.int r1)) κ1)) ∧ (x3 = 0 → PC xl n 193 0 [(0, .ref a0)] [] ι (fun v2 κ2 => ∀ r2, v2 = some (.int r2) → Q (some (.int r2)) κ2)))) ∧ (x5 < x2 → ((¬ (((((x4 * 1103515245) + 12345) >>> ((16 : Int32) &&& 31)) &&& 32767) - ((((x4 * 1103515245) + 12345) >>> ((16 : Int32) &&& 31)) &&& 32767) / 8 * 8) < 5 → PC xl n 203 0 [(0, .ref a0), (1, .int ((90 + (((((x4 * 1103515245) + 12345) >>> ((16 : Int32) &&& 31)) &&& 32767) - ((((x4 * 1103515245) + 12345) >>> ((16 : Int32) &&& 31)) &&& 32767) / 8 * 8)) - 5))] [] ι (fun _ κ3 => PC xl n 229 48 [(0, .ref a0), (1, w1), (2, .int x2), (3, .int x3), (4, .int ((x4 * 1103515245) + 12345)), (5, .int (x5 + 1)), (6, .int ((((x4 * 1103515245) + 12345) >>> ((16 : Int32) &&& 31)) &&& 32767)), (7, .int (((((x4 * 1103515245) + 12345) >>> ((16 : Int32) &&& 31)) &&& 32767) - ((((x4 * 1103515245) + 12345) >>> ((16 : Int32) &&& 31)) &&& 32767) / 8 * 8))] [] κ3 Q)) ∧ ((((((x4 * 1103515245) + 12345) >>> ((16 : Int32) &&& 31)) &&& 32767) - ((((x4 * 1103515245) + 12345) >>> ((16 : Int32) &&& 31)) &&& 32767) / 8 * 8) < 5 → (¬ (ι a0 3) = 0 → (¬ (ι a0 4) = 0 → PC xl n 203 0 [(0, .ref a0), (1, .int ((10 * ((((((x4 * 1103515245) + 12345) >>> ((16 : Int32) &&& 31)) &&& 32767) / 8) - (((((x4 * 1103515245) + 12345) >>> ((16 : Int32) &&& 31)) &&& 32767) / 8) / (ι a0 3) * (ι a0 3))) + ((((((x4 * 1103515245) + 12345) >>> ((16 : Int32) &&& 31)) &&& 32767) / 32) - (((((x4 * 1103515245) + 12345) >>> ((16 : Int32) &&& 31)) &&& 32767) / 32) / (ι a0 4) * (ι a0 4))))] [] ι (fun _ κ4 => PC xl n 229 48 [(0, .ref a0), (1, w1), (2, .int x2), (3, .int x3), (4, .int ((x4 * 1103515245) + 12345)), (5, .int (x5 + 1)), (6, .int ((((x4 * 1103515245) + 12345) >>> ((16 : Int32) &&& 31)) &&& 32767)), (7, .int (((((x4 * 1103515245) + 12345) >>> ((16 : Int32) &&& 31)) &&& 32767) - ((((x4 * 1103515245) + 12345) >>> ((16 : Int32) &&& 31)) &&& 32767) / 8 * 8))] [] κ4 Q)))))))) : PC xl (n + 1) 229 48 [(0, .ref a0), (1, w1), (2, .int x2), (3, .int x3), (4, .int x4), (5, .int x5), (6, w6), (7, w7)] [] ι Q := by
  refine PC.pr1 (k := 0) (pc' := 50) (lv' := [(0, .ref a0), (1, w1), (2, .int x2), (3, .int x3), (4, .int x4), (5, .int x5), (6, w6), (7, w7)]) (st' := [.int x5]) rfl ?_
  refine PC.pr (k := 1) (pc' := 51) (lv' := [(0, .ref a0), (1, w1), (2, .int x2), (3, .int x3), (4, .int x4), (5, .int x5), (6, w6), (7, w7)]) (st' := [.int x2, .int x5]) rfl ?_
  refine PC.if2 (t := 134) rfl rfl (fun c => ?_) (fun c => ?_)
  · have h := h.1 (cmp_ge.1.mp c)
    refine PC.pr (k := 1) (pc' := 135) (lv' := [(0, .ref a0), (1, w1), (2, .int x2), (3, .int x3), (4, .int x4), (5, .int x5), (6, w6), (7, w7)]) (st' := [.int x3]) rfl ?_
    refine PC.if1 (t := 145) rfl rfl (fun c => ?_) (fun c => ?_)
    · have h := h.1 (cmp_ne.1.mp c)
      refine PC.pr (k := 1) (pc' := 146) (lv' := [(0, .ref a0), (1, w1), (2, .int x2), (3, .int x3), (4, .int x4), (5, .int x5), (6, w6), (7, w7)]) (st' := [.ref a0]) rfl ?_
      refine (PC.callI (j := 171) (args := [.ref a0]) (rest := []) (M := cM171) (ty := .int) rfl rfl rfl rfl rfl rfl (by decide) rfl rfl (by decide) ?_).weak
      refine PC.imp h (fun v1 κ1 h r1 hv => ?_)
      have h := h r1 hv
      exact PC.retI rfl h
    · have h := h.2 (cmp_ne.2.mp c)
      refine PC.pr (k := 1) (pc' := 139) (lv' := [(0, .ref a0), (1, w1), (2, .int x2), (3, .int x3), (4, .int x4), (5, .int x5), (6, w6), (7, w7)]) (st' := [.ref a0]) rfl ?_
      refine (PC.callI (j := 193) (args := [.ref a0]) (rest := []) (M := cM193) (ty := .int) rfl rfl rfl rfl rfl rfl (by decide) rfl rfl (by decide) ?_).weak
      refine PC.imp h (fun v2 κ2 h r2 hv => ?_)
      have h := h r2 hv
      refine PC.pr (k := 1) (pc' := 149) (lv' := [(0, .ref a0), (1, w1), (2, .int x2), (3, .int x3), (4, .int x4), (5, .int x5), (6, w6), (7, w7)]) (st' := [.int r2]) rfl ?_
      exact PC.retI rfl h
  · have h := h.2 (cmp_ge.2.mp c)
    refine PC.pr (k := 1) (pc' := 56) (lv' := [(0, .ref a0), (1, w1), (2, .int x2), (3, .int x3), (4, .int x4), (5, .int x5), (6, w6), (7, w7)]) (st' := [.int x4]) rfl ?_
    refine PC.pr (k := 1) (pc' := 59) (lv' := [(0, .ref a0), (1, w1), (2, .int x2), (3, .int x3), (4, .int x4), (5, .int x5), (6, w6), (7, w7)]) (st' := [.int 1103515245, .int x4]) rfl ?_
    refine PC.pr (k := 1) (pc' := 60) (lv' := [(0, .ref a0), (1, w1), (2, .int x2), (3, .int x3), (4, .int x4), (5, .int x5), (6, w6), (7, w7)]) (st' := [.int (x4 * 1103515245)]) rfl ?_
    refine PC.pr (k := 1) (pc' := 63) (lv' := [(0, .ref a0), (1, w1), (2, .int x2), (3, .int x3), (4, .int x4), (5, .int x5), (6, w6), (7, w7)]) (st' := [.int 12345, .int (x4 * 1103515245)]) rfl ?_
    refine PC.pr (k := 1) (pc' := 64) (lv' := [(0, .ref a0), (1, w1), (2, .int x2), (3, .int x3), (4, .int x4), (5, .int x5), (6, w6), (7, w7)]) (st' := [.int ((x4 * 1103515245) + 12345)]) rfl ?_
    refine PC.pr (k := 1) (pc' := 66) (lv' := [(4, .int ((x4 * 1103515245) + 12345)), (0, .ref a0), (1, w1), (2, .int x2), (3, .int x3), (5, .int x5), (6, w6), (7, w7)]) (st' := []) rfl ?_
    refine PC.pr (k := 1) (pc' := 68) (lv' := [(4, .int ((x4 * 1103515245) + 12345)), (0, .ref a0), (1, w1), (2, .int x2), (3, .int x3), (5, .int x5), (6, w6), (7, w7)]) (st' := [.int ((x4 * 1103515245) + 12345)]) rfl ?_
    refine PC.pr (k := 1) (pc' := 70) (lv' := [(4, .int ((x4 * 1103515245) + 12345)), (0, .ref a0), (1, w1), (2, .int x2), (3, .int x3), (5, .int x5), (6, w6), (7, w7)]) (st' := [.int 16, .int ((x4 * 1103515245) + 12345)]) rfl ?_
    refine PC.pr (k := 1) (pc' := 71) (lv' := [(4, .int ((x4 * 1103515245) + 12345)), (0, .ref a0), (1, w1), (2, .int x2), (3, .int x3), (5, .int x5), (6, w6), (7, w7)]) (st' := [.int (((x4 * 1103515245) + 12345) >>> ((16 : Int32) &&& 31))]) rfl ?_
    refine PC.pr (k := 1) (pc' := 74) (lv' := [(4, .int ((x4 * 1103515245) + 12345)), (0, .ref a0), (1, w1), (2, .int x2), (3, .int x3), (5, .int x5), (6, w6), (7, w7)]) (st' := [.int 32767, .int (((x4 * 1103515245) + 12345) >>> ((16 : Int32) &&& 31))]) rfl ?_
    refine PC.pr (k := 1) (pc' := 75) (lv' := [(4, .int ((x4 * 1103515245) + 12345)), (0, .ref a0), (1, w1), (2, .int x2), (3, .int x3), (5, .int x5), (6, w6), (7, w7)]) (st' := [.int ((((x4 * 1103515245) + 12345) >>> ((16 : Int32) &&& 31)) &&& 32767)]) rfl ?_
    refine PC.pr (k := 1) (pc' := 77) (lv' := [(6, .int ((((x4 * 1103515245) + 12345) >>> ((16 : Int32) &&& 31)) &&& 32767)), (4, .int ((x4 * 1103515245) + 12345)), (0, .ref a0), (1, w1), (2, .int x2), (3, .int x3), (5, .int x5), (7, w7)]) (st' := []) rfl ?_
    refine PC.pr (k := 1) (pc' := 79) (lv' := [(6, .int ((((x4 * 1103515245) + 12345) >>> ((16 : Int32) &&& 31)) &&& 32767)), (4, .int ((x4 * 1103515245) + 12345)), (0, .ref a0), (1, w1), (2, .int x2), (3, .int x3), (5, .int x5), (7, w7)]) (st' := [.int ((((x4 * 1103515245) + 12345) >>> ((16 : Int32) &&& 31)) &&& 32767)]) rfl ?_
    refine PC.pr (k := 1) (pc' := 81) (lv' := [(6, .int ((((x4 * 1103515245) + 12345) >>> ((16 : Int32) &&& 31)) &&& 32767)), (4, .int ((x4 * 1103515245) + 12345)), (0, .ref a0), (1, w1), (2, .int x2), (3, .int x3), (5, .int x5), (7, w7)]) (st' := [.int 8, .int ((((x4 * 1103515245) + 12345) >>> ((16 : Int32) &&& 31)) &&& 32767)]) rfl ?_
    refine PC.pr (k := 1) (pc' := 82) (lv' := [(6, .int ((((x4 * 1103515245) + 12345) >>> ((16 : Int32) &&& 31)) &&& 32767)), (4, .int ((x4 * 1103515245) + 12345)), (0, .ref a0), (1, w1), (2, .int x2), (3, .int x3), (5, .int x5), (7, w7)]) (st' := [.int (((((x4 * 1103515245) + 12345) >>> ((16 : Int32) &&& 31)) &&& 32767) - ((((x4 * 1103515245) + 12345) >>> ((16 : Int32) &&& 31)) &&& 32767) / 8 * 8)]) rfl ?_
    refine PC.pr (k := 1) (pc' := 84) (lv' := [(7, .int (((((x4 * 1103515245) + 12345) >>> ((16 : Int32) &&& 31)) &&& 32767) - ((((x4 * 1103515245) + 12345) >>> ((16 : Int32) &&& 31)) &&& 32767) / 8 * 8)), (6, .int ((((x4 * 1103515245) + 12345) >>> ((16 : Int32) &&& 31)) &&& 32767)), (4, .int ((x4 * 1103515245) + 12345)), (0, .ref a0), (1, w1), (2, .int x2), (3, .int x3), (5, .int x5)]) (st' := []) rfl ?_
    refine PC.pr (k := 1) (pc' := 85) (lv' := [(7, .int (((((x4 * 1103515245) + 12345) >>> ((16 : Int32) &&& 31)) &&& 32767) - ((((x4 * 1103515245) + 12345) >>> ((16 : Int32) &&& 31)) &&& 32767) / 8 * 8)), (6, .int ((((x4 * 1103515245) + 12345) >>> ((16 : Int32) &&& 31)) &&& 32767)), (4, .int ((x4 * 1103515245) + 12345)), (0, .ref a0), (1, w1), (2, .int x2), (3, .int x3), (5, .int x5)]) (st' := [.ref a0]) rfl ?_
    refine PC.pr (k := 1) (pc' := 87) (lv' := [(7, .int (((((x4 * 1103515245) + 12345) >>> ((16 : Int32) &&& 31)) &&& 32767) - ((((x4 * 1103515245) + 12345) >>> ((16 : Int32) &&& 31)) &&& 32767) / 8 * 8)), (6, .int ((((x4 * 1103515245) + 12345) >>> ((16 : Int32) &&& 31)) &&& 32767)), (4, .int ((x4 * 1103515245) + 12345)), (0, .ref a0), (1, w1), (2, .int x2), (3, .int x3), (5, .int x5)]) (st' := [.int (((((x4 * 1103515245) + 12345) >>> ((16 : Int32) &&& 31)) &&& 32767) - ((((x4 * 1103515245) + 12345) >>> ((16 : Int32) &&& 31)) &&& 32767) / 8 * 8), .ref a0]) rfl ?_
    refine PC.pr (k := 1) (pc' := 88) (lv' := [(7, .int (((((x4 * 1103515245) + 12345) >>> ((16 : Int32) &&& 31)) &&& 32767) - ((((x4 * 1103515245) + 12345) >>> ((16 : Int32) &&& 31)) &&& 32767) / 8 * 8)), (6, .int ((((x4 * 1103515245) + 12345) >>> ((16 : Int32) &&& 31)) &&& 32767)), (4, .int ((x4 * 1103515245) + 12345)), (0, .ref a0), (1, w1), (2, .int x2), (3, .int x3), (5, .int x5)]) (st' := [.int 5, .int (((((x4 * 1103515245) + 12345) >>> ((16 : Int32) &&& 31)) &&& 32767) - ((((x4 * 1103515245) + 12345) >>> ((16 : Int32) &&& 31)) &&& 32767) / 8 * 8), .ref a0]) rfl ?_
    refine PC.if2 (t := 118) rfl rfl (fun c => ?_) (fun c => ?_)
    · have h := h.1 (cmp_ge.1.mp c)
      refine PC.pr (k := 1) (pc' := 120) (lv' := [(7, .int (((((x4 * 1103515245) + 12345) >>> ((16 : Int32) &&& 31)) &&& 32767) - ((((x4 * 1103515245) + 12345) >>> ((16 : Int32) &&& 31)) &&& 32767) / 8 * 8)), (6, .int ((((x4 * 1103515245) + 12345) >>> ((16 : Int32) &&& 31)) &&& 32767)), (4, .int ((x4 * 1103515245) + 12345)), (0, .ref a0), (1, w1), (2, .int x2), (3, .int x3), (5, .int x5)]) (st' := [.int 90, .ref a0]) rfl ?_
      refine PC.pr (k := 1) (pc' := 122) (lv' := [(7, .int (((((x4 * 1103515245) + 12345) >>> ((16 : Int32) &&& 31)) &&& 32767) - ((((x4 * 1103515245) + 12345) >>> ((16 : Int32) &&& 31)) &&& 32767) / 8 * 8)), (6, .int ((((x4 * 1103515245) + 12345) >>> ((16 : Int32) &&& 31)) &&& 32767)), (4, .int ((x4 * 1103515245) + 12345)), (0, .ref a0), (1, w1), (2, .int x2), (3, .int x3), (5, .int x5)]) (st' := [.int (((((x4 * 1103515245) + 12345) >>> ((16 : Int32) &&& 31)) &&& 32767) - ((((x4 * 1103515245) + 12345) >>> ((16 : Int32) &&& 31)) &&& 32767) / 8 * 8), .int 90, .ref a0]) rfl ?_
      refine PC.pr (k := 1) (pc' := 123) (lv' := [(7, .int (((((x4 * 1103515245) + 12345) >>> ((16 : Int32) &&& 31)) &&& 32767) - ((((x4 * 1103515245) + 12345) >>> ((16 : Int32) &&& 31)) &&& 32767) / 8 * 8)), (6, .int ((((x4 * 1103515245) + 12345) >>> ((16 : Int32) &&& 31)) &&& 32767)), (4, .int ((x4 * 1103515245) + 12345)), (0, .ref a0), (1, w1), (2, .int x2), (3, .int x3), (5, .int x5)]) (st' := [.int (90 + (((((x4 * 1103515245) + 12345) >>> ((16 : Int32) &&& 31)) &&& 32767) - ((((x4 * 1103515245) + 12345) >>> ((16 : Int32) &&& 31)) &&& 32767) / 8 * 8)), .ref a0]) rfl ?_
      refine PC.pr (k := 1) (pc' := 124) (lv' := [(7, .int (((((x4 * 1103515245) + 12345) >>> ((16 : Int32) &&& 31)) &&& 32767) - ((((x4 * 1103515245) + 12345) >>> ((16 : Int32) &&& 31)) &&& 32767) / 8 * 8)), (6, .int ((((x4 * 1103515245) + 12345) >>> ((16 : Int32) &&& 31)) &&& 32767)), (4, .int ((x4 * 1103515245) + 12345)), (0, .ref a0), (1, w1), (2, .int x2), (3, .int x3), (5, .int x5)]) (st' := [.int 5, .int (90 + (((((x4 * 1103515245) + 12345) >>> ((16 : Int32) &&& 31)) &&& 32767) - ((((x4 * 1103515245) + 12345) >>> ((16 : Int32) &&& 31)) &&& 32767) / 8 * 8)), .ref a0]) rfl ?_
      refine PC.pr (k := 1) (pc' := 125) (lv' := [(7, .int (((((x4 * 1103515245) + 12345) >>> ((16 : Int32) &&& 31)) &&& 32767) - ((((x4 * 1103515245) + 12345) >>> ((16 : Int32) &&& 31)) &&& 32767) / 8 * 8)), (6, .int ((((x4 * 1103515245) + 12345) >>> ((16 : Int32) &&& 31)) &&& 32767)), (4, .int ((x4 * 1103515245) + 12345)), (0, .ref a0), (1, w1), (2, .int x2), (3, .int x3), (5, .int x5)]) (st' := [.int ((90 + (((((x4 * 1103515245) + 12345) >>> ((16 : Int32) &&& 31)) &&& 32767) - ((((x4 * 1103515245) + 12345) >>> ((16 : Int32) &&& 31)) &&& 32767) / 8 * 8)) - 5), .ref a0]) rfl ?_
      refine (PC.callV (j := 203) (args := [.ref a0, .int ((90 + (((((x4 * 1103515245) + 12345) >>> ((16 : Int32) &&& 31)) &&& 32767) - ((((x4 * 1103515245) + 12345) >>> ((16 : Int32) &&& 31)) &&& 32767) / 8 * 8)) - 5)]) (rest := []) (M := cM203) rfl rfl rfl rfl rfl rfl (by decide) rfl rfl ?_).weak
      refine PC.imp h (fun _ κ3 h => ?_)
      refine PC.pr (k := 1) (pc' := 131) (lv' := [(5, .int (x5 + 1)), (7, .int (((((x4 * 1103515245) + 12345) >>> ((16 : Int32) &&& 31)) &&& 32767) - ((((x4 * 1103515245) + 12345) >>> ((16 : Int32) &&& 31)) &&& 32767) / 8 * 8)), (6, .int ((((x4 * 1103515245) + 12345) >>> ((16 : Int32) &&& 31)) &&& 32767)), (4, .int ((x4 * 1103515245) + 12345)), (0, .ref a0), (1, w1), (2, .int x2), (3, .int x3)]) (st' := []) rfl ?_
      refine PC.pr (k := 1) (pc' := 48) (lv' := [(5, .int (x5 + 1)), (7, .int (((((x4 * 1103515245) + 12345) >>> ((16 : Int32) &&& 31)) &&& 32767) - ((((x4 * 1103515245) + 12345) >>> ((16 : Int32) &&& 31)) &&& 32767) / 8 * 8)), (6, .int ((((x4 * 1103515245) + 12345) >>> ((16 : Int32) &&& 31)) &&& 32767)), (4, .int ((x4 * 1103515245) + 12345)), (0, .ref a0), (1, w1), (2, .int x2), (3, .int x3)]) (st' := []) rfl ?_
      exact PC.lv (lvE.cons rfl (lvE.cons rfl (lvE.cons rfl (lvE.cons rfl (lvE.cons rfl (lvE.cons rfl (lvE.cons rfl (lvE.cons rfl (lvE.nil))))))))) h
    · have h := h.2 (cmp_ge.2.mp c)
      refine PC.pr (k := 1) (pc' := 93) (lv' := [(7, .int (((((x4 * 1103515245) + 12345) >>> ((16 : Int32) &&& 31)) &&& 32767) - ((((x4 * 1103515245) + 12345) >>> ((16 : Int32) &&& 31)) &&& 32767) / 8 * 8)), (6, .int ((((x4 * 1103515245) + 12345) >>> ((16 : Int32) &&& 31)) &&& 32767)), (4, .int ((x4 * 1103515245) + 12345)), (0, .ref a0), (1, w1), (2, .int x2), (3, .int x3), (5, .int x5)]) (st' := [.int 10, .ref a0]) rfl ?_
      refine PC.pr (k := 1) (pc' := 95) (lv' := [(7, .int (((((x4 * 1103515245) + 12345) >>> ((16 : Int32) &&& 31)) &&& 32767) - ((((x4 * 1103515245) + 12345) >>> ((16 : Int32) &&& 31)) &&& 32767) / 8 * 8)), (6, .int ((((x4 * 1103515245) + 12345) >>> ((16 : Int32) &&& 31)) &&& 32767)), (4, .int ((x4 * 1103515245) + 12345)), (0, .ref a0), (1, w1), (2, .int x2), (3, .int x3), (5, .int x5)]) (st' := [.int ((((x4 * 1103515245) + 12345) >>> ((16 : Int32) &&& 31)) &&& 32767), .int 10, .ref a0]) rfl ?_
      refine PC.pr (k := 1) (pc' := 97) (lv' := [(7, .int (((((x4 * 1103515245) + 12345) >>> ((16 : Int32) &&& 31)) &&& 32767) - ((((x4 * 1103515245) + 12345) >>> ((16 : Int32) &&& 31)) &&& 32767) / 8 * 8)), (6, .int ((((x4 * 1103515245) + 12345) >>> ((16 : Int32) &&& 31)) &&& 32767)), (4, .int ((x4 * 1103515245) + 12345)), (0, .ref a0), (1, w1), (2, .int x2), (3, .int x3), (5, .int x5)]) (st' := [.int 8, .int ((((x4 * 1103515245) + 12345) >>> ((16 : Int32) &&& 31)) &&& 32767), .int 10, .ref a0]) rfl ?_
      refine PC.pr (k := 1) (pc' := 98) (lv' := [(7, .int (((((x4 * 1103515245) + 12345) >>> ((16 : Int32) &&& 31)) &&& 32767) - ((((x4 * 1103515245) + 12345) >>> ((16 : Int32) &&& 31)) &&& 32767) / 8 * 8)), (6, .int ((((x4 * 1103515245) + 12345) >>> ((16 : Int32) &&& 31)) &&& 32767)), (4, .int ((x4 * 1103515245) + 12345)), (0, .ref a0), (1, w1), (2, .int x2), (3, .int x3), (5, .int x5)]) (st' := [.int (((((x4 * 1103515245) + 12345) >>> ((16 : Int32) &&& 31)) &&& 32767) / 8), .int 10, .ref a0]) rfl ?_
      refine PC.pr (k := 1) (pc' := 99) (lv' := [(7, .int (((((x4 * 1103515245) + 12345) >>> ((16 : Int32) &&& 31)) &&& 32767) - ((((x4 * 1103515245) + 12345) >>> ((16 : Int32) &&& 31)) &&& 32767) / 8 * 8)), (6, .int ((((x4 * 1103515245) + 12345) >>> ((16 : Int32) &&& 31)) &&& 32767)), (4, .int ((x4 * 1103515245) + 12345)), (0, .ref a0), (1, w1), (2, .int x2), (3, .int x3), (5, .int x5)]) (st' := [.ref a0, .int (((((x4 * 1103515245) + 12345) >>> ((16 : Int32) &&& 31)) &&& 32767) / 8), .int 10, .ref a0]) rfl ?_
      refine PC.gI (ci := 9) (j := 3) rfl rfl (by decide) ?_
      refine PC.irm rfl (fun c1 => ?_)
      have h := h c1
      refine PC.pr (k := 1) (pc' := 104) (lv' := [(7, .int (((((x4 * 1103515245) + 12345) >>> ((16 : Int32) &&& 31)) &&& 32767) - ((((x4 * 1103515245) + 12345) >>> ((16 : Int32) &&& 31)) &&& 32767) / 8 * 8)), (6, .int ((((x4 * 1103515245) + 12345) >>> ((16 : Int32) &&& 31)) &&& 32767)), (4, .int ((x4 * 1103515245) + 12345)), (0, .ref a0), (1, w1), (2, .int x2), (3, .int x3), (5, .int x5)]) (st' := [.int (10 * ((((((x4 * 1103515245) + 12345) >>> ((16 : Int32) &&& 31)) &&& 32767) / 8) - (((((x4 * 1103515245) + 12345) >>> ((16 : Int32) &&& 31)) &&& 32767) / 8) / (ι a0 3) * (ι a0 3))), .ref a0]) rfl ?_
      refine PC.pr (k := 1) (pc' := 106) (lv' := [(7, .int (((((x4 * 1103515245) + 12345) >>> ((16 : Int32) &&& 31)) &&& 32767) - ((((x4 * 1103515245) + 12345) >>> ((16 : Int32) &&& 31)) &&& 32767) / 8 * 8)), (6, .int ((((x4 * 1103515245) + 12345) >>> ((16 : Int32) &&& 31)) &&& 32767)), (4, .int ((x4 * 1103515245) + 12345)), (0, .ref a0), (1, w1), (2, .int x2), (3, .int x3), (5, .int x5)]) (st' := [.int ((((x4 * 1103515245) + 12345) >>> ((16 : Int32) &&& 31)) &&& 32767), .int (10 * ((((((x4 * 1103515245) + 12345) >>> ((16 : Int32) &&& 31)) &&& 32767) / 8) - (((((x4 * 1103515245) + 12345) >>> ((16 : Int32) &&& 31)) &&& 32767) / 8) / (ι a0 3) * (ι a0 3))), .ref a0]) rfl ?_
      refine PC.pr (k := 1) (pc' := 108) (lv' := [(7, .int (((((x4 * 1103515245) + 12345) >>> ((16 : Int32) &&& 31)) &&& 32767) - ((((x4 * 1103515245) + 12345) >>> ((16 : Int32) &&& 31)) &&& 32767) / 8 * 8)), (6, .int ((((x4 * 1103515245) + 12345) >>> ((16 : Int32) &&& 31)) &&& 32767)), (4, .int ((x4 * 1103515245) + 12345)), (0, .ref a0), (1, w1), (2, .int x2), (3, .int x3), (5, .int x5)]) (st' := [.int 32, .int ((((x4 * 1103515245) + 12345) >>> ((16 : Int32) &&& 31)) &&& 32767), .int (10 * ((((((x4 * 1103515245) + 12345) >>> ((16 : Int32) &&& 31)) &&& 32767) / 8) - (((((x4 * 1103515245) + 12345) >>> ((16 : Int32) &&& 31)) &&& 32767) / 8) / (ι a0 3) * (ι a0 3))), .ref a0]) rfl ?_
      refine PC.pr (k := 1) (pc' := 109) (lv' := [(7, .int (((((x4 * 1103515245) + 12345) >>> ((16 : Int32) &&& 31)) &&& 32767) - ((((x4 * 1103515245) + 12345) >>> ((16 : Int32) &&& 31)) &&& 32767) / 8 * 8)), (6, .int ((((x4 * 1103515245) + 12345) >>> ((16 : Int32) &&& 31)) &&& 32767)), (4, .int ((x4 * 1103515245) + 12345)), (0, .ref a0), (1, w1), (2, .int x2), (3, .int x3), (5, .int x5)]) (st' := [.int (((((x4 * 1103515245) + 12345) >>> ((16 : Int32) &&& 31)) &&& 32767) / 32), .int (10 * ((((((x4 * 1103515245) + 12345) >>> ((16 : Int32) &&& 31)) &&& 32767) / 8) - (((((x4 * 1103515245) + 12345) >>> ((16 : Int32) &&& 31)) &&& 32767) / 8) / (ι a0 3) * (ι a0 3))), .ref a0]) rfl ?_
      refine PC.pr (k := 1) (pc' := 110) (lv' := [(7, .int (((((x4 * 1103515245) + 12345) >>> ((16 : Int32) &&& 31)) &&& 32767) - ((((x4 * 1103515245) + 12345) >>> ((16 : Int32) &&& 31)) &&& 32767) / 8 * 8)), (6, .int ((((x4 * 1103515245) + 12345) >>> ((16 : Int32) &&& 31)) &&& 32767)), (4, .int ((x4 * 1103515245) + 12345)), (0, .ref a0), (1, w1), (2, .int x2), (3, .int x3), (5, .int x5)]) (st' := [.ref a0, .int (((((x4 * 1103515245) + 12345) >>> ((16 : Int32) &&& 31)) &&& 32767) / 32), .int (10 * ((((((x4 * 1103515245) + 12345) >>> ((16 : Int32) &&& 31)) &&& 32767) / 8) - (((((x4 * 1103515245) + 12345) >>> ((16 : Int32) &&& 31)) &&& 32767) / 8) / (ι a0 3) * (ι a0 3))), .ref a0]) rfl ?_
      refine PC.gI (ci := 9) (j := 4) rfl rfl (by decide) ?_
      refine PC.irm rfl (fun c1 => ?_)
      have h := h c1
      refine PC.pr (k := 1) (pc' := 115) (lv' := [(7, .int (((((x4 * 1103515245) + 12345) >>> ((16 : Int32) &&& 31)) &&& 32767) - ((((x4 * 1103515245) + 12345) >>> ((16 : Int32) &&& 31)) &&& 32767) / 8 * 8)), (6, .int ((((x4 * 1103515245) + 12345) >>> ((16 : Int32) &&& 31)) &&& 32767)), (4, .int ((x4 * 1103515245) + 12345)), (0, .ref a0), (1, w1), (2, .int x2), (3, .int x3), (5, .int x5)]) (st' := [.int ((10 * ((((((x4 * 1103515245) + 12345) >>> ((16 : Int32) &&& 31)) &&& 32767) / 8) - (((((x4 * 1103515245) + 12345) >>> ((16 : Int32) &&& 31)) &&& 32767) / 8) / (ι a0 3) * (ι a0 3))) + ((((((x4 * 1103515245) + 12345) >>> ((16 : Int32) &&& 31)) &&& 32767) / 32) - (((((x4 * 1103515245) + 12345) >>> ((16 : Int32) &&& 31)) &&& 32767) / 32) / (ι a0 4) * (ι a0 4))), .ref a0]) rfl ?_
      refine PC.pr (k := 1) (pc' := 125) (lv' := [(7, .int (((((x4 * 1103515245) + 12345) >>> ((16 : Int32) &&& 31)) &&& 32767) - ((((x4 * 1103515245) + 12345) >>> ((16 : Int32) &&& 31)) &&& 32767) / 8 * 8)), (6, .int ((((x4 * 1103515245) + 12345) >>> ((16 : Int32) &&& 31)) &&& 32767)), (4, .int ((x4 * 1103515245) + 12345)), (0, .ref a0), (1, w1), (2, .int x2), (3, .int x3), (5, .int x5)]) (st' := [.int ((10 * ((((((x4 * 1103515245) + 12345) >>> ((16 : Int32) &&& 31)) &&& 32767) / 8) - (((((x4 * 1103515245) + 12345) >>> ((16 : Int32) &&& 31)) &&& 32767) / 8) / (ι a0 3) * (ι a0 3))) + ((((((x4 * 1103515245) + 12345) >>> ((16 : Int32) &&& 31)) &&& 32767) / 32) - (((((x4 * 1103515245) + 12345) >>> ((16 : Int32) &&& 31)) &&& 32767) / 32) / (ι a0 4) * (ι a0 4))), .ref a0]) rfl ?_
      refine (PC.callV (j := 203) (args := [.ref a0, .int ((10 * ((((((x4 * 1103515245) + 12345) >>> ((16 : Int32) &&& 31)) &&& 32767) / 8) - (((((x4 * 1103515245) + 12345) >>> ((16 : Int32) &&& 31)) &&& 32767) / 8) / (ι a0 3) * (ι a0 3))) + ((((((x4 * 1103515245) + 12345) >>> ((16 : Int32) &&& 31)) &&& 32767) / 32) - (((((x4 * 1103515245) + 12345) >>> ((16 : Int32) &&& 31)) &&& 32767) / 32) / (ι a0 4) * (ι a0 4)))]) (rest := []) (M := cM203) rfl rfl rfl rfl rfl rfl (by decide) rfl rfl ?_).weak
      refine PC.imp h (fun _ κ4 h => ?_)
      refine PC.pr (k := 1) (pc' := 131) (lv' := [(5, .int (x5 + 1)), (7, .int (((((x4 * 1103515245) + 12345) >>> ((16 : Int32) &&& 31)) &&& 32767) - ((((x4 * 1103515245) + 12345) >>> ((16 : Int32) &&& 31)) &&& 32767) / 8 * 8)), (6, .int ((((x4 * 1103515245) + 12345) >>> ((16 : Int32) &&& 31)) &&& 32767)), (4, .int ((x4 * 1103515245) + 12345)), (0, .ref a0), (1, w1), (2, .int x2), (3, .int x3)]) (st' := []) rfl ?_
      refine PC.pr (k := 1) (pc' := 48) (lv' := [(5, .int (x5 + 1)), (7, .int (((((x4 * 1103515245) + 12345) >>> ((16 : Int32) &&& 31)) &&& 32767) - ((((x4 * 1103515245) + 12345) >>> ((16 : Int32) &&& 31)) &&& 32767) / 8 * 8)), (6, .int ((((x4 * 1103515245) + 12345) >>> ((16 : Int32) &&& 31)) &&& 32767)), (4, .int ((x4 * 1103515245) + 12345)), (0, .ref a0), (1, w1), (2, .int x2), (3, .int x3)]) (st' := []) rfl ?_
      exact PC.lv (lvE.cons rfl (lvE.cons rfl (lvE.cons rfl (lvE.cons rfl (lvE.cons rfl (lvE.cons rfl (lvE.cons rfl (lvE.cons rfl (lvE.nil))))))))) h

