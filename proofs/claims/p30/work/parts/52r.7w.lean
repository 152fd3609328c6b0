/-! WHAT RUNS ASK (written by a program) -/
/-- DoorPaints$Told.visitsPlanned()I -/
theorem t_122_0 {xl : List Int32} {n : Nat} {ι : IS} {Q : Option Value → IS → Prop} {a0 : Nat} (h : PC xl n 122 4 [(0, .ref a0), (1, .int 0), (2, .int 0)] [] ι Q) : PC xl (n + 1) 122 0 [(0, .ref a0)] [] ι Q := by
  refine PC.pr1 (k := 0) (pc' := 1) (lv' := [(0, .ref a0)]) (st' := [.int 0]) rfl ?_
  refine PC.pr (k := 1) (pc' := 2) (lv' := [(1, .int 0), (0, .ref a0)]) (st' := []) rfl ?_
  refine PC.pr (k := 1) (pc' := 3) (lv' := [(1, .int 0), (0, .ref a0)]) (st' := [.int 0]) rfl ?_
  refine PC.pr (k := 1) (pc' := 4) (lv' := [(2, .int 0), (1, .int 0), (0, .ref a0)]) (st' := []) rfl ?_
  exact PC.lv (lvE.cons rfl (lvE.cons rfl (lvE.cons rfl (lvE.nil)))) h
theorem t_122_4 {xl : List Int32} {n : Nat} {ι : IS} {Q : Option Value → IS → Prop} {a0 : Nat} {x1 : Int32} {x2 : Int32} (h : ((¬ x2 < (ι a0 2) → Q (some (.int x1)) ι) ∧ (x2 < (ι a0 2) → (0 ≤ x2.toInt → x2.toInt < ln (rf a0 1) → PC xl n 42 0 [(0, .int (ι (rf a0 1) x2.toNatClampNeg))] [] ι (fun v1 κ1 => ∀ r1, v1 = some (.int r1) → ((r1 = 0 → PC xl n 122 4 [(0, .ref a0), (1, .int (x1 + 1)), (2, .int (x2 + 1))] [] κ1 Q) ∧ (¬ r1 = 0 → PC xl n 122 4 [(0, .ref a0), (1, .int (x1 + 0)), (2, .int (x2 + 1))] [] κ1 Q))))))) : PC xl (n + 1) 122 4 [(0, .ref a0), (1, .int x1), (2, .int x2)] [] ι Q := by
  refine PC.pr1 (k := 0) (pc' := 5) (lv' := [(0, .ref a0), (1, .int x1), (2, .int x2)]) (st' := [.int x2]) rfl ?_
  refine PC.pr (k := 1) (pc' := 6) (lv' := [(0, .ref a0), (1, .int x1), (2, .int x2)]) (st' := [.ref a0, .int x2]) rfl ?_
  refine PC.gI (ci := 2) (j := 2) rfl rfl (by decide) ?_
  refine PC.if2 (t := 38) rfl rfl (fun c => ?_) (fun c => ?_)
  · have h := h.1 (cmp_ge.1.mp c)
    refine PC.pr (k := 1) (pc' := 39) (lv' := [(0, .ref a0), (1, .int x1), (2, .int x2)]) (st' := [.int x1]) rfl ?_
    exact PC.retI rfl h
  · have h := h.2 (cmp_ge.2.mp c)
    refine PC.pr (k := 1) (pc' := 13) (lv' := [(0, .ref a0), (1, .int x1), (2, .int x2)]) (st' := [.int x1]) rfl ?_
    refine PC.pr (k := 1) (pc' := 14) (lv' := [(0, .ref a0), (1, .int x1), (2, .int x2)]) (st' := [.ref a0, .int x1]) rfl ?_
    refine PC.gR (ci := 2) (j := 1) rfl rfl (by decide) ?_
    refine PC.pr (k := 1) (pc' := 18) (lv' := [(0, .ref a0), (1, .int x1), (2, .int x2)]) (st' := [.int x2, .ref (rf a0 1), .int x1]) rfl ?_
    refine PC.rd rfl (rf_lt _ _) (fun c1 c2 => ?_)
    have h := h c1 c2
    refine (PC.callI (j := 42) (args := [.int (ι (rf a0 1) x2.toNatClampNeg)]) (rest := [.int x1]) (M := cM42) (ty := .boolean) rfl rfl rfl rfl rfl rfl (by decide) rfl rfl (by decide) ?_).weak
    refine PC.imp h (fun v1 κ1 h r1 hv => ?_)
    have h := h r1 hv
    refine PC.if1 (t := 29) rfl rfl (fun c => ?_) (fun c => ?_)
    · have h := h.1 (cmp_eq.1.mp c)
      refine PC.pr (k := 1) (pc' := 30) (lv' := [(0, .ref a0), (1, .int x1), (2, .int x2)]) (st' := [.int 1, .int x1]) rfl ?_
      refine PC.pr (k := 1) (pc' := 31) (lv' := [(0, .ref a0), (1, .int x1), (2, .int x2)]) (st' := [.int (x1 + 1)]) rfl ?_
      refine PC.pr (k := 1) (pc' := 32) (lv' := [(1, .int (x1 + 1)), (0, .ref a0), (2, .int x2)]) (st' := []) rfl ?_
      refine PC.pr (k := 1) (pc' := 35) (lv' := [(2, .int (x2 + 1)), (1, .int (x1 + 1)), (0, .ref a0)]) (st' := []) rfl ?_
      refine PC.pr (k := 1) (pc' := 4) (lv' := [(2, .int (x2 + 1)), (1, .int (x1 + 1)), (0, .ref a0)]) (st' := []) rfl ?_
      exact PC.lv (lvE.cons rfl (lvE.cons rfl (lvE.cons rfl (lvE.nil)))) h
    · have h := h.2 (cmp_eq.2.mp c)
      refine PC.pr (k := 1) (pc' := 26) (lv' := [(0, .ref a0), (1, .int x1), (2, .int x2)]) (st' := [.int 0, .int x1]) rfl ?_
      refine PC.pr (k := 1) (pc' := 30) (lv' := [(0, .ref a0), (1, .int x1), (2, .int x2)]) (st' := [.int 0, .int x1]) rfl ?_
      refine PC.pr (k := 1) (pc' := 31) (lv' := [(0, .ref a0), (1, .int x1), (2, .int x2)]) (st' := [.int (x1 + 0)]) rfl ?_
      refine PC.pr (k := 1) (pc' := 32) (lv' := [(1, .int (x1 + 0)), (0, .ref a0), (2, .int x2)]) (st' := []) rfl ?_
      refine PC.pr (k := 1) (pc' := 35) (lv' := [(2, .int (x2 + 1)), (1, .int (x1 + 0)), (0, .ref a0)]) (st' := []) rfl ?_
      refine PC.pr (k := 1) (pc' := 4) (lv' := [(2, .int (x2 + 1)), (1, .int (x1 + 0)), (0, .ref a0)]) (st' := []) rfl ?_
      exact PC.lv (lvE.cons rfl (lvE.cons rfl (lvE.cons rfl (lvE.nil)))) h

/-- DoorPaints.weightOf(III)J -/
theorem t_123_0 {xl : List Int32} {n : Nat} {ι : IS} {Q : Option Value → IS → Prop} {x0 : Int32} {x1 : Int32} {x2 : Int32} (h : PC xl n 123 5 [(0, .int x0), (1, .int x1), (2, .int x2), (3, .long 1), (5, .int 0)] [] ι Q) : PC xl (n + 1) 123 0 [(0, .int x0), (1, .int x1), (2, .int x2)] [] ι Q := by
  refine PC.pr1 (k := 0) (pc' := 1) (lv' := [(0, .int x0), (1, .int x1), (2, .int x2)]) (st' := [.long 1]) rfl ?_
  refine PC.pr (k := 1) (pc' := 2) (lv' := [(3, .long 1), (0, .int x0), (1, .int x1), (2, .int x2)]) (st' := []) rfl ?_
  refine PC.pr (k := 1) (pc' := 3) (lv' := [(3, .long 1), (0, .int x0), (1, .int x1), (2, .int x2)]) (st' := [.int 0]) rfl ?_
  refine PC.pr (k := 1) (pc' := 5) (lv' := [(5, .int 0), (3, .long 1), (0, .int x0), (1, .int x1), (2, .int x2)]) (st' := []) rfl ?_
  exact PC.lv (lvE.cons rfl (lvE.cons rfl (lvE.cons rfl (lvE.cons rfl (lvE.cons rfl (lvE.nil)))))) h
theorem t_123_5 {xl : List Int32} {n : Nat} {ι : IS} {Q : Option Value → IS → Prop} {x0 : Int32} {x1 : Int32} {x2 : Int32} {y3 : Int64} {x5 : Int32} (h : ((¬ x5 < x1 → Q (some (.long y3)) ι) ∧ (x5 < x1 → ((¬ ((x0 >>> (x5 &&& 31)) &&& 1) = 1 → PC xl n 123 5 [(0, .int x0), (1, .int x1), (2, .int x2), (3, .long (y3 * ((10 - x2)).toInt64)), (5, .int (x5 + 1))] [] ι Q) ∧ (((x0 >>> (x5 &&& 31)) &&& 1) = 1 → PC xl n 123 5 [(0, .int x0), (1, .int x1), (2, .int x2), (3, .long (y3 * (x2).toInt64)), (5, .int (x5 + 1))] [] ι Q))))) : PC xl (n + 1) 123 5 [(0, .int x0), (1, .int x1), (2, .int x2), (3, .long y3), (5, .int x5)] [] ι Q := by
  refine PC.pr1 (k := 0) (pc' := 7) (lv' := [(0, .int x0), (1, .int x1), (2, .int x2), (3, .long y3), (5, .int x5)]) (st' := [.int x5]) rfl ?_
  refine PC.pr (k := 1) (pc' := 8) (lv' := [(0, .int x0), (1, .int x1), (2, .int x2), (3, .long y3), (5, .int x5)]) (st' := [.int x1, .int x5]) rfl ?_
  refine PC.if2 (t := 40) rfl rfl (fun c => ?_) (fun c => ?_)
  · have h := h.1 (cmp_ge.1.mp c)
    refine PC.pr (k := 1) (pc' := 41) (lv' := [(0, .int x0), (1, .int x1), (2, .int x2), (3, .long y3), (5, .int x5)]) (st' := [.long y3]) rfl ?_
    exact PC.retJ rfl h
  · have h := h.2 (cmp_ge.2.mp c)
    refine PC.pr (k := 1) (pc' := 12) (lv' := [(0, .int x0), (1, .int x1), (2, .int x2), (3, .long y3), (5, .int x5)]) (st' := [.long y3]) rfl ?_
    refine PC.pr (k := 1) (pc' := 13) (lv' := [(0, .int x0), (1, .int x1), (2, .int x2), (3, .long y3), (5, .int x5)]) (st' := [.int x0, .long y3]) rfl ?_
    refine PC.pr (k := 1) (pc' := 15) (lv' := [(0, .int x0), (1, .int x1), (2, .int x2), (3, .long y3), (5, .int x5)]) (st' := [.int x5, .int x0, .long y3]) rfl ?_
    refine PC.pr (k := 1) (pc' := 16) (lv' := [(0, .int x0), (1, .int x1), (2, .int x2), (3, .long y3), (5, .int x5)]) (st' := [.int (x0 >>> (x5 &&& 31)), .long y3]) rfl ?_
    refine PC.pr (k := 1) (pc' := 17) (lv' := [(0, .int x0), (1, .int x1), (2, .int x2), (3, .long y3), (5, .int x5)]) (st' := [.int 1, .int (x0 >>> (x5 &&& 31)), .long y3]) rfl ?_
    refine PC.pr (k := 1) (pc' := 18) (lv' := [(0, .int x0), (1, .int x1), (2, .int x2), (3, .long y3), (5, .int x5)]) (st' := [.int ((x0 >>> (x5 &&& 31)) &&& 1), .long y3]) rfl ?_
    refine PC.pr (k := 1) (pc' := 19) (lv' := [(0, .int x0), (1, .int x1), (2, .int x2), (3, .long y3), (5, .int x5)]) (st' := [.int 1, .int ((x0 >>> (x5 &&& 31)) &&& 1), .long y3]) rfl ?_
    refine PC.if2 (t := 27) rfl rfl (fun c => ?_) (fun c => ?_)
    · have h := h.1 (cmp_ne.1.mp c)
      refine PC.pr (k := 1) (pc' := 29) (lv' := [(0, .int x0), (1, .int x1), (2, .int x2), (3, .long y3), (5, .int x5)]) (st' := [.int 10, .long y3]) rfl ?_
      refine PC.pr (k := 1) (pc' := 30) (lv' := [(0, .int x0), (1, .int x1), (2, .int x2), (3, .long y3), (5, .int x5)]) (st' := [.int x2, .int 10, .long y3]) rfl ?_
      refine PC.pr (k := 1) (pc' := 31) (lv' := [(0, .int x0), (1, .int x1), (2, .int x2), (3, .long y3), (5, .int x5)]) (st' := [.int (10 - x2), .long y3]) rfl ?_
      refine PC.pr (k := 1) (pc' := 32) (lv' := [(0, .int x0), (1, .int x1), (2, .int x2), (3, .long y3), (5, .int x5)]) (st' := [.long ((10 - x2)).toInt64, .long y3]) rfl ?_
      refine PC.pr (k := 1) (pc' := 33) (lv' := [(0, .int x0), (1, .int x1), (2, .int x2), (3, .long y3), (5, .int x5)]) (st' := [.long (y3 * ((10 - x2)).toInt64)]) rfl ?_
      refine PC.pr (k := 1) (pc' := 34) (lv' := [(3, .long (y3 * ((10 - x2)).toInt64)), (0, .int x0), (1, .int x1), (2, .int x2), (5, .int x5)]) (st' := []) rfl ?_
      refine PC.pr (k := 1) (pc' := 37) (lv' := [(5, .int (x5 + 1)), (3, .long (y3 * ((10 - x2)).toInt64)), (0, .int x0), (1, .int x1), (2, .int x2)]) (st' := []) rfl ?_
      refine PC.pr (k := 1) (pc' := 5) (lv' := [(5, .int (x5 + 1)), (3, .long (y3 * ((10 - x2)).toInt64)), (0, .int x0), (1, .int x1), (2, .int x2)]) (st' := []) rfl ?_
      exact PC.lv (lvE.cons rfl (lvE.cons rfl (lvE.cons rfl (lvE.cons rfl (lvE.cons rfl (lvE.nil)))))) h
    · have h := h.2 (cmp_ne.2.mp c)
      refine PC.pr (k := 1) (pc' := 23) (lv' := [(0, .int x0), (1, .int x1), (2, .int x2), (3, .long y3), (5, .int x5)]) (st' := [.int x2, .long y3]) rfl ?_
      refine PC.pr (k := 1) (pc' := 24) (lv' := [(0, .int x0), (1, .int x1), (2, .int x2), (3, .long y3), (5, .int x5)]) (st' := [.long (x2).toInt64, .long y3]) rfl ?_
      refine PC.pr (k := 1) (pc' := 32) (lv' := [(0, .int x0), (1, .int x1), (2, .int x2), (3, .long y3), (5, .int x5)]) (st' := [.long (x2).toInt64, .long y3]) rfl ?_
      refine PC.pr (k := 1) (pc' := 33) (lv' := [(0, .int x0), (1, .int x1), (2, .int x2), (3, .long y3), (5, .int x5)]) (st' := [.long (y3 * (x2).toInt64)]) rfl ?_
      refine PC.pr (k := 1) (pc' := 34) (lv' := [(3, .long (y3 * (x2).toInt64)), (0, .int x0), (1, .int x1), (2, .int x2), (5, .int x5)]) (st' := []) rfl ?_
      refine PC.pr (k := 1) (pc' := 37) (lv' := [(5, .int (x5 + 1)), (3, .long (y3 * (x2).toInt64)), (0, .int x0), (1, .int x1), (2, .int x2)]) (st' := []) rfl ?_
      refine PC.pr (k := 1) (pc' := 5) (lv' := [(5, .int (x5 + 1)), (3, .long (y3 * (x2).toInt64)), (0, .int x0), (1, .int x1), (2, .int x2)]) (st' := []) rfl ?_
      exact PC.lv (lvE.cons rfl (lvE.cons rfl (lvE.cons rfl (lvE.cons rfl (lvE.cons rfl (lvE.nil)))))) h

/-- DoorPaints.powerOfTen(I)J -/
theorem t_125_0 {xl : List Int32} {n : Nat} {ι : IS} {Q : Option Value → IS → Prop} {x0 : Int32} (h : PC xl n 125 4 [(0, .int x0), (1, .long 1), (3, .int 0)] [] ι Q) : PC xl (n + 1) 125 0 [(0, .int x0)] [] ι Q := by
  refine PC.pr1 (k := 0) (pc' := 1) (lv' := [(0, .int x0)]) (st' := [.long 1]) rfl ?_
  refine PC.pr (k := 1) (pc' := 2) (lv' := [(1, .long 1), (0, .int x0)]) (st' := []) rfl ?_
  refine PC.pr (k := 1) (pc' := 3) (lv' := [(1, .long 1), (0, .int x0)]) (st' := [.int 0]) rfl ?_
  refine PC.pr (k := 1) (pc' := 4) (lv' := [(3, .int 0), (1, .long 1), (0, .int x0)]) (st' := []) rfl ?_
  exact PC.lv (lvE.cons rfl (lvE.cons rfl (lvE.cons rfl (lvE.nil)))) h
theorem t_125_4 {xl : List Int32} {n : Nat} {ι : IS} {Q : Option Value → IS → Prop} {x0 : Int32} {y1 : Int64} {x3 : Int32} (h : ((¬ x3 < x0 → Q (some (.long y1)) ι) ∧ (x3 < x0 → PC xl n 125 4 [(0, .int x0), (1, .long (y1 * 10)), (3, .int (x3 + 1))] [] ι Q))) : PC xl (n + 1) 125 4 [(0, .int x0), (1, .long y1), (3, .int x3)] [] ι Q := by
  refine PC.pr1 (k := 0) (pc' := 5) (lv' := [(0, .int x0), (1, .long y1), (3, .int x3)]) (st' := [.int x3]) rfl ?_
  refine PC.pr (k := 1) (pc' := 6) (lv' := [(0, .int x0), (1, .long y1), (3, .int x3)]) (st' := [.int x0, .int x3]) rfl ?_
  refine PC.if2 (t := 21) rfl rfl (fun c => ?_) (fun c => ?_)
  · have h := h.1 (cmp_ge.1.mp c)
    refine PC.pr (k := 1) (pc' := 22) (lv' := [(0, .int x0), (1, .long y1), (3, .int x3)]) (st' := [.long y1]) rfl ?_
    exact PC.retJ rfl h
  · have h := h.2 (cmp_ge.2.mp c)
    refine PC.pr (k := 1) (pc' := 10) (lv' := [(0, .int x0), (1, .long y1), (3, .int x3)]) (st' := [.long y1]) rfl ?_
    refine PC.pr (k := 1) (pc' := 13) (lv' := [(0, .int x0), (1, .long y1), (3, .int x3)]) (st' := [.long 10, .long y1]) rfl ?_
    refine PC.pr (k := 1) (pc' := 14) (lv' := [(0, .int x0), (1, .long y1), (3, .int x3)]) (st' := [.long (y1 * 10)]) rfl ?_
    refine PC.pr (k := 1) (pc' := 15) (lv' := [(1, .long (y1 * 10)), (0, .int x0), (3, .int x3)]) (st' := []) rfl ?_
    refine PC.pr (k := 1) (pc' := 18) (lv' := [(3, .int (x3 + 1)), (1, .long (y1 * 10)), (0, .int x0)]) (st' := []) rfl ?_
    refine PC.pr (k := 1) (pc' := 4) (lv' := [(3, .int (x3 + 1)), (1, .long (y1 * 10)), (0, .int x0)]) (st' := []) rfl ?_
    exact PC.lv (lvE.cons rfl (lvE.cons rfl (lvE.cons rfl (lvE.nil)))) h

/-- DoorPaints.ofFraction(JJI)J -/
theorem t_126_0 {xl : List Int32} {n : Nat} {ι : IS} {Q : Option Value → IS → Prop} {y0 : Int64} {y2 : Int64} {x4 : Int32} (h : PC xl n 126 9 [(0, .long y0), (2, .long y2), (4, .int x4), (5, .long y2), (7, .long y0), (9, .int 0), (10, .null)] [] ι Q) : PC xl (n + 1) 126 0 [(0, .long y0), (2, .long y2), (4, .int x4)] [] ι Q := by
  refine PC.pr1 (k := 0) (pc' := 1) (lv' := [(0, .long y0), (2, .long y2), (4, .int x4)]) (st' := [.long y2]) rfl ?_
  refine PC.pr (k := 1) (pc' := 3) (lv' := [(5, .long y2), (0, .long y0), (2, .long y2), (4, .int x4)]) (st' := []) rfl ?_
  refine PC.pr (k := 1) (pc' := 4) (lv' := [(5, .long y2), (0, .long y0), (2, .long y2), (4, .int x4)]) (st' := [.long y0]) rfl ?_
  refine PC.pr (k := 1) (pc' := 6) (lv' := [(7, .long y0), (5, .long y2), (0, .long y0), (2, .long y2), (4, .int x4)]) (st' := []) rfl ?_
  refine PC.pr (k := 1) (pc' := 7) (lv' := [(7, .long y0), (5, .long y2), (0, .long y0), (2, .long y2), (4, .int x4)]) (st' := [.int 0]) rfl ?_
  refine PC.pr (k := 1) (pc' := 9) (lv' := [(9, .int 0), (7, .long y0), (5, .long y2), (0, .long y0), (2, .long y2), (4, .int x4)]) (st' := []) rfl ?_
  exact PC.lv (lvE.cons rfl (lvE.cons rfl (lvE.cons rfl (lvE.cons rfl (lvE.cons rfl (lvE.cons rfl (lvE.nil))))))) h
theorem t_126_9 {xl : List Int32} {n : Nat} {ι : IS} {Q : Option Value → IS → Prop} {y0 : Int64} {y2 : Int64} {x4 : Int32} {y5 : Int64} {y7 : Int64} {x9 : Int32} {w10 : Value} (h : ((¬ x9 < 100 → ((0 < (lg_cmp y5 0) → ((¬ x4 = 0 → (¬ y5 = 0 → Q (some (.long (y2 / y5))) ι)) ∧ (x4 = 0 → (¬ y5 = 0 → Q (some (.long (y0 / y5))) ι)))) ∧ (¬ 0 < (lg_cmp y5 0) → Q (some (.long (-1))) ι))) ∧ (x9 < 100 → ((¬ 0 < (lg_cmp y7 0) → ((0 < (lg_cmp y5 0) → ((¬ x4 = 0 → (¬ y5 = 0 → Q (some (.long (y2 / y5))) ι)) ∧ (x4 = 0 → (¬ y5 = 0 → Q (some (.long (y0 / y5))) ι)))) ∧ (¬ 0 < (lg_cmp y5 0) → Q (some (.long (-1))) ι))) ∧ (0 < (lg_cmp y7 0) → (¬ y7 = 0 → PC xl n 126 9 [(0, .long y0), (2, .long y2), (4, .int x4), (5, .long y7), (7, .long (y5 - y5 / y7 * y7)), (9, .int (x9 + 1)), (10, .long (y5 - y5 / y7 * y7))] [] ι Q)))))) : PC xl (n + 1) 126 9 [(0, .long y0), (2, .long y2), (4, .int x4), (5, .long y5), (7, .long y7), (9, .int x9), (10, w10)] [] ι Q := by
  refine PC.pr1 (k := 0) (pc' := 11) (lv' := [(0, .long y0), (2, .long y2), (4, .int x4), (5, .long y5), (7, .long y7), (9, .int x9), (10, w10)]) (st' := [.int x9]) rfl ?_
  refine PC.pr (k := 1) (pc' := 13) (lv' := [(0, .long y0), (2, .long y2), (4, .int x4), (5, .long y5), (7, .long y7), (9, .int x9), (10, w10)]) (st' := [.int 100, .int x9]) rfl ?_
  refine PC.if2 (t := 44) rfl rfl (fun c => ?_) (fun c => ?_)
  · have h := h.1 (cmp_ge.1.mp c)
    refine PC.pr (k := 1) (pc' := 46) (lv' := [(0, .long y0), (2, .long y2), (4, .int x4), (5, .long y5), (7, .long y7), (9, .int x9), (10, w10)]) (st' := [.long y5]) rfl ?_
    refine PC.pr (k := 1) (pc' := 47) (lv' := [(0, .long y0), (2, .long y2), (4, .int x4), (5, .long y5), (7, .long y7), (9, .int x9), (10, w10)]) (st' := [.long 0, .long y5]) rfl ?_
    refine PC.pr (k := 1) (pc' := 48) (lv' := [(0, .long y0), (2, .long y2), (4, .int x4), (5, .long y5), (7, .long y7), (9, .int x9), (10, w10)]) (st' := [.int (lg_cmp y5 0)]) rfl ?_
    refine PC.if1 (t := 55) rfl rfl (fun c => ?_) (fun c => ?_)
    · have h := h.1 (cmp_gt.1.mp c)
      refine PC.pr (k := 1) (pc' := 57) (lv' := [(0, .long y0), (2, .long y2), (4, .int x4), (5, .long y5), (7, .long y7), (9, .int x9), (10, w10)]) (st' := [.int x4]) rfl ?_
      refine PC.if1 (t := 67) rfl rfl (fun c => ?_) (fun c => ?_)
      · have h := h.1 (cmp_ne.1.mp c)
        refine PC.pr (k := 1) (pc' := 68) (lv' := [(0, .long y0), (2, .long y2), (4, .int x4), (5, .long y5), (7, .long y7), (9, .int x9), (10, w10)]) (st' := [.long y2]) rfl ?_
        refine PC.pr (k := 1) (pc' := 70) (lv' := [(0, .long y0), (2, .long y2), (4, .int x4), (5, .long y5), (7, .long y7), (9, .int x9), (10, w10)]) (st' := [.long y5, .long y2]) rfl ?_
        refine PC.ldv rfl (fun c1 => ?_)
        have h := h c1
        exact PC.retJ rfl h
      · have h := h.2 (cmp_ne.2.mp c)
        refine PC.pr (k := 1) (pc' := 61) (lv' := [(0, .long y0), (2, .long y2), (4, .int x4), (5, .long y5), (7, .long y7), (9, .int x9), (10, w10)]) (st' := [.long y0]) rfl ?_
        refine PC.pr (k := 1) (pc' := 63) (lv' := [(0, .long y0), (2, .long y2), (4, .int x4), (5, .long y5), (7, .long y7), (9, .int x9), (10, w10)]) (st' := [.long y5, .long y0]) rfl ?_
        refine PC.ldv rfl (fun c1 => ?_)
        have h := h c1
        refine PC.pr (k := 1) (pc' := 71) (lv' := [(0, .long y0), (2, .long y2), (4, .int x4), (5, .long y5), (7, .long y7), (9, .int x9), (10, w10)]) (st' := [.long (y0 / y5)]) rfl ?_
        exact PC.retJ rfl h
    · have h := h.2 (cmp_gt.2.mp c)
      refine PC.pr (k := 1) (pc' := 54) (lv' := [(0, .long y0), (2, .long y2), (4, .int x4), (5, .long y5), (7, .long y7), (9, .int x9), (10, w10)]) (st' := [.long (-1)]) rfl ?_
      exact PC.retJ rfl h
  · have h := h.2 (cmp_ge.2.mp c)
    refine PC.pr (k := 1) (pc' := 18) (lv' := [(0, .long y0), (2, .long y2), (4, .int x4), (5, .long y5), (7, .long y7), (9, .int x9), (10, w10)]) (st' := [.long y7]) rfl ?_
    refine PC.pr (k := 1) (pc' := 19) (lv' := [(0, .long y0), (2, .long y2), (4, .int x4), (5, .long y5), (7, .long y7), (9, .int x9), (10, w10)]) (st' := [.long 0, .long y7]) rfl ?_
    refine PC.pr (k := 1) (pc' := 20) (lv' := [(0, .long y0), (2, .long y2), (4, .int x4), (5, .long y5), (7, .long y7), (9, .int x9), (10, w10)]) (st' := [.int (lg_cmp y7 0)]) rfl ?_
    refine PC.if1 (t := 44) rfl rfl (fun c => ?_) (fun c => ?_)
    · have h := h.1 (cmp_le.1.mp c)
      refine PC.pr (k := 1) (pc' := 46) (lv' := [(0, .long y0), (2, .long y2), (4, .int x4), (5, .long y5), (7, .long y7), (9, .int x9), (10, w10)]) (st' := [.long y5]) rfl ?_
      refine PC.pr (k := 1) (pc' := 47) (lv' := [(0, .long y0), (2, .long y2), (4, .int x4), (5, .long y5), (7, .long y7), (9, .int x9), (10, w10)]) (st' := [.long 0, .long y5]) rfl ?_
      refine PC.pr (k := 1) (pc' := 48) (lv' := [(0, .long y0), (2, .long y2), (4, .int x4), (5, .long y5), (7, .long y7), (9, .int x9), (10, w10)]) (st' := [.int (lg_cmp y5 0)]) rfl ?_
      refine PC.if1 (t := 55) rfl rfl (fun c => ?_) (fun c => ?_)
      · have h := h.1 (cmp_gt.1.mp c)
        refine PC.pr (k := 1) (pc' := 57) (lv' := [(0, .long y0), (2, .long y2), (4, .int x4), (5, .long y5), (7, .long y7), (9, .int x9), (10, w10)]) (st' := [.int x4]) rfl ?_
        refine PC.if1 (t := 67) rfl rfl (fun c => ?_) (fun c => ?_)
        · have h := h.1 (cmp_ne.1.mp c)
          refine PC.pr (k := 1) (pc' := 68) (lv' := [(0, .long y0), (2, .long y2), (4, .int x4), (5, .long y5), (7, .long y7), (9, .int x9), (10, w10)]) (st' := [.long y2]) rfl ?_
          refine PC.pr (k := 1) (pc' := 70) (lv' := [(0, .long y0), (2, .long y2), (4, .int x4), (5, .long y5), (7, .long y7), (9, .int x9), (10, w10)]) (st' := [.long y5, .long y2]) rfl ?_
          refine PC.ldv rfl (fun c1 => ?_)
          have h := h c1
          exact PC.retJ rfl h
        · have h := h.2 (cmp_ne.2.mp c)
          refine PC.pr (k := 1) (pc' := 61) (lv' := [(0, .long y0), (2, .long y2), (4, .int x4), (5, .long y5), (7, .long y7), (9, .int x9), (10, w10)]) (st' := [.long y0]) rfl ?_
          refine PC.pr (k := 1) (pc' := 63) (lv' := [(0, .long y0), (2, .long y2), (4, .int x4), (5, .long y5), (7, .long y7), (9, .int x9), (10, w10)]) (st' := [.long y5, .long y0]) rfl ?_
          refine PC.ldv rfl (fun c1 => ?_)
          have h := h c1
          refine PC.pr (k := 1) (pc' := 71) (lv' := [(0, .long y0), (2, .long y2), (4, .int x4), (5, .long y5), (7, .long y7), (9, .int x9), (10, w10)]) (st' := [.long (y0 / y5)]) rfl ?_
          exact PC.retJ rfl h
      · have h := h.2 (cmp_gt.2.mp c)
        refine PC.pr (k := 1) (pc' := 54) (lv' := [(0, .long y0), (2, .long y2), (4, .int x4), (5, .long y5), (7, .long y7), (9, .int x9), (10, w10)]) (st' := [.long (-1)]) rfl ?_
        exact PC.retJ rfl h
    · have h := h.2 (cmp_le.2.mp c)
      refine PC.pr (k := 1) (pc' := 25) (lv' := [(0, .long y0), (2, .long y2), (4, .int x4), (5, .long y5), (7, .long y7), (9, .int x9), (10, w10)]) (st' := [.long y5]) rfl ?_
      refine PC.pr (k := 1) (pc' := 27) (lv' := [(0, .long y0), (2, .long y2), (4, .int x4), (5, .long y5), (7, .long y7), (9, .int x9), (10, w10)]) (st' := [.long y7, .long y5]) rfl ?_
      refine PC.lrm rfl (fun c1 => ?_)
      have h := h c1
      refine PC.pr (k := 1) (pc' := 30) (lv' := [(10, .long (y5 - y5 / y7 * y7)), (0, .long y0), (2, .long y2), (4, .int x4), (5, .long y5), (7, .long y7), (9, .int x9)]) (st' := []) rfl ?_
      refine PC.pr (k := 1) (pc' := 32) (lv' := [(10, .long (y5 - y5 / y7 * y7)), (0, .long y0), (2, .long y2), (4, .int x4), (5, .long y5), (7, .long y7), (9, .int x9)]) (st' := [.long y7]) rfl ?_
      refine PC.pr (k := 1) (pc' := 34) (lv' := [(5, .long y7), (10, .long (y5 - y5 / y7 * y7)), (0, .long y0), (2, .long y2), (4, .int x4), (7, .long y7), (9, .int x9)]) (st' := []) rfl ?_
      refine PC.pr (k := 1) (pc' := 36) (lv' := [(5, .long y7), (10, .long (y5 - y5 / y7 * y7)), (0, .long y0), (2, .long y2), (4, .int x4), (7, .long y7), (9, .int x9)]) (st' := [.long (y5 - y5 / y7 * y7)]) rfl ?_
      refine PC.pr (k := 1) (pc' := 38) (lv' := [(7, .long (y5 - y5 / y7 * y7)), (5, .long y7), (10, .long (y5 - y5 / y7 * y7)), (0, .long y0), (2, .long y2), (4, .int x4), (9, .int x9)]) (st' := []) rfl ?_
      refine PC.pr (k := 1) (pc' := 41) (lv' := [(9, .int (x9 + 1)), (7, .long (y5 - y5 / y7 * y7)), (5, .long y7), (10, .long (y5 - y5 / y7 * y7)), (0, .long y0), (2, .long y2), (4, .int x4)]) (st' := []) rfl ?_
      refine PC.pr (k := 1) (pc' := 9) (lv' := [(9, .int (x9 + 1)), (7, .long (y5 - y5 / y7 * y7)), (5, .long y7), (10, .long (y5 - y5 / y7 * y7)), (0, .long y0), (2, .long y2), (4, .int x4)]) (st' := []) rfl ?_
      exact PC.lv (lvE.cons rfl (lvE.cons rfl (lvE.cons rfl (lvE.cons rfl (lvE.cons rfl (lvE.cons rfl (lvE.cons rfl (lvE.nil)))))))) h

/-- DoorPaintsModel.told(JJI)J -/
theorem t_226_0 {xl : List Int32} {n : Nat} {ι : IS} {Q : Option Value → IS → Prop} {y0 : Int64} {y2 : Int64} {x4 : Int32} (h : PC xl n 227 0 [(0, .long y2), (2, .long y0)] [] ι (fun v1 κ1 => ∀ r1, v1 = some (.long r1) → ((¬ x4 = 0 → (¬ r1 = 0 → Q (some (.long (y2 / r1))) κ1)) ∧ (x4 = 0 → (¬ r1 = 0 → Q (some (.long (y0 / r1))) κ1))))) : PC xl (n + 1) 226 0 [(0, .long y0), (2, .long y2), (4, .int x4)] [] ι Q := by
  refine PC.pr1 (k := 0) (pc' := 1) (lv' := [(0, .long y0), (2, .long y2), (4, .int x4)]) (st' := [.long y2]) rfl ?_
  refine PC.pr (k := 1) (pc' := 2) (lv' := [(0, .long y0), (2, .long y2), (4, .int x4)]) (st' := [.long y0, .long y2]) rfl ?_
  refine (PC.callJ (j := 227) (args := [.long y2, .long y0]) (rest := []) (M := cM227) rfl rfl rfl rfl rfl rfl (by decide) rfl rfl rfl ?_).weak
  refine PC.imp h (fun v1 κ1 h r1 hv => ?_)
  have h := h r1 hv
  refine PC.pr (k := 1) (pc' := 7) (lv' := [(5, .long r1), (0, .long y0), (2, .long y2), (4, .int x4)]) (st' := []) rfl ?_
  refine PC.pr (k := 1) (pc' := 9) (lv' := [(5, .long r1), (0, .long y0), (2, .long y2), (4, .int x4)]) (st' := [.int x4]) rfl ?_
  refine PC.if1 (t := 19) rfl rfl (fun c => ?_) (fun c => ?_)
  · have h := h.1 (cmp_ne.1.mp c)
    refine PC.pr (k := 1) (pc' := 20) (lv' := [(5, .long r1), (0, .long y0), (2, .long y2), (4, .int x4)]) (st' := [.long y2]) rfl ?_
    refine PC.pr (k := 1) (pc' := 22) (lv' := [(5, .long r1), (0, .long y0), (2, .long y2), (4, .int x4)]) (st' := [.long r1, .long y2]) rfl ?_
    refine PC.ldv rfl (fun c1 => ?_)
    have h := h c1
    exact PC.retJ rfl h
  · have h := h.2 (cmp_ne.2.mp c)
    refine PC.pr (k := 1) (pc' := 13) (lv' := [(5, .long r1), (0, .long y0), (2, .long y2), (4, .int x4)]) (st' := [.long y0]) rfl ?_
    refine PC.pr (k := 1) (pc' := 15) (lv' := [(5, .long r1), (0, .long y0), (2, .long y2), (4, .int x4)]) (st' := [.long r1, .long y0]) rfl ?_
    refine PC.ldv rfl (fun c1 => ?_)
    have h := h c1
    refine PC.pr (k := 1) (pc' := 23) (lv' := [(5, .long r1), (0, .long y0), (2, .long y2), (4, .int x4)]) (st' := [.long (y0 / r1)]) rfl ?_
    exact PC.retJ rfl h

/-- DoorPaintsModel.common(JJ)J -/
theorem t_227_0 {xl : List Int32} {n : Nat} {ι : IS} {Q : Option Value → IS → Prop} {y0 : Int64} {y2 : Int64} (h : PC xl n 227 6 [(0, .long y0), (2, .long y2), (4, .long y0), (6, .long y2), (8, .null)] [] ι Q) : PC xl (n + 1) 227 0 [(0, .long y0), (2, .long y2)] [] ι Q := by
  refine PC.pr1 (k := 0) (pc' := 1) (lv' := [(0, .long y0), (2, .long y2)]) (st' := [.long y0]) rfl ?_
  refine PC.pr (k := 1) (pc' := 3) (lv' := [(4, .long y0), (0, .long y0), (2, .long y2)]) (st' := []) rfl ?_
  refine PC.pr (k := 1) (pc' := 4) (lv' := [(4, .long y0), (0, .long y0), (2, .long y2)]) (st' := [.long y2]) rfl ?_
  refine PC.pr (k := 1) (pc' := 6) (lv' := [(6, .long y2), (4, .long y0), (0, .long y0), (2, .long y2)]) (st' := []) rfl ?_
  exact PC.lv (lvE.cons rfl (lvE.cons rfl (lvE.cons rfl (lvE.cons rfl (lvE.nil))))) h
theorem t_227_6 {xl : List Int32} {n : Nat} {ι : IS} {Q : Option Value → IS → Prop} {w0 : Value} {w2 : Value} {y4 : Int64} {y6 : Int64} {w8 : Value} (h : (((lg_cmp y6 0) = 0 → Q (some (.long y4)) ι) ∧ (¬ (lg_cmp y6 0) = 0 → (¬ y6 = 0 → PC xl n 227 6 [(0, w0), (2, w2), (4, .long y6), (6, .long (y4 - y4 / y6 * y6)), (8, .long (y4 - y4 / y6 * y6))] [] ι Q)))) : PC xl (n + 1) 227 6 [(0, w0), (2, w2), (4, .long y4), (6, .long y6), (8, w8)] [] ι Q := by
  refine PC.pr1 (k := 0) (pc' := 8) (lv' := [(0, w0), (2, w2), (4, .long y4), (6, .long y6), (8, w8)]) (st' := [.long y6]) rfl ?_
  refine PC.pr (k := 1) (pc' := 9) (lv' := [(0, w0), (2, w2), (4, .long y4), (6, .long y6), (8, w8)]) (st' := [.long 0, .long y6]) rfl ?_
  refine PC.pr (k := 1) (pc' := 10) (lv' := [(0, w0), (2, w2), (4, .long y4), (6, .long y6), (8, w8)]) (st' := [.int (lg_cmp y6 0)]) rfl ?_
  refine PC.if1 (t := 31) rfl rfl (fun c => ?_) (fun c => ?_)
  · have h := h.1 (cmp_eq.1.mp c)
    refine PC.pr (k := 1) (pc' := 33) (lv' := [(0, w0), (2, w2), (4, .long y4), (6, .long y6), (8, w8)]) (st' := [.long y4]) rfl ?_
    exact PC.retJ rfl h
  · have h := h.2 (cmp_eq.2.mp c)
    refine PC.pr (k := 1) (pc' := 15) (lv' := [(0, w0), (2, w2), (4, .long y4), (6, .long y6), (8, w8)]) (st' := [.long y4]) rfl ?_
    refine PC.pr (k := 1) (pc' := 17) (lv' := [(0, w0), (2, w2), (4, .long y4), (6, .long y6), (8, w8)]) (st' := [.long y6, .long y4]) rfl ?_
    refine PC.lrm rfl (fun c1 => ?_)
    have h := h c1
    refine PC.pr (k := 1) (pc' := 20) (lv' := [(8, .long (y4 - y4 / y6 * y6)), (0, w0), (2, w2), (4, .long y4), (6, .long y6)]) (st' := []) rfl ?_
    refine PC.pr (k := 1) (pc' := 22) (lv' := [(8, .long (y4 - y4 / y6 * y6)), (0, w0), (2, w2), (4, .long y4), (6, .long y6)]) (st' := [.long y6]) rfl ?_
    refine PC.pr (k := 1) (pc' := 24) (lv' := [(4, .long y6), (8, .long (y4 - y4 / y6 * y6)), (0, w0), (2, w2), (6, .long y6)]) (st' := []) rfl ?_
    refine PC.pr (k := 1) (pc' := 26) (lv' := [(4, .long y6), (8, .long (y4 - y4 / y6 * y6)), (0, w0), (2, w2), (6, .long y6)]) (st' := [.long (y4 - y4 / y6 * y6)]) rfl ?_
    refine PC.pr (k := 1) (pc' := 28) (lv' := [(6, .long (y4 - y4 / y6 * y6)), (4, .long y6), (8, .long (y4 - y4 / y6 * y6)), (0, w0), (2, w2)]) (st' := []) rfl ?_
    refine PC.pr (k := 1) (pc' := 6) (lv' := [(6, .long (y4 - y4 / y6 * y6)), (4, .long y6), (8, .long (y4 - y4 / y6 * y6)), (0, w0), (2, w2)]) (st' := []) rfl ?_
    exact PC.lv (lvE.cons rfl (lvE.cons rfl (lvE.cons rfl (lvE.cons rfl (lvE.cons rfl (lvE.nil)))))) h

