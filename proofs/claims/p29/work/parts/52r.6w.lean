/-! WHAT RUNS ASK (written by a program) -/
/-- DoorPaintsModel.orders(I)I -/
theorem t_222_0 {xl : List Int32} {n : Nat} {ι : IS} {Q : Option Value → IS → Prop} {a0 : Nat} {x1 : Int32} (h : PC xl n 208 0 [(0, .int x1)] [] ι (fun v1 κ1 => ∀ r1, v1 = some (.int r1) → ((¬ r1 = 0 → (0 ≤ (52 : Int32).toInt → (52 : Int32).toInt < ln (rf a0 0) → ((¬ 5 < (κ1 (rf a0 0) (52 : Int32).toNatClampNeg) → PC xl n 222 30 [(0, .ref a0), (1, .int x1), (2, .int (κ1 (rf a0 0) (52 : Int32).toNatClampNeg)), (3, .int 1), (4, .int 0)] [] κ1 Q) ∧ (5 < (κ1 (rf a0 0) (52 : Int32).toNatClampNeg) → Q (some (.int (-2))) κ1)))) ∧ (r1 = 0 → Q (some (.int (-1))) κ1)))) : PC xl (n + 1) 222 0 [(0, .ref a0), (1, .int x1)] [] ι Q := by
  refine PC.pr1 (k := 0) (pc' := 1) (lv' := [(0, .ref a0), (1, .int x1)]) (st' := [.int x1]) rfl ?_
  refine (PC.callI (j := 208) (args := [.int x1]) (rest := []) (M := cM208) (ty := .boolean) rfl rfl rfl rfl rfl rfl (by decide) rfl rfl (by decide) ?_).weak
  refine PC.imp h (fun v1 κ1 h r1 hv => ?_)
  have h := h r1 hv
  refine PC.if1 (t := 9) rfl rfl (fun c => ?_) (fun c => ?_)
  · have h := h.1 (cmp_ne.1.mp c)
    refine PC.pr (k := 1) (pc' := 10) (lv' := [(0, .ref a0), (1, .int x1)]) (st' := [.ref a0]) rfl ?_
    refine PC.gR (ci := 9) (j := 0) rfl rfl (by decide) ?_
    refine PC.pr (k := 1) (pc' := 15) (lv' := [(0, .ref a0), (1, .int x1)]) (st' := [.int 52, .ref (rf a0 0)]) rfl ?_
    refine PC.rd rfl (rf_lt _ _) (fun c1 c2 => ?_)
    have h := h c1 c2
    refine PC.pr (k := 1) (pc' := 17) (lv' := [(2, .int (κ1 (rf a0 0) (52 : Int32).toNatClampNeg)), (0, .ref a0), (1, .int x1)]) (st' := []) rfl ?_
    refine PC.pr (k := 1) (pc' := 18) (lv' := [(2, .int (κ1 (rf a0 0) (52 : Int32).toNatClampNeg)), (0, .ref a0), (1, .int x1)]) (st' := [.int (κ1 (rf a0 0) (52 : Int32).toNatClampNeg)]) rfl ?_
    refine PC.pr (k := 1) (pc' := 19) (lv' := [(2, .int (κ1 (rf a0 0) (52 : Int32).toNatClampNeg)), (0, .ref a0), (1, .int x1)]) (st' := [.int 5, .int (κ1 (rf a0 0) (52 : Int32).toNatClampNeg)]) rfl ?_
    refine PC.if2 (t := 25) rfl rfl (fun c => ?_) (fun c => ?_)
    · have h := h.1 (cmp_le.1.mp c)
      refine PC.pr (k := 1) (pc' := 26) (lv' := [(2, .int (κ1 (rf a0 0) (52 : Int32).toNatClampNeg)), (0, .ref a0), (1, .int x1)]) (st' := [.int 1]) rfl ?_
      refine PC.pr (k := 1) (pc' := 27) (lv' := [(3, .int 1), (2, .int (κ1 (rf a0 0) (52 : Int32).toNatClampNeg)), (0, .ref a0), (1, .int x1)]) (st' := []) rfl ?_
      refine PC.pr (k := 1) (pc' := 28) (lv' := [(3, .int 1), (2, .int (κ1 (rf a0 0) (52 : Int32).toNatClampNeg)), (0, .ref a0), (1, .int x1)]) (st' := [.int 0]) rfl ?_
      refine PC.pr (k := 1) (pc' := 30) (lv' := [(4, .int 0), (3, .int 1), (2, .int (κ1 (rf a0 0) (52 : Int32).toNatClampNeg)), (0, .ref a0), (1, .int x1)]) (st' := []) rfl ?_
      exact PC.lv (lvE.cons rfl (lvE.cons rfl (lvE.cons rfl (lvE.cons rfl (lvE.cons rfl (lvE.nil)))))) h
    · have h := h.2 (cmp_le.2.mp c)
      refine PC.pr (k := 1) (pc' := 24) (lv' := [(2, .int (κ1 (rf a0 0) (52 : Int32).toNatClampNeg)), (0, .ref a0), (1, .int x1)]) (st' := [.int (-2)]) rfl ?_
      exact PC.retI rfl h
  · have h := h.2 (cmp_ne.2.mp c)
    refine PC.pr (k := 1) (pc' := 8) (lv' := [(0, .ref a0), (1, .int x1)]) (st' := [.int (-1)]) rfl ?_
    exact PC.retI rfl h
theorem t_222_30 {xl : List Int32} {n : Nat} {ι : IS} {Q : Option Value → IS → Prop} {a0 : Nat} {x1 : Int32} {x2 : Int32} {x3 : Int32} {x4 : Int32} (h : ((¬ x4 < x2 → PC xl n 222 55 [(0, .ref a0), (1, .int x1), (2, .int x2), (3, .int x3), (4, .int 0), (5, .int 0), (6, .int 0), (7, .null)] [] ι Q) ∧ (x4 < x2 → PC xl n 222 30 [(0, .ref a0), (1, .int x1), (2, .int x2), (3, .int (x3 * x2)), (4, .int (x4 + 1))] [] ι Q))) : PC xl (n + 1) 222 30 [(0, .ref a0), (1, .int x1), (2, .int x2), (3, .int x3), (4, .int x4)] [] ι Q := by
  refine PC.pr1 (k := 0) (pc' := 32) (lv' := [(0, .ref a0), (1, .int x1), (2, .int x2), (3, .int x3), (4, .int x4)]) (st' := [.int x4]) rfl ?_
  refine PC.pr (k := 1) (pc' := 33) (lv' := [(0, .ref a0), (1, .int x1), (2, .int x2), (3, .int x3), (4, .int x4)]) (st' := [.int x2, .int x4]) rfl ?_
  refine PC.if2 (t := 46) rfl rfl (fun c => ?_) (fun c => ?_)
  · have h := h.1 (cmp_ge.1.mp c)
    refine PC.pr (k := 1) (pc' := 47) (lv' := [(0, .ref a0), (1, .int x1), (2, .int x2), (3, .int x3), (4, .int x4)]) (st' := [.int 0]) rfl ?_
    refine PC.pr (k := 1) (pc' := 49) (lv' := [(4, .int 0), (0, .ref a0), (1, .int x1), (2, .int x2), (3, .int x3)]) (st' := []) rfl ?_
    refine PC.pr (k := 1) (pc' := 50) (lv' := [(4, .int 0), (0, .ref a0), (1, .int x1), (2, .int x2), (3, .int x3)]) (st' := [.int 0]) rfl ?_
    refine PC.pr (k := 1) (pc' := 52) (lv' := [(5, .int 0), (4, .int 0), (0, .ref a0), (1, .int x1), (2, .int x2), (3, .int x3)]) (st' := []) rfl ?_
    refine PC.pr (k := 1) (pc' := 53) (lv' := [(5, .int 0), (4, .int 0), (0, .ref a0), (1, .int x1), (2, .int x2), (3, .int x3)]) (st' := [.int 0]) rfl ?_
    refine PC.pr (k := 1) (pc' := 55) (lv' := [(6, .int 0), (5, .int 0), (4, .int 0), (0, .ref a0), (1, .int x1), (2, .int x2), (3, .int x3)]) (st' := []) rfl ?_
    exact PC.lv (lvE.cons rfl (lvE.cons rfl (lvE.cons rfl (lvE.cons rfl (lvE.cons rfl (lvE.cons rfl (lvE.cons rfl (lvE.nil)))))))) h
  · have h := h.2 (cmp_ge.2.mp c)
    refine PC.pr (k := 1) (pc' := 37) (lv' := [(0, .ref a0), (1, .int x1), (2, .int x2), (3, .int x3), (4, .int x4)]) (st' := [.int x3]) rfl ?_
    refine PC.pr (k := 1) (pc' := 38) (lv' := [(0, .ref a0), (1, .int x1), (2, .int x2), (3, .int x3), (4, .int x4)]) (st' := [.int x2, .int x3]) rfl ?_
    refine PC.pr (k := 1) (pc' := 39) (lv' := [(0, .ref a0), (1, .int x1), (2, .int x2), (3, .int x3), (4, .int x4)]) (st' := [.int (x3 * x2)]) rfl ?_
    refine PC.pr (k := 1) (pc' := 40) (lv' := [(3, .int (x3 * x2)), (0, .ref a0), (1, .int x1), (2, .int x2), (4, .int x4)]) (st' := []) rfl ?_
    refine PC.pr (k := 1) (pc' := 43) (lv' := [(4, .int (x4 + 1)), (3, .int (x3 * x2)), (0, .ref a0), (1, .int x1), (2, .int x2)]) (st' := []) rfl ?_
    refine PC.pr (k := 1) (pc' := 30) (lv' := [(4, .int (x4 + 1)), (3, .int (x3 * x2)), (0, .ref a0), (1, .int x1), (2, .int x2)]) (st' := []) rfl ?_
    exact PC.lv (lvE.cons rfl (lvE.cons rfl (lvE.cons rfl (lvE.cons rfl (lvE.cons rfl (lvE.nil)))))) h
theorem t_222_55 {xl : List Int32} {n : Nat} {ι : IS} {Q : Option Value → IS → Prop} {a0 : Nat} {x1 : Int32} {x2 : Int32} {x3 : Int32} {x4 : Int32} {x5 : Int32} {x6 : Int32} {w7 : Value} (h : ((¬ x6 < x3 → ((¬ x1 = 0 → Q (some (.int x5)) ι) ∧ (x1 = 0 → Q (some (.int x4)) ι))) ∧ (x6 < x3 → PC xl n 223 0 [(0, .ref a0), (1, .int x6)] [] ι (fun v1 κ1 => ∀ r1, v1 = some (.int r1) → ((r1 = 0 → PC xl n 222 152 [(0, .ref a0), (1, .int x1), (2, .int x2), (3, .int x3), (4, .int x4), (5, .int x5), (6, .int x6), (7, w7)] [] κ1 Q) ∧ (¬ r1 = 0 → PC xl n 168 0 [(0, .ref a0)] [] κ1 (fun _ κ2 => PC xl n 222 77 [(0, .ref a0), (1, .int x1), (2, .int x2), (3, .int x3), (4, .int x4), (5, .int x5), (6, .int x6), (7, .int 0)] [] κ2 Q))))))) : PC xl (n + 1) 222 55 [(0, .ref a0), (1, .int x1), (2, .int x2), (3, .int x3), (4, .int x4), (5, .int x5), (6, .int x6), (7, w7)] [] ι Q := by
  refine PC.pr1 (k := 0) (pc' := 57) (lv' := [(0, .ref a0), (1, .int x1), (2, .int x2), (3, .int x3), (4, .int x4), (5, .int x5), (6, .int x6), (7, w7)]) (st' := [.int x6]) rfl ?_
  refine PC.pr (k := 1) (pc' := 58) (lv' := [(0, .ref a0), (1, .int x1), (2, .int x2), (3, .int x3), (4, .int x4), (5, .int x5), (6, .int x6), (7, w7)]) (st' := [.int x3, .int x6]) rfl ?_
  refine PC.if2 (t := 158) rfl rfl (fun c => ?_) (fun c => ?_)
  · have h := h.1 (cmp_ge.1.mp c)
    refine PC.pr (k := 1) (pc' := 159) (lv' := [(0, .ref a0), (1, .int x1), (2, .int x2), (3, .int x3), (4, .int x4), (5, .int x5), (6, .int x6), (7, w7)]) (st' := [.int x1]) rfl ?_
    refine PC.if1 (t := 167) rfl rfl (fun c => ?_) (fun c => ?_)
    · have h := h.1 (cmp_ne.1.mp c)
      refine PC.pr (k := 1) (pc' := 169) (lv' := [(0, .ref a0), (1, .int x1), (2, .int x2), (3, .int x3), (4, .int x4), (5, .int x5), (6, .int x6), (7, w7)]) (st' := [.int x5]) rfl ?_
      exact PC.retI rfl h
    · have h := h.2 (cmp_ne.2.mp c)
      refine PC.pr (k := 1) (pc' := 164) (lv' := [(0, .ref a0), (1, .int x1), (2, .int x2), (3, .int x3), (4, .int x4), (5, .int x5), (6, .int x6), (7, w7)]) (st' := [.int x4]) rfl ?_
      refine PC.pr (k := 1) (pc' := 169) (lv' := [(0, .ref a0), (1, .int x1), (2, .int x2), (3, .int x3), (4, .int x4), (5, .int x5), (6, .int x6), (7, w7)]) (st' := [.int x4]) rfl ?_
      exact PC.retI rfl h
  · have h := h.2 (cmp_ge.2.mp c)
    refine PC.pr (k := 1) (pc' := 62) (lv' := [(0, .ref a0), (1, .int x1), (2, .int x2), (3, .int x3), (4, .int x4), (5, .int x5), (6, .int x6), (7, w7)]) (st' := [.ref a0]) rfl ?_
    refine PC.pr (k := 1) (pc' := 64) (lv' := [(0, .ref a0), (1, .int x1), (2, .int x2), (3, .int x3), (4, .int x4), (5, .int x5), (6, .int x6), (7, w7)]) (st' := [.int x6, .ref a0]) rfl ?_
    refine (PC.callI (j := 223) (args := [.ref a0, .int x6]) (rest := []) (M := cM223) (ty := .boolean) rfl rfl rfl rfl rfl rfl (by decide) rfl rfl (by decide) ?_).weak
    refine PC.imp h (fun v1 κ1 h r1 hv => ?_)
    have h := h r1 hv
    refine PC.if1 (t := 152) rfl rfl (fun c => ?_) (fun c => ?_)
    · have h := h.1 (cmp_eq.1.mp c)
      exact h
    · have h := h.2 (cmp_eq.2.mp c)
      refine PC.pr (k := 1) (pc' := 71) (lv' := [(0, .ref a0), (1, .int x1), (2, .int x2), (3, .int x3), (4, .int x4), (5, .int x5), (6, .int x6), (7, w7)]) (st' := [.ref a0]) rfl ?_
      refine (PC.callV (j := 168) (args := [.ref a0]) (rest := []) (M := cM168) rfl rfl rfl rfl rfl rfl (by decide) rfl rfl ?_).weak
      refine PC.imp h (fun _ κ2 h => ?_)
      refine PC.pr (k := 1) (pc' := 75) (lv' := [(0, .ref a0), (1, .int x1), (2, .int x2), (3, .int x3), (4, .int x4), (5, .int x5), (6, .int x6), (7, w7)]) (st' := [.int 0]) rfl ?_
      refine PC.pr (k := 1) (pc' := 77) (lv' := [(7, .int 0), (0, .ref a0), (1, .int x1), (2, .int x2), (3, .int x3), (4, .int x4), (5, .int x5), (6, .int x6)]) (st' := []) rfl ?_
      exact PC.lv (lvE.cons rfl (lvE.cons rfl (lvE.cons rfl (lvE.cons rfl (lvE.cons rfl (lvE.cons rfl (lvE.cons rfl (lvE.cons rfl (lvE.nil))))))))) h
theorem t_222_77 {xl : List Int32} {n : Nat} {ι : IS} {Q : Option Value → IS → Prop} {a0 : Nat} {x1 : Int32} {x2 : Int32} {x3 : Int32} {x4 : Int32} {x5 : Int32} {x6 : Int32} {x7 : Int32} (h : ((¬ x7 < x2 → PC xl n 220 0 [(0, .ref a0)] [] ι (fun v1 κ1 => ∀ r1, v1 = some (.int r1) → PC xl n 175 0 [(0, .int r1)] [] κ1 (fun v2 κ2 => ∀ r2, v2 = some (.int r2) → ((r1 = 0 → PC xl n 222 148 [(0, .ref a0), (1, .int x1), (2, .int x2), (3, .int x3), (4, .int (x4 + r2)), (5, .int x5), (6, .int x6), (7, .int r1)] [.int x5] κ2 Q) ∧ (¬ r1 = 0 → ((¬ 0 < x2 → PC xl n 222 148 [(0, .ref a0), (1, .int x1), (2, .int x2), (3, .int x3), (4, .int (x4 + r2)), (5, .int x5), (6, .int x6), (7, .int r1)] [.int x5] κ2 Q) ∧ (0 < x2 → (0 ≤ (x2 - 1).toInt → (x2 - 1).toInt < ln (rf a0 24) → PC xl n 222 149 [(0, .ref a0), (1, .int x1), (2, .int x2), (3, .int x3), (4, .int (x4 + r2)), (5, .int x5), (6, .int x6), (7, .int r1)] [.int (1 <<< ((κ2 (rf a0 24) (x2 - 1).toNatClampNeg) &&& 31)), .int x5] κ2 Q)))))))) ∧ (x7 < x2 → (0 ≤ x7.toInt → x7.toInt < ln (rf a0 24) → (0 ≤ (53 + (ι (rf a0 24) x7.toNatClampNeg)).toInt → (53 + (ι (rf a0 24) x7.toNatClampNeg)).toInt < ln (rf a0 0) → PC xl n 203 0 [(0, .ref a0), (1, .int (ι (rf a0 0) (53 + (ι (rf a0 24) x7.toNatClampNeg)).toNatClampNeg))] [] ι (fun _ κ3 => PC xl n 222 77 [(0, .ref a0), (1, .int x1), (2, .int x2), (3, .int x3), (4, .int x4), (5, .int x5), (6, .int x6), (7, .int (x7 + 1))] [] κ3 Q)))))) : PC xl (n + 1) 222 77 [(0, .ref a0), (1, .int x1), (2, .int x2), (3, .int x3), (4, .int x4), (5, .int x5), (6, .int x6), (7, .int x7)] [] ι Q := by
  refine PC.pr1 (k := 0) (pc' := 79) (lv' := [(0, .ref a0), (1, .int x1), (2, .int x2), (3, .int x3), (4, .int x4), (5, .int x5), (6, .int x6), (7, .int x7)]) (st' := [.int x7]) rfl ?_
  refine PC.pr (k := 1) (pc' := 80) (lv' := [(0, .ref a0), (1, .int x1), (2, .int x2), (3, .int x3), (4, .int x4), (5, .int x5), (6, .int x6), (7, .int x7)]) (st' := [.int x2, .int x7]) rfl ?_
  refine PC.if2 (t := 108) rfl rfl (fun c => ?_) (fun c => ?_)
  · have h := h.1 (cmp_ge.1.mp c)
    refine PC.pr (k := 1) (pc' := 109) (lv' := [(0, .ref a0), (1, .int x1), (2, .int x2), (3, .int x3), (4, .int x4), (5, .int x5), (6, .int x6), (7, .int x7)]) (st' := [.ref a0]) rfl ?_
    refine (PC.callI (j := 220) (args := [.ref a0]) (rest := []) (M := cM220) (ty := .boolean) rfl rfl rfl rfl rfl rfl (by decide) rfl rfl (by decide) ?_).weak
    refine PC.imp h (fun v1 κ1 h r1 hv => ?_)
    have h := h r1 hv
    refine PC.pr (k := 1) (pc' := 114) (lv' := [(7, .int r1), (0, .ref a0), (1, .int x1), (2, .int x2), (3, .int x3), (4, .int x4), (5, .int x5), (6, .int x6)]) (st' := []) rfl ?_
    refine PC.pr (k := 1) (pc' := 116) (lv' := [(7, .int r1), (0, .ref a0), (1, .int x1), (2, .int x2), (3, .int x3), (4, .int x4), (5, .int x5), (6, .int x6)]) (st' := [.int x4]) rfl ?_
    refine PC.pr (k := 1) (pc' := 118) (lv' := [(7, .int r1), (0, .ref a0), (1, .int x1), (2, .int x2), (3, .int x3), (4, .int x4), (5, .int x5), (6, .int x6)]) (st' := [.int r1, .int x4]) rfl ?_
    refine (PC.callI (j := 175) (args := [.int r1]) (rest := [.int x4]) (M := cM175) (ty := .int) rfl rfl rfl rfl rfl rfl (by decide) rfl rfl (by decide) ?_).weak
    refine PC.imp h (fun v2 κ2 h r2 hv => ?_)
    have h := h r2 hv
    refine PC.pr (k := 1) (pc' := 122) (lv' := [(7, .int r1), (0, .ref a0), (1, .int x1), (2, .int x2), (3, .int x3), (4, .int x4), (5, .int x5), (6, .int x6)]) (st' := [.int (x4 + r2)]) rfl ?_
    refine PC.pr (k := 1) (pc' := 124) (lv' := [(4, .int (x4 + r2)), (7, .int r1), (0, .ref a0), (1, .int x1), (2, .int x2), (3, .int x3), (5, .int x5), (6, .int x6)]) (st' := []) rfl ?_
    refine PC.pr (k := 1) (pc' := 126) (lv' := [(4, .int (x4 + r2)), (7, .int r1), (0, .ref a0), (1, .int x1), (2, .int x2), (3, .int x3), (5, .int x5), (6, .int x6)]) (st' := [.int x5]) rfl ?_
    refine PC.pr (k := 1) (pc' := 128) (lv' := [(4, .int (x4 + r2)), (7, .int r1), (0, .ref a0), (1, .int x1), (2, .int x2), (3, .int x3), (5, .int x5), (6, .int x6)]) (st' := [.int r1, .int x5]) rfl ?_
    refine PC.if1 (t := 148) rfl rfl (fun c => ?_) (fun c => ?_)
    · have h := h.1 (cmp_eq.1.mp c)
      exact PC.lv (lvE.cons rfl (lvE.cons rfl (lvE.cons rfl (lvE.cons rfl (lvE.cons rfl (lvE.cons rfl (lvE.cons rfl (lvE.cons rfl (lvE.nil))))))))) h
    · have h := h.2 (cmp_eq.2.mp c)
      refine PC.pr (k := 1) (pc' := 132) (lv' := [(4, .int (x4 + r2)), (7, .int r1), (0, .ref a0), (1, .int x1), (2, .int x2), (3, .int x3), (5, .int x5), (6, .int x6)]) (st' := [.int x2, .int x5]) rfl ?_
      refine PC.if1 (t := 148) rfl rfl (fun c => ?_) (fun c => ?_)
      · have h := h.1 (cmp_le.1.mp c)
        exact PC.lv (lvE.cons rfl (lvE.cons rfl (lvE.cons rfl (lvE.cons rfl (lvE.cons rfl (lvE.cons rfl (lvE.cons rfl (lvE.cons rfl (lvE.nil))))))))) h
      · have h := h.2 (cmp_le.2.mp c)
        refine PC.pr (k := 1) (pc' := 136) (lv' := [(4, .int (x4 + r2)), (7, .int r1), (0, .ref a0), (1, .int x1), (2, .int x2), (3, .int x3), (5, .int x5), (6, .int x6)]) (st' := [.int 1, .int x5]) rfl ?_
        refine PC.pr (k := 1) (pc' := 137) (lv' := [(4, .int (x4 + r2)), (7, .int r1), (0, .ref a0), (1, .int x1), (2, .int x2), (3, .int x3), (5, .int x5), (6, .int x6)]) (st' := [.ref a0, .int 1, .int x5]) rfl ?_
        refine PC.gR (ci := 9) (j := 24) rfl rfl (by decide) ?_
        refine PC.pr (k := 1) (pc' := 141) (lv' := [(4, .int (x4 + r2)), (7, .int r1), (0, .ref a0), (1, .int x1), (2, .int x2), (3, .int x3), (5, .int x5), (6, .int x6)]) (st' := [.int x2, .ref (rf a0 24), .int 1, .int x5]) rfl ?_
        refine PC.pr (k := 1) (pc' := 142) (lv' := [(4, .int (x4 + r2)), (7, .int r1), (0, .ref a0), (1, .int x1), (2, .int x2), (3, .int x3), (5, .int x5), (6, .int x6)]) (st' := [.int 1, .int x2, .ref (rf a0 24), .int 1, .int x5]) rfl ?_
        refine PC.pr (k := 1) (pc' := 143) (lv' := [(4, .int (x4 + r2)), (7, .int r1), (0, .ref a0), (1, .int x1), (2, .int x2), (3, .int x3), (5, .int x5), (6, .int x6)]) (st' := [.int (x2 - 1), .ref (rf a0 24), .int 1, .int x5]) rfl ?_
        refine PC.rd rfl (rf_lt _ _) (fun c1 c2 => ?_)
        have h := h c1 c2
        refine PC.pr (k := 1) (pc' := 145) (lv' := [(4, .int (x4 + r2)), (7, .int r1), (0, .ref a0), (1, .int x1), (2, .int x2), (3, .int x3), (5, .int x5), (6, .int x6)]) (st' := [.int (1 <<< ((κ2 (rf a0 24) (x2 - 1).toNatClampNeg) &&& 31)), .int x5]) rfl ?_
        refine PC.pr (k := 1) (pc' := 149) (lv' := [(4, .int (x4 + r2)), (7, .int r1), (0, .ref a0), (1, .int x1), (2, .int x2), (3, .int x3), (5, .int x5), (6, .int x6)]) (st' := [.int (1 <<< ((κ2 (rf a0 24) (x2 - 1).toNatClampNeg) &&& 31)), .int x5]) rfl ?_
        exact PC.lv (lvE.cons rfl (lvE.cons rfl (lvE.cons rfl (lvE.cons rfl (lvE.cons rfl (lvE.cons rfl (lvE.cons rfl (lvE.cons rfl (lvE.nil))))))))) h
  · have h := h.2 (cmp_ge.2.mp c)
    refine PC.pr (k := 1) (pc' := 84) (lv' := [(0, .ref a0), (1, .int x1), (2, .int x2), (3, .int x3), (4, .int x4), (5, .int x5), (6, .int x6), (7, .int x7)]) (st' := [.ref a0]) rfl ?_
    refine PC.pr (k := 1) (pc' := 85) (lv' := [(0, .ref a0), (1, .int x1), (2, .int x2), (3, .int x3), (4, .int x4), (5, .int x5), (6, .int x6), (7, .int x7)]) (st' := [.ref a0, .ref a0]) rfl ?_
    refine PC.gR (ci := 9) (j := 0) rfl rfl (by decide) ?_
    refine PC.pr (k := 1) (pc' := 90) (lv' := [(0, .ref a0), (1, .int x1), (2, .int x2), (3, .int x3), (4, .int x4), (5, .int x5), (6, .int x6), (7, .int x7)]) (st' := [.int 53, .ref (rf a0 0), .ref a0]) rfl ?_
    refine PC.pr (k := 1) (pc' := 91) (lv' := [(0, .ref a0), (1, .int x1), (2, .int x2), (3, .int x3), (4, .int x4), (5, .int x5), (6, .int x6), (7, .int x7)]) (st' := [.ref a0, .int 53, .ref (rf a0 0), .ref a0]) rfl ?_
    refine PC.gR (ci := 9) (j := 24) rfl rfl (by decide) ?_
    refine PC.pr (k := 1) (pc' := 96) (lv' := [(0, .ref a0), (1, .int x1), (2, .int x2), (3, .int x3), (4, .int x4), (5, .int x5), (6, .int x6), (7, .int x7)]) (st' := [.int x7, .ref (rf a0 24), .int 53, .ref (rf a0 0), .ref a0]) rfl ?_
    refine PC.rd rfl (rf_lt _ _) (fun c1 c2 => ?_)
    have h := h c1 c2
    refine PC.pr (k := 1) (pc' := 98) (lv' := [(0, .ref a0), (1, .int x1), (2, .int x2), (3, .int x3), (4, .int x4), (5, .int x5), (6, .int x6), (7, .int x7)]) (st' := [.int (53 + (ι (rf a0 24) x7.toNatClampNeg)), .ref (rf a0 0), .ref a0]) rfl ?_
    refine PC.rd rfl (rf_lt _ _) (fun c1 c2 => ?_)
    have h := h c1 c2
    refine (PC.callV (j := 203) (args := [.ref a0, .int (ι (rf a0 0) (53 + (ι (rf a0 24) x7.toNatClampNeg)).toNatClampNeg)]) (rest := []) (M := cM203) rfl rfl rfl rfl rfl rfl (by decide) rfl rfl ?_).weak
    refine PC.imp h (fun _ κ3 h => ?_)
    refine PC.pr (k := 1) (pc' := 105) (lv' := [(7, .int (x7 + 1)), (0, .ref a0), (1, .int x1), (2, .int x2), (3, .int x3), (4, .int x4), (5, .int x5), (6, .int x6)]) (st' := []) rfl ?_
    refine PC.pr (k := 1) (pc' := 77) (lv' := [(7, .int (x7 + 1)), (0, .ref a0), (1, .int x1), (2, .int x2), (3, .int x3), (4, .int x4), (5, .int x5), (6, .int x6)]) (st' := []) rfl ?_
    exact PC.lv (lvE.cons rfl (lvE.cons rfl (lvE.cons rfl (lvE.cons rfl (lvE.cons rfl (lvE.cons rfl (lvE.cons rfl (lvE.cons rfl (lvE.nil))))))))) h
theorem t_222_148 {xl : List Int32} {n : Nat} {ι : IS} {Q : Option Value → IS → Prop} {a0 : Nat} {x1 : Int32} {x2 : Int32} {x3 : Int32} {x4 : Int32} {x5 : Int32} {x6 : Int32} {x7 : Int32} {u0 : Int32} (h : PC xl n 222 149 [(0, .ref a0), (1, .int x1), (2, .int x2), (3, .int x3), (4, .int x4), (5, .int x5), (6, .int x6), (7, .int x7)] [.int 0, .int u0] ι Q) : PC xl (n + 1) 222 148 [(0, .ref a0), (1, .int x1), (2, .int x2), (3, .int x3), (4, .int x4), (5, .int x5), (6, .int x6), (7, .int x7)] [.int u0] ι Q := by
  refine PC.pr1 (k := 0) (pc' := 149) (lv' := [(0, .ref a0), (1, .int x1), (2, .int x2), (3, .int x3), (4, .int x4), (5, .int x5), (6, .int x6), (7, .int x7)]) (st' := [.int 0, .int u0]) rfl ?_
  exact h
theorem t_222_149 {xl : List Int32} {n : Nat} {ι : IS} {Q : Option Value → IS → Prop} {a0 : Nat} {x1 : Int32} {x2 : Int32} {x3 : Int32} {x4 : Int32} {x5 : Int32} {x6 : Int32} {x7 : Int32} {u0 : Int32} {u1 : Int32} (h : PC xl n 222 152 [(0, .ref a0), (1, .int x1), (2, .int x2), (3, .int x3), (4, .int x4), (5, .int (u1 ||| u0)), (6, .int x6), (7, .int x7)] [] ι Q) : PC xl (n + 1) 222 149 [(0, .ref a0), (1, .int x1), (2, .int x2), (3, .int x3), (4, .int x4), (5, .int x5), (6, .int x6), (7, .int x7)] [.int u0, .int u1] ι Q := by
  refine PC.pr1 (k := 0) (pc' := 150) (lv' := [(0, .ref a0), (1, .int x1), (2, .int x2), (3, .int x3), (4, .int x4), (5, .int x5), (6, .int x6), (7, .int x7)]) (st' := [.int (u1 ||| u0)]) rfl ?_
  refine PC.pr (k := 1) (pc' := 152) (lv' := [(5, .int (u1 ||| u0)), (0, .ref a0), (1, .int x1), (2, .int x2), (3, .int x3), (4, .int x4), (6, .int x6), (7, .int x7)]) (st' := []) rfl ?_
  exact PC.lv (lvE.cons rfl (lvE.cons rfl (lvE.cons rfl (lvE.cons rfl (lvE.cons rfl (lvE.cons rfl (lvE.cons rfl (lvE.cons rfl (lvE.nil))))))))) h
theorem t_222_152 {xl : List Int32} {n : Nat} {ι : IS} {Q : Option Value → IS → Prop} {a0 : Nat} {x1 : Int32} {x2 : Int32} {x3 : Int32} {x4 : Int32} {x5 : Int32} {x6 : Int32} {w7 : Value} (h : PC xl n 222 55 [(0, .ref a0), (1, .int x1), (2, .int x2), (3, .int x3), (4, .int x4), (5, .int x5), (6, .int (x6 + 1)), (7, w7)] [] ι Q) : PC xl (n + 1) 222 152 [(0, .ref a0), (1, .int x1), (2, .int x2), (3, .int x3), (4, .int x4), (5, .int x5), (6, .int x6), (7, w7)] [] ι Q := by
  refine PC.pr1 (k := 0) (pc' := 155) (lv' := [(6, .int (x6 + 1)), (0, .ref a0), (1, .int x1), (2, .int x2), (3, .int x3), (4, .int x4), (5, .int x5), (7, w7)]) (st' := []) rfl ?_
  refine PC.pr (k := 1) (pc' := 55) (lv' := [(6, .int (x6 + 1)), (0, .ref a0), (1, .int x1), (2, .int x2), (3, .int x3), (4, .int x4), (5, .int x5), (7, w7)]) (st' := []) rfl ?_
  exact PC.lv (lvE.cons rfl (lvE.cons rfl (lvE.cons rfl (lvE.cons rfl (lvE.cons rfl (lvE.cons rfl (lvE.cons rfl (lvE.cons rfl (lvE.nil))))))))) h

/-- DoorPaintsModel.isOrder(I)Z -/
theorem t_223_0 {xl : List Int32} {n : Nat} {ι : IS} {Q : Option Value → IS → Prop} {a0 : Nat} {x1 : Int32} (h : (0 ≤ (52 : Int32).toInt → (52 : Int32).toInt < ln (rf a0 0) → PC xl n 223 18 [(0, .ref a0), (1, .int x1), (2, .int (ι (rf a0 0) (52 : Int32).toNatClampNeg)), (3, .int x1), (4, .int 0), (5, .int ((ι (rf a0 0) (52 : Int32).toNatClampNeg) - 1))] [] ι Q)) : PC xl (n + 1) 223 0 [(0, .ref a0), (1, .int x1)] [] ι Q := by
  refine PC.pr1 (k := 0) (pc' := 1) (lv' := [(0, .ref a0), (1, .int x1)]) (st' := [.ref a0]) rfl ?_
  refine PC.gR (ci := 9) (j := 0) rfl rfl (by decide) ?_
  refine PC.pr (k := 1) (pc' := 6) (lv' := [(0, .ref a0), (1, .int x1)]) (st' := [.int 52, .ref (rf a0 0)]) rfl ?_
  refine PC.rd rfl (rf_lt _ _) (fun c1 c2 => ?_)
  have h := h c1 c2
  refine PC.pr (k := 1) (pc' := 8) (lv' := [(2, .int (ι (rf a0 0) (52 : Int32).toNatClampNeg)), (0, .ref a0), (1, .int x1)]) (st' := []) rfl ?_
  refine PC.pr (k := 1) (pc' := 9) (lv' := [(2, .int (ι (rf a0 0) (52 : Int32).toNatClampNeg)), (0, .ref a0), (1, .int x1)]) (st' := [.int x1]) rfl ?_
  refine PC.pr (k := 1) (pc' := 10) (lv' := [(3, .int x1), (2, .int (ι (rf a0 0) (52 : Int32).toNatClampNeg)), (0, .ref a0), (1, .int x1)]) (st' := []) rfl ?_
  refine PC.pr (k := 1) (pc' := 11) (lv' := [(3, .int x1), (2, .int (ι (rf a0 0) (52 : Int32).toNatClampNeg)), (0, .ref a0), (1, .int x1)]) (st' := [.int 0]) rfl ?_
  refine PC.pr (k := 1) (pc' := 13) (lv' := [(4, .int 0), (3, .int x1), (2, .int (ι (rf a0 0) (52 : Int32).toNatClampNeg)), (0, .ref a0), (1, .int x1)]) (st' := []) rfl ?_
  refine PC.pr (k := 1) (pc' := 14) (lv' := [(4, .int 0), (3, .int x1), (2, .int (ι (rf a0 0) (52 : Int32).toNatClampNeg)), (0, .ref a0), (1, .int x1)]) (st' := [.int (ι (rf a0 0) (52 : Int32).toNatClampNeg)]) rfl ?_
  refine PC.pr (k := 1) (pc' := 15) (lv' := [(4, .int 0), (3, .int x1), (2, .int (ι (rf a0 0) (52 : Int32).toNatClampNeg)), (0, .ref a0), (1, .int x1)]) (st' := [.int 1, .int (ι (rf a0 0) (52 : Int32).toNatClampNeg)]) rfl ?_
  refine PC.pr (k := 1) (pc' := 16) (lv' := [(4, .int 0), (3, .int x1), (2, .int (ι (rf a0 0) (52 : Int32).toNatClampNeg)), (0, .ref a0), (1, .int x1)]) (st' := [.int ((ι (rf a0 0) (52 : Int32).toNatClampNeg) - 1)]) rfl ?_
  refine PC.pr (k := 1) (pc' := 18) (lv' := [(5, .int ((ι (rf a0 0) (52 : Int32).toNatClampNeg) - 1)), (4, .int 0), (3, .int x1), (2, .int (ι (rf a0 0) (52 : Int32).toNatClampNeg)), (0, .ref a0), (1, .int x1)]) (st' := []) rfl ?_
  exact PC.lv (lvE.cons rfl (lvE.cons rfl (lvE.cons rfl (lvE.cons rfl (lvE.cons rfl (lvE.cons rfl (lvE.nil))))))) h
theorem t_223_18 {xl : List Int32} {n : Nat} {ι : IS} {Q : Option Value → IS → Prop} {a0 : Nat} {x1 : Int32} {x2 : Int32} {x3 : Int32} {x4 : Int32} {x5 : Int32} (h : ((x5 < 0 → ((¬ x4 = ((1 <<< (x2 &&& 31)) - 1) → Q (some (.int 0)) ι) ∧ (x4 = ((1 <<< (x2 &&& 31)) - 1) → Q (some (.int 1)) ι))) ∧ (¬ x5 < 0 → (¬ x2 = 0 → (0 ≤ x5.toInt → x5.toInt < ln (rf a0 24) → (¬ x2 = 0 → (0 ≤ x5.toInt → x5.toInt < ln (rf a0 24) → PC xl n 223 18 [(0, .ref a0), (1, .int x1), (2, .int x2), (3, .int (x3 / x2)), (4, .int (x4 ||| (1 <<< (((up ι (rf a0 24) x5.toNatClampNeg (x3 - x3 / x2 * x2)) (rf a0 24) x5.toNatClampNeg) &&& 31)))), (5, .int (x5 + (-1)))] [] (up ι (rf a0 24) x5.toNatClampNeg (x3 - x3 / x2 * x2)) Q))))))) : PC xl (n + 1) 223 18 [(0, .ref a0), (1, .int x1), (2, .int x2), (3, .int x3), (4, .int x4), (5, .int x5)] [] ι Q := by
  refine PC.pr1 (k := 0) (pc' := 20) (lv' := [(0, .ref a0), (1, .int x1), (2, .int x2), (3, .int x3), (4, .int x4), (5, .int x5)]) (st' := [.int x5]) rfl ?_
  refine PC.if1 (t := 57) rfl rfl (fun c => ?_) (fun c => ?_)
  · have h := h.1 (cmp_lt.1.mp c)
    refine PC.pr (k := 1) (pc' := 59) (lv' := [(0, .ref a0), (1, .int x1), (2, .int x2), (3, .int x3), (4, .int x4), (5, .int x5)]) (st' := [.int x4]) rfl ?_
    refine PC.pr (k := 1) (pc' := 60) (lv' := [(0, .ref a0), (1, .int x1), (2, .int x2), (3, .int x3), (4, .int x4), (5, .int x5)]) (st' := [.int 1, .int x4]) rfl ?_
    refine PC.pr (k := 1) (pc' := 61) (lv' := [(0, .ref a0), (1, .int x1), (2, .int x2), (3, .int x3), (4, .int x4), (5, .int x5)]) (st' := [.int x2, .int 1, .int x4]) rfl ?_
    refine PC.pr (k := 1) (pc' := 62) (lv' := [(0, .ref a0), (1, .int x1), (2, .int x2), (3, .int x3), (4, .int x4), (5, .int x5)]) (st' := [.int (1 <<< (x2 &&& 31)), .int x4]) rfl ?_
    refine PC.pr (k := 1) (pc' := 63) (lv' := [(0, .ref a0), (1, .int x1), (2, .int x2), (3, .int x3), (4, .int x4), (5, .int x5)]) (st' := [.int 1, .int (1 <<< (x2 &&& 31)), .int x4]) rfl ?_
    refine PC.pr (k := 1) (pc' := 64) (lv' := [(0, .ref a0), (1, .int x1), (2, .int x2), (3, .int x3), (4, .int x4), (5, .int x5)]) (st' := [.int ((1 <<< (x2 &&& 31)) - 1), .int x4]) rfl ?_
    refine PC.if2 (t := 71) rfl rfl (fun c => ?_) (fun c => ?_)
    · have h := h.1 (cmp_ne.1.mp c)
      refine PC.pr (k := 1) (pc' := 72) (lv' := [(0, .ref a0), (1, .int x1), (2, .int x2), (3, .int x3), (4, .int x4), (5, .int x5)]) (st' := [.int 0]) rfl ?_
      exact PC.retI rfl h
    · have h := h.2 (cmp_ne.2.mp c)
      refine PC.pr (k := 1) (pc' := 68) (lv' := [(0, .ref a0), (1, .int x1), (2, .int x2), (3, .int x3), (4, .int x4), (5, .int x5)]) (st' := [.int 1]) rfl ?_
      refine PC.pr (k := 1) (pc' := 72) (lv' := [(0, .ref a0), (1, .int x1), (2, .int x2), (3, .int x3), (4, .int x4), (5, .int x5)]) (st' := [.int 1]) rfl ?_
      exact PC.retI rfl h
  · have h := h.2 (cmp_lt.2.mp c)
    refine PC.pr (k := 1) (pc' := 24) (lv' := [(0, .ref a0), (1, .int x1), (2, .int x2), (3, .int x3), (4, .int x4), (5, .int x5)]) (st' := [.ref a0]) rfl ?_
    refine PC.gR (ci := 9) (j := 24) rfl rfl (by decide) ?_
    refine PC.pr (k := 1) (pc' := 29) (lv' := [(0, .ref a0), (1, .int x1), (2, .int x2), (3, .int x3), (4, .int x4), (5, .int x5)]) (st' := [.int x5, .ref (rf a0 24)]) rfl ?_
    refine PC.pr (k := 1) (pc' := 30) (lv' := [(0, .ref a0), (1, .int x1), (2, .int x2), (3, .int x3), (4, .int x4), (5, .int x5)]) (st' := [.int x3, .int x5, .ref (rf a0 24)]) rfl ?_
    refine PC.pr (k := 1) (pc' := 31) (lv' := [(0, .ref a0), (1, .int x1), (2, .int x2), (3, .int x3), (4, .int x4), (5, .int x5)]) (st' := [.int x2, .int x3, .int x5, .ref (rf a0 24)]) rfl ?_
    refine PC.irm rfl (fun c1 => ?_)
    have h := h c1
    refine PC.wI rfl (fun c1 c2 => ?_)
    have h := h c1 c2
    refine PC.pr (k := 1) (pc' := 34) (lv' := [(0, .ref a0), (1, .int x1), (2, .int x2), (3, .int x3), (4, .int x4), (5, .int x5)]) (st' := [.int x3]) rfl ?_
    refine PC.pr (k := 1) (pc' := 35) (lv' := [(0, .ref a0), (1, .int x1), (2, .int x2), (3, .int x3), (4, .int x4), (5, .int x5)]) (st' := [.int x2, .int x3]) rfl ?_
    refine PC.idv rfl (fun c1 => ?_)
    have h := h c1
    refine PC.pr (k := 1) (pc' := 37) (lv' := [(3, .int (x3 / x2)), (0, .ref a0), (1, .int x1), (2, .int x2), (4, .int x4), (5, .int x5)]) (st' := []) rfl ?_
    refine PC.pr (k := 1) (pc' := 39) (lv' := [(3, .int (x3 / x2)), (0, .ref a0), (1, .int x1), (2, .int x2), (4, .int x4), (5, .int x5)]) (st' := [.int x4]) rfl ?_
    refine PC.pr (k := 1) (pc' := 40) (lv' := [(3, .int (x3 / x2)), (0, .ref a0), (1, .int x1), (2, .int x2), (4, .int x4), (5, .int x5)]) (st' := [.int 1, .int x4]) rfl ?_
    refine PC.pr (k := 1) (pc' := 41) (lv' := [(3, .int (x3 / x2)), (0, .ref a0), (1, .int x1), (2, .int x2), (4, .int x4), (5, .int x5)]) (st' := [.ref a0, .int 1, .int x4]) rfl ?_
    refine PC.gR (ci := 9) (j := 24) rfl rfl (by decide) ?_
    refine PC.pr (k := 1) (pc' := 46) (lv' := [(3, .int (x3 / x2)), (0, .ref a0), (1, .int x1), (2, .int x2), (4, .int x4), (5, .int x5)]) (st' := [.int x5, .ref (rf a0 24), .int 1, .int x4]) rfl ?_
    refine PC.rd rfl (rf_lt _ _) (fun c1 c2 => ?_)
    have h := h c1 c2
    refine PC.pr (k := 1) (pc' := 48) (lv' := [(3, .int (x3 / x2)), (0, .ref a0), (1, .int x1), (2, .int x2), (4, .int x4), (5, .int x5)]) (st' := [.int (1 <<< (((up ι (rf a0 24) x5.toNatClampNeg (x3 - x3 / x2 * x2)) (rf a0 24) x5.toNatClampNeg) &&& 31)), .int x4]) rfl ?_
    refine PC.pr (k := 1) (pc' := 49) (lv' := [(3, .int (x3 / x2)), (0, .ref a0), (1, .int x1), (2, .int x2), (4, .int x4), (5, .int x5)]) (st' := [.int (x4 ||| (1 <<< (((up ι (rf a0 24) x5.toNatClampNeg (x3 - x3 / x2 * x2)) (rf a0 24) x5.toNatClampNeg) &&& 31)))]) rfl ?_
    refine PC.pr (k := 1) (pc' := 51) (lv' := [(4, .int (x4 ||| (1 <<< (((up ι (rf a0 24) x5.toNatClampNeg (x3 - x3 / x2 * x2)) (rf a0 24) x5.toNatClampNeg) &&& 31)))), (3, .int (x3 / x2)), (0, .ref a0), (1, .int x1), (2, .int x2), (5, .int x5)]) (st' := []) rfl ?_
    refine PC.pr (k := 1) (pc' := 54) (lv' := [(5, .int (x5 + (-1))), (4, .int (x4 ||| (1 <<< (((up ι (rf a0 24) x5.toNatClampNeg (x3 - x3 / x2 * x2)) (rf a0 24) x5.toNatClampNeg) &&& 31)))), (3, .int (x3 / x2)), (0, .ref a0), (1, .int x1), (2, .int x2)]) (st' := []) rfl ?_
    refine PC.pr (k := 1) (pc' := 18) (lv' := [(5, .int (x5 + (-1))), (4, .int (x4 ||| (1 <<< (((up ι (rf a0 24) x5.toNatClampNeg (x3 - x3 / x2 * x2)) (rf a0 24) x5.toNatClampNeg) &&& 31)))), (3, .int (x3 / x2)), (0, .ref a0), (1, .int x1), (2, .int x2)]) (st' := []) rfl ?_
    exact PC.lv (lvE.cons rfl (lvE.cons rfl (lvE.cons rfl (lvE.cons rfl (lvE.cons rfl (lvE.cons rfl (lvE.nil))))))) h

