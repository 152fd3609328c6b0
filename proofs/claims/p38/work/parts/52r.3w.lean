/-! WHAT RUNS ASK (written by a program) -/
/-- DoorPaintsModel.scrape(I)I -/
theorem t_194_0 {xl : List Int32} {n : Nat} {ι : IS} {Q : Option Value → IS → Prop} {a0 : Nat} {x1 : Int32} (h : PC xl n 181 0 [(0, .ref a0), (1, .int x1)] [] ι (fun v1 κ1 => ∀ r1, v1 = some (.int r1) → ((¬ r1 = 0 → PC xl n 168 0 [(0, .ref a0)] [] κ1 (fun _ κ2 => PC xl n 173 0 [(0, .ref a0), (1, .int x1)] [] κ2 (fun v3 κ3 => ∀ r3, v3 = some (.int r3) → ((¬ r3 = (-4) → PC xl n 169 0 [(0, .ref a0), (1, .int x1), (2, .int 0)] [] κ3 (fun v4 κ4 => ∀ r4, v4 = some (.int r4) → PC xl n 188 0 [(0, .ref a0), (1, .int x1), (2, .int 0), (3, .int (r4 - 1))] [] κ4 (fun _ κ5 => PC xl n 188 0 [(0, .ref a0), (1, .int x1), (2, .int 1), (3, .int 0)] [] κ5 (fun _ κ6 => PC xl n 189 0 [(0, .ref a0)] [] κ6 (fun _ κ7 => PC xl n 173 0 [(0, .ref a0), (1, .int x1)] [] κ7 (fun v8 κ8 => ∀ r8, v8 = some (.int r8) → Q (some (.int r8)) κ8)))))) ∧ (r3 = (-4) → Q (some (.int (-2))) κ3))))) ∧ (r1 = 0 → Q (some (.int (-1))) κ1)))) : PC xl (n + 1) 194 0 [(0, .ref a0), (1, .int x1)] [] ι Q := by
  refine PC.pr1 (k := 0) (pc' := 1) (lv' := [(0, .ref a0), (1, .int x1)]) (st' := [.ref a0]) rfl ?_
  refine PC.pr (k := 1) (pc' := 2) (lv' := [(0, .ref a0), (1, .int x1)]) (st' := [.int x1, .ref a0]) rfl ?_
  refine (PC.callI (j := 181) (args := [.ref a0, .int x1]) (rest := []) (M := cM181) (ty := .boolean) rfl rfl rfl rfl rfl rfl (by decide) rfl rfl (by decide) ?_).weak
  refine PC.imp h (fun v1 κ1 h r1 hv => ?_)
  have h := h r1 hv
  refine PC.if1 (t := 10) rfl rfl (fun c => ?_) (fun c => ?_)
  · have h := h.1 (cmp_ne.1.mp c)
    refine PC.pr (k := 1) (pc' := 11) (lv' := [(0, .ref a0), (1, .int x1)]) (st' := [.ref a0]) rfl ?_
    refine (PC.callV (j := 168) (args := [.ref a0]) (rest := []) (M := cM168) rfl rfl rfl rfl rfl rfl (by decide) rfl rfl ?_).weak
    refine PC.imp h (fun _ κ2 h => ?_)
    refine PC.pr (k := 1) (pc' := 15) (lv' := [(0, .ref a0), (1, .int x1)]) (st' := [.ref a0]) rfl ?_
    refine PC.pr (k := 1) (pc' := 16) (lv' := [(0, .ref a0), (1, .int x1)]) (st' := [.int x1, .ref a0]) rfl ?_
    refine (PC.callI (j := 173) (args := [.ref a0, .int x1]) (rest := []) (M := cM173) (ty := .int) rfl rfl rfl rfl rfl rfl (by decide) rfl rfl (by decide) ?_).weak
    refine PC.imp h (fun v3 κ3 h r3 hv => ?_)
    have h := h r3 hv
    refine PC.pr (k := 1) (pc' := 21) (lv' := [(0, .ref a0), (1, .int x1)]) (st' := [.int (-4), .int r3]) rfl ?_
    refine PC.if2 (t := 27) rfl rfl (fun c => ?_) (fun c => ?_)
    · have h := h.1 (cmp_ne.1.mp c)
      refine PC.pr (k := 1) (pc' := 28) (lv' := [(0, .ref a0), (1, .int x1)]) (st' := [.ref a0]) rfl ?_
      refine PC.pr (k := 1) (pc' := 29) (lv' := [(0, .ref a0), (1, .int x1)]) (st' := [.int x1, .ref a0]) rfl ?_
      refine PC.pr (k := 1) (pc' := 30) (lv' := [(0, .ref a0), (1, .int x1)]) (st' := [.int 0, .int x1, .ref a0]) rfl ?_
      refine PC.pr (k := 1) (pc' := 31) (lv' := [(0, .ref a0), (1, .int x1)]) (st' := [.ref a0, .int 0, .int x1, .ref a0]) rfl ?_
      refine PC.pr (k := 1) (pc' := 32) (lv' := [(0, .ref a0), (1, .int x1)]) (st' := [.int x1, .ref a0, .int 0, .int x1, .ref a0]) rfl ?_
      refine PC.pr (k := 1) (pc' := 33) (lv' := [(0, .ref a0), (1, .int x1)]) (st' := [.int 0, .int x1, .ref a0, .int 0, .int x1, .ref a0]) rfl ?_
      refine (PC.callI (j := 169) (args := [.ref a0, .int x1, .int 0]) (rest := [.int 0, .int x1, .ref a0]) (M := cM169) (ty := .int) rfl rfl rfl rfl rfl rfl (by decide) rfl rfl (by decide) ?_).weak
      refine PC.imp h (fun v4 κ4 h r4 hv => ?_)
      have h := h r4 hv
      refine PC.pr (k := 1) (pc' := 37) (lv' := [(0, .ref a0), (1, .int x1)]) (st' := [.int 1, .int r4, .int 0, .int x1, .ref a0]) rfl ?_
      refine PC.pr (k := 1) (pc' := 38) (lv' := [(0, .ref a0), (1, .int x1)]) (st' := [.int (r4 - 1), .int 0, .int x1, .ref a0]) rfl ?_
      refine (PC.callV (j := 188) (args := [.ref a0, .int x1, .int 0, .int (r4 - 1)]) (rest := []) (M := cM188) rfl rfl rfl rfl rfl rfl (by decide) rfl rfl ?_).weak
      refine PC.imp h (fun _ κ5 h => ?_)
      refine PC.pr (k := 1) (pc' := 42) (lv' := [(0, .ref a0), (1, .int x1)]) (st' := [.ref a0]) rfl ?_
      refine PC.pr (k := 1) (pc' := 43) (lv' := [(0, .ref a0), (1, .int x1)]) (st' := [.int x1, .ref a0]) rfl ?_
      refine PC.pr (k := 1) (pc' := 44) (lv' := [(0, .ref a0), (1, .int x1)]) (st' := [.int 1, .int x1, .ref a0]) rfl ?_
      refine PC.pr (k := 1) (pc' := 45) (lv' := [(0, .ref a0), (1, .int x1)]) (st' := [.int 0, .int 1, .int x1, .ref a0]) rfl ?_
      refine (PC.callV (j := 188) (args := [.ref a0, .int x1, .int 1, .int 0]) (rest := []) (M := cM188) rfl rfl rfl rfl rfl rfl (by decide) rfl rfl ?_).weak
      refine PC.imp h (fun _ κ6 h => ?_)
      refine PC.pr (k := 1) (pc' := 49) (lv' := [(0, .ref a0), (1, .int x1)]) (st' := [.ref a0]) rfl ?_
      refine (PC.callV (j := 189) (args := [.ref a0]) (rest := []) (M := cM189) rfl rfl rfl rfl rfl rfl (by decide) rfl rfl ?_).weak
      refine PC.imp h (fun _ κ7 h => ?_)
      refine PC.pr (k := 1) (pc' := 53) (lv' := [(0, .ref a0), (1, .int x1)]) (st' := [.ref a0]) rfl ?_
      refine PC.pr (k := 1) (pc' := 54) (lv' := [(0, .ref a0), (1, .int x1)]) (st' := [.int x1, .ref a0]) rfl ?_
      refine (PC.callI (j := 173) (args := [.ref a0, .int x1]) (rest := []) (M := cM173) (ty := .int) rfl rfl rfl rfl rfl rfl (by decide) rfl rfl (by decide) ?_).weak
      refine PC.imp h (fun v8 κ8 h r8 hv => ?_)
      have h := h r8 hv
      exact PC.retI rfl h
    · have h := h.2 (cmp_ne.2.mp c)
      refine PC.pr (k := 1) (pc' := 26) (lv' := [(0, .ref a0), (1, .int x1)]) (st' := [.int (-2)]) rfl ?_
      exact PC.retI rfl h
  · have h := h.2 (cmp_ne.2.mp c)
    refine PC.pr (k := 1) (pc' := 9) (lv' := [(0, .ref a0), (1, .int x1)]) (st' := [.int (-1)]) rfl ?_
    exact PC.retI rfl h

/-- DoorPaintsModel.alter(III)I -/
theorem t_195_0 {xl : List Int32} {n : Nat} {ι : IS} {Q : Option Value → IS → Prop} {a0 : Nat} {x1 : Int32} {x2 : Int32} {x3 : Int32} (h : PC xl n 177 0 [(0, .ref a0), (1, .int x1)] [] ι (fun v1 κ1 => ∀ r1, v1 = some (.int r1) → ((r1 = 0 → Q (some (.int (-1))) κ1) ∧ (¬ r1 = 0 → PC xl n 148 0 [(0, .long (x2).toInt64), (2, .long 0), (4, .long 3)] [] κ1 (fun v2 κ2 => ∀ r2, v2 = some (.int r2) → ((r2 = 0 → Q (some (.int (-1))) κ2) ∧ (¬ r2 = 0 → PC xl n 196 0 [(0, .int x2)] [] κ2 (fun v3 κ3 => ∀ r3, v3 = some (.int r3) → PC xl n 148 0 [(0, .long (x3).toInt64), (2, .long 0), (4, .long (r3).toInt64)] [] κ3 (fun v4 κ4 => ∀ r4, v4 = some (.int r4) → ((r4 = 0 → Q (some (.int (-1))) κ4) ∧ (¬ r4 = 0 → PC xl n 197 0 [(0, .ref a0), (1, .int ((4 * x1) + x2)), (2, .int x3)] [] κ4 (fun v5 κ5 => ∀ r5, v5 = some (.int r5) → Q (some (.int r5)) κ5)))))))))))) : PC xl (n + 1) 195 0 [(0, .ref a0), (1, .int x1), (2, .int x2), (3, .int x3)] [] ι Q := by
  refine PC.pr1 (k := 0) (pc' := 1) (lv' := [(0, .ref a0), (1, .int x1), (2, .int x2), (3, .int x3)]) (st' := [.ref a0]) rfl ?_
  refine PC.pr (k := 1) (pc' := 2) (lv' := [(0, .ref a0), (1, .int x1), (2, .int x2), (3, .int x3)]) (st' := [.int x1, .ref a0]) rfl ?_
  refine (PC.callI (j := 177) (args := [.ref a0, .int x1]) (rest := []) (M := cM177) (ty := .boolean) rfl rfl rfl rfl rfl rfl (by decide) rfl rfl (by decide) ?_).weak
  refine PC.imp h (fun v1 κ1 h r1 hv => ?_)
  have h := h r1 hv
  refine PC.if1 (t := 47) rfl rfl (fun c => ?_) (fun c => ?_)
  · have h := h.1 (cmp_eq.1.mp c)
    refine PC.pr (k := 1) (pc' := 48) (lv' := [(0, .ref a0), (1, .int x1), (2, .int x2), (3, .int x3)]) (st' := [.int (-1)]) rfl ?_
    exact PC.retI rfl h
  · have h := h.2 (cmp_eq.2.mp c)
    refine PC.pr (k := 1) (pc' := 9) (lv' := [(0, .ref a0), (1, .int x1), (2, .int x2), (3, .int x3)]) (st' := [.int x2]) rfl ?_
    refine PC.pr (k := 1) (pc' := 10) (lv' := [(0, .ref a0), (1, .int x1), (2, .int x2), (3, .int x3)]) (st' := [.long (x2).toInt64]) rfl ?_
    refine PC.pr (k := 1) (pc' := 11) (lv' := [(0, .ref a0), (1, .int x1), (2, .int x2), (3, .int x3)]) (st' := [.long 0, .long (x2).toInt64]) rfl ?_
    refine PC.pr (k := 1) (pc' := 14) (lv' := [(0, .ref a0), (1, .int x1), (2, .int x2), (3, .int x3)]) (st' := [.long 3, .long 0, .long (x2).toInt64]) rfl ?_
    refine (PC.callI (j := 148) (args := [.long (x2).toInt64, .long 0, .long 3]) (rest := []) (M := cM148) (ty := .boolean) rfl rfl rfl rfl rfl rfl (by decide) rfl rfl (by decide) ?_).weak
    refine PC.imp h (fun v2 κ2 h r2 hv => ?_)
    have h := h r2 hv
    refine PC.if1 (t := 47) rfl rfl (fun c => ?_) (fun c => ?_)
    · have h := h.1 (cmp_eq.1.mp c)
      refine PC.pr (k := 1) (pc' := 48) (lv' := [(0, .ref a0), (1, .int x1), (2, .int x2), (3, .int x3)]) (st' := [.int (-1)]) rfl ?_
      exact PC.retI rfl h
    · have h := h.2 (cmp_eq.2.mp c)
      refine PC.pr (k := 1) (pc' := 21) (lv' := [(0, .ref a0), (1, .int x1), (2, .int x2), (3, .int x3)]) (st' := [.int x3]) rfl ?_
      refine PC.pr (k := 1) (pc' := 22) (lv' := [(0, .ref a0), (1, .int x1), (2, .int x2), (3, .int x3)]) (st' := [.long (x3).toInt64]) rfl ?_
      refine PC.pr (k := 1) (pc' := 23) (lv' := [(0, .ref a0), (1, .int x1), (2, .int x2), (3, .int x3)]) (st' := [.long 0, .long (x3).toInt64]) rfl ?_
      refine PC.pr (k := 1) (pc' := 24) (lv' := [(0, .ref a0), (1, .int x1), (2, .int x2), (3, .int x3)]) (st' := [.int x2, .long 0, .long (x3).toInt64]) rfl ?_
      refine (PC.callI (j := 196) (args := [.int x2]) (rest := [.long 0, .long (x3).toInt64]) (M := cM196) (ty := .int) rfl rfl rfl rfl rfl rfl (by decide) rfl rfl (by decide) ?_).weak
      refine PC.imp h (fun v3 κ3 h r3 hv => ?_)
      have h := h r3 hv
      refine PC.pr (k := 1) (pc' := 28) (lv' := [(0, .ref a0), (1, .int x1), (2, .int x2), (3, .int x3)]) (st' := [.long (r3).toInt64, .long 0, .long (x3).toInt64]) rfl ?_
      refine (PC.callI (j := 148) (args := [.long (x3).toInt64, .long 0, .long (r3).toInt64]) (rest := []) (M := cM148) (ty := .boolean) rfl rfl rfl rfl rfl rfl (by decide) rfl rfl (by decide) ?_).weak
      refine PC.imp h (fun v4 κ4 h r4 hv => ?_)
      have h := h r4 hv
      refine PC.if1 (t := 47) rfl rfl (fun c => ?_) (fun c => ?_)
      · have h := h.1 (cmp_eq.1.mp c)
        refine PC.pr (k := 1) (pc' := 48) (lv' := [(0, .ref a0), (1, .int x1), (2, .int x2), (3, .int x3)]) (st' := [.int (-1)]) rfl ?_
        exact PC.retI rfl h
      · have h := h.2 (cmp_eq.2.mp c)
        refine PC.pr (k := 1) (pc' := 35) (lv' := [(0, .ref a0), (1, .int x1), (2, .int x2), (3, .int x3)]) (st' := [.ref a0]) rfl ?_
        refine PC.pr (k := 1) (pc' := 36) (lv' := [(0, .ref a0), (1, .int x1), (2, .int x2), (3, .int x3)]) (st' := [.int 4, .ref a0]) rfl ?_
        refine PC.pr (k := 1) (pc' := 37) (lv' := [(0, .ref a0), (1, .int x1), (2, .int x2), (3, .int x3)]) (st' := [.int x1, .int 4, .ref a0]) rfl ?_
        refine PC.pr (k := 1) (pc' := 38) (lv' := [(0, .ref a0), (1, .int x1), (2, .int x2), (3, .int x3)]) (st' := [.int (4 * x1), .ref a0]) rfl ?_
        refine PC.pr (k := 1) (pc' := 39) (lv' := [(0, .ref a0), (1, .int x1), (2, .int x2), (3, .int x3)]) (st' := [.int x2, .int (4 * x1), .ref a0]) rfl ?_
        refine PC.pr (k := 1) (pc' := 40) (lv' := [(0, .ref a0), (1, .int x1), (2, .int x2), (3, .int x3)]) (st' := [.int ((4 * x1) + x2), .ref a0]) rfl ?_
        refine PC.pr (k := 1) (pc' := 41) (lv' := [(0, .ref a0), (1, .int x1), (2, .int x2), (3, .int x3)]) (st' := [.int x3, .int ((4 * x1) + x2), .ref a0]) rfl ?_
        refine (PC.callI (j := 197) (args := [.ref a0, .int ((4 * x1) + x2), .int x3]) (rest := []) (M := cM197) (ty := .int) rfl rfl rfl rfl rfl rfl (by decide) rfl rfl (by decide) ?_).weak
        refine PC.imp h (fun v5 κ5 h r5 hv => ?_)
        have h := h r5 hv
        refine PC.pr (k := 1) (pc' := 48) (lv' := [(0, .ref a0), (1, .int x1), (2, .int x2), (3, .int x3)]) (st' := [.int r5]) rfl ?_
        exact PC.retI rfl h

/-- DoorPaintsModel.mostOf(I)I -/
theorem t_196_0 {xl : List Int32} {n : Nat} {ι : IS} {Q : Option Value → IS → Prop} {x0 : Int32} (h : ((¬ x0 = 0 → ((¬ x0 = 1 → ((¬ x0 = 2 → Q (some (.int 0)) ι) ∧ (x0 = 2 → Q (some (.int 99)) ι))) ∧ (x0 = 1 → Q (some (.int 5)) ι))) ∧ (x0 = 0 → Q (some (.int 3)) ι))) : PC xl (n + 1) 196 0 [(0, .int x0)] [] ι Q := by
  refine PC.pr1 (k := 0) (pc' := 1) (lv' := [(0, .int x0)]) (st' := [.int x0]) rfl ?_
  refine PC.if1 (t := 8) rfl rfl (fun c => ?_) (fun c => ?_)
  · have h := h.1 (cmp_ne.1.mp c)
    refine PC.pr (k := 1) (pc' := 9) (lv' := [(0, .int x0)]) (st' := [.int x0]) rfl ?_
    refine PC.pr (k := 1) (pc' := 10) (lv' := [(0, .int x0)]) (st' := [.int 1, .int x0]) rfl ?_
    refine PC.if2 (t := 17) rfl rfl (fun c => ?_) (fun c => ?_)
    · have h := h.1 (cmp_ne.1.mp c)
      refine PC.pr (k := 1) (pc' := 18) (lv' := [(0, .int x0)]) (st' := [.int x0]) rfl ?_
      refine PC.pr (k := 1) (pc' := 19) (lv' := [(0, .int x0)]) (st' := [.int 2, .int x0]) rfl ?_
      refine PC.if2 (t := 27) rfl rfl (fun c => ?_) (fun c => ?_)
      · have h := h.1 (cmp_ne.1.mp c)
        refine PC.pr (k := 1) (pc' := 28) (lv' := [(0, .int x0)]) (st' := [.int 0]) rfl ?_
        exact PC.retI rfl h
      · have h := h.2 (cmp_ne.2.mp c)
        refine PC.pr (k := 1) (pc' := 24) (lv' := [(0, .int x0)]) (st' := [.int 99]) rfl ?_
        refine PC.pr (k := 1) (pc' := 28) (lv' := [(0, .int x0)]) (st' := [.int 99]) rfl ?_
        exact PC.retI rfl h
    · have h := h.2 (cmp_ne.2.mp c)
      refine PC.pr (k := 1) (pc' := 14) (lv' := [(0, .int x0)]) (st' := [.int 5]) rfl ?_
      refine PC.pr (k := 1) (pc' := 28) (lv' := [(0, .int x0)]) (st' := [.int 5]) rfl ?_
      exact PC.retI rfl h
  · have h := h.2 (cmp_ne.2.mp c)
    refine PC.pr (k := 1) (pc' := 5) (lv' := [(0, .int x0)]) (st' := [.int 3]) rfl ?_
    refine PC.pr (k := 1) (pc' := 28) (lv' := [(0, .int x0)]) (st' := [.int 3]) rfl ?_
    exact PC.retI rfl h

/-- DoorPaintsModel.becomes(II)I -/
theorem t_197_0 {xl : List Int32} {n : Nat} {ι : IS} {Q : Option Value → IS → Prop} {a0 : Nat} {x1 : Int32} {x2 : Int32} (h : (0 ≤ x1.toInt → x1.toInt < ln (rf a0 0) → (0 ≤ x1.toInt → x1.toInt < ln (rf a0 0) → Q (some (.int (ι (rf a0 0) x1.toNatClampNeg))) (up ι (rf a0 0) x1.toNatClampNeg x2)))) : PC xl (n + 1) 197 0 [(0, .ref a0), (1, .int x1), (2, .int x2)] [] ι Q := by
  refine PC.pr1 (k := 0) (pc' := 1) (lv' := [(0, .ref a0), (1, .int x1), (2, .int x2)]) (st' := [.ref a0]) rfl ?_
  refine PC.gR (ci := 9) (j := 0) rfl rfl (by decide) ?_
  refine PC.pr (k := 1) (pc' := 5) (lv' := [(0, .ref a0), (1, .int x1), (2, .int x2)]) (st' := [.int x1, .ref (rf a0 0)]) rfl ?_
  refine PC.rd rfl (rf_lt _ _) (fun c1 c2 => ?_)
  have h := h c1 c2
  refine PC.pr (k := 1) (pc' := 7) (lv' := [(3, .int (ι (rf a0 0) x1.toNatClampNeg)), (0, .ref a0), (1, .int x1), (2, .int x2)]) (st' := []) rfl ?_
  refine PC.pr (k := 1) (pc' := 8) (lv' := [(3, .int (ι (rf a0 0) x1.toNatClampNeg)), (0, .ref a0), (1, .int x1), (2, .int x2)]) (st' := [.ref a0]) rfl ?_
  refine PC.gR (ci := 9) (j := 0) rfl rfl (by decide) ?_
  refine PC.pr (k := 1) (pc' := 12) (lv' := [(3, .int (ι (rf a0 0) x1.toNatClampNeg)), (0, .ref a0), (1, .int x1), (2, .int x2)]) (st' := [.int x1, .ref (rf a0 0)]) rfl ?_
  refine PC.pr (k := 1) (pc' := 13) (lv' := [(3, .int (ι (rf a0 0) x1.toNatClampNeg)), (0, .ref a0), (1, .int x1), (2, .int x2)]) (st' := [.int x2, .int x1, .ref (rf a0 0)]) rfl ?_
  refine PC.wI rfl (fun c1 c2 => ?_)
  have h := h c1 c2
  refine PC.pr (k := 1) (pc' := 15) (lv' := [(3, .int (ι (rf a0 0) x1.toNatClampNeg)), (0, .ref a0), (1, .int x1), (2, .int x2)]) (st' := [.int (ι (rf a0 0) x1.toNatClampNeg)]) rfl ?_
  exact PC.retI rfl h

/-- DoorPaintsModel.ought(IIZ)I -/
theorem t_198_0 {xl : List Int32} {n : Nat} {ι : IS} {Q : Option Value → IS → Prop} {a0 : Nat} {x1 : Int32} {x2 : Int32} {x3 : Int32} (h : PC xl n 181 0 [(0, .ref a0), (1, .int x1)] [] ι (fun v1 κ1 => ∀ r1, v1 = some (.int r1) → ((r1 = 0 → Q (some (.int (-1))) κ1) ∧ (¬ r1 = 0 → PC xl n 148 0 [(0, .long (x2).toInt64), (2, .long 0), (4, .long 5)] [] κ1 (fun v2 κ2 => ∀ r2, v2 = some (.int r2) → ((¬ r2 = 0 → (0 ≤ ((16 + (9 * x1)) + 2).toInt → ((16 + (9 * x1)) + 2).toInt < ln (rf a0 0) → ((x3 = 0 → (0 ≤ ((16 + (9 * x1)) + 2).toInt → ((16 + (9 * x1)) + 2).toInt < ln (rf a0 0) → Q (some (.int (((κ2 (rf a0 0) ((16 + (9 * x1)) + 2).toNatClampNeg) >>> (x2 &&& 31)) &&& 1))) (up κ2 (rf a0 0) ((16 + (9 * x1)) + 2).toNatClampNeg ((κ2 (rf a0 0) ((16 + (9 * x1)) + 2).toNatClampNeg) &&& ((1 <<< (x2 &&& 31)) ^^^ (-1)))))) ∧ (¬ x3 = 0 → (0 ≤ ((16 + (9 * x1)) + 2).toInt → ((16 + (9 * x1)) + 2).toInt < ln (rf a0 0) → Q (some (.int (((κ2 (rf a0 0) ((16 + (9 * x1)) + 2).toNatClampNeg) >>> (x2 &&& 31)) &&& 1))) (up κ2 (rf a0 0) ((16 + (9 * x1)) + 2).toNatClampNeg ((κ2 (rf a0 0) ((16 + (9 * x1)) + 2).toNatClampNeg) ||| (1 <<< (x2 &&& 31))))))))) ∧ (r2 = 0 → Q (some (.int (-1))) κ2))))))) : PC xl (n + 1) 198 0 [(0, .ref a0), (1, .int x1), (2, .int x2), (3, .int x3)] [] ι Q := by
  refine PC.pr1 (k := 0) (pc' := 1) (lv' := [(0, .ref a0), (1, .int x1), (2, .int x2), (3, .int x3)]) (st' := [.ref a0]) rfl ?_
  refine PC.pr (k := 1) (pc' := 2) (lv' := [(0, .ref a0), (1, .int x1), (2, .int x2), (3, .int x3)]) (st' := [.int x1, .ref a0]) rfl ?_
  refine (PC.callI (j := 181) (args := [.ref a0, .int x1]) (rest := []) (M := cM181) (ty := .boolean) rfl rfl rfl rfl rfl rfl (by decide) rfl rfl (by decide) ?_).weak
  refine PC.imp h (fun v1 κ1 h r1 hv => ?_)
  have h := h r1 hv
  refine PC.if1 (t := 20) rfl rfl (fun c => ?_) (fun c => ?_)
  · have h := h.1 (cmp_eq.1.mp c)
    refine PC.pr (k := 1) (pc' := 21) (lv' := [(0, .ref a0), (1, .int x1), (2, .int x2), (3, .int x3)]) (st' := [.int (-1)]) rfl ?_
    exact PC.retI rfl h
  · have h := h.2 (cmp_eq.2.mp c)
    refine PC.pr (k := 1) (pc' := 9) (lv' := [(0, .ref a0), (1, .int x1), (2, .int x2), (3, .int x3)]) (st' := [.int x2]) rfl ?_
    refine PC.pr (k := 1) (pc' := 10) (lv' := [(0, .ref a0), (1, .int x1), (2, .int x2), (3, .int x3)]) (st' := [.long (x2).toInt64]) rfl ?_
    refine PC.pr (k := 1) (pc' := 11) (lv' := [(0, .ref a0), (1, .int x1), (2, .int x2), (3, .int x3)]) (st' := [.long 0, .long (x2).toInt64]) rfl ?_
    refine PC.pr (k := 1) (pc' := 14) (lv' := [(0, .ref a0), (1, .int x1), (2, .int x2), (3, .int x3)]) (st' := [.long 5, .long 0, .long (x2).toInt64]) rfl ?_
    refine (PC.callI (j := 148) (args := [.long (x2).toInt64, .long 0, .long 5]) (rest := []) (M := cM148) (ty := .boolean) rfl rfl rfl rfl rfl rfl (by decide) rfl rfl (by decide) ?_).weak
    refine PC.imp h (fun v2 κ2 h r2 hv => ?_)
    have h := h r2 hv
    refine PC.if1 (t := 22) rfl rfl (fun c => ?_) (fun c => ?_)
    · have h := h.1 (cmp_ne.1.mp c)
      refine PC.pr (k := 1) (pc' := 24) (lv' := [(0, .ref a0), (1, .int x1), (2, .int x2), (3, .int x3)]) (st' := [.int 16]) rfl ?_
      refine PC.pr (k := 1) (pc' := 26) (lv' := [(0, .ref a0), (1, .int x1), (2, .int x2), (3, .int x3)]) (st' := [.int 9, .int 16]) rfl ?_
      refine PC.pr (k := 1) (pc' := 27) (lv' := [(0, .ref a0), (1, .int x1), (2, .int x2), (3, .int x3)]) (st' := [.int x1, .int 9, .int 16]) rfl ?_
      refine PC.pr (k := 1) (pc' := 28) (lv' := [(0, .ref a0), (1, .int x1), (2, .int x2), (3, .int x3)]) (st' := [.int (9 * x1), .int 16]) rfl ?_
      refine PC.pr (k := 1) (pc' := 29) (lv' := [(0, .ref a0), (1, .int x1), (2, .int x2), (3, .int x3)]) (st' := [.int (16 + (9 * x1))]) rfl ?_
      refine PC.pr (k := 1) (pc' := 30) (lv' := [(0, .ref a0), (1, .int x1), (2, .int x2), (3, .int x3)]) (st' := [.int 2, .int (16 + (9 * x1))]) rfl ?_
      refine PC.pr (k := 1) (pc' := 31) (lv' := [(0, .ref a0), (1, .int x1), (2, .int x2), (3, .int x3)]) (st' := [.int ((16 + (9 * x1)) + 2)]) rfl ?_
      refine PC.pr (k := 1) (pc' := 33) (lv' := [(4, .int ((16 + (9 * x1)) + 2)), (0, .ref a0), (1, .int x1), (2, .int x2), (3, .int x3)]) (st' := []) rfl ?_
      refine PC.pr (k := 1) (pc' := 34) (lv' := [(4, .int ((16 + (9 * x1)) + 2)), (0, .ref a0), (1, .int x1), (2, .int x2), (3, .int x3)]) (st' := [.ref a0]) rfl ?_
      refine PC.gR (ci := 9) (j := 0) rfl rfl (by decide) ?_
      refine PC.pr (k := 1) (pc' := 39) (lv' := [(4, .int ((16 + (9 * x1)) + 2)), (0, .ref a0), (1, .int x1), (2, .int x2), (3, .int x3)]) (st' := [.int ((16 + (9 * x1)) + 2), .ref (rf a0 0)]) rfl ?_
      refine PC.rd rfl (rf_lt _ _) (fun c1 c2 => ?_)
      have h := h c1 c2
      refine PC.pr (k := 1) (pc' := 42) (lv' := [(5, .int (κ2 (rf a0 0) ((16 + (9 * x1)) + 2).toNatClampNeg)), (4, .int ((16 + (9 * x1)) + 2)), (0, .ref a0), (1, .int x1), (2, .int x2), (3, .int x3)]) (st' := []) rfl ?_
      refine PC.pr (k := 1) (pc' := 43) (lv' := [(5, .int (κ2 (rf a0 0) ((16 + (9 * x1)) + 2).toNatClampNeg)), (4, .int ((16 + (9 * x1)) + 2)), (0, .ref a0), (1, .int x1), (2, .int x2), (3, .int x3)]) (st' := [.ref a0]) rfl ?_
      refine PC.gR (ci := 9) (j := 0) rfl rfl (by decide) ?_
      refine PC.pr (k := 1) (pc' := 48) (lv' := [(5, .int (κ2 (rf a0 0) ((16 + (9 * x1)) + 2).toNatClampNeg)), (4, .int ((16 + (9 * x1)) + 2)), (0, .ref a0), (1, .int x1), (2, .int x2), (3, .int x3)]) (st' := [.int ((16 + (9 * x1)) + 2), .ref (rf a0 0)]) rfl ?_
      refine PC.pr (k := 1) (pc' := 49) (lv' := [(5, .int (κ2 (rf a0 0) ((16 + (9 * x1)) + 2).toNatClampNeg)), (4, .int ((16 + (9 * x1)) + 2)), (0, .ref a0), (1, .int x1), (2, .int x2), (3, .int x3)]) (st' := [.int x3, .int ((16 + (9 * x1)) + 2), .ref (rf a0 0)]) rfl ?_
      refine PC.if1 (t := 61) rfl rfl (fun c => ?_) (fun c => ?_)
      · have h := h.1 (cmp_eq.1.mp c)
        refine PC.pr (k := 1) (pc' := 63) (lv' := [(5, .int (κ2 (rf a0 0) ((16 + (9 * x1)) + 2).toNatClampNeg)), (4, .int ((16 + (9 * x1)) + 2)), (0, .ref a0), (1, .int x1), (2, .int x2), (3, .int x3)]) (st' := [.int (κ2 (rf a0 0) ((16 + (9 * x1)) + 2).toNatClampNeg), .int ((16 + (9 * x1)) + 2), .ref (rf a0 0)]) rfl ?_
        refine PC.pr (k := 1) (pc' := 64) (lv' := [(5, .int (κ2 (rf a0 0) ((16 + (9 * x1)) + 2).toNatClampNeg)), (4, .int ((16 + (9 * x1)) + 2)), (0, .ref a0), (1, .int x1), (2, .int x2), (3, .int x3)]) (st' := [.int 1, .int (κ2 (rf a0 0) ((16 + (9 * x1)) + 2).toNatClampNeg), .int ((16 + (9 * x1)) + 2), .ref (rf a0 0)]) rfl ?_
        refine PC.pr (k := 1) (pc' := 65) (lv' := [(5, .int (κ2 (rf a0 0) ((16 + (9 * x1)) + 2).toNatClampNeg)), (4, .int ((16 + (9 * x1)) + 2)), (0, .ref a0), (1, .int x1), (2, .int x2), (3, .int x3)]) (st' := [.int x2, .int 1, .int (κ2 (rf a0 0) ((16 + (9 * x1)) + 2).toNatClampNeg), .int ((16 + (9 * x1)) + 2), .ref (rf a0 0)]) rfl ?_
        refine PC.pr (k := 1) (pc' := 66) (lv' := [(5, .int (κ2 (rf a0 0) ((16 + (9 * x1)) + 2).toNatClampNeg)), (4, .int ((16 + (9 * x1)) + 2)), (0, .ref a0), (1, .int x1), (2, .int x2), (3, .int x3)]) (st' := [.int (1 <<< (x2 &&& 31)), .int (κ2 (rf a0 0) ((16 + (9 * x1)) + 2).toNatClampNeg), .int ((16 + (9 * x1)) + 2), .ref (rf a0 0)]) rfl ?_
        refine PC.pr (k := 1) (pc' := 67) (lv' := [(5, .int (κ2 (rf a0 0) ((16 + (9 * x1)) + 2).toNatClampNeg)), (4, .int ((16 + (9 * x1)) + 2)), (0, .ref a0), (1, .int x1), (2, .int x2), (3, .int x3)]) (st' := [.int (-1), .int (1 <<< (x2 &&& 31)), .int (κ2 (rf a0 0) ((16 + (9 * x1)) + 2).toNatClampNeg), .int ((16 + (9 * x1)) + 2), .ref (rf a0 0)]) rfl ?_
        refine PC.pr (k := 1) (pc' := 68) (lv' := [(5, .int (κ2 (rf a0 0) ((16 + (9 * x1)) + 2).toNatClampNeg)), (4, .int ((16 + (9 * x1)) + 2)), (0, .ref a0), (1, .int x1), (2, .int x2), (3, .int x3)]) (st' := [.int ((1 <<< (x2 &&& 31)) ^^^ (-1)), .int (κ2 (rf a0 0) ((16 + (9 * x1)) + 2).toNatClampNeg), .int ((16 + (9 * x1)) + 2), .ref (rf a0 0)]) rfl ?_
        refine PC.pr (k := 1) (pc' := 69) (lv' := [(5, .int (κ2 (rf a0 0) ((16 + (9 * x1)) + 2).toNatClampNeg)), (4, .int ((16 + (9 * x1)) + 2)), (0, .ref a0), (1, .int x1), (2, .int x2), (3, .int x3)]) (st' := [.int ((κ2 (rf a0 0) ((16 + (9 * x1)) + 2).toNatClampNeg) &&& ((1 <<< (x2 &&& 31)) ^^^ (-1))), .int ((16 + (9 * x1)) + 2), .ref (rf a0 0)]) rfl ?_
        refine PC.wI rfl (fun c1 c2 => ?_)
        have h := h c1 c2
        refine PC.pr (k := 1) (pc' := 72) (lv' := [(5, .int (κ2 (rf a0 0) ((16 + (9 * x1)) + 2).toNatClampNeg)), (4, .int ((16 + (9 * x1)) + 2)), (0, .ref a0), (1, .int x1), (2, .int x2), (3, .int x3)]) (st' := [.int (κ2 (rf a0 0) ((16 + (9 * x1)) + 2).toNatClampNeg)]) rfl ?_
        refine PC.pr (k := 1) (pc' := 73) (lv' := [(5, .int (κ2 (rf a0 0) ((16 + (9 * x1)) + 2).toNatClampNeg)), (4, .int ((16 + (9 * x1)) + 2)), (0, .ref a0), (1, .int x1), (2, .int x2), (3, .int x3)]) (st' := [.int x2, .int (κ2 (rf a0 0) ((16 + (9 * x1)) + 2).toNatClampNeg)]) rfl ?_
        refine PC.pr (k := 1) (pc' := 74) (lv' := [(5, .int (κ2 (rf a0 0) ((16 + (9 * x1)) + 2).toNatClampNeg)), (4, .int ((16 + (9 * x1)) + 2)), (0, .ref a0), (1, .int x1), (2, .int x2), (3, .int x3)]) (st' := [.int ((κ2 (rf a0 0) ((16 + (9 * x1)) + 2).toNatClampNeg) >>> (x2 &&& 31))]) rfl ?_
        refine PC.pr (k := 1) (pc' := 75) (lv' := [(5, .int (κ2 (rf a0 0) ((16 + (9 * x1)) + 2).toNatClampNeg)), (4, .int ((16 + (9 * x1)) + 2)), (0, .ref a0), (1, .int x1), (2, .int x2), (3, .int x3)]) (st' := [.int 1, .int ((κ2 (rf a0 0) ((16 + (9 * x1)) + 2).toNatClampNeg) >>> (x2 &&& 31))]) rfl ?_
        refine PC.pr (k := 1) (pc' := 76) (lv' := [(5, .int (κ2 (rf a0 0) ((16 + (9 * x1)) + 2).toNatClampNeg)), (4, .int ((16 + (9 * x1)) + 2)), (0, .ref a0), (1, .int x1), (2, .int x2), (3, .int x3)]) (st' := [.int (((κ2 (rf a0 0) ((16 + (9 * x1)) + 2).toNatClampNeg) >>> (x2 &&& 31)) &&& 1)]) rfl ?_
        exact PC.retI rfl h
      · have h := h.2 (cmp_eq.2.mp c)
        refine PC.pr (k := 1) (pc' := 54) (lv' := [(5, .int (κ2 (rf a0 0) ((16 + (9 * x1)) + 2).toNatClampNeg)), (4, .int ((16 + (9 * x1)) + 2)), (0, .ref a0), (1, .int x1), (2, .int x2), (3, .int x3)]) (st' := [.int (κ2 (rf a0 0) ((16 + (9 * x1)) + 2).toNatClampNeg), .int ((16 + (9 * x1)) + 2), .ref (rf a0 0)]) rfl ?_
        refine PC.pr (k := 1) (pc' := 55) (lv' := [(5, .int (κ2 (rf a0 0) ((16 + (9 * x1)) + 2).toNatClampNeg)), (4, .int ((16 + (9 * x1)) + 2)), (0, .ref a0), (1, .int x1), (2, .int x2), (3, .int x3)]) (st' := [.int 1, .int (κ2 (rf a0 0) ((16 + (9 * x1)) + 2).toNatClampNeg), .int ((16 + (9 * x1)) + 2), .ref (rf a0 0)]) rfl ?_
        refine PC.pr (k := 1) (pc' := 56) (lv' := [(5, .int (κ2 (rf a0 0) ((16 + (9 * x1)) + 2).toNatClampNeg)), (4, .int ((16 + (9 * x1)) + 2)), (0, .ref a0), (1, .int x1), (2, .int x2), (3, .int x3)]) (st' := [.int x2, .int 1, .int (κ2 (rf a0 0) ((16 + (9 * x1)) + 2).toNatClampNeg), .int ((16 + (9 * x1)) + 2), .ref (rf a0 0)]) rfl ?_
        refine PC.pr (k := 1) (pc' := 57) (lv' := [(5, .int (κ2 (rf a0 0) ((16 + (9 * x1)) + 2).toNatClampNeg)), (4, .int ((16 + (9 * x1)) + 2)), (0, .ref a0), (1, .int x1), (2, .int x2), (3, .int x3)]) (st' := [.int (1 <<< (x2 &&& 31)), .int (κ2 (rf a0 0) ((16 + (9 * x1)) + 2).toNatClampNeg), .int ((16 + (9 * x1)) + 2), .ref (rf a0 0)]) rfl ?_
        refine PC.pr (k := 1) (pc' := 58) (lv' := [(5, .int (κ2 (rf a0 0) ((16 + (9 * x1)) + 2).toNatClampNeg)), (4, .int ((16 + (9 * x1)) + 2)), (0, .ref a0), (1, .int x1), (2, .int x2), (3, .int x3)]) (st' := [.int ((κ2 (rf a0 0) ((16 + (9 * x1)) + 2).toNatClampNeg) ||| (1 <<< (x2 &&& 31))), .int ((16 + (9 * x1)) + 2), .ref (rf a0 0)]) rfl ?_
        refine PC.pr (k := 1) (pc' := 69) (lv' := [(5, .int (κ2 (rf a0 0) ((16 + (9 * x1)) + 2).toNatClampNeg)), (4, .int ((16 + (9 * x1)) + 2)), (0, .ref a0), (1, .int x1), (2, .int x2), (3, .int x3)]) (st' := [.int ((κ2 (rf a0 0) ((16 + (9 * x1)) + 2).toNatClampNeg) ||| (1 <<< (x2 &&& 31))), .int ((16 + (9 * x1)) + 2), .ref (rf a0 0)]) rfl ?_
        refine PC.wI rfl (fun c1 c2 => ?_)
        have h := h c1 c2
        refine PC.pr (k := 1) (pc' := 72) (lv' := [(5, .int (κ2 (rf a0 0) ((16 + (9 * x1)) + 2).toNatClampNeg)), (4, .int ((16 + (9 * x1)) + 2)), (0, .ref a0), (1, .int x1), (2, .int x2), (3, .int x3)]) (st' := [.int (κ2 (rf a0 0) ((16 + (9 * x1)) + 2).toNatClampNeg)]) rfl ?_
        refine PC.pr (k := 1) (pc' := 73) (lv' := [(5, .int (κ2 (rf a0 0) ((16 + (9 * x1)) + 2).toNatClampNeg)), (4, .int ((16 + (9 * x1)) + 2)), (0, .ref a0), (1, .int x1), (2, .int x2), (3, .int x3)]) (st' := [.int x2, .int (κ2 (rf a0 0) ((16 + (9 * x1)) + 2).toNatClampNeg)]) rfl ?_
        refine PC.pr (k := 1) (pc' := 74) (lv' := [(5, .int (κ2 (rf a0 0) ((16 + (9 * x1)) + 2).toNatClampNeg)), (4, .int ((16 + (9 * x1)) + 2)), (0, .ref a0), (1, .int x1), (2, .int x2), (3, .int x3)]) (st' := [.int ((κ2 (rf a0 0) ((16 + (9 * x1)) + 2).toNatClampNeg) >>> (x2 &&& 31))]) rfl ?_
        refine PC.pr (k := 1) (pc' := 75) (lv' := [(5, .int (κ2 (rf a0 0) ((16 + (9 * x1)) + 2).toNatClampNeg)), (4, .int ((16 + (9 * x1)) + 2)), (0, .ref a0), (1, .int x1), (2, .int x2), (3, .int x3)]) (st' := [.int 1, .int ((κ2 (rf a0 0) ((16 + (9 * x1)) + 2).toNatClampNeg) >>> (x2 &&& 31))]) rfl ?_
        refine PC.pr (k := 1) (pc' := 76) (lv' := [(5, .int (κ2 (rf a0 0) ((16 + (9 * x1)) + 2).toNatClampNeg)), (4, .int ((16 + (9 * x1)) + 2)), (0, .ref a0), (1, .int x1), (2, .int x2), (3, .int x3)]) (st' := [.int (((κ2 (rf a0 0) ((16 + (9 * x1)) + 2).toNatClampNeg) >>> (x2 &&& 31)) &&& 1)]) rfl ?_
        exact PC.retI rfl h
    · have h := h.2 (cmp_ne.2.mp c)
      refine PC.pr (k := 1) (pc' := 21) (lv' := [(0, .ref a0), (1, .int x1), (2, .int x2), (3, .int x3)]) (st' := [.int (-1)]) rfl ?_
      exact PC.retI rfl h

/-- DoorPaintsModel.plans(I)I -/
theorem t_199_0 {xl : List Int32} {n : Nat} {ι : IS} {Q : Option Value → IS → Prop} {a0 : Nat} {x1 : Int32} (h : PC xl n 200 0 [(0, .ref a0), (1, .int x1)] [] ι (fun v1 κ1 => ∀ r1, v1 = some (.int r1) → ((¬ r1 = 0 → (0 ≤ (52 : Int32).toInt → (52 : Int32).toInt < ln (rf a0 0) → ((¬ (κ1 (rf a0 0) (52 : Int32).toNatClampNeg) = 8 → (0 ≤ (52 : Int32).toInt → (52 : Int32).toInt < ln (rf a0 0) → (0 ≤ (53 + (κ1 (rf a0 0) (52 : Int32).toNatClampNeg)).toInt → (53 + (κ1 (rf a0 0) (52 : Int32).toNatClampNeg)).toInt < ln (rf a0 0) → (0 ≤ (52 : Int32).toInt → (52 : Int32).toInt < ln (rf a0 0) → (0 ≤ (52 : Int32).toInt → (52 : Int32).toInt < ln (rf a0 0) → PC xl n 199 52 [(0, .ref a0), (1, .int x1)] [] (up (up κ1 (rf a0 0) (53 + (κ1 (rf a0 0) (52 : Int32).toNatClampNeg)).toNatClampNeg x1) (rf a0 0) (52 : Int32).toNatClampNeg (((up κ1 (rf a0 0) (53 + (κ1 (rf a0 0) (52 : Int32).toNatClampNeg)).toNatClampNeg x1) (rf a0 0) (52 : Int32).toNatClampNeg) + 1)) Q))))) ∧ ((κ1 (rf a0 0) (52 : Int32).toNatClampNeg) = 8 → Q (some (.int (-3))) κ1)))) ∧ (r1 = 0 → Q (some (.int (-1))) κ1)))) : PC xl (n + 1) 199 0 [(0, .ref a0), (1, .int x1)] [] ι Q := by
  refine PC.pr1 (k := 0) (pc' := 1) (lv' := [(0, .ref a0), (1, .int x1)]) (st' := [.ref a0]) rfl ?_
  refine PC.pr (k := 1) (pc' := 2) (lv' := [(0, .ref a0), (1, .int x1)]) (st' := [.int x1, .ref a0]) rfl ?_
  refine (PC.callI (j := 200) (args := [.ref a0, .int x1]) (rest := []) (M := cM200) (ty := .boolean) rfl rfl rfl rfl rfl rfl (by decide) rfl rfl (by decide) ?_).weak
  refine PC.imp h (fun v1 κ1 h r1 hv => ?_)
  have h := h r1 hv
  refine PC.if1 (t := 10) rfl rfl (fun c => ?_) (fun c => ?_)
  · have h := h.1 (cmp_ne.1.mp c)
    refine PC.pr (k := 1) (pc' := 11) (lv' := [(0, .ref a0), (1, .int x1)]) (st' := [.ref a0]) rfl ?_
    refine PC.gR (ci := 9) (j := 0) rfl rfl (by decide) ?_
    refine PC.pr (k := 1) (pc' := 16) (lv' := [(0, .ref a0), (1, .int x1)]) (st' := [.int 52, .ref (rf a0 0)]) rfl ?_
    refine PC.rd rfl (rf_lt _ _) (fun c1 c2 => ?_)
    have h := h c1 c2
    refine PC.pr (k := 1) (pc' := 19) (lv' := [(0, .ref a0), (1, .int x1)]) (st' := [.int 8, .int (κ1 (rf a0 0) (52 : Int32).toNatClampNeg)]) rfl ?_
    refine PC.if2 (t := 25) rfl rfl (fun c => ?_) (fun c => ?_)
    · have h := h.1 (cmp_ne.1.mp c)
      refine PC.pr (k := 1) (pc' := 26) (lv' := [(0, .ref a0), (1, .int x1)]) (st' := [.ref a0]) rfl ?_
      refine PC.gR (ci := 9) (j := 0) rfl rfl (by decide) ?_
      refine PC.pr (k := 1) (pc' := 31) (lv' := [(0, .ref a0), (1, .int x1)]) (st' := [.int 53, .ref (rf a0 0)]) rfl ?_
      refine PC.pr (k := 1) (pc' := 32) (lv' := [(0, .ref a0), (1, .int x1)]) (st' := [.ref a0, .int 53, .ref (rf a0 0)]) rfl ?_
      refine PC.gR (ci := 9) (j := 0) rfl rfl (by decide) ?_
      refine PC.pr (k := 1) (pc' := 37) (lv' := [(0, .ref a0), (1, .int x1)]) (st' := [.int 52, .ref (rf a0 0), .int 53, .ref (rf a0 0)]) rfl ?_
      refine PC.rd rfl (rf_lt _ _) (fun c1 c2 => ?_)
      have h := h c1 c2
      refine PC.pr (k := 1) (pc' := 39) (lv' := [(0, .ref a0), (1, .int x1)]) (st' := [.int (53 + (κ1 (rf a0 0) (52 : Int32).toNatClampNeg)), .ref (rf a0 0)]) rfl ?_
      refine PC.pr (k := 1) (pc' := 40) (lv' := [(0, .ref a0), (1, .int x1)]) (st' := [.int x1, .int (53 + (κ1 (rf a0 0) (52 : Int32).toNatClampNeg)), .ref (rf a0 0)]) rfl ?_
      refine PC.wI rfl (fun c1 c2 => ?_)
      have h := h c1 c2
      refine PC.pr (k := 1) (pc' := 42) (lv' := [(0, .ref a0), (1, .int x1)]) (st' := [.ref a0]) rfl ?_
      refine PC.gR (ci := 9) (j := 0) rfl rfl (by decide) ?_
      refine PC.pr (k := 1) (pc' := 47) (lv' := [(0, .ref a0), (1, .int x1)]) (st' := [.int 52, .ref (rf a0 0)]) rfl ?_
      refine PC.pr (k := 1) (pc' := 48) (lv' := [(0, .ref a0), (1, .int x1)]) (st' := [.int 52, .ref (rf a0 0), .int 52, .ref (rf a0 0)]) rfl ?_
      refine PC.rd rfl (rf_lt _ _) (fun c1 c2 => ?_)
      have h := h c1 c2
      refine PC.pr (k := 1) (pc' := 50) (lv' := [(0, .ref a0), (1, .int x1)]) (st' := [.int 1, .int ((up κ1 (rf a0 0) (53 + (κ1 (rf a0 0) (52 : Int32).toNatClampNeg)).toNatClampNeg x1) (rf a0 0) (52 : Int32).toNatClampNeg), .int 52, .ref (rf a0 0)]) rfl ?_
      refine PC.pr (k := 1) (pc' := 51) (lv' := [(0, .ref a0), (1, .int x1)]) (st' := [.int (((up κ1 (rf a0 0) (53 + (κ1 (rf a0 0) (52 : Int32).toNatClampNeg)).toNatClampNeg x1) (rf a0 0) (52 : Int32).toNatClampNeg) + 1), .int 52, .ref (rf a0 0)]) rfl ?_
      refine PC.wI rfl (fun c1 c2 => ?_)
      have h := h c1 c2
      exact h
    · have h := h.2 (cmp_ne.2.mp c)
      refine PC.pr (k := 1) (pc' := 24) (lv' := [(0, .ref a0), (1, .int x1)]) (st' := [.int (-3)]) rfl ?_
      exact PC.retI rfl h
  · have h := h.2 (cmp_ne.2.mp c)
    refine PC.pr (k := 1) (pc' := 9) (lv' := [(0, .ref a0), (1, .int x1)]) (st' := [.int (-1)]) rfl ?_
    exact PC.retI rfl h
theorem t_199_52 {xl : List Int32} {n : Nat} {ι : IS} {Q : Option Value → IS → Prop} {a0 : Nat} {w1 : Value} (h : (0 ≤ (52 : Int32).toInt → (52 : Int32).toInt < ln (rf a0 0) → Q (some (.int (ι (rf a0 0) (52 : Int32).toNatClampNeg))) ι)) : PC xl (n + 1) 199 52 [(0, .ref a0), (1, w1)] [] ι Q := by
  refine PC.pr1 (k := 0) (pc' := 53) (lv' := [(0, .ref a0), (1, w1)]) (st' := [.ref a0]) rfl ?_
  refine PC.gR (ci := 9) (j := 0) rfl rfl (by decide) ?_
  refine PC.pr (k := 1) (pc' := 58) (lv' := [(0, .ref a0), (1, w1)]) (st' := [.int 52, .ref (rf a0 0)]) rfl ?_
  refine PC.rd rfl (rf_lt _ _) (fun c1 c2 => ?_)
  have h := h c1 c2
  exact PC.retI rfl h

/-- DoorPaintsModel.isAct(I)Z -/
theorem t_200_0 {xl : List Int32} {n : Nat} {ι : IS} {Q : Option Value → IS → Prop} {a0 : Nat} {x1 : Int32} (h : PC xl n 148 0 [(0, .long (x1).toInt64), (2, .long 90), (4, .long 92)] [] ι (fun v1 κ1 => ∀ r1, v1 = some (.int r1) → ((¬ r1 = 0 → Q (some (.int 1)) κ1) ∧ (r1 = 0 → ((x1 < 0 → Q (some (.int 0)) κ1) ∧ (¬ x1 < 0 → PC xl n 177 0 [(0, .ref a0), (1, .int (x1 / 10))] [] κ1 (fun v2 κ2 => ∀ r2, v2 = some (.int r2) → ((r2 = 0 → Q (some (.int 0)) κ2) ∧ (¬ r2 = 0 → PC xl n 181 0 [(0, .ref a0), (1, .int (x1 - x1 / 10 * 10))] [] κ2 (fun v3 κ3 => ∀ r3, v3 = some (.int r3) → ((r3 = 0 → Q (some (.int 0)) κ3) ∧ (¬ r3 = 0 → Q (some (.int 1)) κ3)))))))))))) : PC xl (n + 1) 200 0 [(0, .ref a0), (1, .int x1)] [] ι Q := by
  refine PC.pr1 (k := 0) (pc' := 1) (lv' := [(0, .ref a0), (1, .int x1)]) (st' := [.int x1]) rfl ?_
  refine PC.pr (k := 1) (pc' := 2) (lv' := [(0, .ref a0), (1, .int x1)]) (st' := [.long (x1).toInt64]) rfl ?_
  refine PC.pr (k := 1) (pc' := 5) (lv' := [(0, .ref a0), (1, .int x1)]) (st' := [.long 90, .long (x1).toInt64]) rfl ?_
  refine PC.pr (k := 1) (pc' := 8) (lv' := [(0, .ref a0), (1, .int x1)]) (st' := [.long 92, .long 90, .long (x1).toInt64]) rfl ?_
  refine (PC.callI (j := 148) (args := [.long (x1).toInt64, .long 90, .long 92]) (rest := []) (M := cM148) (ty := .boolean) rfl rfl rfl rfl rfl rfl (by decide) rfl rfl (by decide) ?_).weak
  refine PC.imp h (fun v1 κ1 h r1 hv => ?_)
  have h := h r1 hv
  refine PC.if1 (t := 40) rfl rfl (fun c => ?_) (fun c => ?_)
  · have h := h.1 (cmp_ne.1.mp c)
    refine PC.pr (k := 1) (pc' := 41) (lv' := [(0, .ref a0), (1, .int x1)]) (st' := [.int 1]) rfl ?_
    refine PC.pr (k := 1) (pc' := 45) (lv' := [(0, .ref a0), (1, .int x1)]) (st' := [.int 1]) rfl ?_
    exact PC.retI rfl h
  · have h := h.2 (cmp_ne.2.mp c)
    refine PC.pr (k := 1) (pc' := 15) (lv' := [(0, .ref a0), (1, .int x1)]) (st' := [.int x1]) rfl ?_
    refine PC.if1 (t := 44) rfl rfl (fun c => ?_) (fun c => ?_)
    · have h := h.1 (cmp_lt.1.mp c)
      refine PC.pr (k := 1) (pc' := 45) (lv' := [(0, .ref a0), (1, .int x1)]) (st' := [.int 0]) rfl ?_
      exact PC.retI rfl h
    · have h := h.2 (cmp_lt.2.mp c)
      refine PC.pr (k := 1) (pc' := 19) (lv' := [(0, .ref a0), (1, .int x1)]) (st' := [.ref a0]) rfl ?_
      refine PC.pr (k := 1) (pc' := 20) (lv' := [(0, .ref a0), (1, .int x1)]) (st' := [.int x1, .ref a0]) rfl ?_
      refine PC.pr (k := 1) (pc' := 22) (lv' := [(0, .ref a0), (1, .int x1)]) (st' := [.int 10, .int x1, .ref a0]) rfl ?_
      refine PC.pr (k := 1) (pc' := 23) (lv' := [(0, .ref a0), (1, .int x1)]) (st' := [.int (x1 / 10), .ref a0]) rfl ?_
      refine (PC.callI (j := 177) (args := [.ref a0, .int (x1 / 10)]) (rest := []) (M := cM177) (ty := .boolean) rfl rfl rfl rfl rfl rfl (by decide) rfl rfl (by decide) ?_).weak
      refine PC.imp h (fun v2 κ2 h r2 hv => ?_)
      have h := h r2 hv
      refine PC.if1 (t := 44) rfl rfl (fun c => ?_) (fun c => ?_)
      · have h := h.1 (cmp_eq.1.mp c)
        refine PC.pr (k := 1) (pc' := 45) (lv' := [(0, .ref a0), (1, .int x1)]) (st' := [.int 0]) rfl ?_
        exact PC.retI rfl h
      · have h := h.2 (cmp_eq.2.mp c)
        refine PC.pr (k := 1) (pc' := 30) (lv' := [(0, .ref a0), (1, .int x1)]) (st' := [.ref a0]) rfl ?_
        refine PC.pr (k := 1) (pc' := 31) (lv' := [(0, .ref a0), (1, .int x1)]) (st' := [.int x1, .ref a0]) rfl ?_
        refine PC.pr (k := 1) (pc' := 33) (lv' := [(0, .ref a0), (1, .int x1)]) (st' := [.int 10, .int x1, .ref a0]) rfl ?_
        refine PC.pr (k := 1) (pc' := 34) (lv' := [(0, .ref a0), (1, .int x1)]) (st' := [.int (x1 - x1 / 10 * 10), .ref a0]) rfl ?_
        refine (PC.callI (j := 181) (args := [.ref a0, .int (x1 - x1 / 10 * 10)]) (rest := []) (M := cM181) (ty := .boolean) rfl rfl rfl rfl rfl rfl (by decide) rfl rfl (by decide) ?_).weak
        refine PC.imp h (fun v3 κ3 h r3 hv => ?_)
        have h := h r3 hv
        refine PC.if1 (t := 44) rfl rfl (fun c => ?_) (fun c => ?_)
        · have h := h.1 (cmp_eq.1.mp c)
          refine PC.pr (k := 1) (pc' := 45) (lv' := [(0, .ref a0), (1, .int x1)]) (st' := [.int 0]) rfl ?_
          exact PC.retI rfl h
        · have h := h.2 (cmp_eq.2.mp c)
          refine PC.pr (k := 1) (pc' := 41) (lv' := [(0, .ref a0), (1, .int x1)]) (st' := [.int 1]) rfl ?_
          refine PC.pr (k := 1) (pc' := 45) (lv' := [(0, .ref a0), (1, .int x1)]) (st' := [.int 1]) rfl ?_
          exact PC.retI rfl h

/-- DoorPaintsModel.cut(I)I -/
theorem t_201_0 {xl : List Int32} {n : Nat} {ι : IS} {Q : Option Value → IS → Prop} {a0 : Nat} {x1 : Int32} (h : (0 ≤ (52 : Int32).toInt → (52 : Int32).toInt < ln (rf a0 0) → PC xl n 148 0 [(0, .long (x1).toInt64), (2, .long 0), (4, .long ((ι (rf a0 0) (52 : Int32).toNatClampNeg)).toInt64)] [] ι (fun v1 κ1 => ∀ r1, v1 = some (.int r1) → ((r1 = 0 → Q (some (.int (-1))) κ1) ∧ (¬ r1 = 0 → PC xl n 197 0 [(0, .ref a0), (1, .int 52), (2, .int x1)] [] κ1 (fun v2 κ2 => ∀ r2, v2 = some (.int r2) → Q (some (.int r2)) κ2)))))) : PC xl (n + 1) 201 0 [(0, .ref a0), (1, .int x1)] [] ι Q := by
  refine PC.pr1 (k := 0) (pc' := 1) (lv' := [(0, .ref a0), (1, .int x1)]) (st' := [.int x1]) rfl ?_
  refine PC.pr (k := 1) (pc' := 2) (lv' := [(0, .ref a0), (1, .int x1)]) (st' := [.long (x1).toInt64]) rfl ?_
  refine PC.pr (k := 1) (pc' := 3) (lv' := [(0, .ref a0), (1, .int x1)]) (st' := [.long 0, .long (x1).toInt64]) rfl ?_
  refine PC.pr (k := 1) (pc' := 4) (lv' := [(0, .ref a0), (1, .int x1)]) (st' := [.ref a0, .long 0, .long (x1).toInt64]) rfl ?_
  refine PC.gR (ci := 9) (j := 0) rfl rfl (by decide) ?_
  refine PC.pr (k := 1) (pc' := 9) (lv' := [(0, .ref a0), (1, .int x1)]) (st' := [.int 52, .ref (rf a0 0), .long 0, .long (x1).toInt64]) rfl ?_
  refine PC.rd rfl (rf_lt _ _) (fun c1 c2 => ?_)
  have h := h c1 c2
  refine PC.pr (k := 1) (pc' := 11) (lv' := [(0, .ref a0), (1, .int x1)]) (st' := [.long ((ι (rf a0 0) (52 : Int32).toNatClampNeg)).toInt64, .long 0, .long (x1).toInt64]) rfl ?_
  refine (PC.callI (j := 148) (args := [.long (x1).toInt64, .long 0, .long ((ι (rf a0 0) (52 : Int32).toNatClampNeg)).toInt64]) (rest := []) (M := cM148) (ty := .boolean) rfl rfl rfl rfl rfl rfl (by decide) rfl rfl (by decide) ?_).weak
  refine PC.imp h (fun v1 κ1 h r1 hv => ?_)
  have h := h r1 hv
  refine PC.if1 (t := 27) rfl rfl (fun c => ?_) (fun c => ?_)
  · have h := h.1 (cmp_eq.1.mp c)
    refine PC.pr (k := 1) (pc' := 28) (lv' := [(0, .ref a0), (1, .int x1)]) (st' := [.int (-1)]) rfl ?_
    exact PC.retI rfl h
  · have h := h.2 (cmp_eq.2.mp c)
    refine PC.pr (k := 1) (pc' := 18) (lv' := [(0, .ref a0), (1, .int x1)]) (st' := [.ref a0]) rfl ?_
    refine PC.pr (k := 1) (pc' := 20) (lv' := [(0, .ref a0), (1, .int x1)]) (st' := [.int 52, .ref a0]) rfl ?_
    refine PC.pr (k := 1) (pc' := 21) (lv' := [(0, .ref a0), (1, .int x1)]) (st' := [.int x1, .int 52, .ref a0]) rfl ?_
    refine (PC.callI (j := 197) (args := [.ref a0, .int 52, .int x1]) (rest := []) (M := cM197) (ty := .int) rfl rfl rfl rfl rfl rfl (by decide) rfl rfl (by decide) ?_).weak
    refine PC.imp h (fun v2 κ2 h r2 hv => ?_)
    have h := h r2 hv
    refine PC.pr (k := 1) (pc' := 28) (lv' := [(0, .ref a0), (1, .int x1)]) (st' := [.int r2]) rfl ?_
    exact PC.retI rfl h

/-- DoorPaintsModel.reads(I)I -/
theorem t_216_0 {xl : List Int32} {n : Nat} {ι : IS} {Q : Option Value → IS → Prop} {a0 : Nat} {x1 : Int32} (h : PC xl n 177 0 [(0, .ref a0), (1, .int x1)] [] ι (fun v1 κ1 => ∀ r1, v1 = some (.int r1) → ((¬ r1 = 0 → PC xl n 168 0 [(0, .ref a0)] [] κ1 (fun _ κ2 => PC xl n 216 18 [(0, .ref a0), (1, .int x1), (2, .int 0), (3, .int 0), (4, .null), (5, .null)] [] κ2 Q)) ∧ (r1 = 0 → Q (some (.int (-1))) κ1)))) : PC xl (n + 1) 216 0 [(0, .ref a0), (1, .int x1)] [] ι Q := by
  refine PC.pr1 (k := 0) (pc' := 1) (lv' := [(0, .ref a0), (1, .int x1)]) (st' := [.ref a0]) rfl ?_
  refine PC.pr (k := 1) (pc' := 2) (lv' := [(0, .ref a0), (1, .int x1)]) (st' := [.int x1, .ref a0]) rfl ?_
  refine (PC.callI (j := 177) (args := [.ref a0, .int x1]) (rest := []) (M := cM177) (ty := .boolean) rfl rfl rfl rfl rfl rfl (by decide) rfl rfl (by decide) ?_).weak
  refine PC.imp h (fun v1 κ1 h r1 hv => ?_)
  have h := h r1 hv
  refine PC.if1 (t := 10) rfl rfl (fun c => ?_) (fun c => ?_)
  · have h := h.1 (cmp_ne.1.mp c)
    refine PC.pr (k := 1) (pc' := 11) (lv' := [(0, .ref a0), (1, .int x1)]) (st' := [.ref a0]) rfl ?_
    refine (PC.callV (j := 168) (args := [.ref a0]) (rest := []) (M := cM168) rfl rfl rfl rfl rfl rfl (by decide) rfl rfl ?_).weak
    refine PC.imp h (fun _ κ2 h => ?_)
    refine PC.pr (k := 1) (pc' := 15) (lv' := [(0, .ref a0), (1, .int x1)]) (st' := [.int 0]) rfl ?_
    refine PC.pr (k := 1) (pc' := 16) (lv' := [(2, .int 0), (0, .ref a0), (1, .int x1)]) (st' := []) rfl ?_
    refine PC.pr (k := 1) (pc' := 17) (lv' := [(2, .int 0), (0, .ref a0), (1, .int x1)]) (st' := [.int 0]) rfl ?_
    refine PC.pr (k := 1) (pc' := 18) (lv' := [(3, .int 0), (2, .int 0), (0, .ref a0), (1, .int x1)]) (st' := []) rfl ?_
    exact PC.lv (lvE.cons rfl (lvE.cons rfl (lvE.cons rfl (lvE.cons rfl (lvE.nil))))) h
  · have h := h.2 (cmp_ne.2.mp c)
    refine PC.pr (k := 1) (pc' := 9) (lv' := [(0, .ref a0), (1, .int x1)]) (st' := [.int (-1)]) rfl ?_
    exact PC.retI rfl h
theorem t_216_18 {xl : List Int32} {n : Nat} {ι : IS} {Q : Option Value → IS → Prop} {a0 : Nat} {x1 : Int32} {x2 : Int32} {x3 : Int32} {w4 : Value} {w5 : Value} (h : ((¬ x3 < (ι a0 4) → Q (some (.int x2)) ι) ∧ (x3 < (ι a0 4) → PC xl n 216 32 [(0, .ref a0), (1, .int x1), (2, .int x2), (3, .int x3), (4, .int 0), (5, .int 0)] [] ι Q))) : PC xl (n + 1) 216 18 [(0, .ref a0), (1, .int x1), (2, .int x2), (3, .int x3), (4, w4), (5, w5)] [] ι Q := by
  refine PC.pr1 (k := 0) (pc' := 19) (lv' := [(0, .ref a0), (1, .int x1), (2, .int x2), (3, .int x3), (4, w4), (5, w5)]) (st' := [.int x3]) rfl ?_
  refine PC.pr (k := 1) (pc' := 20) (lv' := [(0, .ref a0), (1, .int x1), (2, .int x2), (3, .int x3), (4, w4), (5, w5)]) (st' := [.ref a0, .int x3]) rfl ?_
  refine PC.gI (ci := 9) (j := 4) rfl rfl (by decide) ?_
  refine PC.if2 (t := 92) rfl rfl (fun c => ?_) (fun c => ?_)
  · have h := h.1 (cmp_ge.1.mp c)
    refine PC.pr (k := 1) (pc' := 93) (lv' := [(0, .ref a0), (1, .int x1), (2, .int x2), (3, .int x3), (4, w4), (5, w5)]) (st' := [.int x2]) rfl ?_
    exact PC.retI rfl h
  · have h := h.2 (cmp_ge.2.mp c)
    refine PC.pr (k := 1) (pc' := 27) (lv' := [(0, .ref a0), (1, .int x1), (2, .int x2), (3, .int x3), (4, w4), (5, w5)]) (st' := [.int 0]) rfl ?_
    refine PC.pr (k := 1) (pc' := 29) (lv' := [(4, .int 0), (0, .ref a0), (1, .int x1), (2, .int x2), (3, .int x3), (5, w5)]) (st' := []) rfl ?_
    refine PC.pr (k := 1) (pc' := 30) (lv' := [(4, .int 0), (0, .ref a0), (1, .int x1), (2, .int x2), (3, .int x3), (5, w5)]) (st' := [.int 0]) rfl ?_
    refine PC.pr (k := 1) (pc' := 32) (lv' := [(5, .int 0), (4, .int 0), (0, .ref a0), (1, .int x1), (2, .int x2), (3, .int x3)]) (st' := []) rfl ?_
    exact PC.lv (lvE.cons rfl (lvE.cons rfl (lvE.cons rfl (lvE.cons rfl (lvE.cons rfl (lvE.cons rfl (lvE.nil))))))) h
theorem t_216_32 {xl : List Int32} {n : Nat} {ι : IS} {Q : Option Value → IS → Prop} {a0 : Nat} {x1 : Int32} {x2 : Int32} {x3 : Int32} {x4 : Int32} {x5 : Int32} (h : PC xl n 169 0 [(0, .ref a0), (1, .int x3), (2, .int 0)] [] ι (fun v1 κ1 => ∀ r1, v1 = some (.int r1) → ((¬ x5 < r1 → PC xl n 175 0 [(0, .int x4)] [] κ1 (fun v2 κ2 => ∀ r2, v2 = some (.int r2) → PC xl n 216 18 [(0, .ref a0), (1, .int x1), (2, .int (x2 ||| (r2 <<< (x3 &&& 31)))), (3, .int (x3 + 1)), (4, .int x4), (5, .int x5)] [] κ2 Q)) ∧ (x5 < r1 → ((¬ x4 = 0 → PC xl n 216 63 [(0, .ref a0), (1, .int x1), (2, .int x2), (3, .int x3), (4, .int x4), (5, .int x5)] [] κ1 Q) ∧ (x4 = 0 → PC xl n 174 0 [(0, .ref a0), (1, .int x3), (2, .int x5)] [] κ1 (fun v3 κ3 => ∀ r3, v3 = some (.int r3) → PC xl n 178 0 [(0, .ref a0), (1, .int x1)] [] κ3 (fun v4 κ4 => ∀ r4, v4 = some (.int r4) → ((¬ r3 = r4 → PC xl n 216 68 [(0, .ref a0), (1, .int x1), (2, .int x2), (3, .int x3), (4, .int x4), (5, .int x5)] [.int 0] κ4 Q) ∧ (r3 = r4 → PC xl n 216 63 [(0, .ref a0), (1, .int x1), (2, .int x2), (3, .int x3), (4, .int x4), (5, .int x5)] [] κ4 Q)))))))))) : PC xl (n + 1) 216 32 [(0, .ref a0), (1, .int x1), (2, .int x2), (3, .int x3), (4, .int x4), (5, .int x5)] [] ι Q := by
  refine PC.pr1 (k := 0) (pc' := 34) (lv' := [(0, .ref a0), (1, .int x1), (2, .int x2), (3, .int x3), (4, .int x4), (5, .int x5)]) (st' := [.int x5]) rfl ?_
  refine PC.pr (k := 1) (pc' := 35) (lv' := [(0, .ref a0), (1, .int x1), (2, .int x2), (3, .int x3), (4, .int x4), (5, .int x5)]) (st' := [.ref a0, .int x5]) rfl ?_
  refine PC.pr (k := 1) (pc' := 36) (lv' := [(0, .ref a0), (1, .int x1), (2, .int x2), (3, .int x3), (4, .int x4), (5, .int x5)]) (st' := [.int x3, .ref a0, .int x5]) rfl ?_
  refine PC.pr (k := 1) (pc' := 37) (lv' := [(0, .ref a0), (1, .int x1), (2, .int x2), (3, .int x3), (4, .int x4), (5, .int x5)]) (st' := [.int 0, .int x3, .ref a0, .int x5]) rfl ?_
  refine (PC.callI (j := 169) (args := [.ref a0, .int x3, .int 0]) (rest := [.int x5]) (M := cM169) (ty := .int) rfl rfl rfl rfl rfl rfl (by decide) rfl rfl (by decide) ?_).weak
  refine PC.imp h (fun v1 κ1 h r1 hv => ?_)
  have h := h r1 hv
  refine PC.if2 (t := 76) rfl rfl (fun c => ?_) (fun c => ?_)
  · have h := h.1 (cmp_ge.1.mp c)
    refine PC.pr (k := 1) (pc' := 77) (lv' := [(0, .ref a0), (1, .int x1), (2, .int x2), (3, .int x3), (4, .int x4), (5, .int x5)]) (st' := [.int x2]) rfl ?_
    refine PC.pr (k := 1) (pc' := 79) (lv' := [(0, .ref a0), (1, .int x1), (2, .int x2), (3, .int x3), (4, .int x4), (5, .int x5)]) (st' := [.int x4, .int x2]) rfl ?_
    refine (PC.callI (j := 175) (args := [.int x4]) (rest := [.int x2]) (M := cM175) (ty := .int) rfl rfl rfl rfl rfl rfl (by decide) rfl rfl (by decide) ?_).weak
    refine PC.imp h (fun v2 κ2 h r2 hv => ?_)
    have h := h r2 hv
    refine PC.pr (k := 1) (pc' := 83) (lv' := [(0, .ref a0), (1, .int x1), (2, .int x2), (3, .int x3), (4, .int x4), (5, .int x5)]) (st' := [.int x3, .int r2, .int x2]) rfl ?_
    refine PC.pr (k := 1) (pc' := 84) (lv' := [(0, .ref a0), (1, .int x1), (2, .int x2), (3, .int x3), (4, .int x4), (5, .int x5)]) (st' := [.int (r2 <<< (x3 &&& 31)), .int x2]) rfl ?_
    refine PC.pr (k := 1) (pc' := 85) (lv' := [(0, .ref a0), (1, .int x1), (2, .int x2), (3, .int x3), (4, .int x4), (5, .int x5)]) (st' := [.int (x2 ||| (r2 <<< (x3 &&& 31)))]) rfl ?_
    refine PC.pr (k := 1) (pc' := 86) (lv' := [(2, .int (x2 ||| (r2 <<< (x3 &&& 31)))), (0, .ref a0), (1, .int x1), (3, .int x3), (4, .int x4), (5, .int x5)]) (st' := []) rfl ?_
    refine PC.pr (k := 1) (pc' := 89) (lv' := [(3, .int (x3 + 1)), (2, .int (x2 ||| (r2 <<< (x3 &&& 31)))), (0, .ref a0), (1, .int x1), (4, .int x4), (5, .int x5)]) (st' := []) rfl ?_
    refine PC.pr (k := 1) (pc' := 18) (lv' := [(3, .int (x3 + 1)), (2, .int (x2 ||| (r2 <<< (x3 &&& 31)))), (0, .ref a0), (1, .int x1), (4, .int x4), (5, .int x5)]) (st' := []) rfl ?_
    exact PC.lv (lvE.cons rfl (lvE.cons rfl (lvE.cons rfl (lvE.cons rfl (lvE.cons rfl (lvE.cons rfl (lvE.nil))))))) h
  · have h := h.2 (cmp_ge.2.mp c)
    refine PC.pr (k := 1) (pc' := 45) (lv' := [(0, .ref a0), (1, .int x1), (2, .int x2), (3, .int x3), (4, .int x4), (5, .int x5)]) (st' := [.int x4]) rfl ?_
    refine PC.if1 (t := 63) rfl rfl (fun c => ?_) (fun c => ?_)
    · have h := h.1 (cmp_ne.1.mp c)
      exact h
    · have h := h.2 (cmp_ne.2.mp c)
      refine PC.pr (k := 1) (pc' := 49) (lv' := [(0, .ref a0), (1, .int x1), (2, .int x2), (3, .int x3), (4, .int x4), (5, .int x5)]) (st' := [.ref a0]) rfl ?_
      refine PC.pr (k := 1) (pc' := 50) (lv' := [(0, .ref a0), (1, .int x1), (2, .int x2), (3, .int x3), (4, .int x4), (5, .int x5)]) (st' := [.int x3, .ref a0]) rfl ?_
      refine PC.pr (k := 1) (pc' := 52) (lv' := [(0, .ref a0), (1, .int x1), (2, .int x2), (3, .int x3), (4, .int x4), (5, .int x5)]) (st' := [.int x5, .int x3, .ref a0]) rfl ?_
      refine (PC.callI (j := 174) (args := [.ref a0, .int x3, .int x5]) (rest := []) (M := cM174) (ty := .int) rfl rfl rfl rfl rfl rfl (by decide) rfl rfl (by decide) ?_).weak
      refine PC.imp h (fun v3 κ3 h r3 hv => ?_)
      have h := h r3 hv
      refine PC.pr (k := 1) (pc' := 56) (lv' := [(0, .ref a0), (1, .int x1), (2, .int x2), (3, .int x3), (4, .int x4), (5, .int x5)]) (st' := [.ref a0, .int r3]) rfl ?_
      refine PC.pr (k := 1) (pc' := 57) (lv' := [(0, .ref a0), (1, .int x1), (2, .int x2), (3, .int x3), (4, .int x4), (5, .int x5)]) (st' := [.int x1, .ref a0, .int r3]) rfl ?_
      refine (PC.callI (j := 178) (args := [.ref a0, .int x1]) (rest := [.int r3]) (M := cM178) (ty := .int) rfl rfl rfl rfl rfl rfl (by decide) rfl rfl (by decide) ?_).weak
      refine PC.imp h (fun v4 κ4 h r4 hv => ?_)
      have h := h r4 hv
      refine PC.if2 (t := 67) rfl rfl (fun c => ?_) (fun c => ?_)
      · have h := h.1 (cmp_ne.1.mp c)
        refine PC.pr (k := 1) (pc' := 68) (lv' := [(0, .ref a0), (1, .int x1), (2, .int x2), (3, .int x3), (4, .int x4), (5, .int x5)]) (st' := [.int 0]) rfl ?_
        exact h
      · have h := h.2 (cmp_ne.2.mp c)
        exact h
theorem t_216_63 {xl : List Int32} {n : Nat} {ι : IS} {Q : Option Value → IS → Prop} {a0 : Nat} {x1 : Int32} {x2 : Int32} {x3 : Int32} {w4 : Value} {x5 : Int32} (h : PC xl n 216 68 [(0, .ref a0), (1, .int x1), (2, .int x2), (3, .int x3), (4, w4), (5, .int x5)] [.int 1] ι Q) : PC xl (n + 1) 216 63 [(0, .ref a0), (1, .int x1), (2, .int x2), (3, .int x3), (4, w4), (5, .int x5)] [] ι Q := by
  refine PC.pr1 (k := 0) (pc' := 64) (lv' := [(0, .ref a0), (1, .int x1), (2, .int x2), (3, .int x3), (4, w4), (5, .int x5)]) (st' := [.int 1]) rfl ?_
  refine PC.pr (k := 1) (pc' := 68) (lv' := [(0, .ref a0), (1, .int x1), (2, .int x2), (3, .int x3), (4, w4), (5, .int x5)]) (st' := [.int 1]) rfl ?_
  exact h
theorem t_216_68 {xl : List Int32} {n : Nat} {ι : IS} {Q : Option Value → IS → Prop} {a0 : Nat} {x1 : Int32} {x2 : Int32} {x3 : Int32} {w4 : Value} {x5 : Int32} {u0 : Int32} (h : PC xl n 216 32 [(0, .ref a0), (1, .int x1), (2, .int x2), (3, .int x3), (4, .int u0), (5, .int (x5 + 1))] [] ι Q) : PC xl (n + 1) 216 68 [(0, .ref a0), (1, .int x1), (2, .int x2), (3, .int x3), (4, w4), (5, .int x5)] [.int u0] ι Q := by
  refine PC.pr1 (k := 0) (pc' := 70) (lv' := [(4, .int u0), (0, .ref a0), (1, .int x1), (2, .int x2), (3, .int x3), (5, .int x5)]) (st' := []) rfl ?_
  refine PC.pr (k := 1) (pc' := 73) (lv' := [(5, .int (x5 + 1)), (4, .int u0), (0, .ref a0), (1, .int x1), (2, .int x2), (3, .int x3)]) (st' := []) rfl ?_
  refine PC.pr (k := 1) (pc' := 32) (lv' := [(5, .int (x5 + 1)), (4, .int u0), (0, .ref a0), (1, .int x1), (2, .int x2), (3, .int x3)]) (st' := []) rfl ?_
  exact PC.lv (lvE.cons rfl (lvE.cons rfl (lvE.cons rfl (lvE.cons rfl (lvE.cons rfl (lvE.cons rfl (lvE.nil))))))) h

/-- DoorPaintsModel.see(III)I -/
theorem t_217_0 {xl : List Int32} {n : Nat} {ι : IS} {Q : Option Value → IS → Prop} {a0 : Nat} {x1 : Int32} {x2 : Int32} {x3 : Int32} (h : PC xl n 181 0 [(0, .ref a0), (1, .int x1)] [] ι (fun v1 κ1 => ∀ r1, v1 = some (.int r1) → ((r1 = 0 → Q (some (.int (-1))) κ1) ∧ (¬ r1 = 0 → PC xl n 148 0 [(0, .long (x2).toInt64), (2, .long 0), (4, .long 5)] [] κ1 (fun v2 κ2 => ∀ r2, v2 = some (.int r2) → ((r2 = 0 → Q (some (.int (-1))) κ2) ∧ (¬ r2 = 0 → ((x3 = (-4) → PC xl n 217 40 [(0, .ref a0), (1, .int x1), (2, .int x2), (3, .int x3)] [] κ2 Q) ∧ (¬ x3 = (-4) → PC xl n 148 0 [(0, .long (x3).toInt64), (2, .long 0), (4, .long 5)] [] κ2 (fun v3 κ3 => ∀ r3, v3 = some (.int r3) → ((¬ r3 = 0 → PC xl n 217 40 [(0, .ref a0), (1, .int x1), (2, .int x2), (3, .int x3)] [] κ3 Q) ∧ (r3 = 0 → Q (some (.int (-1))) κ3)))))))))))) : PC xl (n + 1) 217 0 [(0, .ref a0), (1, .int x1), (2, .int x2), (3, .int x3)] [] ι Q := by
  refine PC.pr1 (k := 0) (pc' := 1) (lv' := [(0, .ref a0), (1, .int x1), (2, .int x2), (3, .int x3)]) (st' := [.ref a0]) rfl ?_
  refine PC.pr (k := 1) (pc' := 2) (lv' := [(0, .ref a0), (1, .int x1), (2, .int x2), (3, .int x3)]) (st' := [.int x1, .ref a0]) rfl ?_
  refine (PC.callI (j := 181) (args := [.ref a0, .int x1]) (rest := []) (M := cM181) (ty := .boolean) rfl rfl rfl rfl rfl rfl (by decide) rfl rfl (by decide) ?_).weak
  refine PC.imp h (fun v1 κ1 h r1 hv => ?_)
  have h := h r1 hv
  refine PC.if1 (t := 38) rfl rfl (fun c => ?_) (fun c => ?_)
  · have h := h.1 (cmp_eq.1.mp c)
    refine PC.pr (k := 1) (pc' := 39) (lv' := [(0, .ref a0), (1, .int x1), (2, .int x2), (3, .int x3)]) (st' := [.int (-1)]) rfl ?_
    exact PC.retI rfl h
  · have h := h.2 (cmp_eq.2.mp c)
    refine PC.pr (k := 1) (pc' := 9) (lv' := [(0, .ref a0), (1, .int x1), (2, .int x2), (3, .int x3)]) (st' := [.int x2]) rfl ?_
    refine PC.pr (k := 1) (pc' := 10) (lv' := [(0, .ref a0), (1, .int x1), (2, .int x2), (3, .int x3)]) (st' := [.long (x2).toInt64]) rfl ?_
    refine PC.pr (k := 1) (pc' := 11) (lv' := [(0, .ref a0), (1, .int x1), (2, .int x2), (3, .int x3)]) (st' := [.long 0, .long (x2).toInt64]) rfl ?_
    refine PC.pr (k := 1) (pc' := 14) (lv' := [(0, .ref a0), (1, .int x1), (2, .int x2), (3, .int x3)]) (st' := [.long 5, .long 0, .long (x2).toInt64]) rfl ?_
    refine (PC.callI (j := 148) (args := [.long (x2).toInt64, .long 0, .long 5]) (rest := []) (M := cM148) (ty := .boolean) rfl rfl rfl rfl rfl rfl (by decide) rfl rfl (by decide) ?_).weak
    refine PC.imp h (fun v2 κ2 h r2 hv => ?_)
    have h := h r2 hv
    refine PC.if1 (t := 38) rfl rfl (fun c => ?_) (fun c => ?_)
    · have h := h.1 (cmp_eq.1.mp c)
      refine PC.pr (k := 1) (pc' := 39) (lv' := [(0, .ref a0), (1, .int x1), (2, .int x2), (3, .int x3)]) (st' := [.int (-1)]) rfl ?_
      exact PC.retI rfl h
    · have h := h.2 (cmp_eq.2.mp c)
      refine PC.pr (k := 1) (pc' := 21) (lv' := [(0, .ref a0), (1, .int x1), (2, .int x2), (3, .int x3)]) (st' := [.int x3]) rfl ?_
      refine PC.pr (k := 1) (pc' := 23) (lv' := [(0, .ref a0), (1, .int x1), (2, .int x2), (3, .int x3)]) (st' := [.int (-4), .int x3]) rfl ?_
      refine PC.if2 (t := 40) rfl rfl (fun c => ?_) (fun c => ?_)
      · have h := h.1 (cmp_eq.1.mp c)
        exact h
      · have h := h.2 (cmp_eq.2.mp c)
        refine PC.pr (k := 1) (pc' := 27) (lv' := [(0, .ref a0), (1, .int x1), (2, .int x2), (3, .int x3)]) (st' := [.int x3]) rfl ?_
        refine PC.pr (k := 1) (pc' := 28) (lv' := [(0, .ref a0), (1, .int x1), (2, .int x2), (3, .int x3)]) (st' := [.long (x3).toInt64]) rfl ?_
        refine PC.pr (k := 1) (pc' := 29) (lv' := [(0, .ref a0), (1, .int x1), (2, .int x2), (3, .int x3)]) (st' := [.long 0, .long (x3).toInt64]) rfl ?_
        refine PC.pr (k := 1) (pc' := 32) (lv' := [(0, .ref a0), (1, .int x1), (2, .int x2), (3, .int x3)]) (st' := [.long 5, .long 0, .long (x3).toInt64]) rfl ?_
        refine (PC.callI (j := 148) (args := [.long (x3).toInt64, .long 0, .long 5]) (rest := []) (M := cM148) (ty := .boolean) rfl rfl rfl rfl rfl rfl (by decide) rfl rfl (by decide) ?_).weak
        refine PC.imp h (fun v3 κ3 h r3 hv => ?_)
        have h := h r3 hv
        refine PC.if1 (t := 40) rfl rfl (fun c => ?_) (fun c => ?_)
        · have h := h.1 (cmp_ne.1.mp c)
          exact h
        · have h := h.2 (cmp_ne.2.mp c)
          refine PC.pr (k := 1) (pc' := 39) (lv' := [(0, .ref a0), (1, .int x1), (2, .int x2), (3, .int x3)]) (st' := [.int (-1)]) rfl ?_
          exact PC.retI rfl h
theorem t_217_40 {xl : List Int32} {n : Nat} {ι : IS} {Q : Option Value → IS → Prop} {a0 : Nat} {x1 : Int32} {x2 : Int32} {x3 : Int32} (h : (0 ≤ (61 : Int32).toInt → (61 : Int32).toInt < ln (rf a0 0) → ((¬ (ι (rf a0 0) (61 : Int32).toNatClampNeg) = 6 → (0 ≤ (61 : Int32).toInt → (61 : Int32).toInt < ln (rf a0 0) → (0 ≤ (62 + (3 * (ι (rf a0 0) (61 : Int32).toNatClampNeg))).toInt → (62 + (3 * (ι (rf a0 0) (61 : Int32).toNatClampNeg))).toInt < ln (rf a0 0) → (0 ≤ ((62 + (3 * (ι (rf a0 0) (61 : Int32).toNatClampNeg))) + 1).toInt → ((62 + (3 * (ι (rf a0 0) (61 : Int32).toNatClampNeg))) + 1).toInt < ln (rf a0 0) → PC xl n 217 87 [(0, .ref a0), (1, .int x1), (2, .int x2), (3, .int x3), (4, .int (62 + (3 * (ι (rf a0 0) (61 : Int32).toNatClampNeg))))] [] (up (up ι (rf a0 0) (62 + (3 * (ι (rf a0 0) (61 : Int32).toNatClampNeg))).toNatClampNeg x1) (rf a0 0) ((62 + (3 * (ι (rf a0 0) (61 : Int32).toNatClampNeg))) + 1).toNatClampNeg x2) Q)))) ∧ ((ι (rf a0 0) (61 : Int32).toNatClampNeg) = 6 → Q (some (.int (-3))) ι)))) : PC xl (n + 1) 217 40 [(0, .ref a0), (1, .int x1), (2, .int x2), (3, .int x3)] [] ι Q := by
  refine PC.pr1 (k := 0) (pc' := 41) (lv' := [(0, .ref a0), (1, .int x1), (2, .int x2), (3, .int x3)]) (st' := [.ref a0]) rfl ?_
  refine PC.gR (ci := 9) (j := 0) rfl rfl (by decide) ?_
  refine PC.pr (k := 1) (pc' := 46) (lv' := [(0, .ref a0), (1, .int x1), (2, .int x2), (3, .int x3)]) (st' := [.int 61, .ref (rf a0 0)]) rfl ?_
  refine PC.rd rfl (rf_lt _ _) (fun c1 c2 => ?_)
  have h := h c1 c2
  refine PC.pr (k := 1) (pc' := 49) (lv' := [(0, .ref a0), (1, .int x1), (2, .int x2), (3, .int x3)]) (st' := [.int 6, .int (ι (rf a0 0) (61 : Int32).toNatClampNeg)]) rfl ?_
  refine PC.if2 (t := 55) rfl rfl (fun c => ?_) (fun c => ?_)
  · have h := h.1 (cmp_ne.1.mp c)
    refine PC.pr (k := 1) (pc' := 57) (lv' := [(0, .ref a0), (1, .int x1), (2, .int x2), (3, .int x3)]) (st' := [.int 62]) rfl ?_
    refine PC.pr (k := 1) (pc' := 58) (lv' := [(0, .ref a0), (1, .int x1), (2, .int x2), (3, .int x3)]) (st' := [.int 3, .int 62]) rfl ?_
    refine PC.pr (k := 1) (pc' := 59) (lv' := [(0, .ref a0), (1, .int x1), (2, .int x2), (3, .int x3)]) (st' := [.ref a0, .int 3, .int 62]) rfl ?_
    refine PC.gR (ci := 9) (j := 0) rfl rfl (by decide) ?_
    refine PC.pr (k := 1) (pc' := 64) (lv' := [(0, .ref a0), (1, .int x1), (2, .int x2), (3, .int x3)]) (st' := [.int 61, .ref (rf a0 0), .int 3, .int 62]) rfl ?_
    refine PC.rd rfl (rf_lt _ _) (fun c1 c2 => ?_)
    have h := h c1 c2
    refine PC.pr (k := 1) (pc' := 66) (lv' := [(0, .ref a0), (1, .int x1), (2, .int x2), (3, .int x3)]) (st' := [.int (3 * (ι (rf a0 0) (61 : Int32).toNatClampNeg)), .int 62]) rfl ?_
    refine PC.pr (k := 1) (pc' := 67) (lv' := [(0, .ref a0), (1, .int x1), (2, .int x2), (3, .int x3)]) (st' := [.int (62 + (3 * (ι (rf a0 0) (61 : Int32).toNatClampNeg)))]) rfl ?_
    refine PC.pr (k := 1) (pc' := 69) (lv' := [(4, .int (62 + (3 * (ι (rf a0 0) (61 : Int32).toNatClampNeg)))), (0, .ref a0), (1, .int x1), (2, .int x2), (3, .int x3)]) (st' := []) rfl ?_
    refine PC.pr (k := 1) (pc' := 70) (lv' := [(4, .int (62 + (3 * (ι (rf a0 0) (61 : Int32).toNatClampNeg)))), (0, .ref a0), (1, .int x1), (2, .int x2), (3, .int x3)]) (st' := [.ref a0]) rfl ?_
    refine PC.gR (ci := 9) (j := 0) rfl rfl (by decide) ?_
    refine PC.pr (k := 1) (pc' := 75) (lv' := [(4, .int (62 + (3 * (ι (rf a0 0) (61 : Int32).toNatClampNeg)))), (0, .ref a0), (1, .int x1), (2, .int x2), (3, .int x3)]) (st' := [.int (62 + (3 * (ι (rf a0 0) (61 : Int32).toNatClampNeg))), .ref (rf a0 0)]) rfl ?_
    refine PC.pr (k := 1) (pc' := 76) (lv' := [(4, .int (62 + (3 * (ι (rf a0 0) (61 : Int32).toNatClampNeg)))), (0, .ref a0), (1, .int x1), (2, .int x2), (3, .int x3)]) (st' := [.int x1, .int (62 + (3 * (ι (rf a0 0) (61 : Int32).toNatClampNeg))), .ref (rf a0 0)]) rfl ?_
    refine PC.wI rfl (fun c1 c2 => ?_)
    have h := h c1 c2
    refine PC.pr (k := 1) (pc' := 78) (lv' := [(4, .int (62 + (3 * (ι (rf a0 0) (61 : Int32).toNatClampNeg)))), (0, .ref a0), (1, .int x1), (2, .int x2), (3, .int x3)]) (st' := [.ref a0]) rfl ?_
    refine PC.gR (ci := 9) (j := 0) rfl rfl (by decide) ?_
    refine PC.pr (k := 1) (pc' := 83) (lv' := [(4, .int (62 + (3 * (ι (rf a0 0) (61 : Int32).toNatClampNeg)))), (0, .ref a0), (1, .int x1), (2, .int x2), (3, .int x3)]) (st' := [.int (62 + (3 * (ι (rf a0 0) (61 : Int32).toNatClampNeg))), .ref (rf a0 0)]) rfl ?_
    refine PC.pr (k := 1) (pc' := 84) (lv' := [(4, .int (62 + (3 * (ι (rf a0 0) (61 : Int32).toNatClampNeg)))), (0, .ref a0), (1, .int x1), (2, .int x2), (3, .int x3)]) (st' := [.int 1, .int (62 + (3 * (ι (rf a0 0) (61 : Int32).toNatClampNeg))), .ref (rf a0 0)]) rfl ?_
    refine PC.pr (k := 1) (pc' := 85) (lv' := [(4, .int (62 + (3 * (ι (rf a0 0) (61 : Int32).toNatClampNeg)))), (0, .ref a0), (1, .int x1), (2, .int x2), (3, .int x3)]) (st' := [.int ((62 + (3 * (ι (rf a0 0) (61 : Int32).toNatClampNeg))) + 1), .ref (rf a0 0)]) rfl ?_
    refine PC.pr (k := 1) (pc' := 86) (lv' := [(4, .int (62 + (3 * (ι (rf a0 0) (61 : Int32).toNatClampNeg)))), (0, .ref a0), (1, .int x1), (2, .int x2), (3, .int x3)]) (st' := [.int x2, .int ((62 + (3 * (ι (rf a0 0) (61 : Int32).toNatClampNeg))) + 1), .ref (rf a0 0)]) rfl ?_
    refine PC.wI rfl (fun c1 c2 => ?_)
    have h := h c1 c2
    exact PC.lv (lvE.cons rfl (lvE.cons rfl (lvE.cons rfl (lvE.cons rfl (lvE.cons rfl (lvE.nil)))))) h
  · have h := h.2 (cmp_ne.2.mp c)
    refine PC.pr (k := 1) (pc' := 54) (lv' := [(0, .ref a0), (1, .int x1), (2, .int x2), (3, .int x3)]) (st' := [.int (-3)]) rfl ?_
    exact PC.retI rfl h
theorem t_217_87 {xl : List Int32} {n : Nat} {ι : IS} {Q : Option Value → IS → Prop} {a0 : Nat} {x1 : Int32} {x2 : Int32} {x3 : Int32} {x4 : Int32} (h : (0 ≤ (x4 + 2).toInt → (x4 + 2).toInt < ln (rf a0 0) → (0 ≤ (61 : Int32).toInt → (61 : Int32).toInt < ln (rf a0 0) → (0 ≤ (61 : Int32).toInt → (61 : Int32).toInt < ln (rf a0 0) → PC xl n 217 108 [(0, .ref a0), (1, .int x1), (2, .int x2), (3, .int x3), (4, .int x4)] [] (up (up ι (rf a0 0) (x4 + 2).toNatClampNeg x3) (rf a0 0) (61 : Int32).toNatClampNeg (((up ι (rf a0 0) (x4 + 2).toNatClampNeg x3) (rf a0 0) (61 : Int32).toNatClampNeg) + 1)) Q)))) : PC xl (n + 1) 217 87 [(0, .ref a0), (1, .int x1), (2, .int x2), (3, .int x3), (4, .int x4)] [] ι Q := by
  refine PC.pr1 (k := 0) (pc' := 88) (lv' := [(0, .ref a0), (1, .int x1), (2, .int x2), (3, .int x3), (4, .int x4)]) (st' := [.ref a0]) rfl ?_
  refine PC.gR (ci := 9) (j := 0) rfl rfl (by decide) ?_
  refine PC.pr (k := 1) (pc' := 93) (lv' := [(0, .ref a0), (1, .int x1), (2, .int x2), (3, .int x3), (4, .int x4)]) (st' := [.int x4, .ref (rf a0 0)]) rfl ?_
  refine PC.pr (k := 1) (pc' := 94) (lv' := [(0, .ref a0), (1, .int x1), (2, .int x2), (3, .int x3), (4, .int x4)]) (st' := [.int 2, .int x4, .ref (rf a0 0)]) rfl ?_
  refine PC.pr (k := 1) (pc' := 95) (lv' := [(0, .ref a0), (1, .int x1), (2, .int x2), (3, .int x3), (4, .int x4)]) (st' := [.int (x4 + 2), .ref (rf a0 0)]) rfl ?_
  refine PC.pr (k := 1) (pc' := 96) (lv' := [(0, .ref a0), (1, .int x1), (2, .int x2), (3, .int x3), (4, .int x4)]) (st' := [.int x3, .int (x4 + 2), .ref (rf a0 0)]) rfl ?_
  refine PC.wI rfl (fun c1 c2 => ?_)
  have h := h c1 c2
  refine PC.pr (k := 1) (pc' := 98) (lv' := [(0, .ref a0), (1, .int x1), (2, .int x2), (3, .int x3), (4, .int x4)]) (st' := [.ref a0]) rfl ?_
  refine PC.gR (ci := 9) (j := 0) rfl rfl (by decide) ?_
  refine PC.pr (k := 1) (pc' := 103) (lv' := [(0, .ref a0), (1, .int x1), (2, .int x2), (3, .int x3), (4, .int x4)]) (st' := [.int 61, .ref (rf a0 0)]) rfl ?_
  refine PC.pr (k := 1) (pc' := 104) (lv' := [(0, .ref a0), (1, .int x1), (2, .int x2), (3, .int x3), (4, .int x4)]) (st' := [.int 61, .ref (rf a0 0), .int 61, .ref (rf a0 0)]) rfl ?_
  refine PC.rd rfl (rf_lt _ _) (fun c1 c2 => ?_)
  have h := h c1 c2
  refine PC.pr (k := 1) (pc' := 106) (lv' := [(0, .ref a0), (1, .int x1), (2, .int x2), (3, .int x3), (4, .int x4)]) (st' := [.int 1, .int ((up ι (rf a0 0) (x4 + 2).toNatClampNeg x3) (rf a0 0) (61 : Int32).toNatClampNeg), .int 61, .ref (rf a0 0)]) rfl ?_
  refine PC.pr (k := 1) (pc' := 107) (lv' := [(0, .ref a0), (1, .int x1), (2, .int x2), (3, .int x3), (4, .int x4)]) (st' := [.int (((up ι (rf a0 0) (x4 + 2).toNatClampNeg x3) (rf a0 0) (61 : Int32).toNatClampNeg) + 1), .int 61, .ref (rf a0 0)]) rfl ?_
  refine PC.wI rfl (fun c1 c2 => ?_)
  have h := h c1 c2
  exact h
theorem t_217_108 {xl : List Int32} {n : Nat} {ι : IS} {Q : Option Value → IS → Prop} {a0 : Nat} {x1 : Int32} {x2 : Int32} {x3 : Int32} {x4 : Int32} (h : (0 ≤ (61 : Int32).toInt → (61 : Int32).toInt < ln (rf a0 0) → Q (some (.int (ι (rf a0 0) (61 : Int32).toNatClampNeg))) ι)) : PC xl (n + 1) 217 108 [(0, .ref a0), (1, .int x1), (2, .int x2), (3, .int x3), (4, .int x4)] [] ι Q := by
  refine PC.pr1 (k := 0) (pc' := 109) (lv' := [(0, .ref a0), (1, .int x1), (2, .int x2), (3, .int x3), (4, .int x4)]) (st' := [.ref a0]) rfl ?_
  refine PC.gR (ci := 9) (j := 0) rfl rfl (by decide) ?_
  refine PC.pr (k := 1) (pc' := 114) (lv' := [(0, .ref a0), (1, .int x1), (2, .int x2), (3, .int x3), (4, .int x4)]) (st' := [.int 61, .ref (rf a0 0)]) rfl ?_
  refine PC.rd rfl (rf_lt _ _) (fun c1 c2 => ?_)
  have h := h c1 c2
  exact PC.retI rfl h

/-- DoorPaintsModel.forget(I)I -/
theorem t_218_0 {xl : List Int32} {n : Nat} {ι : IS} {Q : Option Value → IS → Prop} {a0 : Nat} {x1 : Int32} (h : (0 ≤ (61 : Int32).toInt → (61 : Int32).toInt < ln (rf a0 0) → PC xl n 148 0 [(0, .long (x1).toInt64), (2, .long 0), (4, .long ((ι (rf a0 0) (61 : Int32).toNatClampNeg)).toInt64)] [] ι (fun v1 κ1 => ∀ r1, v1 = some (.int r1) → ((r1 = 0 → Q (some (.int (-1))) κ1) ∧ (¬ r1 = 0 → PC xl n 197 0 [(0, .ref a0), (1, .int 61), (2, .int x1)] [] κ1 (fun v2 κ2 => ∀ r2, v2 = some (.int r2) → Q (some (.int r2)) κ2)))))) : PC xl (n + 1) 218 0 [(0, .ref a0), (1, .int x1)] [] ι Q := by
  refine PC.pr1 (k := 0) (pc' := 1) (lv' := [(0, .ref a0), (1, .int x1)]) (st' := [.int x1]) rfl ?_
  refine PC.pr (k := 1) (pc' := 2) (lv' := [(0, .ref a0), (1, .int x1)]) (st' := [.long (x1).toInt64]) rfl ?_
  refine PC.pr (k := 1) (pc' := 3) (lv' := [(0, .ref a0), (1, .int x1)]) (st' := [.long 0, .long (x1).toInt64]) rfl ?_
  refine PC.pr (k := 1) (pc' := 4) (lv' := [(0, .ref a0), (1, .int x1)]) (st' := [.ref a0, .long 0, .long (x1).toInt64]) rfl ?_
  refine PC.gR (ci := 9) (j := 0) rfl rfl (by decide) ?_
  refine PC.pr (k := 1) (pc' := 9) (lv' := [(0, .ref a0), (1, .int x1)]) (st' := [.int 61, .ref (rf a0 0), .long 0, .long (x1).toInt64]) rfl ?_
  refine PC.rd rfl (rf_lt _ _) (fun c1 c2 => ?_)
  have h := h c1 c2
  refine PC.pr (k := 1) (pc' := 11) (lv' := [(0, .ref a0), (1, .int x1)]) (st' := [.long ((ι (rf a0 0) (61 : Int32).toNatClampNeg)).toInt64, .long 0, .long (x1).toInt64]) rfl ?_
  refine (PC.callI (j := 148) (args := [.long (x1).toInt64, .long 0, .long ((ι (rf a0 0) (61 : Int32).toNatClampNeg)).toInt64]) (rest := []) (M := cM148) (ty := .boolean) rfl rfl rfl rfl rfl rfl (by decide) rfl rfl (by decide) ?_).weak
  refine PC.imp h (fun v1 κ1 h r1 hv => ?_)
  have h := h r1 hv
  refine PC.if1 (t := 27) rfl rfl (fun c => ?_) (fun c => ?_)
  · have h := h.1 (cmp_eq.1.mp c)
    refine PC.pr (k := 1) (pc' := 28) (lv' := [(0, .ref a0), (1, .int x1)]) (st' := [.int (-1)]) rfl ?_
    exact PC.retI rfl h
  · have h := h.2 (cmp_eq.2.mp c)
    refine PC.pr (k := 1) (pc' := 18) (lv' := [(0, .ref a0), (1, .int x1)]) (st' := [.ref a0]) rfl ?_
    refine PC.pr (k := 1) (pc' := 20) (lv' := [(0, .ref a0), (1, .int x1)]) (st' := [.int 61, .ref a0]) rfl ?_
    refine PC.pr (k := 1) (pc' := 21) (lv' := [(0, .ref a0), (1, .int x1)]) (st' := [.int x1, .int 61, .ref a0]) rfl ?_
    refine (PC.callI (j := 197) (args := [.ref a0, .int 61, .int x1]) (rest := []) (M := cM197) (ty := .int) rfl rfl rfl rfl rfl rfl (by decide) rfl rfl (by decide) ?_).weak
    refine PC.imp h (fun v2 κ2 h r2 hv => ?_)
    have h := h r2 hv
    refine PC.pr (k := 1) (pc' := 28) (lv' := [(0, .ref a0), (1, .int x1)]) (st' := [.int r2]) rfl ?_
    exact PC.retI rfl h

/-- DoorPaintsModel.back(I)I -/
theorem t_232_0 {xl : List Int32} {n : Nat} {ι : IS} {Q : Option Value → IS → Prop} {a0 : Nat} {x1 : Int32} (h : PC xl n 148 0 [(0, .long (x1).toInt64), (2, .long 0), (4, .long 1)] [] ι (fun v1 κ1 => ∀ r1, v1 = some (.int r1) → ((¬ r1 = 0 → (0 ≤ x1.toInt → x1.toInt < ln (rf a0 2) → ((¬ (κ1 (rf a0 2) x1.toNatClampNeg) = 0 → PC xl n 231 0 [(0, .ref a0), (1, .int 0), (2, .int (80 * (x1 + 1)))] [] κ1 (fun _ κ2 => PC xl n 168 0 [(0, .ref a0)] [] κ2 (fun _ κ3 => PC xl n 193 0 [(0, .ref a0)] [] κ3 (fun v4 κ4 => ∀ r4, v4 = some (.int r4) → Q (some (.int r4)) κ4)))) ∧ ((κ1 (rf a0 2) x1.toNatClampNeg) = 0 → Q (some (.int (-2))) κ1)))) ∧ (r1 = 0 → Q (some (.int (-1))) κ1)))) : PC xl (n + 1) 232 0 [(0, .ref a0), (1, .int x1)] [] ι Q := by
  refine PC.pr1 (k := 0) (pc' := 1) (lv' := [(0, .ref a0), (1, .int x1)]) (st' := [.int x1]) rfl ?_
  refine PC.pr (k := 1) (pc' := 2) (lv' := [(0, .ref a0), (1, .int x1)]) (st' := [.long (x1).toInt64]) rfl ?_
  refine PC.pr (k := 1) (pc' := 3) (lv' := [(0, .ref a0), (1, .int x1)]) (st' := [.long 0, .long (x1).toInt64]) rfl ?_
  refine PC.pr (k := 1) (pc' := 4) (lv' := [(0, .ref a0), (1, .int x1)]) (st' := [.long 1, .long 0, .long (x1).toInt64]) rfl ?_
  refine (PC.callI (j := 148) (args := [.long (x1).toInt64, .long 0, .long 1]) (rest := []) (M := cM148) (ty := .boolean) rfl rfl rfl rfl rfl rfl (by decide) rfl rfl (by decide) ?_).weak
  refine PC.imp h (fun v1 κ1 h r1 hv => ?_)
  have h := h r1 hv
  refine PC.if1 (t := 12) rfl rfl (fun c => ?_) (fun c => ?_)
  · have h := h.1 (cmp_ne.1.mp c)
    refine PC.pr (k := 1) (pc' := 13) (lv' := [(0, .ref a0), (1, .int x1)]) (st' := [.ref a0]) rfl ?_
    refine PC.gR (ci := 9) (j := 2) rfl rfl (by decide) ?_
    refine PC.pr (k := 1) (pc' := 17) (lv' := [(0, .ref a0), (1, .int x1)]) (st' := [.int x1, .ref (rf a0 2)]) rfl ?_
    refine PC.ba rfl (rf_lt _ _) (fun c1 c2 => ?_)
    have h := h c1 c2
    refine PC.if1 (t := 24) rfl rfl (fun c => ?_) (fun c => ?_)
    · have h := h.1 (cmp_ne.1.mp c)
      refine PC.pr (k := 1) (pc' := 25) (lv' := [(0, .ref a0), (1, .int x1)]) (st' := [.ref a0]) rfl ?_
      refine PC.pr (k := 1) (pc' := 26) (lv' := [(0, .ref a0), (1, .int x1)]) (st' := [.int 0, .ref a0]) rfl ?_
      refine PC.pr (k := 1) (pc' := 28) (lv' := [(0, .ref a0), (1, .int x1)]) (st' := [.int 80, .int 0, .ref a0]) rfl ?_
      refine PC.pr (k := 1) (pc' := 29) (lv' := [(0, .ref a0), (1, .int x1)]) (st' := [.int x1, .int 80, .int 0, .ref a0]) rfl ?_
      refine PC.pr (k := 1) (pc' := 30) (lv' := [(0, .ref a0), (1, .int x1)]) (st' := [.int 1, .int x1, .int 80, .int 0, .ref a0]) rfl ?_
      refine PC.pr (k := 1) (pc' := 31) (lv' := [(0, .ref a0), (1, .int x1)]) (st' := [.int (x1 + 1), .int 80, .int 0, .ref a0]) rfl ?_
      refine PC.pr (k := 1) (pc' := 32) (lv' := [(0, .ref a0), (1, .int x1)]) (st' := [.int (80 * (x1 + 1)), .int 0, .ref a0]) rfl ?_
      refine (PC.callV (j := 231) (args := [.ref a0, .int 0, .int (80 * (x1 + 1))]) (rest := []) (M := cM231) rfl rfl rfl rfl rfl rfl (by decide) rfl rfl ?_).weak
      refine PC.imp h (fun _ κ2 h => ?_)
      refine PC.pr (k := 1) (pc' := 36) (lv' := [(0, .ref a0), (1, .int x1)]) (st' := [.ref a0]) rfl ?_
      refine (PC.callV (j := 168) (args := [.ref a0]) (rest := []) (M := cM168) rfl rfl rfl rfl rfl rfl (by decide) rfl rfl ?_).weak
      refine PC.imp h (fun _ κ3 h => ?_)
      refine PC.pr (k := 1) (pc' := 40) (lv' := [(0, .ref a0), (1, .int x1)]) (st' := [.ref a0]) rfl ?_
      refine (PC.callI (j := 193) (args := [.ref a0]) (rest := []) (M := cM193) (ty := .int) rfl rfl rfl rfl rfl rfl (by decide) rfl rfl (by decide) ?_).weak
      refine PC.imp h (fun v4 κ4 h r4 hv => ?_)
      have h := h r4 hv
      exact PC.retI rfl h
    · have h := h.2 (cmp_ne.2.mp c)
      refine PC.pr (k := 1) (pc' := 23) (lv' := [(0, .ref a0), (1, .int x1)]) (st' := [.int (-2)]) rfl ?_
      exact PC.retI rfl h
  · have h := h.2 (cmp_ne.2.mp c)
    refine PC.pr (k := 1) (pc' := 11) (lv' := [(0, .ref a0), (1, .int x1)]) (st' := [.int (-1)]) rfl ?_
    exact PC.retI rfl h

/-- DoorPaintsModel.sheet(III)I -/
theorem t_233_0 {xl : List Int32} {n : Nat} {ι : IS} {Q : Option Value → IS → Prop} {a0 : Nat} {x1 : Int32} {x2 : Int32} {x3 : Int32} (h : PC xl n 234 0 [(0, .int x1), (1, .int x2)] [] ι (fun v1 κ1 => ∀ r1, v1 = some (.int r1) → ((r1 = 0 → Q (some (.int (-1))) κ1) ∧ (¬ r1 = 0 → ((¬ 40 < x3 → ((¬ x3 < 0 → (0 ≤ x1.toInt → x1.toInt < ln (rf a0 28) → (0 ≤ x1.toInt → x1.toInt < ln (rf a0 29) → PC xl n 233 40 [(0, .ref a0), (1, .int x1), (2, .int x2), (3, .int x3), (4, .int 0)] [] (up (up κ1 (rf a0 28) x1.toNatClampNeg x2) (rf a0 29) x1.toNatClampNeg x3) Q))) ∧ (x3 < 0 → Q (some (.int (-14))) κ1))) ∧ (40 < x3 → Q (some (.int (-1))) κ1)))))) : PC xl (n + 1) 233 0 [(0, .ref a0), (1, .int x1), (2, .int x2), (3, .int x3)] [] ι Q := by
  refine PC.pr1 (k := 0) (pc' := 1) (lv' := [(0, .ref a0), (1, .int x1), (2, .int x2), (3, .int x3)]) (st' := [.int x1]) rfl ?_
  refine PC.pr (k := 1) (pc' := 2) (lv' := [(0, .ref a0), (1, .int x1), (2, .int x2), (3, .int x3)]) (st' := [.int x2, .int x1]) rfl ?_
  refine (PC.callI (j := 234) (args := [.int x1, .int x2]) (rest := []) (M := cM234) (ty := .boolean) rfl rfl rfl rfl rfl rfl (by decide) rfl rfl (by decide) ?_).weak
  refine PC.imp h (fun v1 κ1 h r1 hv => ?_)
  have h := h r1 hv
  refine PC.if1 (t := 14) rfl rfl (fun c => ?_) (fun c => ?_)
  · have h := h.1 (cmp_eq.1.mp c)
    refine PC.pr (k := 1) (pc' := 15) (lv' := [(0, .ref a0), (1, .int x1), (2, .int x2), (3, .int x3)]) (st' := [.int (-1)]) rfl ?_
    exact PC.retI rfl h
  · have h := h.2 (cmp_eq.2.mp c)
    refine PC.pr (k := 1) (pc' := 9) (lv' := [(0, .ref a0), (1, .int x1), (2, .int x2), (3, .int x3)]) (st' := [.int x3]) rfl ?_
    refine PC.pr (k := 1) (pc' := 11) (lv' := [(0, .ref a0), (1, .int x1), (2, .int x2), (3, .int x3)]) (st' := [.int 40, .int x3]) rfl ?_
    refine PC.if2 (t := 16) rfl rfl (fun c => ?_) (fun c => ?_)
    · have h := h.1 (cmp_le.1.mp c)
      refine PC.pr (k := 1) (pc' := 17) (lv' := [(0, .ref a0), (1, .int x1), (2, .int x2), (3, .int x3)]) (st' := [.int x3]) rfl ?_
      refine PC.if1 (t := 23) rfl rfl (fun c => ?_) (fun c => ?_)
      · have h := h.1 (cmp_ge.1.mp c)
        refine PC.pr (k := 1) (pc' := 24) (lv' := [(0, .ref a0), (1, .int x1), (2, .int x2), (3, .int x3)]) (st' := [.ref a0]) rfl ?_
        refine PC.gR (ci := 9) (j := 28) rfl rfl (by decide) ?_
        refine PC.pr (k := 1) (pc' := 28) (lv' := [(0, .ref a0), (1, .int x1), (2, .int x2), (3, .int x3)]) (st' := [.int x1, .ref (rf a0 28)]) rfl ?_
        refine PC.pr (k := 1) (pc' := 29) (lv' := [(0, .ref a0), (1, .int x1), (2, .int x2), (3, .int x3)]) (st' := [.int x2, .int x1, .ref (rf a0 28)]) rfl ?_
        refine PC.wI rfl (fun c1 c2 => ?_)
        have h := h c1 c2
        refine PC.pr (k := 1) (pc' := 31) (lv' := [(0, .ref a0), (1, .int x1), (2, .int x2), (3, .int x3)]) (st' := [.ref a0]) rfl ?_
        refine PC.gR (ci := 9) (j := 29) rfl rfl (by decide) ?_
        refine PC.pr (k := 1) (pc' := 35) (lv' := [(0, .ref a0), (1, .int x1), (2, .int x2), (3, .int x3)]) (st' := [.int x1, .ref (rf a0 29)]) rfl ?_
        refine PC.pr (k := 1) (pc' := 36) (lv' := [(0, .ref a0), (1, .int x1), (2, .int x2), (3, .int x3)]) (st' := [.int x3, .int x1, .ref (rf a0 29)]) rfl ?_
        refine PC.wI rfl (fun c1 c2 => ?_)
        have h := h c1 c2
        refine PC.pr (k := 1) (pc' := 38) (lv' := [(0, .ref a0), (1, .int x1), (2, .int x2), (3, .int x3)]) (st' := [.int 0]) rfl ?_
        refine PC.pr (k := 1) (pc' := 40) (lv' := [(4, .int 0), (0, .ref a0), (1, .int x1), (2, .int x2), (3, .int x3)]) (st' := []) rfl ?_
        exact PC.lv (lvE.cons rfl (lvE.cons rfl (lvE.cons rfl (lvE.cons rfl (lvE.cons rfl (lvE.nil)))))) h
      · have h := h.2 (cmp_ge.2.mp c)
        refine PC.pr (k := 1) (pc' := 22) (lv' := [(0, .ref a0), (1, .int x1), (2, .int x2), (3, .int x3)]) (st' := [.int (-14)]) rfl ?_
        exact PC.retI rfl h
    · have h := h.2 (cmp_le.2.mp c)
      refine PC.pr (k := 1) (pc' := 15) (lv' := [(0, .ref a0), (1, .int x1), (2, .int x2), (3, .int x3)]) (st' := [.int (-1)]) rfl ?_
      exact PC.retI rfl h
theorem t_233_40 {xl : List Int32} {n : Nat} {ι : IS} {Q : Option Value → IS → Prop} {a0 : Nat} {x1 : Int32} {x2 : Int32} {x3 : Int32} {x4 : Int32} (h : ((¬ x4 < 40 → Q (some (.int 1)) ι) ∧ (x4 < 40 → (0 ≤ ((40 * x1) + x4).toInt → ((40 * x1) + x4).toInt < ln (rf a0 30) → PC xl n 233 40 [(0, .ref a0), (1, .int x1), (2, .int x2), (3, .int x3), (4, .int (x4 + 1))] [] (up ι (rf a0 30) ((40 * x1) + x4).toNatClampNeg 0) Q)))) : PC xl (n + 1) 233 40 [(0, .ref a0), (1, .int x1), (2, .int x2), (3, .int x3), (4, .int x4)] [] ι Q := by
  refine PC.pr1 (k := 0) (pc' := 42) (lv' := [(0, .ref a0), (1, .int x1), (2, .int x2), (3, .int x3), (4, .int x4)]) (st' := [.int x4]) rfl ?_
  refine PC.pr (k := 1) (pc' := 44) (lv' := [(0, .ref a0), (1, .int x1), (2, .int x2), (3, .int x3), (4, .int x4)]) (st' := [.int 40, .int x4]) rfl ?_
  refine PC.if2 (t := 66) rfl rfl (fun c => ?_) (fun c => ?_)
  · have h := h.1 (cmp_ge.1.mp c)
    refine PC.pr (k := 1) (pc' := 67) (lv' := [(0, .ref a0), (1, .int x1), (2, .int x2), (3, .int x3), (4, .int x4)]) (st' := [.int 1]) rfl ?_
    exact PC.retI rfl h
  · have h := h.2 (cmp_ge.2.mp c)
    refine PC.pr (k := 1) (pc' := 48) (lv' := [(0, .ref a0), (1, .int x1), (2, .int x2), (3, .int x3), (4, .int x4)]) (st' := [.ref a0]) rfl ?_
    refine PC.gR (ci := 9) (j := 30) rfl rfl (by decide) ?_
    refine PC.pr (k := 1) (pc' := 53) (lv' := [(0, .ref a0), (1, .int x1), (2, .int x2), (3, .int x3), (4, .int x4)]) (st' := [.int 40, .ref (rf a0 30)]) rfl ?_
    refine PC.pr (k := 1) (pc' := 54) (lv' := [(0, .ref a0), (1, .int x1), (2, .int x2), (3, .int x3), (4, .int x4)]) (st' := [.int x1, .int 40, .ref (rf a0 30)]) rfl ?_
    refine PC.pr (k := 1) (pc' := 55) (lv' := [(0, .ref a0), (1, .int x1), (2, .int x2), (3, .int x3), (4, .int x4)]) (st' := [.int (40 * x1), .ref (rf a0 30)]) rfl ?_
    refine PC.pr (k := 1) (pc' := 57) (lv' := [(0, .ref a0), (1, .int x1), (2, .int x2), (3, .int x3), (4, .int x4)]) (st' := [.int x4, .int (40 * x1), .ref (rf a0 30)]) rfl ?_
    refine PC.pr (k := 1) (pc' := 58) (lv' := [(0, .ref a0), (1, .int x1), (2, .int x2), (3, .int x3), (4, .int x4)]) (st' := [.int ((40 * x1) + x4), .ref (rf a0 30)]) rfl ?_
    refine PC.pr (k := 1) (pc' := 59) (lv' := [(0, .ref a0), (1, .int x1), (2, .int x2), (3, .int x3), (4, .int x4)]) (st' := [.int 0, .int ((40 * x1) + x4), .ref (rf a0 30)]) rfl ?_
    refine PC.wI rfl (fun c1 c2 => ?_)
    have h := h c1 c2
    refine PC.pr (k := 1) (pc' := 63) (lv' := [(4, .int (x4 + 1)), (0, .ref a0), (1, .int x1), (2, .int x2), (3, .int x3)]) (st' := []) rfl ?_
    refine PC.pr (k := 1) (pc' := 40) (lv' := [(4, .int (x4 + 1)), (0, .ref a0), (1, .int x1), (2, .int x2), (3, .int x3)]) (st' := []) rfl ?_
    exact PC.lv (lvE.cons rfl (lvE.cons rfl (lvE.cons rfl (lvE.cons rfl (lvE.cons rfl (lvE.nil)))))) h

/-- DoorPaintsModel.isSheet(II)Z -/
theorem t_234_0 {xl : List Int32} {n : Nat} {ι : IS} {Q : Option Value → IS → Prop} {x0 : Int32} {x1 : Int32} (h : PC xl n 148 0 [(0, .long (x0).toInt64), (2, .long 0), (4, .long 3)] [] ι (fun v1 κ1 => ∀ r1, v1 = some (.int r1) → ((r1 = 0 → Q (some (.int 0)) κ1) ∧ (¬ r1 = 0 → PC xl n 148 0 [(0, .long (x1).toInt64), (2, .long 0), (4, .long 2)] [] κ1 (fun v2 κ2 => ∀ r2, v2 = some (.int r2) → ((r2 = 0 → Q (some (.int 0)) κ2) ∧ (¬ r2 = 0 → Q (some (.int 1)) κ2))))))) : PC xl (n + 1) 234 0 [(0, .int x0), (1, .int x1)] [] ι Q := by
  refine PC.pr1 (k := 0) (pc' := 1) (lv' := [(0, .int x0), (1, .int x1)]) (st' := [.int x0]) rfl ?_
  refine PC.pr (k := 1) (pc' := 2) (lv' := [(0, .int x0), (1, .int x1)]) (st' := [.long (x0).toInt64]) rfl ?_
  refine PC.pr (k := 1) (pc' := 3) (lv' := [(0, .int x0), (1, .int x1)]) (st' := [.long 0, .long (x0).toInt64]) rfl ?_
  refine PC.pr (k := 1) (pc' := 6) (lv' := [(0, .int x0), (1, .int x1)]) (st' := [.long 3, .long 0, .long (x0).toInt64]) rfl ?_
  refine (PC.callI (j := 148) (args := [.long (x0).toInt64, .long 0, .long 3]) (rest := []) (M := cM148) (ty := .boolean) rfl rfl rfl rfl rfl rfl (by decide) rfl rfl (by decide) ?_).weak
  refine PC.imp h (fun v1 κ1 h r1 hv => ?_)
  have h := h r1 hv
  refine PC.if1 (t := 28) rfl rfl (fun c => ?_) (fun c => ?_)
  · have h := h.1 (cmp_eq.1.mp c)
    refine PC.pr (k := 1) (pc' := 29) (lv' := [(0, .int x0), (1, .int x1)]) (st' := [.int 0]) rfl ?_
    exact PC.retI rfl h
  · have h := h.2 (cmp_eq.2.mp c)
    refine PC.pr (k := 1) (pc' := 13) (lv' := [(0, .int x0), (1, .int x1)]) (st' := [.int x1]) rfl ?_
    refine PC.pr (k := 1) (pc' := 14) (lv' := [(0, .int x0), (1, .int x1)]) (st' := [.long (x1).toInt64]) rfl ?_
    refine PC.pr (k := 1) (pc' := 15) (lv' := [(0, .int x0), (1, .int x1)]) (st' := [.long 0, .long (x1).toInt64]) rfl ?_
    refine PC.pr (k := 1) (pc' := 18) (lv' := [(0, .int x0), (1, .int x1)]) (st' := [.long 2, .long 0, .long (x1).toInt64]) rfl ?_
    refine (PC.callI (j := 148) (args := [.long (x1).toInt64, .long 0, .long 2]) (rest := []) (M := cM148) (ty := .boolean) rfl rfl rfl rfl rfl rfl (by decide) rfl rfl (by decide) ?_).weak
    refine PC.imp h (fun v2 κ2 h r2 hv => ?_)
    have h := h r2 hv
    refine PC.if1 (t := 28) rfl rfl (fun c => ?_) (fun c => ?_)
    · have h := h.1 (cmp_eq.1.mp c)
      refine PC.pr (k := 1) (pc' := 29) (lv' := [(0, .int x0), (1, .int x1)]) (st' := [.int 0]) rfl ?_
      exact PC.retI rfl h
    · have h := h.2 (cmp_eq.2.mp c)
      refine PC.pr (k := 1) (pc' := 25) (lv' := [(0, .int x0), (1, .int x1)]) (st' := [.int 1]) rfl ?_
      refine PC.pr (k := 1) (pc' := 29) (lv' := [(0, .int x0), (1, .int x1)]) (st' := [.int 1]) rfl ?_
      exact PC.retI rfl h

/-- DoorPaintsModel.lay(III)I -/
theorem t_235_0 {xl : List Int32} {n : Nat} {ι : IS} {Q : Option Value → IS → Prop} {a0 : Nat} {x1 : Int32} {x2 : Int32} {x3 : Int32} (h : PC xl n 234 0 [(0, .int x1), (1, .int 0)] [] ι (fun v1 κ1 => ∀ r1, v1 = some (.int r1) → ((¬ r1 = 0 → (0 ≤ x1.toInt → x1.toInt < ln (rf a0 28) → ((¬ (κ1 (rf a0 28) x1.toNatClampNeg) = (-4) → (0 ≤ x1.toInt → x1.toInt < ln (rf a0 29) → PC xl n 148 0 [(0, .long (x2).toInt64), (2, .long 0), (4, .long (((κ1 (rf a0 29) x1.toNatClampNeg) - 1)).toInt64)] [] κ1 (fun v2 κ2 => ∀ r2, v2 = some (.int r2) → ((¬ r2 = 0 → (0 ≤ x1.toInt → x1.toInt < ln (rf a0 28) → ((¬ (κ2 (rf a0 28) x1.toNatClampNeg) = 0 → (0 ≤ x1.toInt → x1.toInt < ln (rf a0 28) → ((¬ (κ2 (rf a0 28) x1.toNatClampNeg) = 1 → (0 ≤ ((40 * x1) + x2).toInt → ((40 * x1) + x2).toInt < ln (rf a0 30) → Q (some (.int 1)) (up κ2 (rf a0 30) ((40 * x1) + x2).toNatClampNeg x3))) ∧ ((κ2 (rf a0 28) x1.toNatClampNeg) = 1 → (0 ≤ ((40 * x1) + x2).toInt → ((40 * x1) + x2).toInt < ln (rf a0 30) → Q (some (.int 1)) (up κ2 (rf a0 30) ((40 * x1) + x2).toNatClampNeg (x3).toInt16.toInt32)))))) ∧ ((κ2 (rf a0 28) x1.toNatClampNeg) = 0 → (0 ≤ ((40 * x1) + x2).toInt → ((40 * x1) + x2).toInt < ln (rf a0 30) → Q (some (.int 1)) (up κ2 (rf a0 30) ((40 * x1) + x2).toNatClampNeg (x3).toInt8.toInt32)))))) ∧ (r2 = 0 → Q (some (.int (-12))) κ2))))) ∧ ((κ1 (rf a0 28) x1.toNatClampNeg) = (-4) → Q (some (.int (-11))) κ1)))) ∧ (r1 = 0 → Q (some (.int (-1))) κ1)))) : PC xl (n + 1) 235 0 [(0, .ref a0), (1, .int x1), (2, .int x2), (3, .int x3)] [] ι Q := by
  refine PC.pr1 (k := 0) (pc' := 1) (lv' := [(0, .ref a0), (1, .int x1), (2, .int x2), (3, .int x3)]) (st' := [.int x1]) rfl ?_
  refine PC.pr (k := 1) (pc' := 2) (lv' := [(0, .ref a0), (1, .int x1), (2, .int x2), (3, .int x3)]) (st' := [.int 0, .int x1]) rfl ?_
  refine (PC.callI (j := 234) (args := [.int x1, .int 0]) (rest := []) (M := cM234) (ty := .boolean) rfl rfl rfl rfl rfl rfl (by decide) rfl rfl (by decide) ?_).weak
  refine PC.imp h (fun v1 κ1 h r1 hv => ?_)
  have h := h r1 hv
  refine PC.if1 (t := 10) rfl rfl (fun c => ?_) (fun c => ?_)
  · have h := h.1 (cmp_ne.1.mp c)
    refine PC.pr (k := 1) (pc' := 11) (lv' := [(0, .ref a0), (1, .int x1), (2, .int x2), (3, .int x3)]) (st' := [.ref a0]) rfl ?_
    refine PC.gR (ci := 9) (j := 28) rfl rfl (by decide) ?_
    refine PC.pr (k := 1) (pc' := 15) (lv' := [(0, .ref a0), (1, .int x1), (2, .int x2), (3, .int x3)]) (st' := [.int x1, .ref (rf a0 28)]) rfl ?_
    refine PC.rd rfl (rf_lt _ _) (fun c1 c2 => ?_)
    have h := h c1 c2
    refine PC.pr (k := 1) (pc' := 18) (lv' := [(0, .ref a0), (1, .int x1), (2, .int x2), (3, .int x3)]) (st' := [.int (-4), .int (κ1 (rf a0 28) x1.toNatClampNeg)]) rfl ?_
    refine PC.if2 (t := 24) rfl rfl (fun c => ?_) (fun c => ?_)
    · have h := h.1 (cmp_ne.1.mp c)
      refine PC.pr (k := 1) (pc' := 25) (lv' := [(0, .ref a0), (1, .int x1), (2, .int x2), (3, .int x3)]) (st' := [.int x2]) rfl ?_
      refine PC.pr (k := 1) (pc' := 26) (lv' := [(0, .ref a0), (1, .int x1), (2, .int x2), (3, .int x3)]) (st' := [.long (x2).toInt64]) rfl ?_
      refine PC.pr (k := 1) (pc' := 27) (lv' := [(0, .ref a0), (1, .int x1), (2, .int x2), (3, .int x3)]) (st' := [.long 0, .long (x2).toInt64]) rfl ?_
      refine PC.pr (k := 1) (pc' := 28) (lv' := [(0, .ref a0), (1, .int x1), (2, .int x2), (3, .int x3)]) (st' := [.ref a0, .long 0, .long (x2).toInt64]) rfl ?_
      refine PC.gR (ci := 9) (j := 29) rfl rfl (by decide) ?_
      refine PC.pr (k := 1) (pc' := 32) (lv' := [(0, .ref a0), (1, .int x1), (2, .int x2), (3, .int x3)]) (st' := [.int x1, .ref (rf a0 29), .long 0, .long (x2).toInt64]) rfl ?_
      refine PC.rd rfl (rf_lt _ _) (fun c1 c2 => ?_)
      have h := h c1 c2
      refine PC.pr (k := 1) (pc' := 34) (lv' := [(0, .ref a0), (1, .int x1), (2, .int x2), (3, .int x3)]) (st' := [.int 1, .int (κ1 (rf a0 29) x1.toNatClampNeg), .long 0, .long (x2).toInt64]) rfl ?_
      refine PC.pr (k := 1) (pc' := 35) (lv' := [(0, .ref a0), (1, .int x1), (2, .int x2), (3, .int x3)]) (st' := [.int ((κ1 (rf a0 29) x1.toNatClampNeg) - 1), .long 0, .long (x2).toInt64]) rfl ?_
      refine PC.pr (k := 1) (pc' := 36) (lv' := [(0, .ref a0), (1, .int x1), (2, .int x2), (3, .int x3)]) (st' := [.long (((κ1 (rf a0 29) x1.toNatClampNeg) - 1)).toInt64, .long 0, .long (x2).toInt64]) rfl ?_
      refine (PC.callI (j := 148) (args := [.long (x2).toInt64, .long 0, .long (((κ1 (rf a0 29) x1.toNatClampNeg) - 1)).toInt64]) (rest := []) (M := cM148) (ty := .boolean) rfl rfl rfl rfl rfl rfl (by decide) rfl rfl (by decide) ?_).weak
      refine PC.imp h (fun v2 κ2 h r2 hv => ?_)
      have h := h r2 hv
      refine PC.if1 (t := 45) rfl rfl (fun c => ?_) (fun c => ?_)
      · have h := h.1 (cmp_ne.1.mp c)
        refine PC.pr (k := 1) (pc' := 46) (lv' := [(0, .ref a0), (1, .int x1), (2, .int x2), (3, .int x3)]) (st' := [.ref a0]) rfl ?_
        refine PC.gR (ci := 9) (j := 30) rfl rfl (by decide) ?_
        refine PC.pr (k := 1) (pc' := 51) (lv' := [(0, .ref a0), (1, .int x1), (2, .int x2), (3, .int x3)]) (st' := [.int 40, .ref (rf a0 30)]) rfl ?_
        refine PC.pr (k := 1) (pc' := 52) (lv' := [(0, .ref a0), (1, .int x1), (2, .int x2), (3, .int x3)]) (st' := [.int x1, .int 40, .ref (rf a0 30)]) rfl ?_
        refine PC.pr (k := 1) (pc' := 53) (lv' := [(0, .ref a0), (1, .int x1), (2, .int x2), (3, .int x3)]) (st' := [.int (40 * x1), .ref (rf a0 30)]) rfl ?_
        refine PC.pr (k := 1) (pc' := 54) (lv' := [(0, .ref a0), (1, .int x1), (2, .int x2), (3, .int x3)]) (st' := [.int x2, .int (40 * x1), .ref (rf a0 30)]) rfl ?_
        refine PC.pr (k := 1) (pc' := 55) (lv' := [(0, .ref a0), (1, .int x1), (2, .int x2), (3, .int x3)]) (st' := [.int ((40 * x1) + x2), .ref (rf a0 30)]) rfl ?_
        refine PC.pr (k := 1) (pc' := 56) (lv' := [(0, .ref a0), (1, .int x1), (2, .int x2), (3, .int x3)]) (st' := [.ref a0, .int ((40 * x1) + x2), .ref (rf a0 30)]) rfl ?_
        refine PC.gR (ci := 9) (j := 28) rfl rfl (by decide) ?_
        refine PC.pr (k := 1) (pc' := 60) (lv' := [(0, .ref a0), (1, .int x1), (2, .int x2), (3, .int x3)]) (st' := [.int x1, .ref (rf a0 28), .int ((40 * x1) + x2), .ref (rf a0 30)]) rfl ?_
        refine PC.rd rfl (rf_lt _ _) (fun c1 c2 => ?_)
        have h := h c1 c2
        refine PC.if1 (t := 69) rfl rfl (fun c => ?_) (fun c => ?_)
        · have h := h.1 (cmp_ne.1.mp c)
          refine PC.pr (k := 1) (pc' := 70) (lv' := [(0, .ref a0), (1, .int x1), (2, .int x2), (3, .int x3)]) (st' := [.ref a0, .int ((40 * x1) + x2), .ref (rf a0 30)]) rfl ?_
          refine PC.gR (ci := 9) (j := 28) rfl rfl (by decide) ?_
          refine PC.pr (k := 1) (pc' := 74) (lv' := [(0, .ref a0), (1, .int x1), (2, .int x2), (3, .int x3)]) (st' := [.int x1, .ref (rf a0 28), .int ((40 * x1) + x2), .ref (rf a0 30)]) rfl ?_
          refine PC.rd rfl (rf_lt _ _) (fun c1 c2 => ?_)
          have h := h c1 c2
          refine PC.pr (k := 1) (pc' := 76) (lv' := [(0, .ref a0), (1, .int x1), (2, .int x2), (3, .int x3)]) (st' := [.int 1, .int (κ2 (rf a0 28) x1.toNatClampNeg), .int ((40 * x1) + x2), .ref (rf a0 30)]) rfl ?_
          refine PC.if2 (t := 84) rfl rfl (fun c => ?_) (fun c => ?_)
          · have h := h.1 (cmp_ne.1.mp c)
            refine PC.pr (k := 1) (pc' := 85) (lv' := [(0, .ref a0), (1, .int x1), (2, .int x2), (3, .int x3)]) (st' := [.int x3, .int ((40 * x1) + x2), .ref (rf a0 30)]) rfl ?_
            refine PC.wI rfl (fun c1 c2 => ?_)
            have h := h c1 c2
            refine PC.pr (k := 1) (pc' := 87) (lv' := [(0, .ref a0), (1, .int x1), (2, .int x2), (3, .int x3)]) (st' := [.int 1]) rfl ?_
            exact PC.retI rfl h
          · have h := h.2 (cmp_ne.2.mp c)
            refine PC.pr (k := 1) (pc' := 80) (lv' := [(0, .ref a0), (1, .int x1), (2, .int x2), (3, .int x3)]) (st' := [.int x3, .int ((40 * x1) + x2), .ref (rf a0 30)]) rfl ?_
            refine PC.pr (k := 1) (pc' := 81) (lv' := [(0, .ref a0), (1, .int x1), (2, .int x2), (3, .int x3)]) (st' := [.int (x3).toInt16.toInt32, .int ((40 * x1) + x2), .ref (rf a0 30)]) rfl ?_
            refine PC.pr (k := 1) (pc' := 85) (lv' := [(0, .ref a0), (1, .int x1), (2, .int x2), (3, .int x3)]) (st' := [.int (x3).toInt16.toInt32, .int ((40 * x1) + x2), .ref (rf a0 30)]) rfl ?_
            refine PC.wI rfl (fun c1 c2 => ?_)
            have h := h c1 c2
            refine PC.pr (k := 1) (pc' := 87) (lv' := [(0, .ref a0), (1, .int x1), (2, .int x2), (3, .int x3)]) (st' := [.int 1]) rfl ?_
            exact PC.retI rfl h
        · have h := h.2 (cmp_ne.2.mp c)
          refine PC.pr (k := 1) (pc' := 65) (lv' := [(0, .ref a0), (1, .int x1), (2, .int x2), (3, .int x3)]) (st' := [.int x3, .int ((40 * x1) + x2), .ref (rf a0 30)]) rfl ?_
          refine PC.pr (k := 1) (pc' := 66) (lv' := [(0, .ref a0), (1, .int x1), (2, .int x2), (3, .int x3)]) (st' := [.int (x3).toInt8.toInt32, .int ((40 * x1) + x2), .ref (rf a0 30)]) rfl ?_
          refine PC.pr (k := 1) (pc' := 85) (lv' := [(0, .ref a0), (1, .int x1), (2, .int x2), (3, .int x3)]) (st' := [.int (x3).toInt8.toInt32, .int ((40 * x1) + x2), .ref (rf a0 30)]) rfl ?_
          refine PC.wI rfl (fun c1 c2 => ?_)
          have h := h c1 c2
          refine PC.pr (k := 1) (pc' := 87) (lv' := [(0, .ref a0), (1, .int x1), (2, .int x2), (3, .int x3)]) (st' := [.int 1]) rfl ?_
          exact PC.retI rfl h
      · have h := h.2 (cmp_ne.2.mp c)
        refine PC.pr (k := 1) (pc' := 44) (lv' := [(0, .ref a0), (1, .int x1), (2, .int x2), (3, .int x3)]) (st' := [.int (-12)]) rfl ?_
        exact PC.retI rfl h
    · have h := h.2 (cmp_ne.2.mp c)
      refine PC.pr (k := 1) (pc' := 23) (lv' := [(0, .ref a0), (1, .int x1), (2, .int x2), (3, .int x3)]) (st' := [.int (-11)]) rfl ?_
      exact PC.retI rfl h
  · have h := h.2 (cmp_ne.2.mp c)
    refine PC.pr (k := 1) (pc' := 9) (lv' := [(0, .ref a0), (1, .int x1), (2, .int x2), (3, .int x3)]) (st' := [.int (-1)]) rfl ?_
    exact PC.retI rfl h

/-- DoorPaintsModel.read(IIII)I -/
theorem t_236_0 {xl : List Int32} {n : Nat} {ι : IS} {Q : Option Value → IS → Prop} {a0 : Nat} {x1 : Int32} {x2 : Int32} {x3 : Int32} {x4 : Int32} (h : PC xl n 234 0 [(0, .int x1), (1, .int x2)] [] ι (fun v1 κ1 => ∀ r1, v1 = some (.int r1) → ((r1 = 0 → Q (some (.int (-1))) κ1) ∧ (¬ r1 = 0 → PC xl n 148 0 [(0, .long (x4).toInt64), (2, .long 0), (4, .long 20)] [] κ1 (fun v2 κ2 => ∀ r2, v2 = some (.int r2) → ((¬ r2 = 0 → PC xl n 236 26 [(0, .ref a0), (1, .int x1), (2, .int x2), (3, .int x3), (4, .int x4), (5, .int 0)] [] κ2 Q) ∧ (r2 = 0 → Q (some (.int (-1))) κ2))))))) : PC xl (n + 1) 236 0 [(0, .ref a0), (1, .int x1), (2, .int x2), (3, .int x3), (4, .int x4)] [] ι Q := by
  refine PC.pr1 (k := 0) (pc' := 1) (lv' := [(0, .ref a0), (1, .int x1), (2, .int x2), (3, .int x3), (4, .int x4)]) (st' := [.int x1]) rfl ?_
  refine PC.pr (k := 1) (pc' := 2) (lv' := [(0, .ref a0), (1, .int x1), (2, .int x2), (3, .int x3), (4, .int x4)]) (st' := [.int x2, .int x1]) rfl ?_
  refine (PC.callI (j := 234) (args := [.int x1, .int x2]) (rest := []) (M := cM234) (ty := .boolean) rfl rfl rfl rfl rfl rfl (by decide) rfl rfl (by decide) ?_).weak
  refine PC.imp h (fun v1 κ1 h r1 hv => ?_)
  have h := h r1 hv
  refine PC.if1 (t := 21) rfl rfl (fun c => ?_) (fun c => ?_)
  · have h := h.1 (cmp_eq.1.mp c)
    refine PC.pr (k := 1) (pc' := 22) (lv' := [(0, .ref a0), (1, .int x1), (2, .int x2), (3, .int x3), (4, .int x4)]) (st' := [.int (-1)]) rfl ?_
    exact PC.retI rfl h
  · have h := h.2 (cmp_eq.2.mp c)
    refine PC.pr (k := 1) (pc' := 10) (lv' := [(0, .ref a0), (1, .int x1), (2, .int x2), (3, .int x3), (4, .int x4)]) (st' := [.int x4]) rfl ?_
    refine PC.pr (k := 1) (pc' := 11) (lv' := [(0, .ref a0), (1, .int x1), (2, .int x2), (3, .int x3), (4, .int x4)]) (st' := [.long (x4).toInt64]) rfl ?_
    refine PC.pr (k := 1) (pc' := 12) (lv' := [(0, .ref a0), (1, .int x1), (2, .int x2), (3, .int x3), (4, .int x4)]) (st' := [.long 0, .long (x4).toInt64]) rfl ?_
    refine PC.pr (k := 1) (pc' := 15) (lv' := [(0, .ref a0), (1, .int x1), (2, .int x2), (3, .int x3), (4, .int x4)]) (st' := [.long 20, .long 0, .long (x4).toInt64]) rfl ?_
    refine (PC.callI (j := 148) (args := [.long (x4).toInt64, .long 0, .long 20]) (rest := []) (M := cM148) (ty := .boolean) rfl rfl rfl rfl rfl rfl (by decide) rfl rfl (by decide) ?_).weak
    refine PC.imp h (fun v2 κ2 h r2 hv => ?_)
    have h := h r2 hv
    refine PC.if1 (t := 23) rfl rfl (fun c => ?_) (fun c => ?_)
    · have h := h.1 (cmp_ne.1.mp c)
      refine PC.pr (k := 1) (pc' := 24) (lv' := [(0, .ref a0), (1, .int x1), (2, .int x2), (3, .int x3), (4, .int x4)]) (st' := [.int 0]) rfl ?_
      refine PC.pr (k := 1) (pc' := 26) (lv' := [(5, .int 0), (0, .ref a0), (1, .int x1), (2, .int x2), (3, .int x3), (4, .int x4)]) (st' := []) rfl ?_
      exact PC.lv (lvE.cons rfl (lvE.cons rfl (lvE.cons rfl (lvE.cons rfl (lvE.cons rfl (lvE.cons rfl (lvE.nil))))))) h
    · have h := h.2 (cmp_ne.2.mp c)
      refine PC.pr (k := 1) (pc' := 22) (lv' := [(0, .ref a0), (1, .int x1), (2, .int x2), (3, .int x3), (4, .int x4)]) (st' := [.int (-1)]) rfl ?_
      exact PC.retI rfl h
theorem t_236_26 {xl : List Int32} {n : Nat} {ι : IS} {Q : Option Value → IS → Prop} {a0 : Nat} {x1 : Int32} {x2 : Int32} {x3 : Int32} {x4 : Int32} {x5 : Int32} (h : ((¬ x5 < 80 → PC xl n 236 62 [(0, .ref a0), (1, .int x1), (2, .int x2), (3, .int x3), (4, .int x4), (5, .int 0), (6, .int 0), (7, .int 0), (8, .null), (9, .null)] [] ι Q) ∧ (x5 < 80 → (0 ≤ x5.toInt → x5.toInt < ln (rf a0 0) → (0 ≤ x5.toInt → x5.toInt < ln (rf a0 32) → PC xl n 236 26 [(0, .ref a0), (1, .int x1), (2, .int x2), (3, .int x3), (4, .int x4), (5, .int (x5 + 1))] [] (up ι (rf a0 32) x5.toNatClampNeg (ι (rf a0 0) x5.toNatClampNeg)) Q))))) : PC xl (n + 1) 236 26 [(0, .ref a0), (1, .int x1), (2, .int x2), (3, .int x3), (4, .int x4), (5, .int x5)] [] ι Q := by
  refine PC.pr1 (k := 0) (pc' := 28) (lv' := [(0, .ref a0), (1, .int x1), (2, .int x2), (3, .int x3), (4, .int x4), (5, .int x5)]) (st' := [.int x5]) rfl ?_
  refine PC.pr (k := 1) (pc' := 30) (lv' := [(0, .ref a0), (1, .int x1), (2, .int x2), (3, .int x3), (4, .int x4), (5, .int x5)]) (st' := [.int 80, .int x5]) rfl ?_
  refine PC.if2 (t := 53) rfl rfl (fun c => ?_) (fun c => ?_)
  · have h := h.1 (cmp_ge.1.mp c)
    refine PC.pr (k := 1) (pc' := 54) (lv' := [(0, .ref a0), (1, .int x1), (2, .int x2), (3, .int x3), (4, .int x4), (5, .int x5)]) (st' := [.int 0]) rfl ?_
    refine PC.pr (k := 1) (pc' := 56) (lv' := [(5, .int 0), (0, .ref a0), (1, .int x1), (2, .int x2), (3, .int x3), (4, .int x4)]) (st' := []) rfl ?_
    refine PC.pr (k := 1) (pc' := 57) (lv' := [(5, .int 0), (0, .ref a0), (1, .int x1), (2, .int x2), (3, .int x3), (4, .int x4)]) (st' := [.int 0]) rfl ?_
    refine PC.pr (k := 1) (pc' := 59) (lv' := [(6, .int 0), (5, .int 0), (0, .ref a0), (1, .int x1), (2, .int x2), (3, .int x3), (4, .int x4)]) (st' := []) rfl ?_
    refine PC.pr (k := 1) (pc' := 60) (lv' := [(6, .int 0), (5, .int 0), (0, .ref a0), (1, .int x1), (2, .int x2), (3, .int x3), (4, .int x4)]) (st' := [.int 0]) rfl ?_
    refine PC.pr (k := 1) (pc' := 62) (lv' := [(7, .int 0), (6, .int 0), (5, .int 0), (0, .ref a0), (1, .int x1), (2, .int x2), (3, .int x3), (4, .int x4)]) (st' := []) rfl ?_
    exact PC.lv (lvE.cons rfl (lvE.cons rfl (lvE.cons rfl (lvE.cons rfl (lvE.cons rfl (lvE.cons rfl (lvE.cons rfl (lvE.cons rfl (lvE.nil))))))))) h
  · have h := h.2 (cmp_ge.2.mp c)
    refine PC.pr (k := 1) (pc' := 34) (lv' := [(0, .ref a0), (1, .int x1), (2, .int x2), (3, .int x3), (4, .int x4), (5, .int x5)]) (st' := [.ref a0]) rfl ?_
    refine PC.gR (ci := 9) (j := 32) rfl rfl (by decide) ?_
    refine PC.pr (k := 1) (pc' := 39) (lv' := [(0, .ref a0), (1, .int x1), (2, .int x2), (3, .int x3), (4, .int x4), (5, .int x5)]) (st' := [.int x5, .ref (rf a0 32)]) rfl ?_
    refine PC.pr (k := 1) (pc' := 40) (lv' := [(0, .ref a0), (1, .int x1), (2, .int x2), (3, .int x3), (4, .int x4), (5, .int x5)]) (st' := [.ref a0, .int x5, .ref (rf a0 32)]) rfl ?_
    refine PC.gR (ci := 9) (j := 0) rfl rfl (by decide) ?_
    refine PC.pr (k := 1) (pc' := 45) (lv' := [(0, .ref a0), (1, .int x1), (2, .int x2), (3, .int x3), (4, .int x4), (5, .int x5)]) (st' := [.int x5, .ref (rf a0 0), .int x5, .ref (rf a0 32)]) rfl ?_
    refine PC.rd rfl (rf_lt _ _) (fun c1 c2 => ?_)
    have h := h c1 c2
    refine PC.wI rfl (fun c1 c2 => ?_)
    have h := h c1 c2
    refine PC.pr (k := 1) (pc' := 50) (lv' := [(5, .int (x5 + 1)), (0, .ref a0), (1, .int x1), (2, .int x2), (3, .int x3), (4, .int x4)]) (st' := []) rfl ?_
    refine PC.pr (k := 1) (pc' := 26) (lv' := [(5, .int (x5 + 1)), (0, .ref a0), (1, .int x1), (2, .int x2), (3, .int x3), (4, .int x4)]) (st' := []) rfl ?_
    exact PC.lv (lvE.cons rfl (lvE.cons rfl (lvE.cons rfl (lvE.cons rfl (lvE.cons rfl (lvE.cons rfl (lvE.nil))))))) h
theorem t_236_62 {xl : List Int32} {n : Nat} {ι : IS} {Q : Option Value → IS → Prop} {a0 : Nat} {x1 : Int32} {x2 : Int32} {x3 : Int32} {x4 : Int32} {x5 : Int32} {x6 : Int32} {x7 : Int32} {w8 : Value} {w9 : Value} (h : ((¬ x7 < x4 → Q (some (.int x6)) (up ι a0 31 x5)) ∧ (x7 < x4 → ((¬ x5 = 0 → Q (some (.int x6)) (up ι a0 31 x5)) ∧ (x5 = 0 → PC xl n 236 77 [(0, .ref a0), (1, .int x1), (2, .int x2), (3, .int x3), (4, .int x4), (5, .int x5), (6, .int x6), (7, .int x7), (8, .int 0), (9, w9)] [] ι Q))))) : PC xl (n + 1) 236 62 [(0, .ref a0), (1, .int x1), (2, .int x2), (3, .int x3), (4, .int x4), (5, .int x5), (6, .int x6), (7, .int x7), (8, w8), (9, w9)] [] ι Q := by
  refine PC.pr1 (k := 0) (pc' := 64) (lv' := [(0, .ref a0), (1, .int x1), (2, .int x2), (3, .int x3), (4, .int x4), (5, .int x5), (6, .int x6), (7, .int x7), (8, w8), (9, w9)]) (st' := [.int x7]) rfl ?_
  refine PC.pr (k := 1) (pc' := 66) (lv' := [(0, .ref a0), (1, .int x1), (2, .int x2), (3, .int x3), (4, .int x4), (5, .int x5), (6, .int x6), (7, .int x7), (8, w8), (9, w9)]) (st' := [.int x4, .int x7]) rfl ?_
  refine PC.if2 (t := 261) rfl rfl (fun c => ?_) (fun c => ?_)
  · have h := h.1 (cmp_ge.1.mp c)
    refine PC.pr (k := 1) (pc' := 262) (lv' := [(0, .ref a0), (1, .int x1), (2, .int x2), (3, .int x3), (4, .int x4), (5, .int x5), (6, .int x6), (7, .int x7), (8, w8), (9, w9)]) (st' := [.ref a0]) rfl ?_
    refine PC.pr (k := 1) (pc' := 264) (lv' := [(0, .ref a0), (1, .int x1), (2, .int x2), (3, .int x3), (4, .int x4), (5, .int x5), (6, .int x6), (7, .int x7), (8, w8), (9, w9)]) (st' := [.int x5, .ref a0]) rfl ?_
    refine PC.pI (ci := 9) (j := 31) rfl rfl ?_
    refine PC.pr (k := 1) (pc' := 269) (lv' := [(0, .ref a0), (1, .int x1), (2, .int x2), (3, .int x3), (4, .int x4), (5, .int x5), (6, .int x6), (7, .int x7), (8, w8), (9, w9)]) (st' := [.int x6]) rfl ?_
    exact PC.retI rfl h
  · have h := h.2 (cmp_ge.2.mp c)
    refine PC.pr (k := 1) (pc' := 71) (lv' := [(0, .ref a0), (1, .int x1), (2, .int x2), (3, .int x3), (4, .int x4), (5, .int x5), (6, .int x6), (7, .int x7), (8, w8), (9, w9)]) (st' := [.int x5]) rfl ?_
    refine PC.if1 (t := 261) rfl rfl (fun c => ?_) (fun c => ?_)
    · have h := h.1 (cmp_ne.1.mp c)
      refine PC.pr (k := 1) (pc' := 262) (lv' := [(0, .ref a0), (1, .int x1), (2, .int x2), (3, .int x3), (4, .int x4), (5, .int x5), (6, .int x6), (7, .int x7), (8, w8), (9, w9)]) (st' := [.ref a0]) rfl ?_
      refine PC.pr (k := 1) (pc' := 264) (lv' := [(0, .ref a0), (1, .int x1), (2, .int x2), (3, .int x3), (4, .int x4), (5, .int x5), (6, .int x6), (7, .int x7), (8, w8), (9, w9)]) (st' := [.int x5, .ref a0]) rfl ?_
      refine PC.pI (ci := 9) (j := 31) rfl rfl ?_
      refine PC.pr (k := 1) (pc' := 269) (lv' := [(0, .ref a0), (1, .int x1), (2, .int x2), (3, .int x3), (4, .int x4), (5, .int x5), (6, .int x6), (7, .int x7), (8, w8), (9, w9)]) (st' := [.int x6]) rfl ?_
      exact PC.retI rfl h
    · have h := h.2 (cmp_ne.2.mp c)
      refine PC.pr (k := 1) (pc' := 75) (lv' := [(0, .ref a0), (1, .int x1), (2, .int x2), (3, .int x3), (4, .int x4), (5, .int x5), (6, .int x6), (7, .int x7), (8, w8), (9, w9)]) (st' := [.int 0]) rfl ?_
      refine PC.pr (k := 1) (pc' := 77) (lv' := [(8, .int 0), (0, .ref a0), (1, .int x1), (2, .int x2), (3, .int x3), (4, .int x4), (5, .int x5), (6, .int x6), (7, .int x7), (9, w9)]) (st' := []) rfl ?_
      exact PC.lv (lvE.cons rfl (lvE.cons rfl (lvE.cons rfl (lvE.cons rfl (lvE.cons rfl (lvE.cons rfl (lvE.cons rfl (lvE.cons rfl (lvE.cons rfl (lvE.cons rfl (lvE.nil))))))))))) h
theorem t_236_77 {xl : List Int32} {n : Nat} {ι : IS} {Q : Option Value → IS → Prop} {a0 : Nat} {x1 : Int32} {x2 : Int32} {x3 : Int32} {x4 : Int32} {x5 : Int32} {x6 : Int32} {x7 : Int32} {x8 : Int32} {w9 : Value} (h : ((¬ x8 < 2 → PC xl n 236 164 [(0, .ref a0), (1, .int x1), (2, .int x2), (3, .int x3), (4, .int x4), (5, .int x5), (6, .int x6), (7, .int x7), (8, .int x8), (9, w9)] [] ι Q) ∧ (x8 < 2 → ((¬ x5 = 0 → PC xl n 236 164 [(0, .ref a0), (1, .int x1), (2, .int x2), (3, .int x3), (4, .int x4), (5, .int x5), (6, .int x6), (7, .int x7), (8, .int x8), (9, w9)] [] ι Q) ∧ (x5 = 0 → (0 ≤ x1.toInt → x1.toInt < ln (rf a0 28) → ((¬ (ι (rf a0 28) x1.toNatClampNeg) = (-4) → (0 ≤ x1.toInt → x1.toInt < ln (rf a0 28) → (((ι (rf a0 28) x1.toNatClampNeg) = x2 → (((lg_cmp (((x3).toInt64 + ((2 * x7)).toInt64) + (x8).toInt64) 0) < 0 → PC xl n 236 151 [(0, .ref a0), (1, .int x1), (2, .int x2), (3, .int x3), (4, .int x4), (5, .int x5), (6, .int x6), (7, .int x7), (8, .int x8), (9, .long (((x3).toInt64 + ((2 * x7)).toInt64) + (x8).toInt64))] [] ι Q) ∧ (¬ (lg_cmp (((x3).toInt64 + ((2 * x7)).toInt64) + (x8).toInt64) 0) < 0 → (0 ≤ x1.toInt → x1.toInt < ln (rf a0 29) → (((lg_cmp (((x3).toInt64 + ((2 * x7)).toInt64) + (x8).toInt64) ((ι (rf a0 29) x1.toNatClampNeg)).toInt64) < 0 → PC xl n 236 156 [(0, .ref a0), (1, .int x1), (2, .int x2), (3, .int x3), (4, .int x4), (5, .int x5), (6, .int x6), (7, .int x7), (8, .int x8), (9, .long (((x3).toInt64 + ((2 * x7)).toInt64) + (x8).toInt64))] [.int 0] ι Q) ∧ (¬ (lg_cmp (((x3).toInt64 + ((2 * x7)).toInt64) + (x8).toInt64) ((ι (rf a0 29) x1.toNatClampNeg)).toInt64) < 0 → PC xl n 236 151 [(0, .ref a0), (1, .int x1), (2, .int x2), (3, .int x3), (4, .int x4), (5, .int x5), (6, .int x6), (7, .int x7), (8, .int x8), (9, .long (((x3).toInt64 + ((2 * x7)).toInt64) + (x8).toInt64))] [] ι Q)))))) ∧ (¬ (ι (rf a0 28) x1.toNatClampNeg) = x2 → PC xl n 236 156 [(0, .ref a0), (1, .int x1), (2, .int x2), (3, .int x3), (4, .int x4), (5, .int x5), (6, .int x6), (7, .int x7), (8, .int x8), (9, .long (((x3).toInt64 + ((2 * x7)).toInt64) + (x8).toInt64))] [.int 3] ι Q)))) ∧ ((ι (rf a0 28) x1.toNatClampNeg) = (-4) → PC xl n 236 156 [(0, .ref a0), (1, .int x1), (2, .int x2), (3, .int x3), (4, .int x4), (5, .int x5), (6, .int x6), (7, .int x7), (8, .int x8), (9, .long (((x3).toInt64 + ((2 * x7)).toInt64) + (x8).toInt64))] [.int 1] ι Q)))))))) : PC xl (n + 1) 236 77 [(0, .ref a0), (1, .int x1), (2, .int x2), (3, .int x3), (4, .int x4), (5, .int x5), (6, .int x6), (7, .int x7), (8, .int x8), (9, w9)] [] ι Q := by
  refine PC.pr1 (k := 0) (pc' := 79) (lv' := [(0, .ref a0), (1, .int x1), (2, .int x2), (3, .int x3), (4, .int x4), (5, .int x5), (6, .int x6), (7, .int x7), (8, .int x8), (9, w9)]) (st' := [.int x8]) rfl ?_
  refine PC.pr (k := 1) (pc' := 80) (lv' := [(0, .ref a0), (1, .int x1), (2, .int x2), (3, .int x3), (4, .int x4), (5, .int x5), (6, .int x6), (7, .int x7), (8, .int x8), (9, w9)]) (st' := [.int 2, .int x8]) rfl ?_
  refine PC.if2 (t := 164) rfl rfl (fun c => ?_) (fun c => ?_)
  · have h := h.1 (cmp_ge.1.mp c)
    exact h
  · have h := h.2 (cmp_ge.2.mp c)
    refine PC.pr (k := 1) (pc' := 85) (lv' := [(0, .ref a0), (1, .int x1), (2, .int x2), (3, .int x3), (4, .int x4), (5, .int x5), (6, .int x6), (7, .int x7), (8, .int x8), (9, w9)]) (st' := [.int x5]) rfl ?_
    refine PC.if1 (t := 164) rfl rfl (fun c => ?_) (fun c => ?_)
    · have h := h.1 (cmp_ne.1.mp c)
      exact h
    · have h := h.2 (cmp_ne.2.mp c)
      refine PC.pr (k := 1) (pc' := 89) (lv' := [(0, .ref a0), (1, .int x1), (2, .int x2), (3, .int x3), (4, .int x4), (5, .int x5), (6, .int x6), (7, .int x7), (8, .int x8), (9, w9)]) (st' := [.int x3]) rfl ?_
      refine PC.pr (k := 1) (pc' := 90) (lv' := [(0, .ref a0), (1, .int x1), (2, .int x2), (3, .int x3), (4, .int x4), (5, .int x5), (6, .int x6), (7, .int x7), (8, .int x8), (9, w9)]) (st' := [.long (x3).toInt64]) rfl ?_
      refine PC.pr (k := 1) (pc' := 91) (lv' := [(0, .ref a0), (1, .int x1), (2, .int x2), (3, .int x3), (4, .int x4), (5, .int x5), (6, .int x6), (7, .int x7), (8, .int x8), (9, w9)]) (st' := [.int 2, .long (x3).toInt64]) rfl ?_
      refine PC.pr (k := 1) (pc' := 93) (lv' := [(0, .ref a0), (1, .int x1), (2, .int x2), (3, .int x3), (4, .int x4), (5, .int x5), (6, .int x6), (7, .int x7), (8, .int x8), (9, w9)]) (st' := [.int x7, .int 2, .long (x3).toInt64]) rfl ?_
      refine PC.pr (k := 1) (pc' := 94) (lv' := [(0, .ref a0), (1, .int x1), (2, .int x2), (3, .int x3), (4, .int x4), (5, .int x5), (6, .int x6), (7, .int x7), (8, .int x8), (9, w9)]) (st' := [.int (2 * x7), .long (x3).toInt64]) rfl ?_
      refine PC.pr (k := 1) (pc' := 95) (lv' := [(0, .ref a0), (1, .int x1), (2, .int x2), (3, .int x3), (4, .int x4), (5, .int x5), (6, .int x6), (7, .int x7), (8, .int x8), (9, w9)]) (st' := [.long ((2 * x7)).toInt64, .long (x3).toInt64]) rfl ?_
      refine PC.pr (k := 1) (pc' := 96) (lv' := [(0, .ref a0), (1, .int x1), (2, .int x2), (3, .int x3), (4, .int x4), (5, .int x5), (6, .int x6), (7, .int x7), (8, .int x8), (9, w9)]) (st' := [.long ((x3).toInt64 + ((2 * x7)).toInt64)]) rfl ?_
      refine PC.pr (k := 1) (pc' := 98) (lv' := [(0, .ref a0), (1, .int x1), (2, .int x2), (3, .int x3), (4, .int x4), (5, .int x5), (6, .int x6), (7, .int x7), (8, .int x8), (9, w9)]) (st' := [.int x8, .long ((x3).toInt64 + ((2 * x7)).toInt64)]) rfl ?_
      refine PC.pr (k := 1) (pc' := 99) (lv' := [(0, .ref a0), (1, .int x1), (2, .int x2), (3, .int x3), (4, .int x4), (5, .int x5), (6, .int x6), (7, .int x7), (8, .int x8), (9, w9)]) (st' := [.long (x8).toInt64, .long ((x3).toInt64 + ((2 * x7)).toInt64)]) rfl ?_
      refine PC.pr (k := 1) (pc' := 100) (lv' := [(0, .ref a0), (1, .int x1), (2, .int x2), (3, .int x3), (4, .int x4), (5, .int x5), (6, .int x6), (7, .int x7), (8, .int x8), (9, w9)]) (st' := [.long (((x3).toInt64 + ((2 * x7)).toInt64) + (x8).toInt64)]) rfl ?_
      refine PC.pr (k := 1) (pc' := 102) (lv' := [(9, .long (((x3).toInt64 + ((2 * x7)).toInt64) + (x8).toInt64)), (0, .ref a0), (1, .int x1), (2, .int x2), (3, .int x3), (4, .int x4), (5, .int x5), (6, .int x6), (7, .int x7), (8, .int x8)]) (st' := []) rfl ?_
      refine PC.pr (k := 1) (pc' := 103) (lv' := [(9, .long (((x3).toInt64 + ((2 * x7)).toInt64) + (x8).toInt64)), (0, .ref a0), (1, .int x1), (2, .int x2), (3, .int x3), (4, .int x4), (5, .int x5), (6, .int x6), (7, .int x7), (8, .int x8)]) (st' := [.ref a0]) rfl ?_
      refine PC.gR (ci := 9) (j := 28) rfl rfl (by decide) ?_
      refine PC.pr (k := 1) (pc' := 107) (lv' := [(9, .long (((x3).toInt64 + ((2 * x7)).toInt64) + (x8).toInt64)), (0, .ref a0), (1, .int x1), (2, .int x2), (3, .int x3), (4, .int x4), (5, .int x5), (6, .int x6), (7, .int x7), (8, .int x8)]) (st' := [.int x1, .ref (rf a0 28)]) rfl ?_
      refine PC.rd rfl (rf_lt _ _) (fun c1 c2 => ?_)
      have h := h c1 c2
      refine PC.pr (k := 1) (pc' := 110) (lv' := [(9, .long (((x3).toInt64 + ((2 * x7)).toInt64) + (x8).toInt64)), (0, .ref a0), (1, .int x1), (2, .int x2), (3, .int x3), (4, .int x4), (5, .int x5), (6, .int x6), (7, .int x7), (8, .int x8)]) (st' := [.int (-4), .int (ι (rf a0 28) x1.toNatClampNeg)]) rfl ?_
      refine PC.if2 (t := 117) rfl rfl (fun c => ?_) (fun c => ?_)
      · have h := h.1 (cmp_ne.1.mp c)
        refine PC.pr (k := 1) (pc' := 118) (lv' := [(9, .long (((x3).toInt64 + ((2 * x7)).toInt64) + (x8).toInt64)), (0, .ref a0), (1, .int x1), (2, .int x2), (3, .int x3), (4, .int x4), (5, .int x5), (6, .int x6), (7, .int x7), (8, .int x8)]) (st' := [.ref a0]) rfl ?_
        refine PC.gR (ci := 9) (j := 28) rfl rfl (by decide) ?_
        refine PC.pr (k := 1) (pc' := 122) (lv' := [(9, .long (((x3).toInt64 + ((2 * x7)).toInt64) + (x8).toInt64)), (0, .ref a0), (1, .int x1), (2, .int x2), (3, .int x3), (4, .int x4), (5, .int x5), (6, .int x6), (7, .int x7), (8, .int x8)]) (st' := [.int x1, .ref (rf a0 28)]) rfl ?_
        refine PC.rd rfl (rf_lt _ _) (fun c1 c2 => ?_)
        have h := h c1 c2
        refine PC.pr (k := 1) (pc' := 124) (lv' := [(9, .long (((x3).toInt64 + ((2 * x7)).toInt64) + (x8).toInt64)), (0, .ref a0), (1, .int x1), (2, .int x2), (3, .int x3), (4, .int x4), (5, .int x5), (6, .int x6), (7, .int x7), (8, .int x8)]) (st' := [.int x2, .int (ι (rf a0 28) x1.toNatClampNeg)]) rfl ?_
        refine PC.if2 (t := 131) rfl rfl (fun c => ?_) (fun c => ?_)
        · have h := h.1 (cmp_eq.1.mp c)
          refine PC.pr (k := 1) (pc' := 133) (lv' := [(9, .long (((x3).toInt64 + ((2 * x7)).toInt64) + (x8).toInt64)), (0, .ref a0), (1, .int x1), (2, .int x2), (3, .int x3), (4, .int x4), (5, .int x5), (6, .int x6), (7, .int x7), (8, .int x8)]) (st' := [.long (((x3).toInt64 + ((2 * x7)).toInt64) + (x8).toInt64)]) rfl ?_
          refine PC.pr (k := 1) (pc' := 134) (lv' := [(9, .long (((x3).toInt64 + ((2 * x7)).toInt64) + (x8).toInt64)), (0, .ref a0), (1, .int x1), (2, .int x2), (3, .int x3), (4, .int x4), (5, .int x5), (6, .int x6), (7, .int x7), (8, .int x8)]) (st' := [.long 0, .long (((x3).toInt64 + ((2 * x7)).toInt64) + (x8).toInt64)]) rfl ?_
          refine PC.pr (k := 1) (pc' := 135) (lv' := [(9, .long (((x3).toInt64 + ((2 * x7)).toInt64) + (x8).toInt64)), (0, .ref a0), (1, .int x1), (2, .int x2), (3, .int x3), (4, .int x4), (5, .int x5), (6, .int x6), (7, .int x7), (8, .int x8)]) (st' := [.int (lg_cmp (((x3).toInt64 + ((2 * x7)).toInt64) + (x8).toInt64) 0)]) rfl ?_
          refine PC.if1 (t := 151) rfl rfl (fun c => ?_) (fun c => ?_)
          · have h := h.1 (cmp_lt.1.mp c)
            exact PC.lv (lvE.cons rfl (lvE.cons rfl (lvE.cons rfl (lvE.cons rfl (lvE.cons rfl (lvE.cons rfl (lvE.cons rfl (lvE.cons rfl (lvE.cons rfl (lvE.cons rfl (lvE.nil))))))))))) h
          · have h := h.2 (cmp_lt.2.mp c)
            refine PC.pr (k := 1) (pc' := 140) (lv' := [(9, .long (((x3).toInt64 + ((2 * x7)).toInt64) + (x8).toInt64)), (0, .ref a0), (1, .int x1), (2, .int x2), (3, .int x3), (4, .int x4), (5, .int x5), (6, .int x6), (7, .int x7), (8, .int x8)]) (st' := [.long (((x3).toInt64 + ((2 * x7)).toInt64) + (x8).toInt64)]) rfl ?_
            refine PC.pr (k := 1) (pc' := 141) (lv' := [(9, .long (((x3).toInt64 + ((2 * x7)).toInt64) + (x8).toInt64)), (0, .ref a0), (1, .int x1), (2, .int x2), (3, .int x3), (4, .int x4), (5, .int x5), (6, .int x6), (7, .int x7), (8, .int x8)]) (st' := [.ref a0, .long (((x3).toInt64 + ((2 * x7)).toInt64) + (x8).toInt64)]) rfl ?_
            refine PC.gR (ci := 9) (j := 29) rfl rfl (by decide) ?_
            refine PC.pr (k := 1) (pc' := 145) (lv' := [(9, .long (((x3).toInt64 + ((2 * x7)).toInt64) + (x8).toInt64)), (0, .ref a0), (1, .int x1), (2, .int x2), (3, .int x3), (4, .int x4), (5, .int x5), (6, .int x6), (7, .int x7), (8, .int x8)]) (st' := [.int x1, .ref (rf a0 29), .long (((x3).toInt64 + ((2 * x7)).toInt64) + (x8).toInt64)]) rfl ?_
            refine PC.rd rfl (rf_lt _ _) (fun c1 c2 => ?_)
            have h := h c1 c2
            refine PC.pr (k := 1) (pc' := 147) (lv' := [(9, .long (((x3).toInt64 + ((2 * x7)).toInt64) + (x8).toInt64)), (0, .ref a0), (1, .int x1), (2, .int x2), (3, .int x3), (4, .int x4), (5, .int x5), (6, .int x6), (7, .int x7), (8, .int x8)]) (st' := [.long ((ι (rf a0 29) x1.toNatClampNeg)).toInt64, .long (((x3).toInt64 + ((2 * x7)).toInt64) + (x8).toInt64)]) rfl ?_
            refine PC.pr (k := 1) (pc' := 148) (lv' := [(9, .long (((x3).toInt64 + ((2 * x7)).toInt64) + (x8).toInt64)), (0, .ref a0), (1, .int x1), (2, .int x2), (3, .int x3), (4, .int x4), (5, .int x5), (6, .int x6), (7, .int x7), (8, .int x8)]) (st' := [.int (lg_cmp (((x3).toInt64 + ((2 * x7)).toInt64) + (x8).toInt64) ((ι (rf a0 29) x1.toNatClampNeg)).toInt64)]) rfl ?_
            refine PC.if1 (t := 155) rfl rfl (fun c => ?_) (fun c => ?_)
            · have h := h.1 (cmp_lt.1.mp c)
              refine PC.pr (k := 1) (pc' := 156) (lv' := [(9, .long (((x3).toInt64 + ((2 * x7)).toInt64) + (x8).toInt64)), (0, .ref a0), (1, .int x1), (2, .int x2), (3, .int x3), (4, .int x4), (5, .int x5), (6, .int x6), (7, .int x7), (8, .int x8)]) (st' := [.int 0]) rfl ?_
              exact PC.lv (lvE.cons rfl (lvE.cons rfl (lvE.cons rfl (lvE.cons rfl (lvE.cons rfl (lvE.cons rfl (lvE.cons rfl (lvE.cons rfl (lvE.cons rfl (lvE.cons rfl (lvE.nil))))))))))) h
            · have h := h.2 (cmp_lt.2.mp c)
              exact PC.lv (lvE.cons rfl (lvE.cons rfl (lvE.cons rfl (lvE.cons rfl (lvE.cons rfl (lvE.cons rfl (lvE.cons rfl (lvE.cons rfl (lvE.cons rfl (lvE.cons rfl (lvE.nil))))))))))) h
        · have h := h.2 (cmp_eq.2.mp c)
          refine PC.pr (k := 1) (pc' := 128) (lv' := [(9, .long (((x3).toInt64 + ((2 * x7)).toInt64) + (x8).toInt64)), (0, .ref a0), (1, .int x1), (2, .int x2), (3, .int x3), (4, .int x4), (5, .int x5), (6, .int x6), (7, .int x7), (8, .int x8)]) (st' := [.int 3]) rfl ?_
          refine PC.pr (k := 1) (pc' := 156) (lv' := [(9, .long (((x3).toInt64 + ((2 * x7)).toInt64) + (x8).toInt64)), (0, .ref a0), (1, .int x1), (2, .int x2), (3, .int x3), (4, .int x4), (5, .int x5), (6, .int x6), (7, .int x7), (8, .int x8)]) (st' := [.int 3]) rfl ?_
          exact PC.lv (lvE.cons rfl (lvE.cons rfl (lvE.cons rfl (lvE.cons rfl (lvE.cons rfl (lvE.cons rfl (lvE.cons rfl (lvE.cons rfl (lvE.cons rfl (lvE.cons rfl (lvE.nil))))))))))) h
      · have h := h.2 (cmp_ne.2.mp c)
        refine PC.pr (k := 1) (pc' := 114) (lv' := [(9, .long (((x3).toInt64 + ((2 * x7)).toInt64) + (x8).toInt64)), (0, .ref a0), (1, .int x1), (2, .int x2), (3, .int x3), (4, .int x4), (5, .int x5), (6, .int x6), (7, .int x7), (8, .int x8)]) (st' := [.int 1]) rfl ?_
        refine PC.pr (k := 1) (pc' := 156) (lv' := [(9, .long (((x3).toInt64 + ((2 * x7)).toInt64) + (x8).toInt64)), (0, .ref a0), (1, .int x1), (2, .int x2), (3, .int x3), (4, .int x4), (5, .int x5), (6, .int x6), (7, .int x7), (8, .int x8)]) (st' := [.int 1]) rfl ?_
        exact PC.lv (lvE.cons rfl (lvE.cons rfl (lvE.cons rfl (lvE.cons rfl (lvE.cons rfl (lvE.cons rfl (lvE.cons rfl (lvE.cons rfl (lvE.cons rfl (lvE.cons rfl (lvE.nil))))))))))) h
theorem t_236_151 {xl : List Int32} {n : Nat} {ι : IS} {Q : Option Value → IS → Prop} {a0 : Nat} {x1 : Int32} {x2 : Int32} {x3 : Int32} {x4 : Int32} {x5 : Int32} {x6 : Int32} {x7 : Int32} {x8 : Int32} {y9 : Int64} (h : PC xl n 236 156 [(0, .ref a0), (1, .int x1), (2, .int x2), (3, .int x3), (4, .int x4), (5, .int x5), (6, .int x6), (7, .int x7), (8, .int x8), (9, .long y9)] [.int 2] ι Q) : PC xl (n + 1) 236 151 [(0, .ref a0), (1, .int x1), (2, .int x2), (3, .int x3), (4, .int x4), (5, .int x5), (6, .int x6), (7, .int x7), (8, .int x8), (9, .long y9)] [] ι Q := by
  refine PC.pr1 (k := 0) (pc' := 152) (lv' := [(0, .ref a0), (1, .int x1), (2, .int x2), (3, .int x3), (4, .int x4), (5, .int x5), (6, .int x6), (7, .int x7), (8, .int x8), (9, .long y9)]) (st' := [.int 2]) rfl ?_
  refine PC.pr (k := 1) (pc' := 156) (lv' := [(0, .ref a0), (1, .int x1), (2, .int x2), (3, .int x3), (4, .int x4), (5, .int x5), (6, .int x6), (7, .int x7), (8, .int x8), (9, .long y9)]) (st' := [.int 2]) rfl ?_
  exact h
theorem t_236_156 {xl : List Int32} {n : Nat} {ι : IS} {Q : Option Value → IS → Prop} {a0 : Nat} {x1 : Int32} {x2 : Int32} {x3 : Int32} {x4 : Int32} {x5 : Int32} {x6 : Int32} {x7 : Int32} {x8 : Int32} {y9 : Int64} {u0 : Int32} (h : PC xl n 236 77 [(0, .ref a0), (1, .int x1), (2, .int x2), (3, .int x3), (4, .int x4), (5, .int u0), (6, .int x6), (7, .int x7), (8, .int (x8 + 1)), (9, .long y9)] [] ι Q) : PC xl (n + 1) 236 156 [(0, .ref a0), (1, .int x1), (2, .int x2), (3, .int x3), (4, .int x4), (5, .int x5), (6, .int x6), (7, .int x7), (8, .int x8), (9, .long y9)] [.int u0] ι Q := by
  refine PC.pr1 (k := 0) (pc' := 158) (lv' := [(5, .int u0), (0, .ref a0), (1, .int x1), (2, .int x2), (3, .int x3), (4, .int x4), (6, .int x6), (7, .int x7), (8, .int x8), (9, .long y9)]) (st' := []) rfl ?_
  refine PC.pr (k := 1) (pc' := 161) (lv' := [(8, .int (x8 + 1)), (5, .int u0), (0, .ref a0), (1, .int x1), (2, .int x2), (3, .int x3), (4, .int x4), (6, .int x6), (7, .int x7), (9, .long y9)]) (st' := []) rfl ?_
  refine PC.pr (k := 1) (pc' := 77) (lv' := [(8, .int (x8 + 1)), (5, .int u0), (0, .ref a0), (1, .int x1), (2, .int x2), (3, .int x3), (4, .int x4), (6, .int x6), (7, .int x7), (9, .long y9)]) (st' := []) rfl ?_
  exact PC.lv (lvE.cons rfl (lvE.cons rfl (lvE.cons rfl (lvE.cons rfl (lvE.cons rfl (lvE.cons rfl (lvE.cons rfl (lvE.cons rfl (lvE.cons rfl (lvE.cons rfl (lvE.nil))))))))))) h
theorem t_236_164 {xl : List Int32} {n : Nat} {ι : IS} {Q : Option Value → IS → Prop} {a0 : Nat} {x1 : Int32} {x2 : Int32} {x3 : Int32} {x4 : Int32} {x5 : Int32} {x6 : Int32} {x7 : Int32} {x8 : Int32} {w9 : Value} (h : ((¬ x5 = 0 → PC xl n 236 255 [(0, .ref a0), (1, .int x1), (2, .int x2), (3, .int x3), (4, .int x4), (5, .int x5), (6, .int x6), (7, .int x7), (8, .int x8), (9, w9)] [] ι Q) ∧ (x5 = 0 → (0 ≤ (((40 * x1) + x3) + (2 * x7)).toInt → (((40 * x1) + x3) + (2 * x7)).toInt < ln (rf a0 30) → (0 ≤ ((((40 * x1) + x3) + (2 * x7)) + 1).toInt → ((((40 * x1) + x3) + (2 * x7)) + 1).toInt < ln (rf a0 30) → PC xl n 185 0 [(0, .ref a0), (1, .int (ι (rf a0 30) (((40 * x1) + x3) + (2 * x7)).toNatClampNeg)), (2, .int (ι (rf a0 30) ((((40 * x1) + x3) + (2 * x7)) + 1).toNatClampNeg))] [] ι (fun v1 κ1 => ∀ r1, v1 = some (.int r1) → ((¬ r1 < 0 → PC xl n 236 252 [(0, .ref a0), (1, .int x1), (2, .int x2), (3, .int x3), (4, .int x4), (5, .int x5), (6, .int x6), (7, .int x7), (8, .int (((40 * x1) + x3) + (2 * x7))), (9, .int r1)] [] κ1 Q) ∧ (r1 < 0 → ((r1 = (-4) → PC xl n 236 252 [(0, .ref a0), (1, .int x1), (2, .int x2), (3, .int x3), (4, .int x4), (5, .int x5), (6, .int x6), (7, .int x7), (8, .int (((40 * x1) + x3) + (2 * x7))), (9, .int r1)] [] κ1 Q) ∧ (¬ r1 = (-4) → PC xl n 236 219 [(0, .ref a0), (1, .int x1), (2, .int x2), (3, .int x3), (4, .int x4), (5, .int x5), (6, .int x6), (7, .int x7), (8, .int (((40 * x1) + x3) + (2 * x7))), (9, .int r1), (10, .int 0)] [] κ1 Q)))))))))) : PC xl (n + 1) 236 164 [(0, .ref a0), (1, .int x1), (2, .int x2), (3, .int x3), (4, .int x4), (5, .int x5), (6, .int x6), (7, .int x7), (8, .int x8), (9, w9)] [] ι Q := by
  refine PC.pr1 (k := 0) (pc' := 166) (lv' := [(0, .ref a0), (1, .int x1), (2, .int x2), (3, .int x3), (4, .int x4), (5, .int x5), (6, .int x6), (7, .int x7), (8, .int x8), (9, w9)]) (st' := [.int x5]) rfl ?_
  refine PC.if1 (t := 255) rfl rfl (fun c => ?_) (fun c => ?_)
  · have h := h.1 (cmp_ne.1.mp c)
    exact h
  · have h := h.2 (cmp_ne.2.mp c)
    refine PC.pr (k := 1) (pc' := 171) (lv' := [(0, .ref a0), (1, .int x1), (2, .int x2), (3, .int x3), (4, .int x4), (5, .int x5), (6, .int x6), (7, .int x7), (8, .int x8), (9, w9)]) (st' := [.int 40]) rfl ?_
    refine PC.pr (k := 1) (pc' := 172) (lv' := [(0, .ref a0), (1, .int x1), (2, .int x2), (3, .int x3), (4, .int x4), (5, .int x5), (6, .int x6), (7, .int x7), (8, .int x8), (9, w9)]) (st' := [.int x1, .int 40]) rfl ?_
    refine PC.pr (k := 1) (pc' := 173) (lv' := [(0, .ref a0), (1, .int x1), (2, .int x2), (3, .int x3), (4, .int x4), (5, .int x5), (6, .int x6), (7, .int x7), (8, .int x8), (9, w9)]) (st' := [.int (40 * x1)]) rfl ?_
    refine PC.pr (k := 1) (pc' := 174) (lv' := [(0, .ref a0), (1, .int x1), (2, .int x2), (3, .int x3), (4, .int x4), (5, .int x5), (6, .int x6), (7, .int x7), (8, .int x8), (9, w9)]) (st' := [.int x3, .int (40 * x1)]) rfl ?_
    refine PC.pr (k := 1) (pc' := 175) (lv' := [(0, .ref a0), (1, .int x1), (2, .int x2), (3, .int x3), (4, .int x4), (5, .int x5), (6, .int x6), (7, .int x7), (8, .int x8), (9, w9)]) (st' := [.int ((40 * x1) + x3)]) rfl ?_
    refine PC.pr (k := 1) (pc' := 176) (lv' := [(0, .ref a0), (1, .int x1), (2, .int x2), (3, .int x3), (4, .int x4), (5, .int x5), (6, .int x6), (7, .int x7), (8, .int x8), (9, w9)]) (st' := [.int 2, .int ((40 * x1) + x3)]) rfl ?_
    refine PC.pr (k := 1) (pc' := 178) (lv' := [(0, .ref a0), (1, .int x1), (2, .int x2), (3, .int x3), (4, .int x4), (5, .int x5), (6, .int x6), (7, .int x7), (8, .int x8), (9, w9)]) (st' := [.int x7, .int 2, .int ((40 * x1) + x3)]) rfl ?_
    refine PC.pr (k := 1) (pc' := 179) (lv' := [(0, .ref a0), (1, .int x1), (2, .int x2), (3, .int x3), (4, .int x4), (5, .int x5), (6, .int x6), (7, .int x7), (8, .int x8), (9, w9)]) (st' := [.int (2 * x7), .int ((40 * x1) + x3)]) rfl ?_
    refine PC.pr (k := 1) (pc' := 180) (lv' := [(0, .ref a0), (1, .int x1), (2, .int x2), (3, .int x3), (4, .int x4), (5, .int x5), (6, .int x6), (7, .int x7), (8, .int x8), (9, w9)]) (st' := [.int (((40 * x1) + x3) + (2 * x7))]) rfl ?_
    refine PC.pr (k := 1) (pc' := 182) (lv' := [(8, .int (((40 * x1) + x3) + (2 * x7))), (0, .ref a0), (1, .int x1), (2, .int x2), (3, .int x3), (4, .int x4), (5, .int x5), (6, .int x6), (7, .int x7), (9, w9)]) (st' := []) rfl ?_
    refine PC.pr (k := 1) (pc' := 183) (lv' := [(8, .int (((40 * x1) + x3) + (2 * x7))), (0, .ref a0), (1, .int x1), (2, .int x2), (3, .int x3), (4, .int x4), (5, .int x5), (6, .int x6), (7, .int x7), (9, w9)]) (st' := [.ref a0]) rfl ?_
    refine PC.pr (k := 1) (pc' := 184) (lv' := [(8, .int (((40 * x1) + x3) + (2 * x7))), (0, .ref a0), (1, .int x1), (2, .int x2), (3, .int x3), (4, .int x4), (5, .int x5), (6, .int x6), (7, .int x7), (9, w9)]) (st' := [.ref a0, .ref a0]) rfl ?_
    refine PC.gR (ci := 9) (j := 30) rfl rfl (by decide) ?_
    refine PC.pr (k := 1) (pc' := 189) (lv' := [(8, .int (((40 * x1) + x3) + (2 * x7))), (0, .ref a0), (1, .int x1), (2, .int x2), (3, .int x3), (4, .int x4), (5, .int x5), (6, .int x6), (7, .int x7), (9, w9)]) (st' := [.int (((40 * x1) + x3) + (2 * x7)), .ref (rf a0 30), .ref a0]) rfl ?_
    refine PC.rd rfl (rf_lt _ _) (fun c1 c2 => ?_)
    have h := h c1 c2
    refine PC.pr (k := 1) (pc' := 191) (lv' := [(8, .int (((40 * x1) + x3) + (2 * x7))), (0, .ref a0), (1, .int x1), (2, .int x2), (3, .int x3), (4, .int x4), (5, .int x5), (6, .int x6), (7, .int x7), (9, w9)]) (st' := [.ref a0, .int (ι (rf a0 30) (((40 * x1) + x3) + (2 * x7)).toNatClampNeg), .ref a0]) rfl ?_
    refine PC.gR (ci := 9) (j := 30) rfl rfl (by decide) ?_
    refine PC.pr (k := 1) (pc' := 196) (lv' := [(8, .int (((40 * x1) + x3) + (2 * x7))), (0, .ref a0), (1, .int x1), (2, .int x2), (3, .int x3), (4, .int x4), (5, .int x5), (6, .int x6), (7, .int x7), (9, w9)]) (st' := [.int (((40 * x1) + x3) + (2 * x7)), .ref (rf a0 30), .int (ι (rf a0 30) (((40 * x1) + x3) + (2 * x7)).toNatClampNeg), .ref a0]) rfl ?_
    refine PC.pr (k := 1) (pc' := 197) (lv' := [(8, .int (((40 * x1) + x3) + (2 * x7))), (0, .ref a0), (1, .int x1), (2, .int x2), (3, .int x3), (4, .int x4), (5, .int x5), (6, .int x6), (7, .int x7), (9, w9)]) (st' := [.int 1, .int (((40 * x1) + x3) + (2 * x7)), .ref (rf a0 30), .int (ι (rf a0 30) (((40 * x1) + x3) + (2 * x7)).toNatClampNeg), .ref a0]) rfl ?_
    refine PC.pr (k := 1) (pc' := 198) (lv' := [(8, .int (((40 * x1) + x3) + (2 * x7))), (0, .ref a0), (1, .int x1), (2, .int x2), (3, .int x3), (4, .int x4), (5, .int x5), (6, .int x6), (7, .int x7), (9, w9)]) (st' := [.int ((((40 * x1) + x3) + (2 * x7)) + 1), .ref (rf a0 30), .int (ι (rf a0 30) (((40 * x1) + x3) + (2 * x7)).toNatClampNeg), .ref a0]) rfl ?_
    refine PC.rd rfl (rf_lt _ _) (fun c1 c2 => ?_)
    have h := h c1 c2
    refine (PC.callI (j := 185) (args := [.ref a0, .int (ι (rf a0 30) (((40 * x1) + x3) + (2 * x7)).toNatClampNeg), .int (ι (rf a0 30) ((((40 * x1) + x3) + (2 * x7)) + 1).toNatClampNeg)]) (rest := []) (M := cM185) (ty := .int) rfl rfl rfl rfl rfl rfl (by decide) rfl rfl (by decide) ?_).weak
    refine PC.imp h (fun v1 κ1 h r1 hv => ?_)
    have h := h r1 hv
    refine PC.pr (k := 1) (pc' := 204) (lv' := [(9, .int r1), (8, .int (((40 * x1) + x3) + (2 * x7))), (0, .ref a0), (1, .int x1), (2, .int x2), (3, .int x3), (4, .int x4), (5, .int x5), (6, .int x6), (7, .int x7)]) (st' := []) rfl ?_
    refine PC.pr (k := 1) (pc' := 206) (lv' := [(9, .int r1), (8, .int (((40 * x1) + x3) + (2 * x7))), (0, .ref a0), (1, .int x1), (2, .int x2), (3, .int x3), (4, .int x4), (5, .int x5), (6, .int x6), (7, .int x7)]) (st' := [.int r1]) rfl ?_
    refine PC.if1 (t := 252) rfl rfl (fun c => ?_) (fun c => ?_)
    · have h := h.1 (cmp_ge.1.mp c)
      exact PC.lv (lvE.cons rfl (lvE.cons rfl (lvE.cons rfl (lvE.cons rfl (lvE.cons rfl (lvE.cons rfl (lvE.cons rfl (lvE.cons rfl (lvE.cons rfl (lvE.cons rfl (lvE.nil))))))))))) h
    · have h := h.2 (cmp_ge.2.mp c)
      refine PC.pr (k := 1) (pc' := 211) (lv' := [(9, .int r1), (8, .int (((40 * x1) + x3) + (2 * x7))), (0, .ref a0), (1, .int x1), (2, .int x2), (3, .int x3), (4, .int x4), (5, .int x5), (6, .int x6), (7, .int x7)]) (st' := [.int r1]) rfl ?_
      refine PC.pr (k := 1) (pc' := 213) (lv' := [(9, .int r1), (8, .int (((40 * x1) + x3) + (2 * x7))), (0, .ref a0), (1, .int x1), (2, .int x2), (3, .int x3), (4, .int x4), (5, .int x5), (6, .int x6), (7, .int x7)]) (st' := [.int (-4), .int r1]) rfl ?_
      refine PC.if2 (t := 252) rfl rfl (fun c => ?_) (fun c => ?_)
      · have h := h.1 (cmp_eq.1.mp c)
        exact PC.lv (lvE.cons rfl (lvE.cons rfl (lvE.cons rfl (lvE.cons rfl (lvE.cons rfl (lvE.cons rfl (lvE.cons rfl (lvE.cons rfl (lvE.cons rfl (lvE.cons rfl (lvE.nil))))))))))) h
      · have h := h.2 (cmp_eq.2.mp c)
        refine PC.pr (k := 1) (pc' := 217) (lv' := [(9, .int r1), (8, .int (((40 * x1) + x3) + (2 * x7))), (0, .ref a0), (1, .int x1), (2, .int x2), (3, .int x3), (4, .int x4), (5, .int x5), (6, .int x6), (7, .int x7)]) (st' := [.int 0]) rfl ?_
        refine PC.pr (k := 1) (pc' := 219) (lv' := [(10, .int 0), (9, .int r1), (8, .int (((40 * x1) + x3) + (2 * x7))), (0, .ref a0), (1, .int x1), (2, .int x2), (3, .int x3), (4, .int x4), (5, .int x5), (6, .int x6), (7, .int x7)]) (st' := []) rfl ?_
        exact PC.lv (lvE.cons rfl (lvE.cons rfl (lvE.cons rfl (lvE.cons rfl (lvE.cons rfl (lvE.cons rfl (lvE.cons rfl (lvE.cons rfl (lvE.cons rfl (lvE.cons rfl (lvE.cons rfl (lvE.nil)))))))))))) h
theorem t_236_219 {xl : List Int32} {n : Nat} {ι : IS} {Q : Option Value → IS → Prop} {a0 : Nat} {x1 : Int32} {x2 : Int32} {x3 : Int32} {x4 : Int32} {x5 : Int32} {x6 : Int32} {x7 : Int32} {x8 : Int32} {x9 : Int32} {x10 : Int32} (h : ((¬ x10 < 80 → Q (some (.int ((-20) - x7))) ι) ∧ (x10 < 80 → (0 ≤ x10.toInt → x10.toInt < ln (rf a0 32) → (0 ≤ x10.toInt → x10.toInt < ln (rf a0 0) → PC xl n 236 219 [(0, .ref a0), (1, .int x1), (2, .int x2), (3, .int x3), (4, .int x4), (5, .int x5), (6, .int x6), (7, .int x7), (8, .int x8), (9, .int x9), (10, .int (x10 + 1))] [] (up ι (rf a0 0) x10.toNatClampNeg (ι (rf a0 32) x10.toNatClampNeg)) Q))))) : PC xl (n + 1) 236 219 [(0, .ref a0), (1, .int x1), (2, .int x2), (3, .int x3), (4, .int x4), (5, .int x5), (6, .int x6), (7, .int x7), (8, .int x8), (9, .int x9), (10, .int x10)] [] ι Q := by
  refine PC.pr1 (k := 0) (pc' := 221) (lv' := [(0, .ref a0), (1, .int x1), (2, .int x2), (3, .int x3), (4, .int x4), (5, .int x5), (6, .int x6), (7, .int x7), (8, .int x8), (9, .int x9), (10, .int x10)]) (st' := [.int x10]) rfl ?_
  refine PC.pr (k := 1) (pc' := 223) (lv' := [(0, .ref a0), (1, .int x1), (2, .int x2), (3, .int x3), (4, .int x4), (5, .int x5), (6, .int x6), (7, .int x7), (8, .int x8), (9, .int x9), (10, .int x10)]) (st' := [.int 80, .int x10]) rfl ?_
  refine PC.if2 (t := 246) rfl rfl (fun c => ?_) (fun c => ?_)
  · have h := h.1 (cmp_ge.1.mp c)
    refine PC.pr (k := 1) (pc' := 248) (lv' := [(0, .ref a0), (1, .int x1), (2, .int x2), (3, .int x3), (4, .int x4), (5, .int x5), (6, .int x6), (7, .int x7), (8, .int x8), (9, .int x9), (10, .int x10)]) (st' := [.int (-20)]) rfl ?_
    refine PC.pr (k := 1) (pc' := 250) (lv' := [(0, .ref a0), (1, .int x1), (2, .int x2), (3, .int x3), (4, .int x4), (5, .int x5), (6, .int x6), (7, .int x7), (8, .int x8), (9, .int x9), (10, .int x10)]) (st' := [.int x7, .int (-20)]) rfl ?_
    refine PC.pr (k := 1) (pc' := 251) (lv' := [(0, .ref a0), (1, .int x1), (2, .int x2), (3, .int x3), (4, .int x4), (5, .int x5), (6, .int x6), (7, .int x7), (8, .int x8), (9, .int x9), (10, .int x10)]) (st' := [.int ((-20) - x7)]) rfl ?_
    exact PC.retI rfl h
  · have h := h.2 (cmp_ge.2.mp c)
    refine PC.pr (k := 1) (pc' := 227) (lv' := [(0, .ref a0), (1, .int x1), (2, .int x2), (3, .int x3), (4, .int x4), (5, .int x5), (6, .int x6), (7, .int x7), (8, .int x8), (9, .int x9), (10, .int x10)]) (st' := [.ref a0]) rfl ?_
    refine PC.gR (ci := 9) (j := 0) rfl rfl (by decide) ?_
    refine PC.pr (k := 1) (pc' := 232) (lv' := [(0, .ref a0), (1, .int x1), (2, .int x2), (3, .int x3), (4, .int x4), (5, .int x5), (6, .int x6), (7, .int x7), (8, .int x8), (9, .int x9), (10, .int x10)]) (st' := [.int x10, .ref (rf a0 0)]) rfl ?_
    refine PC.pr (k := 1) (pc' := 233) (lv' := [(0, .ref a0), (1, .int x1), (2, .int x2), (3, .int x3), (4, .int x4), (5, .int x5), (6, .int x6), (7, .int x7), (8, .int x8), (9, .int x9), (10, .int x10)]) (st' := [.ref a0, .int x10, .ref (rf a0 0)]) rfl ?_
    refine PC.gR (ci := 9) (j := 32) rfl rfl (by decide) ?_
    refine PC.pr (k := 1) (pc' := 238) (lv' := [(0, .ref a0), (1, .int x1), (2, .int x2), (3, .int x3), (4, .int x4), (5, .int x5), (6, .int x6), (7, .int x7), (8, .int x8), (9, .int x9), (10, .int x10)]) (st' := [.int x10, .ref (rf a0 32), .int x10, .ref (rf a0 0)]) rfl ?_
    refine PC.rd rfl (rf_lt _ _) (fun c1 c2 => ?_)
    have h := h c1 c2
    refine PC.wI rfl (fun c1 c2 => ?_)
    have h := h c1 c2
    refine PC.pr (k := 1) (pc' := 243) (lv' := [(10, .int (x10 + 1)), (0, .ref a0), (1, .int x1), (2, .int x2), (3, .int x3), (4, .int x4), (5, .int x5), (6, .int x6), (7, .int x7), (8, .int x8), (9, .int x9)]) (st' := []) rfl ?_
    refine PC.pr (k := 1) (pc' := 219) (lv' := [(10, .int (x10 + 1)), (0, .ref a0), (1, .int x1), (2, .int x2), (3, .int x3), (4, .int x4), (5, .int x5), (6, .int x6), (7, .int x7), (8, .int x8), (9, .int x9)]) (st' := []) rfl ?_
    exact PC.lv (lvE.cons rfl (lvE.cons rfl (lvE.cons rfl (lvE.cons rfl (lvE.cons rfl (lvE.cons rfl (lvE.cons rfl (lvE.cons rfl (lvE.cons rfl (lvE.cons rfl (lvE.cons rfl (lvE.nil)))))))))))) h
theorem t_236_252 {xl : List Int32} {n : Nat} {ι : IS} {Q : Option Value → IS → Prop} {a0 : Nat} {x1 : Int32} {x2 : Int32} {x3 : Int32} {x4 : Int32} {x5 : Int32} {x6 : Int32} {x7 : Int32} {x8 : Int32} {x9 : Int32} (h : PC xl n 236 255 [(0, .ref a0), (1, .int x1), (2, .int x2), (3, .int x3), (4, .int x4), (5, .int x5), (6, .int (x6 + 1)), (7, .int x7), (8, .int x8), (9, .int x9)] [] ι Q) : PC xl (n + 1) 236 252 [(0, .ref a0), (1, .int x1), (2, .int x2), (3, .int x3), (4, .int x4), (5, .int x5), (6, .int x6), (7, .int x7), (8, .int x8), (9, .int x9)] [] ι Q := by
  refine PC.pr1 (k := 0) (pc' := 255) (lv' := [(6, .int (x6 + 1)), (0, .ref a0), (1, .int x1), (2, .int x2), (3, .int x3), (4, .int x4), (5, .int x5), (7, .int x7), (8, .int x8), (9, .int x9)]) (st' := []) rfl ?_
  exact PC.lv (lvE.cons rfl (lvE.cons rfl (lvE.cons rfl (lvE.cons rfl (lvE.cons rfl (lvE.cons rfl (lvE.cons rfl (lvE.cons rfl (lvE.cons rfl (lvE.cons rfl (lvE.nil))))))))))) h
theorem t_236_255 {xl : List Int32} {n : Nat} {ι : IS} {Q : Option Value → IS → Prop} {a0 : Nat} {x1 : Int32} {x2 : Int32} {x3 : Int32} {x4 : Int32} {x5 : Int32} {x6 : Int32} {x7 : Int32} {x8 : Int32} {w9 : Value} (h : PC xl n 236 62 [(0, .ref a0), (1, .int x1), (2, .int x2), (3, .int x3), (4, .int x4), (5, .int x5), (6, .int x6), (7, .int (x7 + 1)), (8, .int x8), (9, w9)] [] ι Q) : PC xl (n + 1) 236 255 [(0, .ref a0), (1, .int x1), (2, .int x2), (3, .int x3), (4, .int x4), (5, .int x5), (6, .int x6), (7, .int x7), (8, .int x8), (9, w9)] [] ι Q := by
  refine PC.pr1 (k := 0) (pc' := 258) (lv' := [(7, .int (x7 + 1)), (0, .ref a0), (1, .int x1), (2, .int x2), (3, .int x3), (4, .int x4), (5, .int x5), (6, .int x6), (8, .int x8), (9, w9)]) (st' := []) rfl ?_
  refine PC.pr (k := 1) (pc' := 62) (lv' := [(7, .int (x7 + 1)), (0, .ref a0), (1, .int x1), (2, .int x2), (3, .int x3), (4, .int x4), (5, .int x5), (6, .int x6), (8, .int x8), (9, w9)]) (st' := []) rfl ?_
  exact PC.lv (lvE.cons rfl (lvE.cons rfl (lvE.cons rfl (lvE.cons rfl (lvE.cons rfl (lvE.cons rfl (lvE.cons rfl (lvE.cons rfl (lvE.cons rfl (lvE.cons rfl (lvE.nil))))))))))) h

/-- DoorPaintsModel.torn()I -/
theorem t_237_0 {xl : List Int32} {n : Nat} {ι : IS} {Q : Option Value → IS → Prop} {a0 : Nat} (h : Q (some (.int (ι a0 31))) ι) : PC xl (n + 1) 237 0 [(0, .ref a0)] [] ι Q := by
  refine PC.pr1 (k := 0) (pc' := 1) (lv' := [(0, .ref a0)]) (st' := [.ref a0]) rfl ?_
  refine PC.gI (ci := 9) (j := 31) rfl rfl (by decide) ?_
  exact PC.retI rfl h

/-- DoorPaintsModel.count(I)I -/
theorem t_238_0 {xl : List Int32} {n : Nat} {ι : IS} {Q : Option Value → IS → Prop} {a0 : Nat} {x1 : Int32} (h : PC xl n 168 0 [(0, .ref a0)] [] ι (fun _ κ1 => ((x1.toInt = 0 → PC xl n 193 0 [(0, .ref a0)] [] κ1 (fun v2 κ2 => ∀ r2, v2 = some (.int r2) → Q (some (.int r2)) κ2)) ∧ (x1.toInt = 1 → (0 ≤ (61 : Int32).toInt → (61 : Int32).toInt < ln (rf a0 0) → Q (some (.int (κ1 (rf a0 0) (61 : Int32).toNatClampNeg))) κ1)) ∧ (x1.toInt = 2 → (0 ≤ (0 : Int32).toInt → (0 : Int32).toInt < ln (rf a0 2) → PC xl n 175 0 [(0, .int (κ1 (rf a0 2) (0 : Int32).toNatClampNeg))] [] κ1 (fun v3 κ3 => ∀ r3, v3 = some (.int r3) → (0 ≤ (1 : Int32).toInt → (1 : Int32).toInt < ln (rf a0 2) → PC xl n 175 0 [(0, .int (κ3 (rf a0 2) (1 : Int32).toNatClampNeg))] [] κ3 (fun v4 κ4 => ∀ r4, v4 = some (.int r4) → Q (some (.int (r3 + r4))) κ4))))) ∧ (x1.toInt = 3 → Q (some (.int (κ1 a0 13))) κ1) ∧ (x1.toInt = 4 → (0 ≤ (0 : Int32).toInt → (0 : Int32).toInt < ln (rf a0 28) → ((¬ (κ1 (rf a0 28) (0 : Int32).toNatClampNeg) = (-4) → (0 ≤ (0 : Int32).toInt → (0 : Int32).toInt < ln (rf a0 29) → Q (some (.int (κ1 (rf a0 29) (0 : Int32).toNatClampNeg))) κ1)) ∧ ((κ1 (rf a0 28) (0 : Int32).toNatClampNeg) = (-4) → Q (some (.int (-4))) κ1)))) ∧ ((x1.toInt < 0 ∨ 4 < x1.toInt) → Q (some (.int (-1))) κ1)))) : PC xl (n + 1) 238 0 [(0, .ref a0), (1, .int x1)] [] ι Q := by
  refine PC.pr1 (k := 0) (pc' := 1) (lv' := [(0, .ref a0), (1, .int x1)]) (st' := [.ref a0]) rfl ?_
  refine (PC.callV (j := 168) (args := [.ref a0]) (rest := []) (M := cM168) rfl rfl rfl rfl rfl rfl (by decide) rfl rfl ?_).weak
  refine PC.imp h (fun _ κ1 h => ?_)
  refine PC.pr (k := 1) (pc' := 5) (lv' := [(0, .ref a0), (1, .int x1)]) (st' := [.int x1]) rfl ?_
  refine PC.tsw rfl (fun i off t ho ht hx => ?_) (fun t ht hx => ?_)
  · match i, ho, hx with
    | 0, ho, hx =>
      obtain rfl : (35 : Int) = off := Option.some.inj ho
      obtain rfl : 40 = t := Option.some.inj ht
      have h := h.1 (by simpa using hx)
      refine PC.pr (k := 1) (pc' := 41) (lv' := [(0, .ref a0), (1, .int x1)]) (st' := [.ref a0]) rfl ?_
      refine (PC.callI (j := 193) (args := [.ref a0]) (rest := []) (M := cM193) (ty := .int) rfl rfl rfl rfl rfl rfl (by decide) rfl rfl (by decide) ?_).weak
      refine PC.imp h (fun v2 κ2 h r2 hv => ?_)
      have h := h r2 hv
      exact PC.retI rfl h
    | 1, ho, hx =>
      obtain rfl : (40 : Int) = off := Option.some.inj ho
      obtain rfl : 45 = t := Option.some.inj ht
      have h := h.2.1 (by simpa using hx)
      refine PC.pr (k := 1) (pc' := 46) (lv' := [(0, .ref a0), (1, .int x1)]) (st' := [.ref a0]) rfl ?_
      refine PC.gR (ci := 9) (j := 0) rfl rfl (by decide) ?_
      refine PC.pr (k := 1) (pc' := 51) (lv' := [(0, .ref a0), (1, .int x1)]) (st' := [.int 61, .ref (rf a0 0)]) rfl ?_
      refine PC.rd rfl (rf_lt _ _) (fun c1 c2 => ?_)
      have h := h c1 c2
      exact PC.retI rfl h
    | 2, ho, hx =>
      obtain rfl : (48 : Int) = off := Option.some.inj ho
      obtain rfl : 53 = t := Option.some.inj ht
      have h := h.2.2.1 (by simpa using hx)
      refine PC.pr (k := 1) (pc' := 54) (lv' := [(0, .ref a0), (1, .int x1)]) (st' := [.ref a0]) rfl ?_
      refine PC.gR (ci := 9) (j := 2) rfl rfl (by decide) ?_
      refine PC.pr (k := 1) (pc' := 58) (lv' := [(0, .ref a0), (1, .int x1)]) (st' := [.int 0, .ref (rf a0 2)]) rfl ?_
      refine PC.ba rfl (rf_lt _ _) (fun c1 c2 => ?_)
      have h := h c1 c2
      refine (PC.callI (j := 175) (args := [.int (κ1 (rf a0 2) (0 : Int32).toNatClampNeg)]) (rest := []) (M := cM175) (ty := .int) rfl rfl rfl rfl rfl rfl (by decide) rfl rfl (by decide) ?_).weak
      refine PC.imp h (fun v3 κ3 h r3 hv => ?_)
      have h := h r3 hv
      refine PC.pr (k := 1) (pc' := 63) (lv' := [(0, .ref a0), (1, .int x1)]) (st' := [.ref a0, .int r3]) rfl ?_
      refine PC.gR (ci := 9) (j := 2) rfl rfl (by decide) ?_
      refine PC.pr (k := 1) (pc' := 67) (lv' := [(0, .ref a0), (1, .int x1)]) (st' := [.int 1, .ref (rf a0 2), .int r3]) rfl ?_
      refine PC.ba rfl (rf_lt _ _) (fun c1 c2 => ?_)
      have h := h c1 c2
      refine (PC.callI (j := 175) (args := [.int (κ3 (rf a0 2) (1 : Int32).toNatClampNeg)]) (rest := [.int r3]) (M := cM175) (ty := .int) rfl rfl rfl rfl rfl rfl (by decide) rfl rfl (by decide) ?_).weak
      refine PC.imp h (fun v4 κ4 h r4 hv => ?_)
      have h := h r4 hv
      refine PC.pr (k := 1) (pc' := 72) (lv' := [(0, .ref a0), (1, .int x1)]) (st' := [.int (r3 + r4)]) rfl ?_
      exact PC.retI rfl h
    | 3, ho, hx =>
      obtain rfl : (68 : Int) = off := Option.some.inj ho
      obtain rfl : 73 = t := Option.some.inj ht
      have h := h.2.2.2.1 (by simpa using hx)
      refine PC.pr (k := 1) (pc' := 74) (lv' := [(0, .ref a0), (1, .int x1)]) (st' := [.ref a0]) rfl ?_
      refine PC.gI (ci := 9) (j := 13) rfl rfl (by decide) ?_
      exact PC.retI rfl h
    | 4, ho, hx =>
      obtain rfl : (73 : Int) = off := Option.some.inj ho
      obtain rfl : 78 = t := Option.some.inj ht
      have h := h.2.2.2.2.1 (by simpa using hx)
      refine PC.pr (k := 1) (pc' := 79) (lv' := [(0, .ref a0), (1, .int x1)]) (st' := [.ref a0]) rfl ?_
      refine PC.gR (ci := 9) (j := 28) rfl rfl (by decide) ?_
      refine PC.pr (k := 1) (pc' := 83) (lv' := [(0, .ref a0), (1, .int x1)]) (st' := [.int 0, .ref (rf a0 28)]) rfl ?_
      refine PC.rd rfl (rf_lt _ _) (fun c1 c2 => ?_)
      have h := h c1 c2
      refine PC.pr (k := 1) (pc' := 86) (lv' := [(0, .ref a0), (1, .int x1)]) (st' := [.int (-4), .int (κ1 (rf a0 28) (0 : Int32).toNatClampNeg)]) rfl ?_
      refine PC.if2 (t := 94) rfl rfl (fun c => ?_) (fun c => ?_)
      · have h := h.1 (cmp_ne.1.mp c)
        refine PC.pr (k := 1) (pc' := 95) (lv' := [(0, .ref a0), (1, .int x1)]) (st' := [.ref a0]) rfl ?_
        refine PC.gR (ci := 9) (j := 29) rfl rfl (by decide) ?_
        refine PC.pr (k := 1) (pc' := 99) (lv' := [(0, .ref a0), (1, .int x1)]) (st' := [.int 0, .ref (rf a0 29)]) rfl ?_
        refine PC.rd rfl (rf_lt _ _) (fun c1 c2 => ?_)
        have h := h c1 c2
        exact PC.retI rfl h
      · have h := h.2 (cmp_ne.2.mp c)
        refine PC.pr (k := 1) (pc' := 91) (lv' := [(0, .ref a0), (1, .int x1)]) (st' := [.int (-4)]) rfl ?_
        refine PC.pr (k := 1) (pc' := 100) (lv' := [(0, .ref a0), (1, .int x1)]) (st' := [.int (-4)]) rfl ?_
        exact PC.retI rfl h
    | i + 5, ho, hx => cases ho
  · obtain rfl : 101 = t := Option.some.inj ht
    have h := h.2.2.2.2.2 hx
    refine PC.pr (k := 1) (pc' := 102) (lv' := [(0, .ref a0), (1, .int x1)]) (st' := [.int (-1)]) rfl ?_
    exact PC.retI rfl h

/-- DoorPaintsModel.isPart(I)Z -/
theorem t_208_0 {xl : List Int32} {n : Nat} {ι : IS} {Q : Option Value → IS → Prop} {x0 : Int32} (h : PC xl n 148 0 [(0, .long (x0).toInt64), (2, .long 0), (4, .long 1)] [] ι (fun v1 κ1 => ∀ r1, v1 = some (.int r1) → Q (some (.int r1)) κ1)) : PC xl (n + 1) 208 0 [(0, .int x0)] [] ι Q := by
  refine PC.pr1 (k := 0) (pc' := 1) (lv' := [(0, .int x0)]) (st' := [.int x0]) rfl ?_
  refine PC.pr (k := 1) (pc' := 2) (lv' := [(0, .int x0)]) (st' := [.long (x0).toInt64]) rfl ?_
  refine PC.pr (k := 1) (pc' := 3) (lv' := [(0, .int x0)]) (st' := [.long 0, .long (x0).toInt64]) rfl ?_
  refine PC.pr (k := 1) (pc' := 4) (lv' := [(0, .int x0)]) (st' := [.long 1, .long 0, .long (x0).toInt64]) rfl ?_
  refine (PC.callI (j := 148) (args := [.long (x0).toInt64, .long 0, .long 1]) (rest := []) (M := cM148) (ty := .boolean) rfl rfl rfl rfl rfl rfl (by decide) rfl rfl (by decide) ?_).weak
  refine PC.imp h (fun v1 κ1 h r1 hv => ?_)
  have h := h r1 hv
  exact PC.retI rfl h

