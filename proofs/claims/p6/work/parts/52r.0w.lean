/-! WHAT RUNS ASK (written by a program) -/
/-- DoorPaints.fault()I -/
theorem t_55_0 {xl : List Int32} {n : Nat} {ι : IS} {Q : Option Value → IS → Prop} {a0 : Nat} (h : Q (some (.int (ι a0 9))) ι) : PC xl (n + 1) 55 0 [(0, .ref a0)] [] ι Q := by
  refine PC.pr1 (k := 0) (pc' := 1) (lv' := [(0, .ref a0)]) (st' := [.ref a0]) rfl ?_
  refine PC.gI (ci := 0) (j := 9) rfl rfl (by decide) ?_
  exact PC.retI rfl h

/-- DoorPaints.rule(I)I -/
theorem t_56_0 {xl : List Int32} {n : Nat} {ι : IS} {Q : Option Value → IS → Prop} {a0 : Nat} {x1 : Int32} (h : ((x1.toInt = 0 → Q (some (.int (ι (rf (rf a0 2) 0) 2))) ι) ∧ (x1.toInt = 1 → Q (some (.int (ι (rf (rf a0 2) 0) 3))) ι) ∧ (x1.toInt = 2 → Q (some (.int (ι (rf a0 2) 2))) ι) ∧ (x1.toInt = 3 → PC xl n 57 0 [(0, .ref (rf (rf a0 2) 0))] [] ι (fun v1 κ1 => ∀ r1, v1 = some (.int r1) → Q (some (.int r1)) κ1)) ∧ (x1.toInt = 4 → PC xl n 58 0 [(0, .ref (rf (rf a0 2) 0))] [] ι (fun v2 κ2 => ∀ r2, v2 = some (.int r2) → Q (some (.int r2)) κ2)) ∧ (x1.toInt = 5 → PC xl n 61 0 [(0, .ref (rf (rf a0 2) 0))] [] ι (fun v3 κ3 => ∀ r3, v3 = some (.int r3) → Q (some (.int r3)) κ3)) ∧ ((x1.toInt < 0 ∨ 5 < x1.toInt) → Q (some (.int (-1))) ι))) : PC xl (n + 1) 56 0 [(0, .ref a0), (1, .int x1)] [] ι Q := by
  refine PC.pr1 (k := 0) (pc' := 1) (lv' := [(0, .ref a0), (1, .int x1)]) (st' := [.int x1]) rfl ?_
  refine PC.tsw rfl (fun i off t ho ht hx => ?_) (fun t ht hx => ?_)
  · match i, ho, hx with
    | 0, ho, hx =>
      obtain rfl : (39 : Int) = off := Option.some.inj ho
      obtain rfl : 40 = t := Option.some.inj ht
      have h := h.1 (by simpa using hx)
      refine PC.pr (k := 1) (pc' := 41) (lv' := [(0, .ref a0), (1, .int x1)]) (st' := [.ref a0]) rfl ?_
      refine PC.gR (ci := 0) (j := 2) rfl rfl (by decide) ?_
      refine PC.gR (ci := 2) (j := 0) rfl rfl (by decide) ?_
      refine PC.gI (ci := 3) (j := 2) rfl rfl (by decide) ?_
      exact PC.retI rfl h
    | 1, ho, hx =>
      obtain rfl : (50 : Int) = off := Option.some.inj ho
      obtain rfl : 51 = t := Option.some.inj ht
      have h := h.2.1 (by simpa using hx)
      refine PC.pr (k := 1) (pc' := 52) (lv' := [(0, .ref a0), (1, .int x1)]) (st' := [.ref a0]) rfl ?_
      refine PC.gR (ci := 0) (j := 2) rfl rfl (by decide) ?_
      refine PC.gR (ci := 2) (j := 0) rfl rfl (by decide) ?_
      refine PC.gI (ci := 3) (j := 3) rfl rfl (by decide) ?_
      exact PC.retI rfl h
    | 2, ho, hx =>
      obtain rfl : (61 : Int) = off := Option.some.inj ho
      obtain rfl : 62 = t := Option.some.inj ht
      have h := h.2.2.1 (by simpa using hx)
      refine PC.pr (k := 1) (pc' := 63) (lv' := [(0, .ref a0), (1, .int x1)]) (st' := [.ref a0]) rfl ?_
      refine PC.gR (ci := 0) (j := 2) rfl rfl (by decide) ?_
      refine PC.gI (ci := 2) (j := 2) rfl rfl (by decide) ?_
      exact PC.retI rfl h
    | 3, ho, hx =>
      obtain rfl : (69 : Int) = off := Option.some.inj ho
      obtain rfl : 70 = t := Option.some.inj ht
      have h := h.2.2.2.1 (by simpa using hx)
      refine PC.pr (k := 1) (pc' := 71) (lv' := [(0, .ref a0), (1, .int x1)]) (st' := [.ref a0]) rfl ?_
      refine PC.gR (ci := 0) (j := 2) rfl rfl (by decide) ?_
      refine PC.gR (ci := 2) (j := 0) rfl rfl (by decide) ?_
      refine (PC.callI (j := 57) (args := [.ref (rf (rf a0 2) 0)]) (rest := []) (M := cM57) (ty := .int) rfl rfl rfl rfl rfl rfl (by decide) rfl rfl (by decide) ?_).weak
      refine PC.imp h (fun v1 κ1 h r1 hv => ?_)
      have h := h r1 hv
      exact PC.retI rfl h
    | 4, ho, hx =>
      obtain rfl : (80 : Int) = off := Option.some.inj ho
      obtain rfl : 81 = t := Option.some.inj ht
      have h := h.2.2.2.2.1 (by simpa using hx)
      refine PC.pr (k := 1) (pc' := 82) (lv' := [(0, .ref a0), (1, .int x1)]) (st' := [.ref a0]) rfl ?_
      refine PC.gR (ci := 0) (j := 2) rfl rfl (by decide) ?_
      refine PC.gR (ci := 2) (j := 0) rfl rfl (by decide) ?_
      refine (PC.callI (j := 58) (args := [.ref (rf (rf a0 2) 0)]) (rest := []) (M := cM58) (ty := .int) rfl rfl rfl rfl rfl rfl (by decide) rfl rfl (by decide) ?_).weak
      refine PC.imp h (fun v2 κ2 h r2 hv => ?_)
      have h := h r2 hv
      exact PC.retI rfl h
    | 5, ho, hx =>
      obtain rfl : (91 : Int) = off := Option.some.inj ho
      obtain rfl : 92 = t := Option.some.inj ht
      have h := h.2.2.2.2.2.1 (by simpa using hx)
      refine PC.pr (k := 1) (pc' := 93) (lv' := [(0, .ref a0), (1, .int x1)]) (st' := [.ref a0]) rfl ?_
      refine PC.gR (ci := 0) (j := 2) rfl rfl (by decide) ?_
      refine PC.gR (ci := 2) (j := 0) rfl rfl (by decide) ?_
      refine (PC.callI (j := 61) (args := [.ref (rf (rf a0 2) 0)]) (rest := []) (M := cM61) (ty := .int) rfl rfl rfl rfl rfl rfl (by decide) rfl rfl (by decide) ?_).weak
      refine PC.imp h (fun v3 κ3 h r3 hv => ?_)
      have h := h r3 hv
      exact PC.retI rfl h
    | i + 6, ho, hx => cases ho
  · obtain rfl : 103 = t := Option.some.inj ht
    have h := h.2.2.2.2.2.2 hx
    refine PC.pr (k := 1) (pc' := 104) (lv' := [(0, .ref a0), (1, .int x1)]) (st' := [.int (-1)]) rfl ?_
    exact PC.retI rfl h

/-- DoorPaints$Town.wetBits()I -/
theorem t_57_0 {xl : List Int32} {n : Nat} {ι : IS} {Q : Option Value → IS → Prop} {a0 : Nat} (h : PC xl n 57 4 [(0, .ref a0), (1, .int 0), (2, .int 0)] [] ι Q) : PC xl (n + 1) 57 0 [(0, .ref a0)] [] ι Q := by
  refine PC.pr1 (k := 0) (pc' := 1) (lv' := [(0, .ref a0)]) (st' := [.int 0]) rfl ?_
  refine PC.pr (k := 1) (pc' := 2) (lv' := [(1, .int 0), (0, .ref a0)]) (st' := []) rfl ?_
  refine PC.pr (k := 1) (pc' := 3) (lv' := [(1, .int 0), (0, .ref a0)]) (st' := [.int 0]) rfl ?_
  refine PC.pr (k := 1) (pc' := 4) (lv' := [(2, .int 0), (1, .int 0), (0, .ref a0)]) (st' := []) rfl ?_
  exact PC.lv (lvE.cons rfl (lvE.cons rfl (lvE.cons rfl (lvE.nil)))) h
theorem t_57_4 {xl : List Int32} {n : Nat} {ι : IS} {Q : Option Value → IS → Prop} {a0 : Nat} {x1 : Int32} {x2 : Int32} (h : ((¬ x2 < (ι a0 3) → Q (some (.int x1)) ι) ∧ (x2 < (ι a0 3) → (0 ≤ x2.toInt → x2.toInt < lr (rf a0 1) → (((ι (re (rf a0 1) x2.toNatClampNeg) 3) = 0 → PC xl n 57 4 [(0, .ref a0), (1, .int (x1 ||| 0)), (2, .int (x2 + 1))] [] ι Q) ∧ (¬ (ι (re (rf a0 1) x2.toNatClampNeg) 3) = 0 → PC xl n 57 4 [(0, .ref a0), (1, .int (x1 ||| (1 <<< (x2 &&& 31)))), (2, .int (x2 + 1))] [] ι Q)))))) : PC xl (n + 1) 57 4 [(0, .ref a0), (1, .int x1), (2, .int x2)] [] ι Q := by
  refine PC.pr1 (k := 0) (pc' := 5) (lv' := [(0, .ref a0), (1, .int x1), (2, .int x2)]) (st' := [.int x2]) rfl ?_
  refine PC.pr (k := 1) (pc' := 6) (lv' := [(0, .ref a0), (1, .int x1), (2, .int x2)]) (st' := [.ref a0, .int x2]) rfl ?_
  refine PC.gI (ci := 3) (j := 3) rfl rfl (by decide) ?_
  refine PC.if2 (t := 40) rfl rfl (fun c => ?_) (fun c => ?_)
  · have h := h.1 (cmp_ge.1.mp c)
    refine PC.pr (k := 1) (pc' := 41) (lv' := [(0, .ref a0), (1, .int x1), (2, .int x2)]) (st' := [.int x1]) rfl ?_
    exact PC.retI rfl h
  · have h := h.2 (cmp_ge.2.mp c)
    refine PC.pr (k := 1) (pc' := 13) (lv' := [(0, .ref a0), (1, .int x1), (2, .int x2)]) (st' := [.int x1]) rfl ?_
    refine PC.pr (k := 1) (pc' := 14) (lv' := [(0, .ref a0), (1, .int x1), (2, .int x2)]) (st' := [.ref a0, .int x1]) rfl ?_
    refine PC.gR (ci := 3) (j := 1) rfl rfl (by decide) ?_
    refine PC.pr (k := 1) (pc' := 18) (lv' := [(0, .ref a0), (1, .int x1), (2, .int x2)]) (st' := [.int x2, .ref (rf a0 1), .int x1]) rfl ?_
    refine PC.ra rfl (fun c1 c2 => ?_)
    have h := h c1 c2
    refine PC.gI (ci := 5) (j := 3) rfl rfl (by decide) ?_
    refine PC.if1 (t := 31) rfl rfl (fun c => ?_) (fun c => ?_)
    · have h := h.1 (cmp_eq.1.mp c)
      refine PC.pr (k := 1) (pc' := 32) (lv' := [(0, .ref a0), (1, .int x1), (2, .int x2)]) (st' := [.int 0, .int x1]) rfl ?_
      refine PC.pr (k := 1) (pc' := 33) (lv' := [(0, .ref a0), (1, .int x1), (2, .int x2)]) (st' := [.int (x1 ||| 0)]) rfl ?_
      refine PC.pr (k := 1) (pc' := 34) (lv' := [(1, .int (x1 ||| 0)), (0, .ref a0), (2, .int x2)]) (st' := []) rfl ?_
      refine PC.pr (k := 1) (pc' := 37) (lv' := [(2, .int (x2 + 1)), (1, .int (x1 ||| 0)), (0, .ref a0)]) (st' := []) rfl ?_
      refine PC.pr (k := 1) (pc' := 4) (lv' := [(2, .int (x2 + 1)), (1, .int (x1 ||| 0)), (0, .ref a0)]) (st' := []) rfl ?_
      exact PC.lv (lvE.cons rfl (lvE.cons rfl (lvE.cons rfl (lvE.nil)))) h
    · have h := h.2 (cmp_eq.2.mp c)
      refine PC.pr (k := 1) (pc' := 26) (lv' := [(0, .ref a0), (1, .int x1), (2, .int x2)]) (st' := [.int 1, .int x1]) rfl ?_
      refine PC.pr (k := 1) (pc' := 27) (lv' := [(0, .ref a0), (1, .int x1), (2, .int x2)]) (st' := [.int x2, .int 1, .int x1]) rfl ?_
      refine PC.pr (k := 1) (pc' := 28) (lv' := [(0, .ref a0), (1, .int x1), (2, .int x2)]) (st' := [.int (1 <<< (x2 &&& 31)), .int x1]) rfl ?_
      refine PC.pr (k := 1) (pc' := 32) (lv' := [(0, .ref a0), (1, .int x1), (2, .int x2)]) (st' := [.int (1 <<< (x2 &&& 31)), .int x1]) rfl ?_
      refine PC.pr (k := 1) (pc' := 33) (lv' := [(0, .ref a0), (1, .int x1), (2, .int x2)]) (st' := [.int (x1 ||| (1 <<< (x2 &&& 31)))]) rfl ?_
      refine PC.pr (k := 1) (pc' := 34) (lv' := [(1, .int (x1 ||| (1 <<< (x2 &&& 31)))), (0, .ref a0), (2, .int x2)]) (st' := []) rfl ?_
      refine PC.pr (k := 1) (pc' := 37) (lv' := [(2, .int (x2 + 1)), (1, .int (x1 ||| (1 <<< (x2 &&& 31)))), (0, .ref a0)]) (st' := []) rfl ?_
      refine PC.pr (k := 1) (pc' := 4) (lv' := [(2, .int (x2 + 1)), (1, .int (x1 ||| (1 <<< (x2 &&& 31)))), (0, .ref a0)]) (st' := []) rfl ?_
      exact PC.lv (lvE.cons rfl (lvE.cons rfl (lvE.cons rfl (lvE.nil)))) h

/-- DoorPaints$Town.wrongBits()I -/
theorem t_58_0 {xl : List Int32} {n : Nat} {ι : IS} {Q : Option Value → IS → Prop} {a0 : Nat} (h : PC xl n 58 4 [(0, .ref a0), (1, .int 0), (2, .int 0)] [] ι Q) : PC xl (n + 1) 58 0 [(0, .ref a0)] [] ι Q := by
  refine PC.pr1 (k := 0) (pc' := 1) (lv' := [(0, .ref a0)]) (st' := [.int 0]) rfl ?_
  refine PC.pr (k := 1) (pc' := 2) (lv' := [(1, .int 0), (0, .ref a0)]) (st' := []) rfl ?_
  refine PC.pr (k := 1) (pc' := 3) (lv' := [(1, .int 0), (0, .ref a0)]) (st' := [.int 0]) rfl ?_
  refine PC.pr (k := 1) (pc' := 4) (lv' := [(2, .int 0), (1, .int 0), (0, .ref a0)]) (st' := []) rfl ?_
  exact PC.lv (lvE.cons rfl (lvE.cons rfl (lvE.cons rfl (lvE.nil)))) h
theorem t_58_4 {xl : List Int32} {n : Nat} {ι : IS} {Q : Option Value → IS → Prop} {a0 : Nat} {x1 : Int32} {x2 : Int32} (h : ((¬ x2 < (ι a0 3) → Q (some (.int x1)) ι) ∧ (x2 < (ι a0 3) → (0 ≤ x2.toInt → x2.toInt < lr (rf a0 1) → PC xl n 59 0 [(0, .ref (re (rf a0 1) x2.toNatClampNeg))] [] ι (fun v1 κ1 => ∀ r1, v1 = some (.int r1) → ((r1 = 0 → PC xl n 58 4 [(0, .ref a0), (1, .int (x1 ||| 0)), (2, .int (x2 + 1))] [] κ1 Q) ∧ (¬ r1 = 0 → PC xl n 58 4 [(0, .ref a0), (1, .int (x1 ||| (1 <<< (x2 &&& 31)))), (2, .int (x2 + 1))] [] κ1 Q))))))) : PC xl (n + 1) 58 4 [(0, .ref a0), (1, .int x1), (2, .int x2)] [] ι Q := by
  refine PC.pr1 (k := 0) (pc' := 5) (lv' := [(0, .ref a0), (1, .int x1), (2, .int x2)]) (st' := [.int x2]) rfl ?_
  refine PC.pr (k := 1) (pc' := 6) (lv' := [(0, .ref a0), (1, .int x1), (2, .int x2)]) (st' := [.ref a0, .int x2]) rfl ?_
  refine PC.gI (ci := 3) (j := 3) rfl rfl (by decide) ?_
  refine PC.if2 (t := 40) rfl rfl (fun c => ?_) (fun c => ?_)
  · have h := h.1 (cmp_ge.1.mp c)
    refine PC.pr (k := 1) (pc' := 41) (lv' := [(0, .ref a0), (1, .int x1), (2, .int x2)]) (st' := [.int x1]) rfl ?_
    exact PC.retI rfl h
  · have h := h.2 (cmp_ge.2.mp c)
    refine PC.pr (k := 1) (pc' := 13) (lv' := [(0, .ref a0), (1, .int x1), (2, .int x2)]) (st' := [.int x1]) rfl ?_
    refine PC.pr (k := 1) (pc' := 14) (lv' := [(0, .ref a0), (1, .int x1), (2, .int x2)]) (st' := [.ref a0, .int x1]) rfl ?_
    refine PC.gR (ci := 3) (j := 1) rfl rfl (by decide) ?_
    refine PC.pr (k := 1) (pc' := 18) (lv' := [(0, .ref a0), (1, .int x1), (2, .int x2)]) (st' := [.int x2, .ref (rf a0 1), .int x1]) rfl ?_
    refine PC.ra rfl (fun c1 c2 => ?_)
    have h := h c1 c2
    refine (PC.callI (j := 59) (args := [.ref (re (rf a0 1) x2.toNatClampNeg)]) (rest := [.int x1]) (M := cM59) (ty := .boolean) rfl rfl rfl rfl rfl rfl (by decide) rfl rfl (by decide) ?_).weak
    refine PC.imp h (fun v1 κ1 h r1 hv => ?_)
    have h := h r1 hv
    refine PC.if1 (t := 31) rfl rfl (fun c => ?_) (fun c => ?_)
    · have h := h.1 (cmp_eq.1.mp c)
      refine PC.pr (k := 1) (pc' := 32) (lv' := [(0, .ref a0), (1, .int x1), (2, .int x2)]) (st' := [.int 0, .int x1]) rfl ?_
      refine PC.pr (k := 1) (pc' := 33) (lv' := [(0, .ref a0), (1, .int x1), (2, .int x2)]) (st' := [.int (x1 ||| 0)]) rfl ?_
      refine PC.pr (k := 1) (pc' := 34) (lv' := [(1, .int (x1 ||| 0)), (0, .ref a0), (2, .int x2)]) (st' := []) rfl ?_
      refine PC.pr (k := 1) (pc' := 37) (lv' := [(2, .int (x2 + 1)), (1, .int (x1 ||| 0)), (0, .ref a0)]) (st' := []) rfl ?_
      refine PC.pr (k := 1) (pc' := 4) (lv' := [(2, .int (x2 + 1)), (1, .int (x1 ||| 0)), (0, .ref a0)]) (st' := []) rfl ?_
      exact PC.lv (lvE.cons rfl (lvE.cons rfl (lvE.cons rfl (lvE.nil)))) h
    · have h := h.2 (cmp_eq.2.mp c)
      refine PC.pr (k := 1) (pc' := 26) (lv' := [(0, .ref a0), (1, .int x1), (2, .int x2)]) (st' := [.int 1, .int x1]) rfl ?_
      refine PC.pr (k := 1) (pc' := 27) (lv' := [(0, .ref a0), (1, .int x1), (2, .int x2)]) (st' := [.int x2, .int 1, .int x1]) rfl ?_
      refine PC.pr (k := 1) (pc' := 28) (lv' := [(0, .ref a0), (1, .int x1), (2, .int x2)]) (st' := [.int (1 <<< (x2 &&& 31)), .int x1]) rfl ?_
      refine PC.pr (k := 1) (pc' := 32) (lv' := [(0, .ref a0), (1, .int x1), (2, .int x2)]) (st' := [.int (1 <<< (x2 &&& 31)), .int x1]) rfl ?_
      refine PC.pr (k := 1) (pc' := 33) (lv' := [(0, .ref a0), (1, .int x1), (2, .int x2)]) (st' := [.int (x1 ||| (1 <<< (x2 &&& 31)))]) rfl ?_
      refine PC.pr (k := 1) (pc' := 34) (lv' := [(1, .int (x1 ||| (1 <<< (x2 &&& 31)))), (0, .ref a0), (2, .int x2)]) (st' := []) rfl ?_
      refine PC.pr (k := 1) (pc' := 37) (lv' := [(2, .int (x2 + 1)), (1, .int (x1 ||| (1 <<< (x2 &&& 31)))), (0, .ref a0)]) (st' := []) rfl ?_
      refine PC.pr (k := 1) (pc' := 4) (lv' := [(2, .int (x2 + 1)), (1, .int (x1 ||| (1 <<< (x2 &&& 31)))), (0, .ref a0)]) (st' := []) rfl ?_
      exact PC.lv (lvE.cons rfl (lvE.cons rfl (lvE.cons rfl (lvE.nil)))) h

/-- DoorPaints$Door.isWrong()Z -/
theorem t_59_0 {xl : List Int32} {n : Nat} {ι : IS} {Q : Option Value → IS → Prop} {a0 : Nat} (h : PC xl n 60 0 [(0, .ref a0)] [] ι (fun v1 κ1 => ∀ r1, v1 = some (.int r1) → ((r1 = (-4) → Q (some (.int 0)) κ1) ∧ (¬ r1 = (-4) → PC xl n 38 0 [(0, .ref a0), (1, .int r1)] [] κ1 (fun v2 κ2 => ∀ r2, v2 = some (.int r2) → ((r2 = 0 → Q (some (.int 0)) κ2) ∧ (¬ r2 = 0 → Q (some (.int 1)) κ2))))))) : PC xl (n + 1) 59 0 [(0, .ref a0)] [] ι Q := by
  refine PC.pr1 (k := 0) (pc' := 1) (lv' := [(0, .ref a0)]) (st' := [.ref a0]) rfl ?_
  refine (PC.callI (j := 60) (args := [.ref a0]) (rest := []) (M := cM60) (ty := .int) rfl rfl rfl rfl rfl rfl (by decide) rfl rfl (by decide) ?_).weak
  refine PC.imp h (fun v1 κ1 h r1 hv => ?_)
  have h := h r1 hv
  refine PC.pr (k := 1) (pc' := 5) (lv' := [(1, .int r1), (0, .ref a0)]) (st' := []) rfl ?_
  refine PC.pr (k := 1) (pc' := 6) (lv' := [(1, .int r1), (0, .ref a0)]) (st' := [.int r1]) rfl ?_
  refine PC.pr (k := 1) (pc' := 8) (lv' := [(1, .int r1), (0, .ref a0)]) (st' := [.int (-4), .int r1]) rfl ?_
  refine PC.if2 (t := 23) rfl rfl (fun c => ?_) (fun c => ?_)
  · have h := h.1 (cmp_eq.1.mp c)
    refine PC.pr (k := 1) (pc' := 24) (lv' := [(1, .int r1), (0, .ref a0)]) (st' := [.int 0]) rfl ?_
    exact PC.retI rfl h
  · have h := h.2 (cmp_eq.2.mp c)
    refine PC.pr (k := 1) (pc' := 12) (lv' := [(1, .int r1), (0, .ref a0)]) (st' := [.ref a0]) rfl ?_
    refine PC.pr (k := 1) (pc' := 13) (lv' := [(1, .int r1), (0, .ref a0)]) (st' := [.int r1, .ref a0]) rfl ?_
    refine (PC.callI (j := 38) (args := [.ref a0, .int r1]) (rest := []) (M := cM38) (ty := .boolean) rfl rfl rfl rfl rfl rfl (by decide) rfl rfl (by decide) ?_).weak
    refine PC.imp h (fun v2 κ2 h r2 hv => ?_)
    have h := h r2 hv
    refine PC.if1 (t := 23) rfl rfl (fun c => ?_) (fun c => ?_)
    · have h := h.1 (cmp_eq.1.mp c)
      refine PC.pr (k := 1) (pc' := 24) (lv' := [(1, .int r1), (0, .ref a0)]) (st' := [.int 0]) rfl ?_
      exact PC.retI rfl h
    · have h := h.2 (cmp_eq.2.mp c)
      refine PC.pr (k := 1) (pc' := 20) (lv' := [(1, .int r1), (0, .ref a0)]) (st' := [.int 1]) rfl ?_
      refine PC.pr (k := 1) (pc' := 24) (lv' := [(1, .int r1), (0, .ref a0)]) (st' := [.int 1]) rfl ?_
      exact PC.retI rfl h

/-- DoorPaints$Door.shown()I -/
theorem t_60_0 {xl : List Int32} {n : Nat} {ι : IS} {Q : Option Value → IS → Prop} {a0 : Nat} (h : ((¬ 0 < (ι a0 1) → Q (some (.int (-4))) ι) ∧ (0 < (ι a0 1) → ((6 < (ι a0 1) → Q (some (.int (-4))) ι) ∧ (¬ 6 < (ι a0 1) → (0 ≤ ((ι a0 1) - 1).toInt → ((ι a0 1) - 1).toInt < ln (rf a0 0) → Q (some (.int (ι (rf a0 0) ((ι a0 1) - 1).toNatClampNeg))) ι)))))) : PC xl (n + 1) 60 0 [(0, .ref a0)] [] ι Q := by
  refine PC.pr1 (k := 0) (pc' := 1) (lv' := [(0, .ref a0)]) (st' := [.ref a0]) rfl ?_
  refine PC.gI (ci := 5) (j := 1) rfl rfl (by decide) ?_
  refine PC.if1 (t := 30) rfl rfl (fun c => ?_) (fun c => ?_)
  · have h := h.1 (cmp_le.1.mp c)
    refine PC.pr (k := 1) (pc' := 32) (lv' := [(0, .ref a0)]) (st' := [.int (-4)]) rfl ?_
    exact PC.retI rfl h
  · have h := h.2 (cmp_le.2.mp c)
    refine PC.pr (k := 1) (pc' := 8) (lv' := [(0, .ref a0)]) (st' := [.ref a0]) rfl ?_
    refine PC.gI (ci := 5) (j := 1) rfl rfl (by decide) ?_
    refine PC.pr (k := 1) (pc' := 13) (lv' := [(0, .ref a0)]) (st' := [.int 6, .int (ι a0 1)]) rfl ?_
    refine PC.if2 (t := 30) rfl rfl (fun c => ?_) (fun c => ?_)
    · have h := h.1 (cmp_gt.1.mp c)
      refine PC.pr (k := 1) (pc' := 32) (lv' := [(0, .ref a0)]) (st' := [.int (-4)]) rfl ?_
      exact PC.retI rfl h
    · have h := h.2 (cmp_gt.2.mp c)
      refine PC.pr (k := 1) (pc' := 17) (lv' := [(0, .ref a0)]) (st' := [.ref a0]) rfl ?_
      refine PC.gR (ci := 5) (j := 0) rfl rfl (by decide) ?_
      refine PC.pr (k := 1) (pc' := 21) (lv' := [(0, .ref a0)]) (st' := [.ref a0, .ref (rf a0 0)]) rfl ?_
      refine PC.gI (ci := 5) (j := 1) rfl rfl (by decide) ?_
      refine PC.pr (k := 1) (pc' := 25) (lv' := [(0, .ref a0)]) (st' := [.int 1, .int (ι a0 1), .ref (rf a0 0)]) rfl ?_
      refine PC.pr (k := 1) (pc' := 26) (lv' := [(0, .ref a0)]) (st' := [.int ((ι a0 1) - 1), .ref (rf a0 0)]) rfl ?_
      refine PC.rd rfl (rf_lt _ _) (fun c1 c2 => ?_)
      have h := h c1 c2
      refine PC.pr (k := 1) (pc' := 32) (lv' := [(0, .ref a0)]) (st' := [.int (ι (rf a0 0) ((ι a0 1) - 1).toNatClampNeg)]) rfl ?_
      exact PC.retI rfl h

/-- DoorPaints$Town.allPaint()I -/
theorem t_61_0 {xl : List Int32} {n : Nat} {ι : IS} {Q : Option Value → IS → Prop} {a0 : Nat} (h : PC xl n 61 4 [(0, .ref a0), (1, .int 0), (2, .int 0)] [] ι Q) : PC xl (n + 1) 61 0 [(0, .ref a0)] [] ι Q := by
  refine PC.pr1 (k := 0) (pc' := 1) (lv' := [(0, .ref a0)]) (st' := [.int 0]) rfl ?_
  refine PC.pr (k := 1) (pc' := 2) (lv' := [(1, .int 0), (0, .ref a0)]) (st' := []) rfl ?_
  refine PC.pr (k := 1) (pc' := 3) (lv' := [(1, .int 0), (0, .ref a0)]) (st' := [.int 0]) rfl ?_
  refine PC.pr (k := 1) (pc' := 4) (lv' := [(2, .int 0), (1, .int 0), (0, .ref a0)]) (st' := []) rfl ?_
  exact PC.lv (lvE.cons rfl (lvE.cons rfl (lvE.cons rfl (lvE.nil)))) h
theorem t_61_4 {xl : List Int32} {n : Nat} {ι : IS} {Q : Option Value → IS → Prop} {a0 : Nat} {x1 : Int32} {x2 : Int32} (h : ((¬ x2 < (ι a0 2) → Q (some (.int x1)) ι) ∧ (x2 < (ι a0 2) → (0 ≤ x2.toInt → x2.toInt < lr (rf a0 0) → PC xl n 61 4 [(0, .ref a0), (1, .int (x1 + (ι (re (rf a0 0) x2.toNatClampNeg) 2))), (2, .int (x2 + 1))] [] ι Q)))) : PC xl (n + 1) 61 4 [(0, .ref a0), (1, .int x1), (2, .int x2)] [] ι Q := by
  refine PC.pr1 (k := 0) (pc' := 5) (lv' := [(0, .ref a0), (1, .int x1), (2, .int x2)]) (st' := [.int x2]) rfl ?_
  refine PC.pr (k := 1) (pc' := 6) (lv' := [(0, .ref a0), (1, .int x1), (2, .int x2)]) (st' := [.ref a0, .int x2]) rfl ?_
  refine PC.gI (ci := 3) (j := 2) rfl rfl (by decide) ?_
  refine PC.if2 (t := 30) rfl rfl (fun c => ?_) (fun c => ?_)
  · have h := h.1 (cmp_ge.1.mp c)
    refine PC.pr (k := 1) (pc' := 31) (lv' := [(0, .ref a0), (1, .int x1), (2, .int x2)]) (st' := [.int x1]) rfl ?_
    exact PC.retI rfl h
  · have h := h.2 (cmp_ge.2.mp c)
    refine PC.pr (k := 1) (pc' := 13) (lv' := [(0, .ref a0), (1, .int x1), (2, .int x2)]) (st' := [.int x1]) rfl ?_
    refine PC.pr (k := 1) (pc' := 14) (lv' := [(0, .ref a0), (1, .int x1), (2, .int x2)]) (st' := [.ref a0, .int x1]) rfl ?_
    refine PC.gR (ci := 3) (j := 0) rfl rfl (by decide) ?_
    refine PC.pr (k := 1) (pc' := 18) (lv' := [(0, .ref a0), (1, .int x1), (2, .int x2)]) (st' := [.int x2, .ref (rf a0 0), .int x1]) rfl ?_
    refine PC.ra rfl (fun c1 c2 => ?_)
    have h := h c1 c2
    refine PC.gI (ci := 4) (j := 2) rfl rfl (by decide) ?_
    refine PC.pr (k := 1) (pc' := 23) (lv' := [(0, .ref a0), (1, .int x1), (2, .int x2)]) (st' := [.int (x1 + (ι (re (rf a0 0) x2.toNatClampNeg) 2))]) rfl ?_
    refine PC.pr (k := 1) (pc' := 24) (lv' := [(1, .int (x1 + (ι (re (rf a0 0) x2.toNatClampNeg) 2))), (0, .ref a0), (2, .int x2)]) (st' := []) rfl ?_
    refine PC.pr (k := 1) (pc' := 27) (lv' := [(2, .int (x2 + 1)), (1, .int (x1 + (ι (re (rf a0 0) x2.toNatClampNeg) 2))), (0, .ref a0)]) (st' := []) rfl ?_
    refine PC.pr (k := 1) (pc' := 4) (lv' := [(2, .int (x2 + 1)), (1, .int (x1 + (ι (re (rf a0 0) x2.toNatClampNeg) 2))), (0, .ref a0)]) (st' := []) rfl ?_
    exact PC.lv (lvE.cons rfl (lvE.cons rfl (lvE.cons rfl (lvE.nil)))) h

/-- DoorPaints.visitor(II)I -/
theorem t_62_0 {xl : List Int32} {n : Nat} {ι : IS} {Q : Option Value → IS → Prop} {a0 : Nat} {x1 : Int32} {x2 : Int32} (h : PC xl n 49 0 [(0, .ref (rf (rf a0 2) 0)), (1, .int x1)] [] ι (fun v1 κ1 => ∀ r1, v1 = some (.int r1) → ((¬ r1 = 0 → (0 ≤ x1.toInt → x1.toInt < lr (rf (rf (rf a0 2) 0) 0) → ((x2.toInt = 0 → Q (some (.int (κ1 (re (rf (rf (rf a0 2) 0) 0) x1.toNatClampNeg) 0))) κ1) ∧ (x2.toInt = 1 → Q (some (.int (κ1 (re (rf (rf (rf a0 2) 0) 0) x1.toNatClampNeg) 1))) κ1) ∧ (x2.toInt = 2 → Q (some (.int (κ1 (re (rf (rf (rf a0 2) 0) 0) x1.toNatClampNeg) 2))) κ1) ∧ (x2.toInt = 3 → Q (some (.int (κ1 (re (rf (rf (rf a0 2) 0) 0) x1.toNatClampNeg) 3))) κ1) ∧ (x2.toInt = 4 → PC xl n 63 0 [(0, .ref (rf (rf a0 2) 0)), (1, .int x1)] [] κ1 (fun v2 κ2 => ∀ r2, v2 = some (.int r2) → Q (some (.int r2)) κ2)) ∧ ((x2.toInt < 0 ∨ 4 < x2.toInt) → Q (some (.int (-1))) κ1)))) ∧ (r1 = 0 → Q (some (.int (-1))) κ1)))) : PC xl (n + 1) 62 0 [(0, .ref a0), (1, .int x1), (2, .int x2)] [] ι Q := by
  refine PC.pr1 (k := 0) (pc' := 1) (lv' := [(0, .ref a0), (1, .int x1), (2, .int x2)]) (st' := [.ref a0]) rfl ?_
  refine PC.gR (ci := 0) (j := 2) rfl rfl (by decide) ?_
  refine PC.gR (ci := 2) (j := 0) rfl rfl (by decide) ?_
  refine PC.pr (k := 1) (pc' := 8) (lv' := [(0, .ref a0), (1, .int x1), (2, .int x2)]) (st' := [.int x1, .ref (rf (rf a0 2) 0)]) rfl ?_
  refine (PC.callI (j := 49) (args := [.ref (rf (rf a0 2) 0), .int x1]) (rest := []) (M := cM49) (ty := .boolean) rfl rfl rfl rfl rfl rfl (by decide) rfl rfl (by decide) ?_).weak
  refine PC.imp h (fun v1 κ1 h r1 hv => ?_)
  have h := h r1 hv
  refine PC.if1 (t := 16) rfl rfl (fun c => ?_) (fun c => ?_)
  · have h := h.1 (cmp_ne.1.mp c)
    refine PC.pr (k := 1) (pc' := 17) (lv' := [(0, .ref a0), (1, .int x1), (2, .int x2)]) (st' := [.ref a0]) rfl ?_
    refine PC.gR (ci := 0) (j := 2) rfl rfl (by decide) ?_
    refine PC.gR (ci := 2) (j := 0) rfl rfl (by decide) ?_
    refine PC.gR (ci := 3) (j := 0) rfl rfl (by decide) ?_
    refine PC.pr (k := 1) (pc' := 27) (lv' := [(0, .ref a0), (1, .int x1), (2, .int x2)]) (st' := [.int x1, .ref (rf (rf (rf a0 2) 0) 0)]) rfl ?_
    refine PC.ra rfl (fun c1 c2 => ?_)
    have h := h c1 c2
    refine PC.pr (k := 1) (pc' := 29) (lv' := [(3, .ref (re (rf (rf (rf a0 2) 0) 0) x1.toNatClampNeg)), (0, .ref a0), (1, .int x1), (2, .int x2)]) (st' := []) rfl ?_
    refine PC.pr (k := 1) (pc' := 30) (lv' := [(3, .ref (re (rf (rf (rf a0 2) 0) 0) x1.toNatClampNeg)), (0, .ref a0), (1, .int x1), (2, .int x2)]) (st' := [.int x2]) rfl ?_
    refine PC.tsw rfl (fun i off t ho ht hx => ?_) (fun t ht hx => ?_)
    · match i, ho, hx with
      | 0, ho, hx =>
        obtain rfl : (34 : Int) = off := Option.some.inj ho
        obtain rfl : 64 = t := Option.some.inj ht
        have h := h.1 (by simpa using hx)
        refine PC.pr (k := 1) (pc' := 65) (lv' := [(3, .ref (re (rf (rf (rf a0 2) 0) 0) x1.toNatClampNeg)), (0, .ref a0), (1, .int x1), (2, .int x2)]) (st' := [.ref (re (rf (rf (rf a0 2) 0) 0) x1.toNatClampNeg)]) rfl ?_
        refine PC.gI (ci := 4) (j := 0) rfl rfl (by decide) ?_
        exact PC.retI rfl h
      | 1, ho, hx =>
        obtain rfl : (39 : Int) = off := Option.some.inj ho
        obtain rfl : 69 = t := Option.some.inj ht
        have h := h.2.1 (by simpa using hx)
        refine PC.pr (k := 1) (pc' := 70) (lv' := [(3, .ref (re (rf (rf (rf a0 2) 0) 0) x1.toNatClampNeg)), (0, .ref a0), (1, .int x1), (2, .int x2)]) (st' := [.ref (re (rf (rf (rf a0 2) 0) 0) x1.toNatClampNeg)]) rfl ?_
        refine PC.gI (ci := 4) (j := 1) rfl rfl (by decide) ?_
        exact PC.retI rfl h
      | 2, ho, hx =>
        obtain rfl : (44 : Int) = off := Option.some.inj ho
        obtain rfl : 74 = t := Option.some.inj ht
        have h := h.2.2.1 (by simpa using hx)
        refine PC.pr (k := 1) (pc' := 75) (lv' := [(3, .ref (re (rf (rf (rf a0 2) 0) 0) x1.toNatClampNeg)), (0, .ref a0), (1, .int x1), (2, .int x2)]) (st' := [.ref (re (rf (rf (rf a0 2) 0) 0) x1.toNatClampNeg)]) rfl ?_
        refine PC.gI (ci := 4) (j := 2) rfl rfl (by decide) ?_
        exact PC.retI rfl h
      | 3, ho, hx =>
        obtain rfl : (49 : Int) = off := Option.some.inj ho
        obtain rfl : 79 = t := Option.some.inj ht
        have h := h.2.2.2.1 (by simpa using hx)
        refine PC.pr (k := 1) (pc' := 80) (lv' := [(3, .ref (re (rf (rf (rf a0 2) 0) 0) x1.toNatClampNeg)), (0, .ref a0), (1, .int x1), (2, .int x2)]) (st' := [.ref (re (rf (rf (rf a0 2) 0) 0) x1.toNatClampNeg)]) rfl ?_
        refine PC.gI (ci := 4) (j := 3) rfl rfl (by decide) ?_
        exact PC.retI rfl h
      | 4, ho, hx =>
        obtain rfl : (54 : Int) = off := Option.some.inj ho
        obtain rfl : 84 = t := Option.some.inj ht
        have h := h.2.2.2.2.1 (by simpa using hx)
        refine PC.pr (k := 1) (pc' := 85) (lv' := [(3, .ref (re (rf (rf (rf a0 2) 0) 0) x1.toNatClampNeg)), (0, .ref a0), (1, .int x1), (2, .int x2)]) (st' := [.ref a0]) rfl ?_
        refine PC.gR (ci := 0) (j := 2) rfl rfl (by decide) ?_
        refine PC.gR (ci := 2) (j := 0) rfl rfl (by decide) ?_
        refine PC.pr (k := 1) (pc' := 92) (lv' := [(3, .ref (re (rf (rf (rf a0 2) 0) 0) x1.toNatClampNeg)), (0, .ref a0), (1, .int x1), (2, .int x2)]) (st' := [.int x1, .ref (rf (rf a0 2) 0)]) rfl ?_
        refine (PC.callI (j := 63) (args := [.ref (rf (rf a0 2) 0), .int x1]) (rest := []) (M := cM63) (ty := .int) rfl rfl rfl rfl rfl rfl (by decide) rfl rfl (by decide) ?_).weak
        refine PC.imp h (fun v2 κ2 h r2 hv => ?_)
        have h := h r2 hv
        exact PC.retI rfl h
      | i + 5, ho, hx => cases ho
    · obtain rfl : 96 = t := Option.some.inj ht
      have h := h.2.2.2.2.2 hx
      refine PC.pr (k := 1) (pc' := 97) (lv' := [(3, .ref (re (rf (rf (rf a0 2) 0) 0) x1.toNatClampNeg)), (0, .ref a0), (1, .int x1), (2, .int x2)]) (st' := [.int (-1)]) rfl ?_
      exact PC.retI rfl h
  · have h := h.2 (cmp_ne.2.mp c)
    refine PC.pr (k := 1) (pc' := 15) (lv' := [(0, .ref a0), (1, .int x1), (2, .int x2)]) (st' := [.int (-1)]) rfl ?_
    exact PC.retI rfl h

/-- DoorPaints$Town.brushOf(I)I -/
theorem t_63_0 {xl : List Int32} {n : Nat} {ι : IS} {Q : Option Value → IS → Prop} {a0 : Nat} {x1 : Int32} (h : PC xl n 49 0 [(0, .ref a0), (1, .int x1)] [] ι (fun v1 κ1 => ∀ r1, v1 = some (.int r1) → ((¬ r1 = 0 → ((¬ x1 = (κ1 a0 4) → (0 ≤ x1.toInt → x1.toInt < lr (rf a0 0) → ((¬ (κ1 (re (rf a0 0) x1.toNatClampNeg) 0) = 3 → (0 ≤ x1.toInt → x1.toInt < lr (rf a0 0) → Q (some (.int (κ1 (re (rf a0 0) x1.toNatClampNeg) 1))) κ1)) ∧ ((κ1 (re (rf a0 0) x1.toNatClampNeg) 0) = 3 → (0 ≤ (0 : Int32).toInt → (0 : Int32).toInt < lr (rf a0 0) → Q (some (.int (κ1 (re (rf a0 0) (0 : Int32).toNatClampNeg) 1))) κ1))))) ∧ (x1 = (κ1 a0 4) → Q (some (.int (κ1 a0 5))) κ1))) ∧ (r1 = 0 → Q (some (.int (-1))) κ1)))) : PC xl (n + 1) 63 0 [(0, .ref a0), (1, .int x1)] [] ι Q := by
  refine PC.pr1 (k := 0) (pc' := 1) (lv' := [(0, .ref a0), (1, .int x1)]) (st' := [.ref a0]) rfl ?_
  refine PC.pr (k := 1) (pc' := 2) (lv' := [(0, .ref a0), (1, .int x1)]) (st' := [.int x1, .ref a0]) rfl ?_
  refine (PC.callI (j := 49) (args := [.ref a0, .int x1]) (rest := []) (M := cM49) (ty := .boolean) rfl rfl rfl rfl rfl rfl (by decide) rfl rfl (by decide) ?_).weak
  refine PC.imp h (fun v1 κ1 h r1 hv => ?_)
  have h := h r1 hv
  refine PC.if1 (t := 10) rfl rfl (fun c => ?_) (fun c => ?_)
  · have h := h.1 (cmp_ne.1.mp c)
    refine PC.pr (k := 1) (pc' := 11) (lv' := [(0, .ref a0), (1, .int x1)]) (st' := [.int x1]) rfl ?_
    refine PC.pr (k := 1) (pc' := 12) (lv' := [(0, .ref a0), (1, .int x1)]) (st' := [.ref a0, .int x1]) rfl ?_
    refine PC.gI (ci := 3) (j := 4) rfl rfl (by decide) ?_
    refine PC.if2 (t := 23) rfl rfl (fun c => ?_) (fun c => ?_)
    · have h := h.1 (cmp_ne.1.mp c)
      refine PC.pr (k := 1) (pc' := 24) (lv' := [(0, .ref a0), (1, .int x1)]) (st' := [.ref a0]) rfl ?_
      refine PC.gR (ci := 3) (j := 0) rfl rfl (by decide) ?_
      refine PC.pr (k := 1) (pc' := 28) (lv' := [(0, .ref a0), (1, .int x1)]) (st' := [.int x1, .ref (rf a0 0)]) rfl ?_
      refine PC.ra rfl (fun c1 c2 => ?_)
      have h := h c1 c2
      refine PC.gI (ci := 4) (j := 0) rfl rfl (by decide) ?_
      refine PC.pr (k := 1) (pc' := 33) (lv' := [(0, .ref a0), (1, .int x1)]) (st' := [.int 3, .int (κ1 (re (rf a0 0) x1.toNatClampNeg) 0)]) rfl ?_
      refine PC.if2 (t := 48) rfl rfl (fun c => ?_) (fun c => ?_)
      · have h := h.1 (cmp_ne.1.mp c)
        refine PC.pr (k := 1) (pc' := 49) (lv' := [(0, .ref a0), (1, .int x1)]) (st' := [.ref a0]) rfl ?_
        refine PC.gR (ci := 3) (j := 0) rfl rfl (by decide) ?_
        refine PC.pr (k := 1) (pc' := 53) (lv' := [(0, .ref a0), (1, .int x1)]) (st' := [.int x1, .ref (rf a0 0)]) rfl ?_
        refine PC.ra rfl (fun c1 c2 => ?_)
        have h := h c1 c2
        refine PC.gI (ci := 4) (j := 1) rfl rfl (by decide) ?_
        exact PC.retI rfl h
      · have h := h.2 (cmp_ne.2.mp c)
        refine PC.pr (k := 1) (pc' := 37) (lv' := [(0, .ref a0), (1, .int x1)]) (st' := [.ref a0]) rfl ?_
        refine PC.gR (ci := 3) (j := 0) rfl rfl (by decide) ?_
        refine PC.pr (k := 1) (pc' := 41) (lv' := [(0, .ref a0), (1, .int x1)]) (st' := [.int 0, .ref (rf a0 0)]) rfl ?_
        refine PC.ra rfl (fun c1 c2 => ?_)
        have h := h c1 c2
        refine PC.gI (ci := 4) (j := 1) rfl rfl (by decide) ?_
        refine PC.pr (k := 1) (pc' := 57) (lv' := [(0, .ref a0), (1, .int x1)]) (st' := [.int (κ1 (re (rf a0 0) (0 : Int32).toNatClampNeg) 1)]) rfl ?_
        exact PC.retI rfl h
    · have h := h.2 (cmp_ne.2.mp c)
      refine PC.pr (k := 1) (pc' := 19) (lv' := [(0, .ref a0), (1, .int x1)]) (st' := [.ref a0]) rfl ?_
      refine PC.gI (ci := 3) (j := 5) rfl rfl (by decide) ?_
      exact PC.retI rfl h
  · have h := h.2 (cmp_ne.2.mp c)
    refine PC.pr (k := 1) (pc' := 9) (lv' := [(0, .ref a0), (1, .int x1)]) (st' := [.int (-1)]) rfl ?_
    exact PC.retI rfl h

/-- DoorPaints.door(II)I -/
theorem t_64_0 {xl : List Int32} {n : Nat} {ι : IS} {Q : Option Value → IS → Prop} {a0 : Nat} {x1 : Int32} {x2 : Int32} (h : PC xl n 50 0 [(0, .ref (rf (rf a0 2) 0)), (1, .int x1)] [] ι (fun v1 κ1 => ∀ r1, v1 = some (.int r1) → ((¬ r1 = 0 → (0 ≤ x1.toInt → x1.toInt < lr (rf (rf (rf a0 2) 0) 1) → ((x2 < 10 → PC xl n 64 50 [(0, .ref a0), (1, .int x1), (2, .int x2), (3, .ref (re (rf (rf (rf a0 2) 0) 1) x1.toNatClampNeg))] [] κ1 Q) ∧ (¬ x2 < 10 → ((¬ x2 < 16 → PC xl n 64 50 [(0, .ref a0), (1, .int x1), (2, .int x2), (3, .ref (re (rf (rf (rf a0 2) 0) 1) x1.toNatClampNeg))] [] κ1 Q) ∧ (x2 < 16 → PC xl n 65 0 [(0, .ref (re (rf (rf (rf a0 2) 0) 1) x1.toNatClampNeg)), (1, .int (x2 - 10))] [] κ1 (fun v2 κ2 => ∀ r2, v2 = some (.int r2) → Q (some (.int r2)) κ2))))))) ∧ (r1 = 0 → Q (some (.int (-1))) κ1)))) : PC xl (n + 1) 64 0 [(0, .ref a0), (1, .int x1), (2, .int x2)] [] ι Q := by
  refine PC.pr1 (k := 0) (pc' := 1) (lv' := [(0, .ref a0), (1, .int x1), (2, .int x2)]) (st' := [.ref a0]) rfl ?_
  refine PC.gR (ci := 0) (j := 2) rfl rfl (by decide) ?_
  refine PC.gR (ci := 2) (j := 0) rfl rfl (by decide) ?_
  refine PC.pr (k := 1) (pc' := 8) (lv' := [(0, .ref a0), (1, .int x1), (2, .int x2)]) (st' := [.int x1, .ref (rf (rf a0 2) 0)]) rfl ?_
  refine (PC.callI (j := 50) (args := [.ref (rf (rf a0 2) 0), .int x1]) (rest := []) (M := cM50) (ty := .boolean) rfl rfl rfl rfl rfl rfl (by decide) rfl rfl (by decide) ?_).weak
  refine PC.imp h (fun v1 κ1 h r1 hv => ?_)
  have h := h r1 hv
  refine PC.if1 (t := 16) rfl rfl (fun c => ?_) (fun c => ?_)
  · have h := h.1 (cmp_ne.1.mp c)
    refine PC.pr (k := 1) (pc' := 17) (lv' := [(0, .ref a0), (1, .int x1), (2, .int x2)]) (st' := [.ref a0]) rfl ?_
    refine PC.gR (ci := 0) (j := 2) rfl rfl (by decide) ?_
    refine PC.gR (ci := 2) (j := 0) rfl rfl (by decide) ?_
    refine PC.gR (ci := 3) (j := 1) rfl rfl (by decide) ?_
    refine PC.pr (k := 1) (pc' := 27) (lv' := [(0, .ref a0), (1, .int x1), (2, .int x2)]) (st' := [.int x1, .ref (rf (rf (rf a0 2) 0) 1)]) rfl ?_
    refine PC.ra rfl (fun c1 c2 => ?_)
    have h := h c1 c2
    refine PC.pr (k := 1) (pc' := 29) (lv' := [(3, .ref (re (rf (rf (rf a0 2) 0) 1) x1.toNatClampNeg)), (0, .ref a0), (1, .int x1), (2, .int x2)]) (st' := []) rfl ?_
    refine PC.pr (k := 1) (pc' := 30) (lv' := [(3, .ref (re (rf (rf (rf a0 2) 0) 1) x1.toNatClampNeg)), (0, .ref a0), (1, .int x1), (2, .int x2)]) (st' := [.int x2]) rfl ?_
    refine PC.pr (k := 1) (pc' := 32) (lv' := [(3, .ref (re (rf (rf (rf a0 2) 0) 1) x1.toNatClampNeg)), (0, .ref a0), (1, .int x1), (2, .int x2)]) (st' := [.int 10, .int x2]) rfl ?_
    refine PC.if2 (t := 50) rfl rfl (fun c => ?_) (fun c => ?_)
    · have h := h.1 (cmp_lt.1.mp c)
      exact PC.lv (lvE.cons rfl (lvE.cons rfl (lvE.cons rfl (lvE.cons rfl (lvE.nil))))) h
    · have h := h.2 (cmp_lt.2.mp c)
      refine PC.pr (k := 1) (pc' := 36) (lv' := [(3, .ref (re (rf (rf (rf a0 2) 0) 1) x1.toNatClampNeg)), (0, .ref a0), (1, .int x1), (2, .int x2)]) (st' := [.int x2]) rfl ?_
      refine PC.pr (k := 1) (pc' := 38) (lv' := [(3, .ref (re (rf (rf (rf a0 2) 0) 1) x1.toNatClampNeg)), (0, .ref a0), (1, .int x1), (2, .int x2)]) (st' := [.int 16, .int x2]) rfl ?_
      refine PC.if2 (t := 50) rfl rfl (fun c => ?_) (fun c => ?_)
      · have h := h.1 (cmp_ge.1.mp c)
        exact PC.lv (lvE.cons rfl (lvE.cons rfl (lvE.cons rfl (lvE.cons rfl (lvE.nil))))) h
      · have h := h.2 (cmp_ge.2.mp c)
        refine PC.pr (k := 1) (pc' := 42) (lv' := [(3, .ref (re (rf (rf (rf a0 2) 0) 1) x1.toNatClampNeg)), (0, .ref a0), (1, .int x1), (2, .int x2)]) (st' := [.ref (re (rf (rf (rf a0 2) 0) 1) x1.toNatClampNeg)]) rfl ?_
        refine PC.pr (k := 1) (pc' := 43) (lv' := [(3, .ref (re (rf (rf (rf a0 2) 0) 1) x1.toNatClampNeg)), (0, .ref a0), (1, .int x1), (2, .int x2)]) (st' := [.int x2, .ref (re (rf (rf (rf a0 2) 0) 1) x1.toNatClampNeg)]) rfl ?_
        refine PC.pr (k := 1) (pc' := 45) (lv' := [(3, .ref (re (rf (rf (rf a0 2) 0) 1) x1.toNatClampNeg)), (0, .ref a0), (1, .int x1), (2, .int x2)]) (st' := [.int 10, .int x2, .ref (re (rf (rf (rf a0 2) 0) 1) x1.toNatClampNeg)]) rfl ?_
        refine PC.pr (k := 1) (pc' := 46) (lv' := [(3, .ref (re (rf (rf (rf a0 2) 0) 1) x1.toNatClampNeg)), (0, .ref a0), (1, .int x1), (2, .int x2)]) (st' := [.int (x2 - 10), .ref (re (rf (rf (rf a0 2) 0) 1) x1.toNatClampNeg)]) rfl ?_
        refine (PC.callI (j := 65) (args := [.ref (re (rf (rf (rf a0 2) 0) 1) x1.toNatClampNeg), .int (x2 - 10)]) (rest := []) (M := cM65) (ty := .int) rfl rfl rfl rfl rfl rfl (by decide) rfl rfl (by decide) ?_).weak
        refine PC.imp h (fun v2 κ2 h r2 hv => ?_)
        have h := h r2 hv
        exact PC.retI rfl h
  · have h := h.2 (cmp_ne.2.mp c)
    refine PC.pr (k := 1) (pc' := 15) (lv' := [(0, .ref a0), (1, .int x1), (2, .int x2)]) (st' := [.int (-1)]) rfl ?_
    exact PC.retI rfl h
theorem t_64_50 {xl : List Int32} {n : Nat} {ι : IS} {Q : Option Value → IS → Prop} {w0 : Value} {w1 : Value} {x2 : Int32} {a3 : Nat} (h : ((x2.toInt = 0 → Q (some (.int (ι a3 1))) ι) ∧ (x2.toInt = 1 → PC xl n 60 0 [(0, .ref a3)] [] ι (fun v1 κ1 => ∀ r1, v1 = some (.int r1) → Q (some (.int r1)) κ1)) ∧ (x2.toInt = 2 → Q (some (.int (ι a3 2))) ι) ∧ (x2.toInt = 3 → (((ι a3 3) = 0 → Q (some (.int 0)) ι) ∧ (¬ (ι a3 3) = 0 → Q (some (.int 1)) ι))) ∧ ((x2.toInt < 0 ∨ 3 < x2.toInt) → Q (some (.int (-1))) ι))) : PC xl (n + 1) 64 50 [(0, w0), (1, w1), (2, .int x2), (3, .ref a3)] [] ι Q := by
  refine PC.pr1 (k := 0) (pc' := 51) (lv' := [(0, w0), (1, w1), (2, .int x2), (3, .ref a3)]) (st' := [.int x2]) rfl ?_
  refine PC.tsw rfl (fun i off t ho ht hx => ?_) (fun t ht hx => ?_)
  · match i, ho, hx with
    | 0, ho, hx =>
      obtain rfl : (29 : Int) = off := Option.some.inj ho
      obtain rfl : 80 = t := Option.some.inj ht
      have h := h.1 (by simpa using hx)
      refine PC.pr (k := 1) (pc' := 81) (lv' := [(0, w0), (1, w1), (2, .int x2), (3, .ref a3)]) (st' := [.ref a3]) rfl ?_
      refine PC.gI (ci := 5) (j := 1) rfl rfl (by decide) ?_
      exact PC.retI rfl h
    | 1, ho, hx =>
      obtain rfl : (34 : Int) = off := Option.some.inj ho
      obtain rfl : 85 = t := Option.some.inj ht
      have h := h.2.1 (by simpa using hx)
      refine PC.pr (k := 1) (pc' := 86) (lv' := [(0, w0), (1, w1), (2, .int x2), (3, .ref a3)]) (st' := [.ref a3]) rfl ?_
      refine (PC.callI (j := 60) (args := [.ref a3]) (rest := []) (M := cM60) (ty := .int) rfl rfl rfl rfl rfl rfl (by decide) rfl rfl (by decide) ?_).weak
      refine PC.imp h (fun v1 κ1 h r1 hv => ?_)
      have h := h r1 hv
      exact PC.retI rfl h
    | 2, ho, hx =>
      obtain rfl : (39 : Int) = off := Option.some.inj ho
      obtain rfl : 90 = t := Option.some.inj ht
      have h := h.2.2.1 (by simpa using hx)
      refine PC.pr (k := 1) (pc' := 91) (lv' := [(0, w0), (1, w1), (2, .int x2), (3, .ref a3)]) (st' := [.ref a3]) rfl ?_
      refine PC.gI (ci := 5) (j := 2) rfl rfl (by decide) ?_
      exact PC.retI rfl h
    | 3, ho, hx =>
      obtain rfl : (44 : Int) = off := Option.some.inj ho
      obtain rfl : 95 = t := Option.some.inj ht
      have h := h.2.2.2.1 (by simpa using hx)
      refine PC.pr (k := 1) (pc' := 96) (lv' := [(0, w0), (1, w1), (2, .int x2), (3, .ref a3)]) (st' := [.ref a3]) rfl ?_
      refine PC.gI (ci := 5) (j := 3) rfl rfl (by decide) ?_
      refine PC.if1 (t := 106) rfl rfl (fun c => ?_) (fun c => ?_)
      · have h := h.1 (cmp_eq.1.mp c)
        refine PC.pr (k := 1) (pc' := 107) (lv' := [(0, w0), (1, w1), (2, .int x2), (3, .ref a3)]) (st' := [.int 0]) rfl ?_
        exact PC.retI rfl h
      · have h := h.2 (cmp_eq.2.mp c)
        refine PC.pr (k := 1) (pc' := 103) (lv' := [(0, w0), (1, w1), (2, .int x2), (3, .ref a3)]) (st' := [.int 1]) rfl ?_
        refine PC.pr (k := 1) (pc' := 107) (lv' := [(0, w0), (1, w1), (2, .int x2), (3, .ref a3)]) (st' := [.int 1]) rfl ?_
        exact PC.retI rfl h
    | i + 4, ho, hx => cases ho
  · obtain rfl : 108 = t := Option.some.inj ht
    have h := h.2.2.2.2 hx
    refine PC.pr (k := 1) (pc' := 109) (lv' := [(0, w0), (1, w1), (2, .int x2), (3, .ref a3)]) (st' := [.int (-1)]) rfl ?_
    exact PC.retI rfl h

/-- DoorPaints$Door.layerAt(I)I -/
theorem t_65_0 {xl : List Int32} {n : Nat} {ι : IS} {Q : Option Value → IS → Prop} {a0 : Nat} {x1 : Int32} (h : ((x1 < 0 → Q (some (.int (-4))) ι) ∧ (¬ x1 < 0 → ((¬ x1 < (ι a0 1) → Q (some (.int (-4))) ι) ∧ (x1 < (ι a0 1) → (0 ≤ x1.toInt → x1.toInt < ln (rf a0 0) → Q (some (.int (ι (rf a0 0) x1.toNatClampNeg))) ι)))))) : PC xl (n + 1) 65 0 [(0, .ref a0), (1, .int x1)] [] ι Q := by
  refine PC.pr1 (k := 0) (pc' := 1) (lv' := [(0, .ref a0), (1, .int x1)]) (st' := [.int x1]) rfl ?_
  refine PC.if1 (t := 21) rfl rfl (fun c => ?_) (fun c => ?_)
  · have h := h.1 (cmp_lt.1.mp c)
    refine PC.pr (k := 1) (pc' := 23) (lv' := [(0, .ref a0), (1, .int x1)]) (st' := [.int (-4)]) rfl ?_
    exact PC.retI rfl h
  · have h := h.2 (cmp_lt.2.mp c)
    refine PC.pr (k := 1) (pc' := 5) (lv' := [(0, .ref a0), (1, .int x1)]) (st' := [.int x1]) rfl ?_
    refine PC.pr (k := 1) (pc' := 6) (lv' := [(0, .ref a0), (1, .int x1)]) (st' := [.ref a0, .int x1]) rfl ?_
    refine PC.gI (ci := 5) (j := 1) rfl rfl (by decide) ?_
    refine PC.if2 (t := 21) rfl rfl (fun c => ?_) (fun c => ?_)
    · have h := h.1 (cmp_ge.1.mp c)
      refine PC.pr (k := 1) (pc' := 23) (lv' := [(0, .ref a0), (1, .int x1)]) (st' := [.int (-4)]) rfl ?_
      exact PC.retI rfl h
    · have h := h.2 (cmp_ge.2.mp c)
      refine PC.pr (k := 1) (pc' := 13) (lv' := [(0, .ref a0), (1, .int x1)]) (st' := [.ref a0]) rfl ?_
      refine PC.gR (ci := 5) (j := 0) rfl rfl (by decide) ?_
      refine PC.pr (k := 1) (pc' := 17) (lv' := [(0, .ref a0), (1, .int x1)]) (st' := [.int x1, .ref (rf a0 0)]) rfl ?_
      refine PC.rd rfl (rf_lt _ _) (fun c1 c2 => ?_)
      have h := h c1 c2
      refine PC.pr (k := 1) (pc' := 23) (lv' := [(0, .ref a0), (1, .int x1)]) (st' := [.int (ι (rf a0 0) x1.toNatClampNeg)]) rfl ?_
      exact PC.retI rfl h

/-- DoorPaints.plan(I)I -/
theorem t_66_0 {xl : List Int32} {n : Nat} {ι : IS} {Q : Option Value → IS → Prop} {a0 : Nat} {x1 : Int32} (h : ((x1 < 0 → Q (some (.int (-1))) ι) ∧ (¬ x1 < 0 → ((¬ x1 < (ι (rf a0 2) 2) → Q (some (.int (-1))) ι) ∧ (x1 < (ι (rf a0 2) 2) → (0 ≤ x1.toInt → x1.toInt < ln (rf (rf a0 2) 1) → Q (some (.int (ι (rf (rf a0 2) 1) x1.toNatClampNeg))) ι)))))) : PC xl (n + 1) 66 0 [(0, .ref a0), (1, .int x1)] [] ι Q := by
  refine PC.pr1 (k := 0) (pc' := 1) (lv' := [(0, .ref a0), (1, .int x1)]) (st' := [.int x1]) rfl ?_
  refine PC.if1 (t := 27) rfl rfl (fun c => ?_) (fun c => ?_)
  · have h := h.1 (cmp_lt.1.mp c)
    refine PC.pr (k := 1) (pc' := 28) (lv' := [(0, .ref a0), (1, .int x1)]) (st' := [.int (-1)]) rfl ?_
    exact PC.retI rfl h
  · have h := h.2 (cmp_lt.2.mp c)
    refine PC.pr (k := 1) (pc' := 5) (lv' := [(0, .ref a0), (1, .int x1)]) (st' := [.int x1]) rfl ?_
    refine PC.pr (k := 1) (pc' := 6) (lv' := [(0, .ref a0), (1, .int x1)]) (st' := [.ref a0, .int x1]) rfl ?_
    refine PC.gR (ci := 0) (j := 2) rfl rfl (by decide) ?_
    refine PC.gI (ci := 2) (j := 2) rfl rfl (by decide) ?_
    refine PC.if2 (t := 27) rfl rfl (fun c => ?_) (fun c => ?_)
    · have h := h.1 (cmp_ge.1.mp c)
      refine PC.pr (k := 1) (pc' := 28) (lv' := [(0, .ref a0), (1, .int x1)]) (st' := [.int (-1)]) rfl ?_
      exact PC.retI rfl h
    · have h := h.2 (cmp_ge.2.mp c)
      refine PC.pr (k := 1) (pc' := 16) (lv' := [(0, .ref a0), (1, .int x1)]) (st' := [.ref a0]) rfl ?_
      refine PC.gR (ci := 0) (j := 2) rfl rfl (by decide) ?_
      refine PC.gR (ci := 2) (j := 1) rfl rfl (by decide) ?_
      refine PC.pr (k := 1) (pc' := 23) (lv' := [(0, .ref a0), (1, .int x1)]) (st' := [.int x1, .ref (rf (rf a0 2) 1)]) rfl ?_
      refine PC.rd rfl (rf_lt _ _) (fun c1 c2 => ?_)
      have h := h c1 c2
      refine PC.pr (k := 1) (pc' := 28) (lv' := [(0, .ref a0), (1, .int x1)]) (st' := [.int (ι (rf (rf a0 2) 1) x1.toNatClampNeg)]) rfl ?_
      exact PC.retI rfl h

/-- DoorPaints.uses(II)I -/
theorem t_67_0 {xl : List Int32} {n : Nat} {ι : IS} {Q : Option Value → IS → Prop} {a0 : Nat} {x1 : Int32} {x2 : Int32} (h : PC xl n 68 0 [(0, .ref (rf (rf a0 2) 0)), (1, .int x1), (2, .int x2)] [] ι (fun v1 κ1 => ∀ r1, v1 = some (.int r1) → Q (some (.int r1)) κ1)) : PC xl (n + 1) 67 0 [(0, .ref a0), (1, .int x1), (2, .int x2)] [] ι Q := by
  refine PC.pr1 (k := 0) (pc' := 1) (lv' := [(0, .ref a0), (1, .int x1), (2, .int x2)]) (st' := [.ref a0]) rfl ?_
  refine PC.gR (ci := 0) (j := 2) rfl rfl (by decide) ?_
  refine PC.gR (ci := 2) (j := 0) rfl rfl (by decide) ?_
  refine PC.pr (k := 1) (pc' := 8) (lv' := [(0, .ref a0), (1, .int x1), (2, .int x2)]) (st' := [.int x1, .ref (rf (rf a0 2) 0)]) rfl ?_
  refine PC.pr (k := 1) (pc' := 9) (lv' := [(0, .ref a0), (1, .int x1), (2, .int x2)]) (st' := [.int x2, .int x1, .ref (rf (rf a0 2) 0)]) rfl ?_
  refine (PC.callI (j := 68) (args := [.ref (rf (rf a0 2) 0), .int x1, .int x2]) (rest := []) (M := cM68) (ty := .int) rfl rfl rfl rfl rfl rfl (by decide) rfl rfl (by decide) ?_).weak
  refine PC.imp h (fun v1 κ1 h r1 hv => ?_)
  have h := h r1 hv
  exact PC.retI rfl h

/-- DoorPaints$Town.costOf(II)I -/
theorem t_68_0 {xl : List Int32} {n : Nat} {ι : IS} {Q : Option Value → IS → Prop} {a0 : Nat} {x1 : Int32} {x2 : Int32} (h : PC xl n 49 0 [(0, .ref a0), (1, .int x1)] [] ι (fun v1 κ1 => ∀ r1, v1 = some (.int r1) → ((r1 = 0 → Q (some (.int (-1))) κ1) ∧ (¬ r1 = 0 → PC xl n 50 0 [(0, .ref a0), (1, .int x2)] [] κ1 (fun v2 κ2 => ∀ r2, v2 = some (.int r2) → ((¬ r2 = 0 → (0 ≤ x2.toInt → x2.toInt < lr (rf a0 1) → (0 ≤ x1.toInt → x1.toInt < lr (rf a0 0) → (((κ2 (re (rf a0 0) x1.toNatClampNeg) 0).toInt = 1 → Q (some (.int (2 * (1 + ((κ2 (re (rf a0 1) x2.toNatClampNeg) 1) / 3))))) κ2) ∧ ((κ2 (re (rf a0 0) x1.toNatClampNeg) 0).toInt = 2 → Q (some (.int 0)) κ2) ∧ ((¬ (κ2 (re (rf a0 0) x1.toNatClampNeg) 0).toInt = 1 ∧ ¬ (κ2 (re (rf a0 0) x1.toNatClampNeg) 0).toInt = 2) → Q (some (.int (1 + ((κ2 (re (rf a0 1) x2.toNatClampNeg) 1) / 3)))) κ2))))) ∧ (r2 = 0 → Q (some (.int (-1))) κ2))))))) : PC xl (n + 1) 68 0 [(0, .ref a0), (1, .int x1), (2, .int x2)] [] ι Q := by
  refine PC.pr1 (k := 0) (pc' := 1) (lv' := [(0, .ref a0), (1, .int x1), (2, .int x2)]) (st' := [.ref a0]) rfl ?_
  refine PC.pr (k := 1) (pc' := 2) (lv' := [(0, .ref a0), (1, .int x1), (2, .int x2)]) (st' := [.int x1, .ref a0]) rfl ?_
  refine (PC.callI (j := 49) (args := [.ref a0, .int x1]) (rest := []) (M := cM49) (ty := .boolean) rfl rfl rfl rfl rfl rfl (by decide) rfl rfl (by decide) ?_).weak
  refine PC.imp h (fun v1 κ1 h r1 hv => ?_)
  have h := h r1 hv
  refine PC.if1 (t := 16) rfl rfl (fun c => ?_) (fun c => ?_)
  · have h := h.1 (cmp_eq.1.mp c)
    refine PC.pr (k := 1) (pc' := 17) (lv' := [(0, .ref a0), (1, .int x1), (2, .int x2)]) (st' := [.int (-1)]) rfl ?_
    exact PC.retI rfl h
  · have h := h.2 (cmp_eq.2.mp c)
    refine PC.pr (k := 1) (pc' := 9) (lv' := [(0, .ref a0), (1, .int x1), (2, .int x2)]) (st' := [.ref a0]) rfl ?_
    refine PC.pr (k := 1) (pc' := 10) (lv' := [(0, .ref a0), (1, .int x1), (2, .int x2)]) (st' := [.int x2, .ref a0]) rfl ?_
    refine (PC.callI (j := 50) (args := [.ref a0, .int x2]) (rest := []) (M := cM50) (ty := .boolean) rfl rfl rfl rfl rfl rfl (by decide) rfl rfl (by decide) ?_).weak
    refine PC.imp h (fun v2 κ2 h r2 hv => ?_)
    have h := h r2 hv
    refine PC.if1 (t := 18) rfl rfl (fun c => ?_) (fun c => ?_)
    · have h := h.1 (cmp_ne.1.mp c)
      refine PC.pr (k := 1) (pc' := 19) (lv' := [(0, .ref a0), (1, .int x1), (2, .int x2)]) (st' := [.int 1]) rfl ?_
      refine PC.pr (k := 1) (pc' := 20) (lv' := [(0, .ref a0), (1, .int x1), (2, .int x2)]) (st' := [.ref a0, .int 1]) rfl ?_
      refine PC.gR (ci := 3) (j := 1) rfl rfl (by decide) ?_
      refine PC.pr (k := 1) (pc' := 24) (lv' := [(0, .ref a0), (1, .int x1), (2, .int x2)]) (st' := [.int x2, .ref (rf a0 1), .int 1]) rfl ?_
      refine PC.ra rfl (fun c1 c2 => ?_)
      have h := h c1 c2
      refine PC.gI (ci := 5) (j := 1) rfl rfl (by decide) ?_
      refine PC.pr (k := 1) (pc' := 29) (lv' := [(0, .ref a0), (1, .int x1), (2, .int x2)]) (st' := [.int 3, .int (κ2 (re (rf a0 1) x2.toNatClampNeg) 1), .int 1]) rfl ?_
      refine PC.pr (k := 1) (pc' := 30) (lv' := [(0, .ref a0), (1, .int x1), (2, .int x2)]) (st' := [.int ((κ2 (re (rf a0 1) x2.toNatClampNeg) 1) / 3), .int 1]) rfl ?_
      refine PC.pr (k := 1) (pc' := 31) (lv' := [(0, .ref a0), (1, .int x1), (2, .int x2)]) (st' := [.int (1 + ((κ2 (re (rf a0 1) x2.toNatClampNeg) 1) / 3))]) rfl ?_
      refine PC.pr (k := 1) (pc' := 32) (lv' := [(3, .int (1 + ((κ2 (re (rf a0 1) x2.toNatClampNeg) 1) / 3))), (0, .ref a0), (1, .int x1), (2, .int x2)]) (st' := []) rfl ?_
      refine PC.pr (k := 1) (pc' := 33) (lv' := [(3, .int (1 + ((κ2 (re (rf a0 1) x2.toNatClampNeg) 1) / 3))), (0, .ref a0), (1, .int x1), (2, .int x2)]) (st' := [.ref a0]) rfl ?_
      refine PC.gR (ci := 3) (j := 0) rfl rfl (by decide) ?_
      refine PC.pr (k := 1) (pc' := 37) (lv' := [(3, .int (1 + ((κ2 (re (rf a0 1) x2.toNatClampNeg) 1) / 3))), (0, .ref a0), (1, .int x1), (2, .int x2)]) (st' := [.int x1, .ref (rf a0 0)]) rfl ?_
      refine PC.ra rfl (fun c1 c2 => ?_)
      have h := h c1 c2
      refine PC.gI (ci := 4) (j := 0) rfl rfl (by decide) ?_
      refine PC.lsw rfl (fun o t ho ht => ?_)
      have ho : (if (1 : Int) = (κ2 (re (rf a0 0) x1.toNatClampNeg) 0).toInt then (29 : Int) else (if (2 : Int) = (κ2 (re (rf a0 0) x1.toNatClampNeg) 0).toInt then (27 : Int) else (33 : Int))) = o := ho
      by_cases e0 : (1 : Int) = (κ2 (re (rf a0 0) x1.toNatClampNeg) 0).toInt
      · rw [if_pos e0] at ho
        subst ho
        obtain rfl : 70 = t := Option.some.inj ht
        have h := h.1 e0.symm
        refine PC.pr (k := 1) (pc' := 71) (lv' := [(3, .int (1 + ((κ2 (re (rf a0 1) x2.toNatClampNeg) 1) / 3))), (0, .ref a0), (1, .int x1), (2, .int x2)]) (st' := [.int 2]) rfl ?_
        refine PC.pr (k := 1) (pc' := 72) (lv' := [(3, .int (1 + ((κ2 (re (rf a0 1) x2.toNatClampNeg) 1) / 3))), (0, .ref a0), (1, .int x1), (2, .int x2)]) (st' := [.int (1 + ((κ2 (re (rf a0 1) x2.toNatClampNeg) 1) / 3)), .int 2]) rfl ?_
        refine PC.pr (k := 1) (pc' := 73) (lv' := [(3, .int (1 + ((κ2 (re (rf a0 1) x2.toNatClampNeg) 1) / 3))), (0, .ref a0), (1, .int x1), (2, .int x2)]) (st' := [.int (2 * (1 + ((κ2 (re (rf a0 1) x2.toNatClampNeg) 1) / 3)))]) rfl ?_
        exact PC.retI rfl h
      · rw [if_neg e0] at ho
        by_cases e1 : (2 : Int) = (κ2 (re (rf a0 0) x1.toNatClampNeg) 0).toInt
        · rw [if_pos e1] at ho
          subst ho
          obtain rfl : 68 = t := Option.some.inj ht
          have h := h.2.1 e1.symm
          refine PC.pr (k := 1) (pc' := 69) (lv' := [(3, .int (1 + ((κ2 (re (rf a0 1) x2.toNatClampNeg) 1) / 3))), (0, .ref a0), (1, .int x1), (2, .int x2)]) (st' := [.int 0]) rfl ?_
          exact PC.retI rfl h
        · rw [if_neg e1] at ho
          subst ho
          obtain rfl : 74 = t := Option.some.inj ht
          have h := h.2.2 ⟨fun q => e0 q.symm, fun q => e1 q.symm⟩
          refine PC.pr (k := 1) (pc' := 75) (lv' := [(3, .int (1 + ((κ2 (re (rf a0 1) x2.toNatClampNeg) 1) / 3))), (0, .ref a0), (1, .int x1), (2, .int x2)]) (st' := [.int (1 + ((κ2 (re (rf a0 1) x2.toNatClampNeg) 1) / 3))]) rfl ?_
          exact PC.retI rfl h
    · have h := h.2 (cmp_ne.2.mp c)
      refine PC.pr (k := 1) (pc' := 17) (lv' := [(0, .ref a0), (1, .int x1), (2, .int x2)]) (st' := [.int (-1)]) rfl ?_
      exact PC.retI rfl h

/-- DoorPaints.visit(II)I -/
theorem t_69_0 {xl : List Int32} {n : Nat} {ι : IS} {Q : Option Value → IS → Prop} {a0 : Nat} {x1 : Int32} {x2 : Int32} (h : PC xl n 70 0 [(0, .ref (rf (rf a0 2) 0)), (1, .int x1), (2, .int x2)] [] ι (fun v1 κ1 => ∀ r1, v1 = some (.int r1) → Q (some (.int r1)) κ1)) : PC xl (n + 1) 69 0 [(0, .ref a0), (1, .int x1), (2, .int x2)] [] ι Q := by
  refine PC.pr1 (k := 0) (pc' := 1) (lv' := [(0, .ref a0), (1, .int x1), (2, .int x2)]) (st' := [.ref a0]) rfl ?_
  refine PC.gR (ci := 0) (j := 2) rfl rfl (by decide) ?_
  refine PC.gR (ci := 2) (j := 0) rfl rfl (by decide) ?_
  refine PC.pr (k := 1) (pc' := 8) (lv' := [(0, .ref a0), (1, .int x1), (2, .int x2)]) (st' := [.int x1, .ref (rf (rf a0 2) 0)]) rfl ?_
  refine PC.pr (k := 1) (pc' := 9) (lv' := [(0, .ref a0), (1, .int x1), (2, .int x2)]) (st' := [.int x2, .int x1, .ref (rf (rf a0 2) 0)]) rfl ?_
  refine (PC.callI (j := 70) (args := [.ref (rf (rf a0 2) 0), .int x1, .int x2]) (rest := []) (M := cM70) (ty := .int) rfl rfl rfl rfl rfl rfl (by decide) rfl rfl (by decide) ?_).weak
  refine PC.imp h (fun v1 κ1 h r1 hv => ?_)
  have h := h r1 hv
  exact PC.retI rfl h

/-- DoorPaints$Town.receive(II)I -/
theorem t_70_0 {xl : List Int32} {n : Nat} {ι : IS} {Q : Option Value → IS → Prop} {a0 : Nat} {x1 : Int32} {x2 : Int32} (h : PC xl n 68 0 [(0, .ref a0), (1, .int x1), (2, .int x2)] [] ι (fun v1 κ1 => ∀ r1, v1 = some (.int r1) → ((¬ r1 = (-1) → (0 ≤ x1.toInt → x1.toInt < lr (rf a0 0) → (0 ≤ x2.toInt → x2.toInt < lr (rf a0 1) → ((¬ (κ1 (re (rf a0 0) x1.toNatClampNeg) 2) < r1 → (((κ1 (re (rf a0 0) x1.toNatClampNeg) 0) = 2 → PC xl n 70 62 [(0, .ref a0), (1, .int x1), (2, .int x2), (3, .int r1), (4, .ref (re (rf a0 0) x1.toNatClampNeg)), (5, .ref (re (rf a0 1) x2.toNatClampNeg))] [] κ1 Q) ∧ (¬ (κ1 (re (rf a0 0) x1.toNatClampNeg) 0) = 2 → PC xl n 71 0 [(0, .ref (re (rf a0 1) x2.toNatClampNeg))] [] κ1 (fun v2 κ2 => ∀ r2, v2 = some (.int r2) → ((r2 = 0 → PC xl n 70 62 [(0, .ref a0), (1, .int x1), (2, .int x2), (3, .int r1), (4, .ref (re (rf a0 0) x1.toNatClampNeg)), (5, .ref (re (rf a0 1) x2.toNatClampNeg))] [] κ2 Q) ∧ (¬ r2 = 0 → Q (some (.int (-3))) κ2)))))) ∧ ((κ1 (re (rf a0 0) x1.toNatClampNeg) 2) < r1 → Q (some (.int (-2))) κ1))))) ∧ (r1 = (-1) → Q (some (.int (-1))) κ1)))) : PC xl (n + 1) 70 0 [(0, .ref a0), (1, .int x1), (2, .int x2)] [] ι Q := by
  refine PC.pr1 (k := 0) (pc' := 1) (lv' := [(0, .ref a0), (1, .int x1), (2, .int x2)]) (st' := [.ref a0]) rfl ?_
  refine PC.pr (k := 1) (pc' := 2) (lv' := [(0, .ref a0), (1, .int x1), (2, .int x2)]) (st' := [.int x1, .ref a0]) rfl ?_
  refine PC.pr (k := 1) (pc' := 3) (lv' := [(0, .ref a0), (1, .int x1), (2, .int x2)]) (st' := [.int x2, .int x1, .ref a0]) rfl ?_
  refine (PC.callI (j := 68) (args := [.ref a0, .int x1, .int x2]) (rest := []) (M := cM68) (ty := .int) rfl rfl rfl rfl rfl rfl (by decide) rfl rfl (by decide) ?_).weak
  refine PC.imp h (fun v1 κ1 h r1 hv => ?_)
  have h := h r1 hv
  refine PC.pr (k := 1) (pc' := 7) (lv' := [(3, .int r1), (0, .ref a0), (1, .int x1), (2, .int x2)]) (st' := []) rfl ?_
  refine PC.pr (k := 1) (pc' := 8) (lv' := [(3, .int r1), (0, .ref a0), (1, .int x1), (2, .int x2)]) (st' := [.int r1]) rfl ?_
  refine PC.pr (k := 1) (pc' := 9) (lv' := [(3, .int r1), (0, .ref a0), (1, .int x1), (2, .int x2)]) (st' := [.int (-1), .int r1]) rfl ?_
  refine PC.if2 (t := 14) rfl rfl (fun c => ?_) (fun c => ?_)
  · have h := h.1 (cmp_ne.1.mp c)
    refine PC.pr (k := 1) (pc' := 15) (lv' := [(3, .int r1), (0, .ref a0), (1, .int x1), (2, .int x2)]) (st' := [.ref a0]) rfl ?_
    refine PC.gR (ci := 3) (j := 0) rfl rfl (by decide) ?_
    refine PC.pr (k := 1) (pc' := 19) (lv' := [(3, .int r1), (0, .ref a0), (1, .int x1), (2, .int x2)]) (st' := [.int x1, .ref (rf a0 0)]) rfl ?_
    refine PC.ra rfl (fun c1 c2 => ?_)
    have h := h c1 c2
    refine PC.pr (k := 1) (pc' := 22) (lv' := [(4, .ref (re (rf a0 0) x1.toNatClampNeg)), (3, .int r1), (0, .ref a0), (1, .int x1), (2, .int x2)]) (st' := []) rfl ?_
    refine PC.pr (k := 1) (pc' := 23) (lv' := [(4, .ref (re (rf a0 0) x1.toNatClampNeg)), (3, .int r1), (0, .ref a0), (1, .int x1), (2, .int x2)]) (st' := [.ref a0]) rfl ?_
    refine PC.gR (ci := 3) (j := 1) rfl rfl (by decide) ?_
    refine PC.pr (k := 1) (pc' := 27) (lv' := [(4, .ref (re (rf a0 0) x1.toNatClampNeg)), (3, .int r1), (0, .ref a0), (1, .int x1), (2, .int x2)]) (st' := [.int x2, .ref (rf a0 1)]) rfl ?_
    refine PC.ra rfl (fun c1 c2 => ?_)
    have h := h c1 c2
    refine PC.pr (k := 1) (pc' := 30) (lv' := [(5, .ref (re (rf a0 1) x2.toNatClampNeg)), (4, .ref (re (rf a0 0) x1.toNatClampNeg)), (3, .int r1), (0, .ref a0), (1, .int x1), (2, .int x2)]) (st' := []) rfl ?_
    refine PC.pr (k := 1) (pc' := 32) (lv' := [(5, .ref (re (rf a0 1) x2.toNatClampNeg)), (4, .ref (re (rf a0 0) x1.toNatClampNeg)), (3, .int r1), (0, .ref a0), (1, .int x1), (2, .int x2)]) (st' := [.ref (re (rf a0 0) x1.toNatClampNeg)]) rfl ?_
    refine PC.gI (ci := 4) (j := 2) rfl rfl (by decide) ?_
    refine PC.pr (k := 1) (pc' := 36) (lv' := [(5, .ref (re (rf a0 1) x2.toNatClampNeg)), (4, .ref (re (rf a0 0) x1.toNatClampNeg)), (3, .int r1), (0, .ref a0), (1, .int x1), (2, .int x2)]) (st' := [.int r1, .int (κ1 (re (rf a0 0) x1.toNatClampNeg) 2)]) rfl ?_
    refine PC.if2 (t := 42) rfl rfl (fun c => ?_) (fun c => ?_)
    · have h := h.1 (cmp_ge.1.mp c)
      refine PC.pr (k := 1) (pc' := 44) (lv' := [(5, .ref (re (rf a0 1) x2.toNatClampNeg)), (4, .ref (re (rf a0 0) x1.toNatClampNeg)), (3, .int r1), (0, .ref a0), (1, .int x1), (2, .int x2)]) (st' := [.ref (re (rf a0 0) x1.toNatClampNeg)]) rfl ?_
      refine PC.gI (ci := 4) (j := 0) rfl rfl (by decide) ?_
      refine PC.pr (k := 1) (pc' := 48) (lv' := [(5, .ref (re (rf a0 1) x2.toNatClampNeg)), (4, .ref (re (rf a0 0) x1.toNatClampNeg)), (3, .int r1), (0, .ref a0), (1, .int x1), (2, .int x2)]) (st' := [.int 2, .int (κ1 (re (rf a0 0) x1.toNatClampNeg) 0)]) rfl ?_
      refine PC.if2 (t := 62) rfl rfl (fun c => ?_) (fun c => ?_)
      · have h := h.1 (cmp_eq.1.mp c)
        exact PC.lv (lvE.cons rfl (lvE.cons rfl (lvE.cons rfl (lvE.cons rfl (lvE.cons rfl (lvE.cons rfl (lvE.nil))))))) h
      · have h := h.2 (cmp_eq.2.mp c)
        refine PC.pr (k := 1) (pc' := 53) (lv' := [(5, .ref (re (rf a0 1) x2.toNatClampNeg)), (4, .ref (re (rf a0 0) x1.toNatClampNeg)), (3, .int r1), (0, .ref a0), (1, .int x1), (2, .int x2)]) (st' := [.ref (re (rf a0 1) x2.toNatClampNeg)]) rfl ?_
        refine (PC.callI (j := 71) (args := [.ref (re (rf a0 1) x2.toNatClampNeg)]) (rest := []) (M := cM71) (ty := .boolean) rfl rfl rfl rfl rfl rfl (by decide) rfl rfl (by decide) ?_).weak
        refine PC.imp h (fun v2 κ2 h r2 hv => ?_)
        have h := h r2 hv
        refine PC.if1 (t := 62) rfl rfl (fun c => ?_) (fun c => ?_)
        · have h := h.1 (cmp_eq.1.mp c)
          exact PC.lv (lvE.cons rfl (lvE.cons rfl (lvE.cons rfl (lvE.cons rfl (lvE.cons rfl (lvE.cons rfl (lvE.nil))))))) h
        · have h := h.2 (cmp_eq.2.mp c)
          refine PC.pr (k := 1) (pc' := 61) (lv' := [(5, .ref (re (rf a0 1) x2.toNatClampNeg)), (4, .ref (re (rf a0 0) x1.toNatClampNeg)), (3, .int r1), (0, .ref a0), (1, .int x1), (2, .int x2)]) (st' := [.int (-3)]) rfl ?_
          exact PC.retI rfl h
    · have h := h.2 (cmp_ge.2.mp c)
      refine PC.pr (k := 1) (pc' := 41) (lv' := [(5, .ref (re (rf a0 1) x2.toNatClampNeg)), (4, .ref (re (rf a0 0) x1.toNatClampNeg)), (3, .int r1), (0, .ref a0), (1, .int x1), (2, .int x2)]) (st' := [.int (-2)]) rfl ?_
      exact PC.retI rfl h
  · have h := h.2 (cmp_ne.2.mp c)
    refine PC.pr (k := 1) (pc' := 13) (lv' := [(3, .int r1), (0, .ref a0), (1, .int x1), (2, .int x2)]) (st' := [.int (-1)]) rfl ?_
    exact PC.retI rfl h
theorem t_70_62 {xl : List Int32} {n : Nat} {ι : IS} {Q : Option Value → IS → Prop} {a0 : Nat} {x1 : Int32} {w2 : Value} {x3 : Int32} {a4 : Nat} {a5 : Nat} (h : ((((up ι a4 2 ((ι a4 2) - x3)) a5 3) = 0 → PC xl n 70 91 [(0, .ref a0), (1, .int x1), (2, w2), (3, .int x3), (4, .ref a4), (5, .ref a5)] [] (up ι a4 2 ((ι a4 2) - x3)) Q) ∧ (¬ ((up ι a4 2 ((ι a4 2) - x3)) a5 3) = 0 → PC xl n 60 0 [(0, .ref a5)] [] (up ι a4 2 ((ι a4 2) - x3)) (fun v1 κ1 => ∀ r1, v1 = some (.int r1) → PC xl n 72 0 [(0, .ref a4), (1, .int r1)] [] κ1 (fun _ κ2 => PC xl n 70 91 [(0, .ref a0), (1, .int x1), (2, w2), (3, .int x3), (4, .ref a4), (5, .ref a5)] [] κ2 Q))))) : PC xl (n + 1) 70 62 [(0, .ref a0), (1, .int x1), (2, w2), (3, .int x3), (4, .ref a4), (5, .ref a5)] [] ι Q := by
  refine PC.pr1 (k := 0) (pc' := 64) (lv' := [(0, .ref a0), (1, .int x1), (2, w2), (3, .int x3), (4, .ref a4), (5, .ref a5)]) (st' := [.ref a4]) rfl ?_
  refine PC.pr (k := 1) (pc' := 65) (lv' := [(0, .ref a0), (1, .int x1), (2, w2), (3, .int x3), (4, .ref a4), (5, .ref a5)]) (st' := [.ref a4, .ref a4]) rfl ?_
  refine PC.gI (ci := 4) (j := 2) rfl rfl (by decide) ?_
  refine PC.pr (k := 1) (pc' := 69) (lv' := [(0, .ref a0), (1, .int x1), (2, w2), (3, .int x3), (4, .ref a4), (5, .ref a5)]) (st' := [.int x3, .int (ι a4 2), .ref a4]) rfl ?_
  refine PC.pr (k := 1) (pc' := 70) (lv' := [(0, .ref a0), (1, .int x1), (2, w2), (3, .int x3), (4, .ref a4), (5, .ref a5)]) (st' := [.int ((ι a4 2) - x3), .ref a4]) rfl ?_
  refine PC.pI (ci := 4) (j := 2) rfl rfl ?_
  refine PC.pr (k := 1) (pc' := 75) (lv' := [(0, .ref a0), (1, .int x1), (2, w2), (3, .int x3), (4, .ref a4), (5, .ref a5)]) (st' := [.ref a5]) rfl ?_
  refine PC.gI (ci := 5) (j := 3) rfl rfl (by decide) ?_
  refine PC.if1 (t := 91) rfl rfl (fun c => ?_) (fun c => ?_)
  · have h := h.1 (cmp_eq.1.mp c)
    exact h
  · have h := h.2 (cmp_eq.2.mp c)
    refine PC.pr (k := 1) (pc' := 83) (lv' := [(0, .ref a0), (1, .int x1), (2, w2), (3, .int x3), (4, .ref a4), (5, .ref a5)]) (st' := [.ref a4]) rfl ?_
    refine PC.pr (k := 1) (pc' := 85) (lv' := [(0, .ref a0), (1, .int x1), (2, w2), (3, .int x3), (4, .ref a4), (5, .ref a5)]) (st' := [.ref a5, .ref a4]) rfl ?_
    refine (PC.callI (j := 60) (args := [.ref a5]) (rest := [.ref a4]) (M := cM60) (ty := .int) rfl rfl rfl rfl rfl rfl (by decide) rfl rfl (by decide) ?_).weak
    refine PC.imp h (fun v1 κ1 h r1 hv => ?_)
    have h := h r1 hv
    refine (PC.callV (j := 72) (args := [.ref a4, .int r1]) (rest := []) (M := cM72) rfl rfl rfl rfl rfl rfl (by decide) rfl rfl ?_).weak
    refine PC.imp h (fun _ κ2 h => ?_)
    exact h
theorem t_70_91 {xl : List Int32} {n : Nat} {ι : IS} {Q : Option Value → IS → Prop} {a0 : Nat} {x1 : Int32} {w2 : Value} {w3 : Value} {a4 : Nat} {a5 : Nat} (h : (((ι a4 0) = 2 → PC xl n 60 0 [(0, .ref a5)] [] ι (fun v1 κ1 => ∀ r1, v1 = some (.int r1) → Q (some (.int r1)) κ1)) ∧ (¬ (ι a4 0) = 2 → PC xl n 63 0 [(0, .ref a0), (1, .int x1)] [] ι (fun v2 κ2 => ∀ r2, v2 = some (.int r2) → PC xl n 74 0 [(0, .ref a5), (1, .int r2)] [] κ2 (fun _ κ3 => PC xl n 60 0 [(0, .ref a5)] [] κ3 (fun v4 κ4 => ∀ r4, v4 = some (.int r4) → Q (some (.int r4)) κ4)))))) : PC xl (n + 1) 70 91 [(0, .ref a0), (1, .int x1), (2, w2), (3, w3), (4, .ref a4), (5, .ref a5)] [] ι Q := by
  refine PC.pr1 (k := 0) (pc' := 93) (lv' := [(0, .ref a0), (1, .int x1), (2, w2), (3, w3), (4, .ref a4), (5, .ref a5)]) (st' := [.ref a4]) rfl ?_
  refine PC.gI (ci := 4) (j := 0) rfl rfl (by decide) ?_
  refine PC.pr (k := 1) (pc' := 97) (lv' := [(0, .ref a0), (1, .int x1), (2, w2), (3, w3), (4, .ref a4), (5, .ref a5)]) (st' := [.int 2, .int (ι a4 0)]) rfl ?_
  refine PC.if2 (t := 110) rfl rfl (fun c => ?_) (fun c => ?_)
  · have h := h.1 (cmp_eq.1.mp c)
    refine PC.pr (k := 1) (pc' := 112) (lv' := [(0, .ref a0), (1, .int x1), (2, w2), (3, w3), (4, .ref a4), (5, .ref a5)]) (st' := [.ref a5]) rfl ?_
    refine (PC.callI (j := 60) (args := [.ref a5]) (rest := []) (M := cM60) (ty := .int) rfl rfl rfl rfl rfl rfl (by decide) rfl rfl (by decide) ?_).weak
    refine PC.imp h (fun v1 κ1 h r1 hv => ?_)
    have h := h r1 hv
    exact PC.retI rfl h
  · have h := h.2 (cmp_eq.2.mp c)
    refine PC.pr (k := 1) (pc' := 102) (lv' := [(0, .ref a0), (1, .int x1), (2, w2), (3, w3), (4, .ref a4), (5, .ref a5)]) (st' := [.ref a5]) rfl ?_
    refine PC.pr (k := 1) (pc' := 103) (lv' := [(0, .ref a0), (1, .int x1), (2, w2), (3, w3), (4, .ref a4), (5, .ref a5)]) (st' := [.ref a0, .ref a5]) rfl ?_
    refine PC.pr (k := 1) (pc' := 104) (lv' := [(0, .ref a0), (1, .int x1), (2, w2), (3, w3), (4, .ref a4), (5, .ref a5)]) (st' := [.int x1, .ref a0, .ref a5]) rfl ?_
    refine (PC.callI (j := 63) (args := [.ref a0, .int x1]) (rest := [.ref a5]) (M := cM63) (ty := .int) rfl rfl rfl rfl rfl rfl (by decide) rfl rfl (by decide) ?_).weak
    refine PC.imp h (fun v2 κ2 h r2 hv => ?_)
    have h := h r2 hv
    refine (PC.callV (j := 74) (args := [.ref a5, .int r2]) (rest := []) (M := cM74) rfl rfl rfl rfl rfl rfl (by decide) rfl rfl ?_).weak
    refine PC.imp h (fun _ κ3 h => ?_)
    refine PC.pr (k := 1) (pc' := 112) (lv' := [(0, .ref a0), (1, .int x1), (2, w2), (3, w3), (4, .ref a4), (5, .ref a5)]) (st' := [.ref a5]) rfl ?_
    refine (PC.callI (j := 60) (args := [.ref a5]) (rest := []) (M := cM60) (ty := .int) rfl rfl rfl rfl rfl rfl (by decide) rfl rfl (by decide) ?_).weak
    refine PC.imp h (fun v4 κ4 h r4 hv => ?_)
    have h := h r4 hv
    exact PC.retI rfl h

/-- DoorPaints$Door.takesNoLayer()Z -/
theorem t_71_0 {xl : List Int32} {n : Nat} {ι : IS} {Q : Option Value → IS → Prop} {a0 : Nat} (h : (((ι a0 1) < 6 → Q (some (.int 0)) ι) ∧ (¬ (ι a0 1) < 6 → ((¬ (ι a0 3) = 0 → Q (some (.int 0)) ι) ∧ ((ι a0 3) = 0 → Q (some (.int 1)) ι))))) : PC xl (n + 1) 71 0 [(0, .ref a0)] [] ι Q := by
  refine PC.pr1 (k := 0) (pc' := 1) (lv' := [(0, .ref a0)]) (st' := [.ref a0]) rfl ?_
  refine PC.gI (ci := 5) (j := 1) rfl rfl (by decide) ?_
  refine PC.pr (k := 1) (pc' := 6) (lv' := [(0, .ref a0)]) (st' := [.int 6, .int (ι a0 1)]) rfl ?_
  refine PC.if2 (t := 20) rfl rfl (fun c => ?_) (fun c => ?_)
  · have h := h.1 (cmp_lt.1.mp c)
    refine PC.pr (k := 1) (pc' := 21) (lv' := [(0, .ref a0)]) (st' := [.int 0]) rfl ?_
    exact PC.retI rfl h
  · have h := h.2 (cmp_lt.2.mp c)
    refine PC.pr (k := 1) (pc' := 10) (lv' := [(0, .ref a0)]) (st' := [.ref a0]) rfl ?_
    refine PC.gI (ci := 5) (j := 3) rfl rfl (by decide) ?_
    refine PC.if1 (t := 20) rfl rfl (fun c => ?_) (fun c => ?_)
    · have h := h.1 (cmp_ne.1.mp c)
      refine PC.pr (k := 1) (pc' := 21) (lv' := [(0, .ref a0)]) (st' := [.int 0]) rfl ?_
      exact PC.retI rfl h
    · have h := h.2 (cmp_ne.2.mp c)
      refine PC.pr (k := 1) (pc' := 17) (lv' := [(0, .ref a0)]) (st' := [.int 1]) rfl ?_
      refine PC.pr (k := 1) (pc' := 21) (lv' := [(0, .ref a0)]) (st' := [.int 1]) rfl ?_
      exact PC.retI rfl h

/-- DoorPaints$Visitor.markSleeve(I)V -/
theorem t_72_0 {xl : List Int32} {n : Nat} {ι : IS} {Q : Option Value → IS → Prop} {a0 : Nat} {x1 : Int32} (h : PC xl n 73 0 [(0, .int x1)] [] ι (fun v1 κ1 => ∀ r1, v1 = some (.int r1) → ((r1 = 0 → Q none κ1) ∧ (¬ r1 = 0 → Q none (up κ1 a0 3 ((κ1 a0 3) ||| (1 <<< (x1 &&& 31)))))))) : PC xl (n + 1) 72 0 [(0, .ref a0), (1, .int x1)] [] ι Q := by
  refine PC.pr1 (k := 0) (pc' := 1) (lv' := [(0, .ref a0), (1, .int x1)]) (st' := [.int x1]) rfl ?_
  refine (PC.callI (j := 73) (args := [.int x1]) (rest := []) (M := cM73) (ty := .boolean) rfl rfl rfl rfl rfl rfl (by decide) rfl rfl (by decide) ?_).weak
  refine PC.imp h (fun v1 κ1 h r1 hv => ?_)
  have h := h r1 hv
  refine PC.if1 (t := 19) rfl rfl (fun c => ?_) (fun c => ?_)
  · have h := h.1 (cmp_eq.1.mp c)
    exact PC.retV rfl h
  · have h := h.2 (cmp_eq.2.mp c)
    refine PC.pr (k := 1) (pc' := 8) (lv' := [(0, .ref a0), (1, .int x1)]) (st' := [.ref a0]) rfl ?_
    refine PC.pr (k := 1) (pc' := 9) (lv' := [(0, .ref a0), (1, .int x1)]) (st' := [.ref a0, .ref a0]) rfl ?_
    refine PC.gI (ci := 4) (j := 3) rfl rfl (by decide) ?_
    refine PC.pr (k := 1) (pc' := 13) (lv' := [(0, .ref a0), (1, .int x1)]) (st' := [.int 1, .int (κ1 a0 3), .ref a0]) rfl ?_
    refine PC.pr (k := 1) (pc' := 14) (lv' := [(0, .ref a0), (1, .int x1)]) (st' := [.int x1, .int 1, .int (κ1 a0 3), .ref a0]) rfl ?_
    refine PC.pr (k := 1) (pc' := 15) (lv' := [(0, .ref a0), (1, .int x1)]) (st' := [.int (1 <<< (x1 &&& 31)), .int (κ1 a0 3), .ref a0]) rfl ?_
    refine PC.pr (k := 1) (pc' := 16) (lv' := [(0, .ref a0), (1, .int x1)]) (st' := [.int ((κ1 a0 3) ||| (1 <<< (x1 &&& 31))), .ref a0]) rfl ?_
    refine PC.pI (ci := 4) (j := 3) rfl rfl ?_
    exact PC.retV rfl h

/-- DoorPaints.isColour(I)Z -/
theorem t_73_0 {xl : List Int32} {n : Nat} {ι : IS} {Q : Option Value → IS → Prop} {x0 : Int32} (h : ((x0 < 0 → Q (some (.int 0)) ι) ∧ (¬ x0 < 0 → ((¬ x0 < 6 → Q (some (.int 0)) ι) ∧ (x0 < 6 → Q (some (.int 1)) ι))))) : PC xl (n + 1) 73 0 [(0, .int x0)] [] ι Q := by
  refine PC.pr1 (k := 0) (pc' := 1) (lv' := [(0, .int x0)]) (st' := [.int x0]) rfl ?_
  refine PC.if1 (t := 14) rfl rfl (fun c => ?_) (fun c => ?_)
  · have h := h.1 (cmp_lt.1.mp c)
    refine PC.pr (k := 1) (pc' := 15) (lv' := [(0, .int x0)]) (st' := [.int 0]) rfl ?_
    exact PC.retI rfl h
  · have h := h.2 (cmp_lt.2.mp c)
    refine PC.pr (k := 1) (pc' := 5) (lv' := [(0, .int x0)]) (st' := [.int x0]) rfl ?_
    refine PC.pr (k := 1) (pc' := 7) (lv' := [(0, .int x0)]) (st' := [.int 6, .int x0]) rfl ?_
    refine PC.if2 (t := 14) rfl rfl (fun c => ?_) (fun c => ?_)
    · have h := h.1 (cmp_ge.1.mp c)
      refine PC.pr (k := 1) (pc' := 15) (lv' := [(0, .int x0)]) (st' := [.int 0]) rfl ?_
      exact PC.retI rfl h
    · have h := h.2 (cmp_ge.2.mp c)
      refine PC.pr (k := 1) (pc' := 11) (lv' := [(0, .int x0)]) (st' := [.int 1]) rfl ?_
      refine PC.pr (k := 1) (pc' := 15) (lv' := [(0, .int x0)]) (st' := [.int 1]) rfl ?_
      exact PC.retI rfl h

/-- DoorPaints$Door.paintWith(I)V -/
theorem t_74_0 {xl : List Int32} {n : Nat} {ι : IS} {Q : Option Value → IS → Prop} {a0 : Nat} {x1 : Int32} (h : PC xl n 60 0 [(0, .ref a0)] [] ι (fun v1 κ1 => ∀ r1, v1 = some (.int r1) → (((κ1 a0 3) = 0 → PC xl n 35 0 [(0, .ref a0), (1, .int x1)] [] κ1 (fun v2 κ2 => ∀ r2, v2 = some (.int r2) → Q none (up κ2 a0 3 1))) ∧ (¬ (κ1 a0 3) = 0 → ((r1 = (-4) → PC xl n 35 0 [(0, .ref a0), (1, .int x1)] [] κ1 (fun v3 κ3 => ∀ r3, v3 = some (.int r3) → Q none (up κ3 a0 3 1))) ∧ (¬ r1 = (-4) → (0 ≤ ((κ1 a0 1) - 1).toInt → ((κ1 a0 1) - 1).toInt < ln (rf a0 0) → Q none (up (up κ1 (rf a0 0) ((κ1 a0 1) - 1).toNatClampNeg ((r1 + x1) - (r1 + x1) / 6 * 6)) a0 3 1)))))))) : PC xl (n + 1) 74 0 [(0, .ref a0), (1, .int x1)] [] ι Q := by
  refine PC.pr1 (k := 0) (pc' := 1) (lv' := [(0, .ref a0), (1, .int x1)]) (st' := [.ref a0]) rfl ?_
  refine (PC.callI (j := 60) (args := [.ref a0]) (rest := []) (M := cM60) (ty := .int) rfl rfl rfl rfl rfl rfl (by decide) rfl rfl (by decide) ?_).weak
  refine PC.imp h (fun v1 κ1 h r1 hv => ?_)
  have h := h r1 hv
  refine PC.pr (k := 1) (pc' := 5) (lv' := [(2, .int r1), (0, .ref a0), (1, .int x1)]) (st' := []) rfl ?_
  refine PC.pr (k := 1) (pc' := 6) (lv' := [(2, .int r1), (0, .ref a0), (1, .int x1)]) (st' := [.ref a0]) rfl ?_
  refine PC.gI (ci := 5) (j := 3) rfl rfl (by decide) ?_
  refine PC.if1 (t := 38) rfl rfl (fun c => ?_) (fun c => ?_)
  · have h := h.1 (cmp_eq.1.mp c)
    refine PC.pr (k := 1) (pc' := 39) (lv' := [(2, .int r1), (0, .ref a0), (1, .int x1)]) (st' := [.ref a0]) rfl ?_
    refine PC.pr (k := 1) (pc' := 40) (lv' := [(2, .int r1), (0, .ref a0), (1, .int x1)]) (st' := [.int x1, .ref a0]) rfl ?_
    refine (PC.callI (j := 35) (args := [.ref a0, .int x1]) (rest := []) (M := cM35) (ty := .boolean) rfl rfl rfl rfl rfl rfl (by decide) rfl rfl (by decide) ?_).weak
    refine PC.imp h (fun v2 κ2 h r2 hv => ?_)
    have h := h r2 hv
    refine PC.pr (k := 1) (pc' := 44) (lv' := [(2, .int r1), (0, .ref a0), (1, .int x1)]) (st' := []) rfl ?_
    refine PC.pr (k := 1) (pc' := 45) (lv' := [(2, .int r1), (0, .ref a0), (1, .int x1)]) (st' := [.ref a0]) rfl ?_
    refine PC.pr (k := 1) (pc' := 46) (lv' := [(2, .int r1), (0, .ref a0), (1, .int x1)]) (st' := [.int 1, .ref a0]) rfl ?_
    refine PC.pI (ci := 5) (j := 3) rfl rfl ?_
    exact PC.retV rfl h
  · have h := h.2 (cmp_eq.2.mp c)
    refine PC.pr (k := 1) (pc' := 13) (lv' := [(2, .int r1), (0, .ref a0), (1, .int x1)]) (st' := [.int r1]) rfl ?_
    refine PC.pr (k := 1) (pc' := 15) (lv' := [(2, .int r1), (0, .ref a0), (1, .int x1)]) (st' := [.int (-4), .int r1]) rfl ?_
    refine PC.if2 (t := 38) rfl rfl (fun c => ?_) (fun c => ?_)
    · have h := h.1 (cmp_eq.1.mp c)
      refine PC.pr (k := 1) (pc' := 39) (lv' := [(2, .int r1), (0, .ref a0), (1, .int x1)]) (st' := [.ref a0]) rfl ?_
      refine PC.pr (k := 1) (pc' := 40) (lv' := [(2, .int r1), (0, .ref a0), (1, .int x1)]) (st' := [.int x1, .ref a0]) rfl ?_
      refine (PC.callI (j := 35) (args := [.ref a0, .int x1]) (rest := []) (M := cM35) (ty := .boolean) rfl rfl rfl rfl rfl rfl (by decide) rfl rfl (by decide) ?_).weak
      refine PC.imp h (fun v3 κ3 h r3 hv => ?_)
      have h := h r3 hv
      refine PC.pr (k := 1) (pc' := 44) (lv' := [(2, .int r1), (0, .ref a0), (1, .int x1)]) (st' := []) rfl ?_
      refine PC.pr (k := 1) (pc' := 45) (lv' := [(2, .int r1), (0, .ref a0), (1, .int x1)]) (st' := [.ref a0]) rfl ?_
      refine PC.pr (k := 1) (pc' := 46) (lv' := [(2, .int r1), (0, .ref a0), (1, .int x1)]) (st' := [.int 1, .ref a0]) rfl ?_
      refine PC.pI (ci := 5) (j := 3) rfl rfl ?_
      exact PC.retV rfl h
    · have h := h.2 (cmp_eq.2.mp c)
      refine PC.pr (k := 1) (pc' := 19) (lv' := [(2, .int r1), (0, .ref a0), (1, .int x1)]) (st' := [.ref a0]) rfl ?_
      refine PC.gR (ci := 5) (j := 0) rfl rfl (by decide) ?_
      refine PC.pr (k := 1) (pc' := 23) (lv' := [(2, .int r1), (0, .ref a0), (1, .int x1)]) (st' := [.ref a0, .ref (rf a0 0)]) rfl ?_
      refine PC.gI (ci := 5) (j := 1) rfl rfl (by decide) ?_
      refine PC.pr (k := 1) (pc' := 27) (lv' := [(2, .int r1), (0, .ref a0), (1, .int x1)]) (st' := [.int 1, .int (κ1 a0 1), .ref (rf a0 0)]) rfl ?_
      refine PC.pr (k := 1) (pc' := 28) (lv' := [(2, .int r1), (0, .ref a0), (1, .int x1)]) (st' := [.int ((κ1 a0 1) - 1), .ref (rf a0 0)]) rfl ?_
      refine PC.pr (k := 1) (pc' := 29) (lv' := [(2, .int r1), (0, .ref a0), (1, .int x1)]) (st' := [.int r1, .int ((κ1 a0 1) - 1), .ref (rf a0 0)]) rfl ?_
      refine PC.pr (k := 1) (pc' := 30) (lv' := [(2, .int r1), (0, .ref a0), (1, .int x1)]) (st' := [.int x1, .int r1, .int ((κ1 a0 1) - 1), .ref (rf a0 0)]) rfl ?_
      refine PC.pr (k := 1) (pc' := 31) (lv' := [(2, .int r1), (0, .ref a0), (1, .int x1)]) (st' := [.int (r1 + x1), .int ((κ1 a0 1) - 1), .ref (rf a0 0)]) rfl ?_
      refine PC.pr (k := 1) (pc' := 33) (lv' := [(2, .int r1), (0, .ref a0), (1, .int x1)]) (st' := [.int 6, .int (r1 + x1), .int ((κ1 a0 1) - 1), .ref (rf a0 0)]) rfl ?_
      refine PC.pr (k := 1) (pc' := 34) (lv' := [(2, .int r1), (0, .ref a0), (1, .int x1)]) (st' := [.int ((r1 + x1) - (r1 + x1) / 6 * 6), .int ((κ1 a0 1) - 1), .ref (rf a0 0)]) rfl ?_
      refine PC.wI rfl (fun c1 c2 => ?_)
      have h := h c1 c2
      refine PC.pr (k := 1) (pc' := 44) (lv' := [(2, .int r1), (0, .ref a0), (1, .int x1)]) (st' := []) rfl ?_
      refine PC.pr (k := 1) (pc' := 45) (lv' := [(2, .int r1), (0, .ref a0), (1, .int x1)]) (st' := [.ref a0]) rfl ?_
      refine PC.pr (k := 1) (pc' := 46) (lv' := [(2, .int r1), (0, .ref a0), (1, .int x1)]) (st' := [.int 1, .ref a0]) rfl ?_
      refine PC.pI (ci := 5) (j := 3) rfl rfl ?_
      exact PC.retV rfl h

/-- DoorPaints.sky(I)I -/
theorem t_75_0 {xl : List Int32} {n : Nat} {ι : IS} {Q : Option Value → IS → Prop} {a0 : Nat} {x1 : Int32} (h : ((x1 < 0 → Q (some (.int (-1))) ι) ∧ (¬ x1 < 0 → ((¬ 2 < x1 → PC xl n 76 0 [(0, .ref (rf (rf a0 2) 0)), (1, .int (90 + x1))] [] ι (fun _ κ1 => PC xl n 80 0 [(0, .ref (rf (rf a0 2) 0))] [] κ1 (fun v2 κ2 => ∀ r2, v2 = some (.int r2) → Q (some (.int r2)) κ2))) ∧ (2 < x1 → Q (some (.int (-1))) ι))))) : PC xl (n + 1) 75 0 [(0, .ref a0), (1, .int x1)] [] ι Q := by
  refine PC.pr1 (k := 0) (pc' := 1) (lv' := [(0, .ref a0), (1, .int x1)]) (st' := [.int x1]) rfl ?_
  refine PC.if1 (t := 9) rfl rfl (fun c => ?_) (fun c => ?_)
  · have h := h.1 (cmp_lt.1.mp c)
    refine PC.pr (k := 1) (pc' := 10) (lv' := [(0, .ref a0), (1, .int x1)]) (st' := [.int (-1)]) rfl ?_
    exact PC.retI rfl h
  · have h := h.2 (cmp_lt.2.mp c)
    refine PC.pr (k := 1) (pc' := 5) (lv' := [(0, .ref a0), (1, .int x1)]) (st' := [.int x1]) rfl ?_
    refine PC.pr (k := 1) (pc' := 6) (lv' := [(0, .ref a0), (1, .int x1)]) (st' := [.int 2, .int x1]) rfl ?_
    refine PC.if2 (t := 11) rfl rfl (fun c => ?_) (fun c => ?_)
    · have h := h.1 (cmp_le.1.mp c)
      refine PC.pr (k := 1) (pc' := 12) (lv' := [(0, .ref a0), (1, .int x1)]) (st' := [.ref a0]) rfl ?_
      refine PC.gR (ci := 0) (j := 2) rfl rfl (by decide) ?_
      refine PC.gR (ci := 2) (j := 0) rfl rfl (by decide) ?_
      refine PC.pr (k := 1) (pc' := 20) (lv' := [(0, .ref a0), (1, .int x1)]) (st' := [.int 90, .ref (rf (rf a0 2) 0)]) rfl ?_
      refine PC.pr (k := 1) (pc' := 21) (lv' := [(0, .ref a0), (1, .int x1)]) (st' := [.int x1, .int 90, .ref (rf (rf a0 2) 0)]) rfl ?_
      refine PC.pr (k := 1) (pc' := 22) (lv' := [(0, .ref a0), (1, .int x1)]) (st' := [.int (90 + x1), .ref (rf (rf a0 2) 0)]) rfl ?_
      refine (PC.callV (j := 76) (args := [.ref (rf (rf a0 2) 0), .int (90 + x1)]) (rest := []) (M := cM76) rfl rfl rfl rfl rfl rfl (by decide) rfl rfl ?_).weak
      refine PC.imp h (fun _ κ1 h => ?_)
      refine PC.pr (k := 1) (pc' := 26) (lv' := [(0, .ref a0), (1, .int x1)]) (st' := [.ref a0]) rfl ?_
      refine PC.gR (ci := 0) (j := 2) rfl rfl (by decide) ?_
      refine PC.gR (ci := 2) (j := 0) rfl rfl (by decide) ?_
      refine (PC.callI (j := 80) (args := [.ref (rf (rf a0 2) 0)]) (rest := []) (M := cM80) (ty := .int) rfl rfl rfl rfl rfl rfl (by decide) rfl rfl (by decide) ?_).weak
      refine PC.imp h (fun v2 κ2 h r2 hv => ?_)
      have h := h r2 hv
      exact PC.retI rfl h
    · have h := h.2 (cmp_le.2.mp c)
      refine PC.pr (k := 1) (pc' := 10) (lv' := [(0, .ref a0), (1, .int x1)]) (st' := [.int (-1)]) rfl ?_
      exact PC.retI rfl h

/-- DoorPaints$Town.weather(I)V -/
theorem t_76_0 {xl : List Int32} {n : Nat} {ι : IS} {Q : Option Value → IS → Prop} {a0 : Nat} {x1 : Int32} (h : PC xl n 76 2 [(0, .ref a0), (1, .int x1), (2, .int 0)] [] ι Q) : PC xl (n + 1) 76 0 [(0, .ref a0), (1, .int x1)] [] ι Q := by
  refine PC.pr1 (k := 0) (pc' := 1) (lv' := [(0, .ref a0), (1, .int x1)]) (st' := [.int 0]) rfl ?_
  refine PC.pr (k := 1) (pc' := 2) (lv' := [(2, .int 0), (0, .ref a0), (1, .int x1)]) (st' := []) rfl ?_
  exact PC.lv (lvE.cons rfl (lvE.cons rfl (lvE.cons rfl (lvE.nil)))) h
theorem t_76_2 {xl : List Int32} {n : Nat} {ι : IS} {Q : Option Value → IS → Prop} {a0 : Nat} {x1 : Int32} {x2 : Int32} (h : ((¬ x2 < (ι a0 3) → Q none ι) ∧ (x2 < (ι a0 3) → ((x1.toInt = 90 → (0 ≤ x2.toInt → x2.toInt < lr (rf a0 1) → PC xl n 76 2 [(0, .ref a0), (1, .int x1), (2, .int (x2 + 1))] [] (up ι (re (rf a0 1) x2.toNatClampNeg) 3 0) Q)) ∧ (x1.toInt = 91 → (0 ≤ x2.toInt → x2.toInt < lr (rf a0 1) → PC xl n 77 0 [(0, .ref (re (rf a0 1) x2.toNatClampNeg))] [] ι (fun _ κ1 => PC xl n 76 2 [(0, .ref a0), (1, .int x1), (2, .int (x2 + 1))] [] κ1 Q))) ∧ (x1.toInt = 92 → (0 ≤ x2.toInt → x2.toInt < lr (rf a0 1) → PC xl n 79 0 [(0, .ref (re (rf a0 1) x2.toNatClampNeg))] [] ι (fun _ κ2 => PC xl n 76 2 [(0, .ref a0), (1, .int x1), (2, .int (x2 + 1))] [] κ2 Q))) ∧ ((x1.toInt < 90 ∨ 92 < x1.toInt) → PC xl n 76 2 [(0, .ref a0), (1, .int x1), (2, .int (x2 + 1))] [] ι Q))))) : PC xl (n + 1) 76 2 [(0, .ref a0), (1, .int x1), (2, .int x2)] [] ι Q := by
  refine PC.pr1 (k := 0) (pc' := 3) (lv' := [(0, .ref a0), (1, .int x1), (2, .int x2)]) (st' := [.int x2]) rfl ?_
  refine PC.pr (k := 1) (pc' := 4) (lv' := [(0, .ref a0), (1, .int x1), (2, .int x2)]) (st' := [.ref a0, .int x2]) rfl ?_
  refine PC.gI (ci := 3) (j := 3) rfl rfl (by decide) ?_
  refine PC.if2 (t := 79) rfl rfl (fun c => ?_) (fun c => ?_)
  · have h := h.1 (cmp_ge.1.mp c)
    exact PC.retV rfl h
  · have h := h.2 (cmp_ge.2.mp c)
    refine PC.pr (k := 1) (pc' := 11) (lv' := [(0, .ref a0), (1, .int x1), (2, .int x2)]) (st' := [.int x1]) rfl ?_
    refine PC.tsw rfl (fun i off t ho ht hx => ?_) (fun t ht hx => ?_)
    · match i, ho, hx with
      | 0, ho, hx =>
        obtain rfl : (25 : Int) = off := Option.some.inj ho
        obtain rfl : 36 = t := Option.some.inj ht
        have h := h.1 (by simpa using hx)
        refine PC.pr (k := 1) (pc' := 37) (lv' := [(0, .ref a0), (1, .int x1), (2, .int x2)]) (st' := [.ref a0]) rfl ?_
        refine PC.gR (ci := 3) (j := 1) rfl rfl (by decide) ?_
        refine PC.pr (k := 1) (pc' := 41) (lv' := [(0, .ref a0), (1, .int x1), (2, .int x2)]) (st' := [.int x2, .ref (rf a0 1)]) rfl ?_
        refine PC.ra rfl (fun c1 c2 => ?_)
        have h := h c1 c2
        refine PC.pr (k := 1) (pc' := 43) (lv' := [(0, .ref a0), (1, .int x1), (2, .int x2)]) (st' := [.int 0, .ref (re (rf a0 1) x2.toNatClampNeg)]) rfl ?_
        refine PC.pI (ci := 5) (j := 3) rfl rfl ?_
        refine PC.pr (k := 1) (pc' := 73) (lv' := [(0, .ref a0), (1, .int x1), (2, .int x2)]) (st' := []) rfl ?_
        refine PC.pr (k := 1) (pc' := 76) (lv' := [(2, .int (x2 + 1)), (0, .ref a0), (1, .int x1)]) (st' := []) rfl ?_
        refine PC.pr (k := 1) (pc' := 2) (lv' := [(2, .int (x2 + 1)), (0, .ref a0), (1, .int x1)]) (st' := []) rfl ?_
        exact PC.lv (lvE.cons rfl (lvE.cons rfl (lvE.cons rfl (lvE.nil)))) h
      | 1, ho, hx =>
        obtain rfl : (38 : Int) = off := Option.some.inj ho
        obtain rfl : 49 = t := Option.some.inj ht
        have h := h.2.1 (by simpa using hx)
        refine PC.pr (k := 1) (pc' := 50) (lv' := [(0, .ref a0), (1, .int x1), (2, .int x2)]) (st' := [.ref a0]) rfl ?_
        refine PC.gR (ci := 3) (j := 1) rfl rfl (by decide) ?_
        refine PC.pr (k := 1) (pc' := 54) (lv' := [(0, .ref a0), (1, .int x1), (2, .int x2)]) (st' := [.int x2, .ref (rf a0 1)]) rfl ?_
        refine PC.ra rfl (fun c1 c2 => ?_)
        have h := h c1 c2
        refine (PC.callV (j := 77) (args := [.ref (re (rf a0 1) x2.toNatClampNeg)]) (rest := []) (M := cM77) rfl rfl rfl rfl rfl rfl (by decide) rfl rfl ?_).weak
        refine PC.imp h (fun _ κ1 h => ?_)
        refine PC.pr (k := 1) (pc' := 73) (lv' := [(0, .ref a0), (1, .int x1), (2, .int x2)]) (st' := []) rfl ?_
        refine PC.pr (k := 1) (pc' := 76) (lv' := [(2, .int (x2 + 1)), (0, .ref a0), (1, .int x1)]) (st' := []) rfl ?_
        refine PC.pr (k := 1) (pc' := 2) (lv' := [(2, .int (x2 + 1)), (0, .ref a0), (1, .int x1)]) (st' := []) rfl ?_
        exact PC.lv (lvE.cons rfl (lvE.cons rfl (lvE.cons rfl (lvE.nil)))) h
      | 2, ho, hx =>
        obtain rfl : (50 : Int) = off := Option.some.inj ho
        obtain rfl : 61 = t := Option.some.inj ht
        have h := h.2.2.1 (by simpa using hx)
        refine PC.pr (k := 1) (pc' := 62) (lv' := [(0, .ref a0), (1, .int x1), (2, .int x2)]) (st' := [.ref a0]) rfl ?_
        refine PC.gR (ci := 3) (j := 1) rfl rfl (by decide) ?_
        refine PC.pr (k := 1) (pc' := 66) (lv' := [(0, .ref a0), (1, .int x1), (2, .int x2)]) (st' := [.int x2, .ref (rf a0 1)]) rfl ?_
        refine PC.ra rfl (fun c1 c2 => ?_)
        have h := h c1 c2
        refine (PC.callV (j := 79) (args := [.ref (re (rf a0 1) x2.toNatClampNeg)]) (rest := []) (M := cM79) rfl rfl rfl rfl rfl rfl (by decide) rfl rfl ?_).weak
        refine PC.imp h (fun _ κ2 h => ?_)
        refine PC.pr (k := 1) (pc' := 73) (lv' := [(0, .ref a0), (1, .int x1), (2, .int x2)]) (st' := []) rfl ?_
        refine PC.pr (k := 1) (pc' := 76) (lv' := [(2, .int (x2 + 1)), (0, .ref a0), (1, .int x1)]) (st' := []) rfl ?_
        refine PC.pr (k := 1) (pc' := 2) (lv' := [(2, .int (x2 + 1)), (0, .ref a0), (1, .int x1)]) (st' := []) rfl ?_
        exact PC.lv (lvE.cons rfl (lvE.cons rfl (lvE.cons rfl (lvE.nil)))) h
      | i + 3, ho, hx => cases ho
    · obtain rfl : 73 = t := Option.some.inj ht
      have h := h.2.2.2 hx
      refine PC.pr (k := 1) (pc' := 76) (lv' := [(2, .int (x2 + 1)), (0, .ref a0), (1, .int x1)]) (st' := []) rfl ?_
      refine PC.pr (k := 1) (pc' := 2) (lv' := [(2, .int (x2 + 1)), (0, .ref a0), (1, .int x1)]) (st' := []) rfl ?_
      exact PC.lv (lvE.cons rfl (lvE.cons rfl (lvE.cons rfl (lvE.nil)))) h

/-- DoorPaints$Door.rainOn()V -/
theorem t_77_0 {xl : List Int32} {n : Nat} {ι : IS} {Q : Option Value → IS → Prop} {a0 : Nat} (h : ((¬ (ι a0 1) = 0 → PC xl n 77 12 [(0, .ref a0), (1, .int 0), (2, .int 0)] [] ι Q) ∧ ((ι a0 1) = 0 → Q none ι))) : PC xl (n + 1) 77 0 [(0, .ref a0)] [] ι Q := by
  refine PC.pr1 (k := 0) (pc' := 1) (lv' := [(0, .ref a0)]) (st' := [.ref a0]) rfl ?_
  refine PC.gI (ci := 5) (j := 1) rfl rfl (by decide) ?_
  refine PC.if1 (t := 8) rfl rfl (fun c => ?_) (fun c => ?_)
  · have h := h.1 (cmp_ne.1.mp c)
    refine PC.pr (k := 1) (pc' := 9) (lv' := [(0, .ref a0)]) (st' := [.int 0]) rfl ?_
    refine PC.pr (k := 1) (pc' := 10) (lv' := [(1, .int 0), (0, .ref a0)]) (st' := []) rfl ?_
    refine PC.pr (k := 1) (pc' := 11) (lv' := [(1, .int 0), (0, .ref a0)]) (st' := [.int 0]) rfl ?_
    refine PC.pr (k := 1) (pc' := 12) (lv' := [(2, .int 0), (1, .int 0), (0, .ref a0)]) (st' := []) rfl ?_
    exact PC.lv (lvE.cons rfl (lvE.cons rfl (lvE.cons rfl (lvE.nil)))) h
  · have h := h.2 (cmp_ne.2.mp c)
    exact PC.retV rfl h
theorem t_77_12 {xl : List Int32} {n : Nat} {ι : IS} {Q : Option Value → IS → Prop} {a0 : Nat} {x1 : Int32} {x2 : Int32} (h : ((¬ x2 < 3 → PC xl n 77 41 [(0, .ref a0), (1, .int x1), (2, .int x2)] [] ι Q) ∧ (x2 < 3 → ((¬ 0 < (ι a0 1) → PC xl n 77 41 [(0, .ref a0), (1, .int x1), (2, .int x2)] [] ι Q) ∧ (0 < (ι a0 1) → PC xl n 60 0 [(0, .ref a0)] [] ι (fun v1 κ1 => ∀ r1, v1 = some (.int r1) → PC xl n 78 0 [(0, .ref a0)] [] κ1 (fun _ κ2 => PC xl n 77 12 [(0, .ref a0), (1, .int (x1 + r1)), (2, .int (x2 + 1))] [] κ2 Q))))))) : PC xl (n + 1) 77 12 [(0, .ref a0), (1, .int x1), (2, .int x2)] [] ι Q := by
  refine PC.pr1 (k := 0) (pc' := 13) (lv' := [(0, .ref a0), (1, .int x1), (2, .int x2)]) (st' := [.int x2]) rfl ?_
  refine PC.pr (k := 1) (pc' := 14) (lv' := [(0, .ref a0), (1, .int x1), (2, .int x2)]) (st' := [.int 3, .int x2]) rfl ?_
  refine PC.if2 (t := 41) rfl rfl (fun c => ?_) (fun c => ?_)
  · have h := h.1 (cmp_ge.1.mp c)
    exact h
  · have h := h.2 (cmp_ge.2.mp c)
    refine PC.pr (k := 1) (pc' := 18) (lv' := [(0, .ref a0), (1, .int x1), (2, .int x2)]) (st' := [.ref a0]) rfl ?_
    refine PC.gI (ci := 5) (j := 1) rfl rfl (by decide) ?_
    refine PC.if1 (t := 41) rfl rfl (fun c => ?_) (fun c => ?_)
    · have h := h.1 (cmp_le.1.mp c)
      exact h
    · have h := h.2 (cmp_le.2.mp c)
      refine PC.pr (k := 1) (pc' := 25) (lv' := [(0, .ref a0), (1, .int x1), (2, .int x2)]) (st' := [.int x1]) rfl ?_
      refine PC.pr (k := 1) (pc' := 26) (lv' := [(0, .ref a0), (1, .int x1), (2, .int x2)]) (st' := [.ref a0, .int x1]) rfl ?_
      refine (PC.callI (j := 60) (args := [.ref a0]) (rest := [.int x1]) (M := cM60) (ty := .int) rfl rfl rfl rfl rfl rfl (by decide) rfl rfl (by decide) ?_).weak
      refine PC.imp h (fun v1 κ1 h r1 hv => ?_)
      have h := h r1 hv
      refine PC.pr (k := 1) (pc' := 30) (lv' := [(0, .ref a0), (1, .int x1), (2, .int x2)]) (st' := [.int (x1 + r1)]) rfl ?_
      refine PC.pr (k := 1) (pc' := 31) (lv' := [(1, .int (x1 + r1)), (0, .ref a0), (2, .int x2)]) (st' := []) rfl ?_
      refine PC.pr (k := 1) (pc' := 32) (lv' := [(1, .int (x1 + r1)), (0, .ref a0), (2, .int x2)]) (st' := [.ref a0]) rfl ?_
      refine (PC.callV (j := 78) (args := [.ref a0]) (rest := []) (M := cM78) rfl rfl rfl rfl rfl rfl (by decide) rfl rfl ?_).weak
      refine PC.imp h (fun _ κ2 h => ?_)
      refine PC.pr (k := 1) (pc' := 38) (lv' := [(2, .int (x2 + 1)), (1, .int (x1 + r1)), (0, .ref a0)]) (st' := []) rfl ?_
      refine PC.pr (k := 1) (pc' := 12) (lv' := [(2, .int (x2 + 1)), (1, .int (x1 + r1)), (0, .ref a0)]) (st' := []) rfl ?_
      exact PC.lv (lvE.cons rfl (lvE.cons rfl (lvE.cons rfl (lvE.nil)))) h
theorem t_77_41 {xl : List Int32} {n : Nat} {ι : IS} {Q : Option Value → IS → Prop} {a0 : Nat} {x1 : Int32} {w2 : Value} (h : PC xl n 35 0 [(0, .ref a0), (1, .int (x1 - x1 / 6 * 6))] [] ι (fun v1 κ1 => ∀ r1, v1 = some (.int r1) → Q none (up κ1 a0 3 1))) : PC xl (n + 1) 77 41 [(0, .ref a0), (1, .int x1), (2, w2)] [] ι Q := by
  refine PC.pr1 (k := 0) (pc' := 42) (lv' := [(0, .ref a0), (1, .int x1), (2, w2)]) (st' := [.ref a0]) rfl ?_
  refine PC.pr (k := 1) (pc' := 43) (lv' := [(0, .ref a0), (1, .int x1), (2, w2)]) (st' := [.int x1, .ref a0]) rfl ?_
  refine PC.pr (k := 1) (pc' := 45) (lv' := [(0, .ref a0), (1, .int x1), (2, w2)]) (st' := [.int 6, .int x1, .ref a0]) rfl ?_
  refine PC.pr (k := 1) (pc' := 46) (lv' := [(0, .ref a0), (1, .int x1), (2, w2)]) (st' := [.int (x1 - x1 / 6 * 6), .ref a0]) rfl ?_
  refine (PC.callI (j := 35) (args := [.ref a0, .int (x1 - x1 / 6 * 6)]) (rest := []) (M := cM35) (ty := .boolean) rfl rfl rfl rfl rfl rfl (by decide) rfl rfl (by decide) ?_).weak
  refine PC.imp h (fun v1 κ1 h r1 hv => ?_)
  have h := h r1 hv
  refine PC.pr (k := 1) (pc' := 50) (lv' := [(0, .ref a0), (1, .int x1), (2, w2)]) (st' := []) rfl ?_
  refine PC.pr (k := 1) (pc' := 51) (lv' := [(0, .ref a0), (1, .int x1), (2, w2)]) (st' := [.ref a0]) rfl ?_
  refine PC.pr (k := 1) (pc' := 52) (lv' := [(0, .ref a0), (1, .int x1), (2, w2)]) (st' := [.int 1, .ref a0]) rfl ?_
  refine PC.pI (ci := 5) (j := 3) rfl rfl ?_
  exact PC.retV rfl h

/-- DoorPaints$Door.loseTop()V -/
theorem t_78_0 {xl : List Int32} {n : Nat} {ι : IS} {Q : Option Value → IS → Prop} {a0 : Nat} (h : ((¬ 0 < (ι a0 1) → Q none ι) ∧ (0 < (ι a0 1) → Q none (up ι a0 1 ((ι a0 1) - 1))))) : PC xl (n + 1) 78 0 [(0, .ref a0)] [] ι Q := by
  refine PC.pr1 (k := 0) (pc' := 1) (lv' := [(0, .ref a0)]) (st' := [.ref a0]) rfl ?_
  refine PC.gI (ci := 5) (j := 1) rfl rfl (by decide) ?_
  refine PC.if1 (t := 17) rfl rfl (fun c => ?_) (fun c => ?_)
  · have h := h.1 (cmp_le.1.mp c)
    exact PC.retV rfl h
  · have h := h.2 (cmp_le.2.mp c)
    refine PC.pr (k := 1) (pc' := 8) (lv' := [(0, .ref a0)]) (st' := [.ref a0]) rfl ?_
    refine PC.pr (k := 1) (pc' := 9) (lv' := [(0, .ref a0)]) (st' := [.ref a0, .ref a0]) rfl ?_
    refine PC.gI (ci := 5) (j := 1) rfl rfl (by decide) ?_
    refine PC.pr (k := 1) (pc' := 13) (lv' := [(0, .ref a0)]) (st' := [.int 1, .int (ι a0 1), .ref a0]) rfl ?_
    refine PC.pr (k := 1) (pc' := 14) (lv' := [(0, .ref a0)]) (st' := [.int ((ι a0 1) - 1), .ref a0]) rfl ?_
    refine PC.pI (ci := 5) (j := 1) rfl rfl ?_
    exact PC.retV rfl h

/-- DoorPaints$Door.shineOn()V -/
theorem t_79_0 {xl : List Int32} {n : Nat} {ι : IS} {Q : Option Value → IS → Prop} {a0 : Nat} (h : PC xl n 79 2 [(0, .ref a0), (1, .int 0)] [] ι Q) : PC xl (n + 1) 79 0 [(0, .ref a0)] [] ι Q := by
  refine PC.pr1 (k := 0) (pc' := 1) (lv' := [(0, .ref a0)]) (st' := [.int 0]) rfl ?_
  refine PC.pr (k := 1) (pc' := 2) (lv' := [(1, .int 0), (0, .ref a0)]) (st' := []) rfl ?_
  exact PC.lv (lvE.cons rfl (lvE.cons rfl (lvE.nil))) h
theorem t_79_2 {xl : List Int32} {n : Nat} {ι : IS} {Q : Option Value → IS → Prop} {a0 : Nat} {x1 : Int32} (h : ((¬ x1 < 6 → Q none (up ι a0 3 0)) ∧ (x1 < 6 → PC xl n 60 0 [(0, .ref a0)] [] ι (fun v1 κ1 => ∀ r1, v1 = some (.int r1) → ((¬ r1 = 0 → Q none (up κ1 a0 3 0)) ∧ (r1 = 0 → PC xl n 78 0 [(0, .ref a0)] [] κ1 (fun _ κ2 => PC xl n 79 2 [(0, .ref a0), (1, .int (x1 + 1))] [] κ2 Q))))))) : PC xl (n + 1) 79 2 [(0, .ref a0), (1, .int x1)] [] ι Q := by
  refine PC.pr1 (k := 0) (pc' := 3) (lv' := [(0, .ref a0), (1, .int x1)]) (st' := [.int x1]) rfl ?_
  refine PC.pr (k := 1) (pc' := 5) (lv' := [(0, .ref a0), (1, .int x1)]) (st' := [.int 6, .int x1]) rfl ?_
  refine PC.if2 (t := 25) rfl rfl (fun c => ?_) (fun c => ?_)
  · have h := h.1 (cmp_ge.1.mp c)
    refine PC.pr (k := 1) (pc' := 26) (lv' := [(0, .ref a0), (1, .int x1)]) (st' := [.ref a0]) rfl ?_
    refine PC.pr (k := 1) (pc' := 27) (lv' := [(0, .ref a0), (1, .int x1)]) (st' := [.int 0, .ref a0]) rfl ?_
    refine PC.pI (ci := 5) (j := 3) rfl rfl ?_
    exact PC.retV rfl h
  · have h := h.2 (cmp_ge.2.mp c)
    refine PC.pr (k := 1) (pc' := 9) (lv' := [(0, .ref a0), (1, .int x1)]) (st' := [.ref a0]) rfl ?_
    refine (PC.callI (j := 60) (args := [.ref a0]) (rest := []) (M := cM60) (ty := .int) rfl rfl rfl rfl rfl rfl (by decide) rfl rfl (by decide) ?_).weak
    refine PC.imp h (fun v1 κ1 h r1 hv => ?_)
    have h := h r1 hv
    refine PC.if1 (t := 25) rfl rfl (fun c => ?_) (fun c => ?_)
    · have h := h.1 (cmp_ne.1.mp c)
      refine PC.pr (k := 1) (pc' := 26) (lv' := [(0, .ref a0), (1, .int x1)]) (st' := [.ref a0]) rfl ?_
      refine PC.pr (k := 1) (pc' := 27) (lv' := [(0, .ref a0), (1, .int x1)]) (st' := [.int 0, .ref a0]) rfl ?_
      refine PC.pI (ci := 5) (j := 3) rfl rfl ?_
      exact PC.retV rfl h
    · have h := h.2 (cmp_ne.2.mp c)
      refine PC.pr (k := 1) (pc' := 16) (lv' := [(0, .ref a0), (1, .int x1)]) (st' := [.ref a0]) rfl ?_
      refine (PC.callV (j := 78) (args := [.ref a0]) (rest := []) (M := cM78) rfl rfl rfl rfl rfl rfl (by decide) rfl rfl ?_).weak
      refine PC.imp h (fun _ κ2 h => ?_)
      refine PC.pr (k := 1) (pc' := 22) (lv' := [(1, .int (x1 + 1)), (0, .ref a0)]) (st' := []) rfl ?_
      refine PC.pr (k := 1) (pc' := 2) (lv' := [(1, .int (x1 + 1)), (0, .ref a0)]) (st' := []) rfl ?_
      exact PC.lv (lvE.cons rfl (lvE.cons rfl (lvE.nil))) h

/-- DoorPaints$Town.allLayers()I -/
theorem t_80_0 {xl : List Int32} {n : Nat} {ι : IS} {Q : Option Value → IS → Prop} {a0 : Nat} (h : PC xl n 80 4 [(0, .ref a0), (1, .int 0), (2, .int 0)] [] ι Q) : PC xl (n + 1) 80 0 [(0, .ref a0)] [] ι Q := by
  refine PC.pr1 (k := 0) (pc' := 1) (lv' := [(0, .ref a0)]) (st' := [.int 0]) rfl ?_
  refine PC.pr (k := 1) (pc' := 2) (lv' := [(1, .int 0), (0, .ref a0)]) (st' := []) rfl ?_
  refine PC.pr (k := 1) (pc' := 3) (lv' := [(1, .int 0), (0, .ref a0)]) (st' := [.int 0]) rfl ?_
  refine PC.pr (k := 1) (pc' := 4) (lv' := [(2, .int 0), (1, .int 0), (0, .ref a0)]) (st' := []) rfl ?_
  exact PC.lv (lvE.cons rfl (lvE.cons rfl (lvE.cons rfl (lvE.nil)))) h
theorem t_80_4 {xl : List Int32} {n : Nat} {ι : IS} {Q : Option Value → IS → Prop} {a0 : Nat} {x1 : Int32} {x2 : Int32} (h : ((¬ x2 < (ι a0 3) → Q (some (.int x1)) ι) ∧ (x2 < (ι a0 3) → (0 ≤ x2.toInt → x2.toInt < lr (rf a0 1) → PC xl n 80 4 [(0, .ref a0), (1, .int (x1 + (ι (re (rf a0 1) x2.toNatClampNeg) 1))), (2, .int (x2 + 1))] [] ι Q)))) : PC xl (n + 1) 80 4 [(0, .ref a0), (1, .int x1), (2, .int x2)] [] ι Q := by
  refine PC.pr1 (k := 0) (pc' := 5) (lv' := [(0, .ref a0), (1, .int x1), (2, .int x2)]) (st' := [.int x2]) rfl ?_
  refine PC.pr (k := 1) (pc' := 6) (lv' := [(0, .ref a0), (1, .int x1), (2, .int x2)]) (st' := [.ref a0, .int x2]) rfl ?_
  refine PC.gI (ci := 3) (j := 3) rfl rfl (by decide) ?_
  refine PC.if2 (t := 30) rfl rfl (fun c => ?_) (fun c => ?_)
  · have h := h.1 (cmp_ge.1.mp c)
    refine PC.pr (k := 1) (pc' := 31) (lv' := [(0, .ref a0), (1, .int x1), (2, .int x2)]) (st' := [.int x1]) rfl ?_
    exact PC.retI rfl h
  · have h := h.2 (cmp_ge.2.mp c)
    refine PC.pr (k := 1) (pc' := 13) (lv' := [(0, .ref a0), (1, .int x1), (2, .int x2)]) (st' := [.int x1]) rfl ?_
    refine PC.pr (k := 1) (pc' := 14) (lv' := [(0, .ref a0), (1, .int x1), (2, .int x2)]) (st' := [.ref a0, .int x1]) rfl ?_
    refine PC.gR (ci := 3) (j := 1) rfl rfl (by decide) ?_
    refine PC.pr (k := 1) (pc' := 18) (lv' := [(0, .ref a0), (1, .int x1), (2, .int x2)]) (st' := [.int x2, .ref (rf a0 1), .int x1]) rfl ?_
    refine PC.ra rfl (fun c1 c2 => ?_)
    have h := h c1 c2
    refine PC.gI (ci := 5) (j := 1) rfl rfl (by decide) ?_
    refine PC.pr (k := 1) (pc' := 23) (lv' := [(0, .ref a0), (1, .int x1), (2, .int x2)]) (st' := [.int (x1 + (ι (re (rf a0 1) x2.toNatClampNeg) 1))]) rfl ?_
    refine PC.pr (k := 1) (pc' := 24) (lv' := [(1, .int (x1 + (ι (re (rf a0 1) x2.toNatClampNeg) 1))), (0, .ref a0), (2, .int x2)]) (st' := []) rfl ?_
    refine PC.pr (k := 1) (pc' := 27) (lv' := [(2, .int (x2 + 1)), (1, .int (x1 + (ι (re (rf a0 1) x2.toNatClampNeg) 1))), (0, .ref a0)]) (st' := []) rfl ?_
    refine PC.pr (k := 1) (pc' := 4) (lv' := [(2, .int (x2 + 1)), (1, .int (x1 + (ι (re (rf a0 1) x2.toNatClampNeg) 1))), (0, .ref a0)]) (st' := []) rfl ?_
    exact PC.lv (lvE.cons rfl (lvE.cons rfl (lvE.cons rfl (lvE.nil)))) h

