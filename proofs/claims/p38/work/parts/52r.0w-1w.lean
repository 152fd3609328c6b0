section
/-! WHAT RUNS ASK (written by a program) -/
/-- DoorPaints.fault()I -/
theorem t_55_0 {xl : List Int32} {n : Nat} {ι : IS} {Q : Option Value → IS → Prop} {a0 : Nat} (h : Q (some (.int (ι a0 9))) ι) : PC xl (n + 1) 55 0 [(0, .ref a0)] [] ι Q := by
  refine PC.pr1 (k := 0) (pc' := 1) (lv' := [(0, .ref a0)]) (st' := [.ref a0]) rfl ?_
  refine PC.gI (ci := 0) (j := 9) rfl rfl (by decide) ?_
  exact PC.retI rfl h

/-- DoorPaints.rule(I)I -/
theorem t_56_0 {xl : List Int32} {n : Nat} {ι : IS} {Q : Option Value → IS → Prop} {a0 : Nat} {x1 : Int32} (h : ((x1.toInt = 0 → Q (some (.int (ι (rf (rf a0 2) 0) 2))) ι) ∧ (x1.toInt = 1 → Q (some (.int (ι (rf (rf a0 2) 0) 3))) ι) ∧ (x1.toInt = 2 → Q (some (.int (ι (rf a0 2) 2))) ι) ∧ (x1.toInt = 3 → PC xl n 57 0 [(0, .ref (rf (rf a0 2) 0))] [] ι (fun v1 κ1 => ∀ r1, v1 = some (.int r1) → Q (some (.int r1)) κ1)) ∧ (x1.toInt = 4 → PC xl n 58 0 [(0, .ref (rf (rf a0 2) 0))] [] ι (fun v2 κ2 => ∀ r2, v2 = some (.int r2) → Q (some (.int r2)) κ2)) ∧ (x1.toInt = 5 → PC xl n 61 0 [(0, .ref (rf (rf a0 2) 0))] [] ι (fun v3 κ3 => ∀ r3, v3 = some (.int r3) → Q (some (.int r3)) κ3)) ∧ ((x1.toInt < 0 ∨ 5 < x1.toInt) → Q (some (.int (-1))) ι))) : PC xl (n + 1) 56 0 [(0, .ref a0), (1, .int x1)] [] ι Q := by
  refine PC.pr1 (k := 0) (pc' := 1) (lv' := [(0, .ref a0), (1, .int x1)]) (st' := [.int x1]) rfl ?_
  refine PC.tsw rfl (fun i off t ho ht hx => ?_) (fun t ht hx => ?_)
  · match i, ho, hx with
    | 0, ho, hx =>
      obtain rfl : (39 : Int) = off := Option.some.inj ho
      obtain rfl : 40 = t := Option.some.inj ht
      have h := h.1 (by simpa using hx)
      refine PC.pr (k := 1) (pc' := 41) (lv' := [(0, .ref a0), (1, .int x1)]) (st' := [.ref a0]) rfl ?_
      refine PC.gR (ci := 0) (j := 2) rfl rfl (by decide) ?_
      refine PC.gR (ci := 2) (j := 0) rfl rfl (by decide) ?_
      refine PC.gI (ci := 3) (j := 2) rfl rfl (by decide) ?_
      exact PC.retI rfl h
    | 1, ho, hx =>
      obtain rfl : (50 : Int) = off := Option.some.inj ho
      obtain rfl : 51 = t := Option.some.inj ht
      have h := h.2.1 (by simpa using hx)
      refine PC.pr (k := 1) (pc' := 52) (lv' := [(0, .ref a0), (1, .int x1)]) (st' := [.ref a0]) rfl ?_
      refine PC.gR (ci := 0) (j := 2) rfl rfl (by decide) ?_
      refine PC.gR (ci := 2) (j := 0) rfl rfl (by decide) ?_
      refine PC.gI (ci := 3) (j := 3) rfl rfl (by decide) ?_
      exact PC.retI rfl h
    | 2, ho, hx =>
      obtain rfl : (61 : Int) = off := Option.some.inj ho
      obtain rfl : 62 = t := Option.some.inj ht
      have h := h.2.2.1 (by simpa using hx)
      refine PC.pr (k := 1) (pc' := 63) (lv' := [(0, .ref a0), (1, .int x1)]) (st' := [.ref a0]) rfl ?_
      refine PC.gR (ci := 0) (j := 2) rfl rfl (by decide) ?_
      refine PC.gI (ci := 2) (j := 2) rfl rfl (by decide) ?_
      exact PC.retI rfl h
    | 3, ho, hx =>
      obtain rfl : (69 : Int) = off := Option.some.inj ho
      obtain rfl : 70 = t := Option.some.inj ht
      have h := h.2.2.2.1 (by simpa using hx)
      refine PC.pr (k := 1) (pc' := 71) (lv' := [(0, .ref a0), (1, .int x1)]) (st' := [.ref a0]) rfl ?_
      refine PC.gR (ci := 0) (j := 2) rfl rfl (by decide) ?_
      refine PC.gR (ci := 2) (j := 0) rfl rfl (by decide) ?_
      refine (PC.callI (j := 57) (args := [.ref (rf (rf a0 2) 0)]) (rest := []) (M := cM57) (ty := .int) rfl rfl rfl rfl rfl rfl (by decide) rfl rfl (by decide) ?_).weak
      refine PC.imp h (fun v1 κ1 h r1 hv => ?_)
      have h := h r1 hv
      exact PC.retI rfl h
    | 4, ho, hx =>
      obtain rfl : (80 : Int) = off := Option.some.inj ho
      obtain rfl : 81 = t := Option.some.inj ht
      have h := h.2.2.2.2.1 (by simpa using hx)
      refine PC.pr (k := 1) (pc' := 82) (lv' := [(0, .ref a0), (1, .int x1)]) (st' := [.ref a0]) rfl ?_
      refine PC.gR (ci := 0) (j := 2) rfl rfl (by decide) ?_
      refine PC.gR (ci := 2) (j := 0) rfl rfl (by decide) ?_
      refine (PC.callI (j := 58) (args := [.ref (rf (rf a0 2) 0)]) (rest := []) (M := cM58) (ty := .int) rfl rfl rfl rfl rfl rfl (by decide) rfl rfl (by decide) ?_).weak
      refine PC.imp h (fun v2 κ2 h r2 hv => ?_)
      have h := h r2 hv
      exact PC.retI rfl h
    | 5, ho, hx =>
      obtain rfl : (91 : Int) = off := Option.some.inj ho
      obtain rfl : 92 = t := Option.some.inj ht
      have h := h.2.2.2.2.2.1 (by simpa using hx)
      refine PC.pr (k := 1) (pc' := 93) (lv' := [(0, .ref a0), (1, .int x1)]) (st' := [.ref a0]) rfl ?_
      refine PC.gR (ci := 0) (j := 2) rfl rfl (by decide) ?_
      refine PC.gR (ci := 2) (j := 0) rfl rfl (by decide) ?_
      refine (PC.callI (j := 61) (args := [.ref (rf (rf a0 2) 0)]) (rest := []) (M := cM61) (ty := .int) rfl rfl rfl rfl rfl rfl (by decide) rfl rfl (by decide) ?_).weak
      refine PC.imp h (fun v3 κ3 h r3 hv => ?_)
      have h := h r3 hv
      exact PC.retI rfl h
    | i + 6, ho, hx => cases ho
  · obtain rfl : 103 = t := Option.some.inj ht
    have h := h.2.2.2.2.2.2 hx
    refine PC.pr (k := 1) (pc' := 104) (lv' := [(0, .ref a0), (1, .int x1)]) (st' := [.int (-1)]) rfl ?_
    exact PC.retI rfl h

/-- DoorPaints$Town.wetBits()I -/
theorem t_57_0 {xl : List Int32} {n : Nat} {ι : IS} {Q : Option Value → IS → Prop} {a0 : Nat} (h : PC xl n 57 4 [(0, .ref a0), (1, .int 0), (2, .int 0)] [] ι Q) : PC xl (n + 1) 57 0 [(0, .ref a0)] [] ι Q := by
  refine PC.pr1 (k := 0) (pc' := 1) (lv' := [(0, .ref a0)]) (st' := [.int 0]) rfl ?_
  refine PC.pr (k := 1) (pc' := 2) (lv' := [(1, .int 0), (0, .ref a0)]) (st' := []) rfl ?_
  refine PC.pr (k := 1) (pc' := 3) (lv' := [(1, .int 0), (0, .ref a0)]) (st' := [.int 0]) rfl ?_
  refine PC.pr (k := 1) (pc' := 4) (lv' := [(2, .int 0), (1, .int 0), (0, .ref a0)]) (st' := []) rfl ?_
  exact PC.lv (lvE.cons rfl (lvE.cons rfl (lvE.cons rfl (lvE.nil)))) h
theorem t_57_4 {xl : List Int32} {n : Nat} {ι : IS} {Q : Option Value → IS → Prop} {a0 : Nat} {x1 : Int32} {x2 : Int32} (h : ((¬ x2 < (ι a0 3) → Q (some (.int x1)) ι) ∧ (x2 < (ι a0 3) → (0 ≤ x2.toInt → x2.toInt < lr (rf a0 1) → (((ι (re (rf a0 1) x2.toNatClampNeg) 3) = 0 → PC xl n 57 4 [(0, .ref a0), (1, .int (x1 ||| 0)), (2, .int (x2 + 1))] [] ι Q) ∧ (¬ (ι (re (rf a0 1) x2.toNatClampNeg) 3) = 0 → PC xl n 57 4 [(0, .ref a0), (1, .int (x1 ||| (1 <<< (x2 &&& 31)))), (2, .int (x2 + 1))] [] ι Q)))))) : PC xl (n + 1) 57 4 [(0, .ref a0), (1, .int x1), (2, .int x2)] [] ι Q := by
  refine PC.pr1 (k := 0) (pc' := 5) (lv' := [(0, .ref a0), (1, .int x1), (2, .int x2)]) (st' := [.int x2]) rfl ?_
  refine PC.pr (k := 1) (pc' := 6) (lv' := [(0, .ref a0), (1, .int x1), (2, .int x2)]) (st' := [.ref a0, .int x2]) rfl ?_
  refine PC.gI (ci := 3) (j := 3) rfl rfl (by decide) ?_
  refine PC.if2 (t := 40) rfl rfl (fun c => ?_) (fun c => ?_)
  · have h := h.1 (cmp_ge.1.mp c)
    refine PC.pr (k := 1) (pc' := 41) (lv' := [(0, .ref a0), (1, .int x1), (2, .int x2)]) (st' := [.int x1]) rfl ?_
    exact PC.retI rfl h
  · have h := h.2 (cmp_ge.2.mp c)
    refine PC.pr (k := 1) (pc' := 13) (lv' := [(0, .ref a0), (1, .int x1), (2, .int x2)]) (st' := [.int x1]) rfl ?_
    refine PC.pr (k := 1) (pc' := 14) (lv' := [(0, .ref a0), (1, .int x1), (2, .int x2)]) (st' := [.ref a0, .int x1]) rfl ?_
    refine PC.gR (ci := 3) (j := 1) rfl rfl (by decide) ?_
    refine PC.pr (k := 1) (pc' := 18) (lv' := [(0, .ref a0), (1, .int x1), (2, .int x2)]) (st' := [.int x2, .ref (rf a0 1), .int x1]) rfl ?_
    refine PC.ra rfl (fun c1 c2 => ?_)
    have h := h c1 c2
    refine PC.gI (ci := 5) (j := 3) rfl rfl (by decide) ?_
    refine PC.if1 (t := 31) rfl rfl (fun c => ?_) (fun c => ?_)
    · have h := h.1 (cmp_eq.1.mp c)
      refine PC.pr (k := 1) (pc' := 32) (lv' := [(0, .ref a0), (1, .int x1), (2, .int x2)]) (st' := [.int 0, .int x1]) rfl ?_
      refine PC.pr (k := 1) (pc' := 33) (lv' := [(0, .ref a0), (1, .int x1), (2, .int x2)]) (st' := [.int (x1 ||| 0)]) rfl ?_
      refine PC.pr (k := 1) (pc' := 34) (lv' := [(1, .int (x1 ||| 0)), (0, .ref a0), (2, .int x2)]) (st' := []) rfl ?_
      refine PC.pr (k := 1) (pc' := 37) (lv' := [(2, .int (x2 + 1)), (1, .int (x1 ||| 0)), (0, .ref a0)]) (st' := []) rfl ?_
      refine PC.pr (k := 1) (pc' := 4) (lv' := [(2, .int (x2 + 1)), (1, .int (x1 ||| 0)), (0, .ref a0)]) (st' := []) rfl ?_
      exact PC.lv (lvE.cons rfl (lvE.cons rfl (lvE.cons rfl (lvE.nil)))) h
    · have h := h.2 (cmp_eq.2.mp c)
      refine PC.pr (k := 1) (pc' := 26) (lv' := [(0, .ref a0), (1, .int x1), (2, .int x2)]) (st' := [.int 1, .int x1]) rfl ?_
      refine PC.pr (k := 1) (pc' := 27) (lv' := [(0, .ref a0), (1, .int x1), (2, .int x2)]) (st' := [.int x2, .int 1, .int x1]) rfl ?_
      refine PC.pr (k := 1) (pc' := 28) (lv' := [(0, .ref a0), (1, .int x1), (2, .int x2)]) (st' := [.int (1 <<< (x2 &&& 31)), .int x1]) rfl ?_
      refine PC.pr (k := 1) (pc' := 32) (lv' := [(0, .ref a0), (1, .int x1), (2, .int x2)]) (st' := [.int (1 <<< (x2 &&& 31)), .int x1]) rfl ?_
      refine PC.pr (k := 1) (pc' := 33) (lv' := [(0, .ref a0), (1, .int x1), (2, .int x2)]) (st' := [.int (x1 ||| (1 <<< (x2 &&& 31)))]) rfl ?_
      refine PC.pr (k := 1) (pc' := 34) (lv' := [(1, .int (x1 ||| (1 <<< (x2 &&& 31)))), (0, .ref a0), (2, .int x2)]) (st' := []) rfl ?_
      refine PC.pr (k := 1) (pc' := 37) (lv' := [(2, .int (x2 + 1)), (1, .int (x1 ||| (1 <<< (x2 &&& 31)))), (0, .ref a0)]) (st' := []) rfl ?_
      refine PC.pr (k := 1) (pc' := 4) (lv' := [(2, .int (x2 + 1)), (1, .int (x1 ||| (1 <<< (x2 &&& 31)))), (0, .ref a0)]) (st' := []) rfl ?_
      exact PC.lv (lvE.cons rfl (lvE.cons rfl (lvE.cons rfl (lvE.nil)))) h

/-- DoorPaints$Town.wrongBits()I -/
theorem t_58_0 {xl : List Int32} {n : Nat} {ι : IS} {Q : Option Value → IS → Prop} {a0 : Nat} (h : PC xl n 58 4 [(0, .ref a0), (1, .int 0), (2, .int 0)] [] ι Q) : PC xl (n + 1) 58 0 [(0, .ref a0)] [] ι Q := by
  refine PC.pr1 (k := 0) (pc' := 1) (lv' := [(0, .ref a0)]) (st' := [.int 0]) rfl ?_
  refine PC.pr (k := 1) (pc' := 2) (lv' := [(1, .int 0), (0, .ref a0)]) (st' := []) rfl ?_
  refine PC.pr (k := 1) (pc' := 3) (lv' := [(1, .int 0), (0, .ref a0)]) (st' := [.int 0]) rfl ?_
  refine PC.pr (k := 1) (pc' := 4) (lv' := [(2, .int 0), (1, .int 0), (0, .ref a0)]) (st' := []) rfl ?_
  exact PC.lv (lvE.cons rfl (lvE.cons rfl (lvE.cons rfl (lvE.nil)))) h
theorem t_58_4 {xl : List Int32} {n : Nat} {ι : IS} {Q : Option Value → IS → Prop} {a0 : Nat} {x1 : Int32} {x2 : Int32} (h : ((¬ x2 < (ι a0 3) → Q (some (.int x1)) ι) ∧ (x2 < (ι a0 3) → (0 ≤ x2.toInt → x2.toInt < lr (rf a0 1) → PC xl n 59 0 [(0, .ref (re (rf a0 1) x2.toNatClampNeg))] [] ι (fun v1 κ1 => ∀ r1, v1 = some (.int r1) → ((r1 = 0 → PC xl n 58 4 [(0, .ref a0), (1, .int (x1 ||| 0)), (2, .int (x2 + 1))] [] κ1 Q) ∧ (¬ r1 = 0 → PC xl n 58 4 [(0, .ref a0), (1, .int (x1 ||| (1 <<< (x2 &&& 31)))), (2, .int (x2 + 1))] [] κ1 Q))))))) : PC xl (n + 1) 58 4 [(0, .ref a0), (1, .int x1), (2, .int x2)] [] ι Q := by
  refine PC.pr1 (k := 0) (pc' := 5) (lv' := [(0, .ref a0), (1, .int x1), (2, .int x2)]) (st' := [.int x2]) rfl ?_
  refine PC.pr (k := 1) (pc' := 6) (lv' := [(0, .ref a0), (1, .int x1), (2, .int x2)]) (st' := [.ref a0, .int x2]) rfl ?_
  refine PC.gI (ci := 3) (j := 3) rfl rfl (by decide) ?_
  refine PC.if2 (t := 40) rfl rfl (fun c => ?_) (fun c => ?_)
  · have h := h.1 (cmp_ge.1.mp c)
    refine PC.pr (k := 1) (pc' := 41) (lv' := [(0, .ref a0), (1, .int x1), (2, .int x2)]) (st' := [.int x1]) rfl ?_
    exact PC.retI rfl h
  · have h := h.2 (cmp_ge.2.mp c)
    refine PC.pr (k := 1) (pc' := 13) (lv' := [(0, .ref a0), (1, .int x1), (2, .int x2)]) (st' := [.int x1]) rfl ?_
    refine PC.pr (k := 1) (pc' := 14) (lv' := [(0, .ref a0), (1, .int x1), (2, .int x2)]) (st' := [.ref a0, .int x1]) rfl ?_
    refine PC.gR (ci := 3) (j := 1) rfl rfl (by decide) ?_
    refine PC.pr (k := 1) (pc' := 18) (lv' := [(0, .ref a0), (1, .int x1), (2, .int x2)]) (st' := [.int x2, .ref (rf a0 1), .int x1]) rfl ?_
    refine PC.ra rfl (fun c1 c2 => ?_)
    have h := h c1 c2
    refine (PC.callI (j := 59) (args := [.ref (re (rf a0 1) x2.toNatClampNeg)]) (rest := [.int x1]) (M := cM59) (ty := .boolean) rfl rfl rfl rfl rfl rfl (by decide) rfl rfl (by decide) ?_).weak
    refine PC.imp h (fun v1 κ1 h r1 hv => ?_)
    have h := h r1 hv
    refine PC.if1 (t := 31) rfl rfl (fun c => ?_) (fun c => ?_)
    · have h := h.1 (cmp_eq.1.mp c)
      refine PC.pr (k := 1) (pc' := 32) (lv' := [(0, .ref a0), (1, .int x1), (2, .int x2)]) (st' := [.int 0, .int x1]) rfl ?_
      refine PC.pr (k := 1) (pc' := 33) (lv' := [(0, .ref a0), (1, .int x1), (2, .int x2)]) (st' := [.int (x1 ||| 0)]) rfl ?_
      refine PC.pr (k := 1) (pc' := 34) (lv' := [(1, .int (x1 ||| 0)), (0, .ref a0), (2, .int x2)]) (st' := []) rfl ?_
      refine PC.pr (k := 1) (pc' := 37) (lv' := [(2, .int (x2 + 1)), (1, .int (x1 ||| 0)), (0, .ref a0)]) (st' := []) rfl ?_
      refine PC.pr (k := 1) (pc' := 4) (lv' := [(2, .int (x2 + 1)), (1, .int (x1 ||| 0)), (0, .ref a0)]) (st' := []) rfl ?_
      exact PC.lv (lvE.cons rfl (lvE.cons rfl (lvE.cons rfl (lvE.nil)))) h
    · have h := h.2 (cmp_eq.2.mp c)
      refine PC.pr (k := 1) (pc' := 26) (lv' := [(0, .ref a0), (1, .int x1), (2, .int x2)]) (st' := [.int 1, .int x1]) rfl ?_
      refine PC.pr (k := 1) (pc' := 27) (lv' := [(0, .ref a0), (1, .int x1), (2, .int x2)]) (st' := [.int x2, .int 1, .int x1]) rfl ?_
      refine PC.pr (k := 1) (pc' := 28) (lv' := [(0, .ref a0), (1, .int x1), (2, .int x2)]) (st' := [.int (1 <<< (x2 &&& 31)), .int x1]) rfl ?_
      refine PC.pr (k := 1) (pc' := 32) (lv' := [(0, .ref a0), (1, .int x1), (2, .int x2)]) (st' := [.int (1 <<< (x2 &&& 31)), .int x1]) rfl ?_
      refine PC.pr (k := 1) (pc' := 33) (lv' := [(0, .ref a0), (1, .int x1), (2, .int x2)]) (st' := [.int (x1 ||| (1 <<< (x2 &&& 31)))]) rfl ?_
      refine PC.pr (k := 1) (pc' := 34) (lv' := [(1, .int (x1 ||| (1 <<< (x2 &&& 31)))), (0, .ref a0), (2, .int x2)]) (st' := []) rfl ?_
      refine PC.pr (k := 1) (pc' := 37) (lv' := [(2, .int (x2 + 1)), (1, .int (x1 ||| (1 <<< (x2 &&& 31)))), (0, .ref a0)]) (st' := []) rfl ?_
      refine PC.pr (k := 1) (pc' := 4) (lv' := [(2, .int (x2 + 1)), (1, .int (x1 ||| (1 <<< (x2 &&& 31)))), (0, .ref a0)]) (st' := []) rfl ?_
      exact PC.lv (lvE.cons rfl (lvE.cons rfl (lvE.cons rfl (lvE.nil)))) h

/-- DoorPaints$Door.isWrong()Z -/
theorem t_59_0 {xl : List Int32} {n : Nat} {ι : IS} {Q : Option Value → IS → Prop} {a0 : Nat} (h : PC xl n 60 0 [(0, .ref a0)] [] ι (fun v1 κ1 => ∀ r1, v1 = some (.int r1) → ((r1 = (-4) → Q (some (.int 0)) κ1) ∧ (¬ r1 = (-4) → PC xl n 38 0 [(0, .ref a0), (1, .int r1)] [] κ1 (fun v2 κ2 => ∀ r2, v2 = some (.int r2) → ((r2 = 0 → Q (some (.int 0)) κ2) ∧ (¬ r2 = 0 → Q (some (.int 1)) κ2))))))) : PC xl (n + 1) 59 0 [(0, .ref a0)] [] ι Q := by
  refine PC.pr1 (k := 0) (pc' := 1) (lv' := [(0, .ref a0)]) (st' := [.ref a0]) rfl ?_
  refine (PC.callI (j := 60) (args := [.ref a0]) (rest := []) (M := cM60) (ty := .int) rfl rfl rfl rfl rfl rfl (by decide) rfl rfl (by decide) ?_).weak
  refine PC.imp h (fun v1 κ1 h r1 hv => ?_)
  have h := h r1 hv
  refine PC.pr (k := 1) (pc' := 5) (lv' := [(1, .int r1), (0, .ref a0)]) (st' := []) rfl ?_
  refine PC.pr (k := 1) (pc' := 6) (lv' := [(1, .int r1), (0, .ref a0)]) (st' := [.int r1]) rfl ?_
  refine PC.pr (k := 1) (pc' := 8) (lv' := [(1, .int r1), (0, .ref a0)]) (st' := [.int (-4), .int r1]) rfl ?_
  refine PC.if2 (t := 23) rfl rfl (fun c => ?_) (fun c => ?_)
  · have h := h.1 (cmp_eq.1.mp c)
    refine PC.pr (k := 1) (pc' := 24) (lv' := [(1, .int r1), (0, .ref a0)]) (st' := [.int 0]) rfl ?_
    exact PC.retI rfl h
  · have h := h.2 (cmp_eq.2.mp c)
    refine PC.pr (k := 1) (pc' := 12) (lv' := [(1, .int r1), (0, .ref a0)]) (st' := [.ref a0]) rfl ?_
    refine PC.pr (k := 1) (pc' := 13) (lv' := [(1, .int r1), (0, .ref a0)]) (st' := [.int r1, .ref a0]) rfl ?_
    refine (PC.callI (j := 38) (args := [.ref a0, .int r1]) (rest := []) (M := cM38) (ty := .boolean) rfl rfl rfl rfl rfl rfl (by decide) rfl rfl (by decide) ?_).weak
    refine PC.imp h (fun v2 κ2 h r2 hv => ?_)
    have h := h r2 hv
    refine PC.if1 (t := 23) rfl rfl (fun c => ?_) (fun c => ?_)
    · have h := h.1 (cmp_eq.1.mp c)
      refine PC.pr (k := 1) (pc' := 24) (lv' := [(1, .int r1), (0, .ref a0)]) (st' := [.int 0]) rfl ?_
      exact PC.retI rfl h
    · have h := h.2 (cmp_eq.2.mp c)
      refine PC.pr (k := 1) (pc' := 20) (lv' := [(1, .int r1), (0, .ref a0)]) (st' := [.int 1]) rfl ?_
      refine PC.pr (k := 1) (pc' := 24) (lv' := [(1, .int r1), (0, .ref a0)]) (st' := [.int 1]) rfl ?_
      exact PC.retI rfl h

/-- DoorPaints$Door.shown()I -/
theorem t_60_0 {xl : List Int32} {n : Nat} {ι : IS} {Q : Option Value → IS → Prop} {a0 : Nat} (h : ((¬ 0 < (ι a0 1) → Q (some (.int (-4))) ι) ∧ (0 < (ι a0 1) → ((6 < (ι a0 1) → Q (some (.int (-4))) ι) ∧ (¬ 6 < (ι a0 1) → (0 ≤ ((ι a0 1) - 1).toInt → ((ι a0 1) - 1).toInt < ln (rf a0 0) → Q (some (.int (ι (rf a0 0) ((ι a0 1) - 1).toNatClampNeg))) ι)))))) : PC xl (n + 1) 60 0 [(0, .ref a0)] [] ι Q := by
  refine PC.pr1 (k := 0) (pc' := 1) (lv' := [(0, .ref a0)]) (st' := [.ref a0]) rfl ?_
  refine PC.gI (ci := 5) (j := 1) rfl rfl (by decide) ?_
  refine PC.if1 (t := 30) rfl rfl (fun c => ?_) (fun c => ?_)
  · have h := h.1 (cmp_le.1.mp c)
    refine PC.pr (k := 1) (pc' := 32) (lv' := [(0, .ref a0)]) (st' := [.int (-4)]) rfl ?_
    exact PC.retI rfl h
  · have h := h.2 (cmp_le.2.mp c)
    refine PC.pr (k := 1) (pc' := 8) (lv' := [(0, .ref a0)]) (st' := [.ref a0]) rfl ?_
    refine PC.gI (ci := 5) (j := 1) rfl rfl (by decide) ?_
    refine PC.pr (k := 1) (pc' := 13) (lv' := [(0, .ref a0)]) (st' := [.int 6, .int (ι a0 1)]) rfl ?_
    refine PC.if2 (t := 30) rfl rfl (fun c => ?_) (fun c => ?_)
    · have h := h.1 (cmp_gt.1.mp c)
      refine PC.pr (k := 1) (pc' := 32) (lv' := [(0, .ref a0)]) (st' := [.int (-4)]) rfl ?_
      exact PC.retI rfl h
    · have h := h.2 (cmp_gt.2.mp c)
      refine PC.pr (k := 1) (pc' := 17) (lv' := [(0, .ref a0)]) (st' := [.ref a0]) rfl ?_
      refine PC.gR (ci := 5) (j := 0) rfl rfl (by decide) ?_
      refine PC.pr (k := 1) (pc' := 21) (lv' := [(0, .ref a0)]) (st' := [.ref a0, .ref (rf a0 0)]) rfl ?_
      refine PC.gI (ci := 5) (j := 1) rfl rfl (by decide) ?_
      refine PC.pr (k := 1) (pc' := 25) (lv' := [(0, .ref a0)]) (st' := [.int 1, .int (ι a0 1), .ref (rf a0 0)]) rfl ?_
      refine PC.pr (k := 1) (pc' := 26) (lv' := [(0, .ref a0)]) (st' := [.int ((ι a0 1) - 1), .ref (rf a0 0)]) rfl ?_
      refine PC.rd rfl (rf_lt _ _) (fun c1 c2 => ?_)
      have h := h c1 c2
      refine PC.pr (k := 1) (pc' := 32) (lv' := [(0, .ref a0)]) (st' := [.int (ι (rf a0 0) ((ι a0 1) - 1).toNatClampNeg)]) rfl ?_
      exact PC.retI rfl h

/-- DoorPaints$Town.allPaint()I -/
theorem t_61_0 {xl : List Int32} {n : Nat} {ι : IS} {Q : Option Value → IS → Prop} {a0 : Nat} (h : PC xl n 61 4 [(0, .ref a0), (1, .int 0), (2, .int 0)] [] ι Q) : PC xl (n + 1) 61 0 [(0, .ref a0)] [] ι Q := by
  refine PC.pr1 (k := 0) (pc' := 1) (lv' := [(0, .ref a0)]) (st' := [.int 0]) rfl ?_
  refine PC.pr (k := 1) (pc' := 2) (lv' := [(1, .int 0), (0, .ref a0)]) (st' := []) rfl ?_
  refine PC.pr (k := 1) (pc' := 3) (lv' := [(1, .int 0), (0, .ref a0)]) (st' := [.int 0]) rfl ?_
  refine PC.pr (k := 1) (pc' := 4) (lv' := [(2, .int 0), (1, .int 0), (0, .ref a0)]) (st' := []) rfl ?_
  exact PC.lv (lvE.cons rfl (lvE.cons rfl (lvE.cons rfl (lvE.nil)))) h
theorem t_61_4 {xl : List Int32} {n : Nat} {ι : IS} {Q : Option Value → IS → Prop} {a0 : Nat} {x1 : Int32} {x2 : Int32} (h : ((¬ x2 < (ι a0 2) → Q (some (.int x1)) ι) ∧ (x2 < (ι a0 2) → (0 ≤ x2.toInt → x2.toInt < lr (rf a0 0) → PC xl n 61 4 [(0, .ref a0), (1, .int (x1 + (ι (re (rf a0 0) x2.toNatClampNeg) 2))), (2, .int (x2 + 1))] [] ι Q)))) : PC xl (n + 1) 61 4 [(0, .ref a0), (1, .int x1), (2, .int x2)] [] ι Q := by
  refine PC.pr1 (k := 0) (pc' := 5) (lv' := [(0, .ref a0), (1, .int x1), (2, .int x2)]) (st' := [.int x2]) rfl ?_
  refine PC.pr (k := 1) (pc' := 6) (lv' := [(0, .ref a0), (1, .int x1), (2, .int x2)]) (st' := [.ref a0, .int x2]) rfl ?_
  refine PC.gI (ci := 3) (j := 2) rfl rfl (by decide) ?_
  refine PC.if2 (t := 30) rfl rfl (fun c => ?_) (fun c => ?_)
  · have h := h.1 (cmp_ge.1.mp c)
    refine PC.pr (k := 1) (pc' := 31) (lv' := [(0, .ref a0), (1, .int x1), (2, .int x2)]) (st' := [.int x1]) rfl ?_
    exact PC.retI rfl h
  · have h := h.2 (cmp_ge.2.mp c)
    refine PC.pr (k := 1) (pc' := 13) (lv' := [(0, .ref a0), (1, .int x1), (2, .int x2)]) (st' := [.int x1]) rfl ?_
    refine PC.pr (k := 1) (pc' := 14) (lv' := [(0, .ref a0), (1, .int x1), (2, .int x2)]) (st' := [.ref a0, .int x1]) rfl ?_
    refine PC.gR (ci := 3) (j := 0) rfl rfl (by decide) ?_
    refine PC.pr (k := 1) (pc' := 18) (lv' := [(0, .ref a0), (1, .int x1), (2, .int x2)]) (st' := [.int x2, .ref (rf a0 0), .int x1]) rfl ?_
    refine PC.ra rfl (fun c1 c2 => ?_)
    have h := h c1 c2
    refine PC.gI (ci := 4) (j := 2) rfl rfl (by decide) ?_
    refine PC.pr (k := 1) (pc' := 23) (lv' := [(0, .ref a0), (1, .int x1), (2, .int x2)]) (st' := [.int (x1 + (ι (re (rf a0 0) x2.toNatClampNeg) 2))]) rfl ?_
    refine PC.pr (k := 1) (pc' := 24) (lv' := [(1, .int (x1 + (ι (re (rf a0 0) x2.toNatClampNeg) 2))), (0, .ref a0), (2, .int x2)]) (st' := []) rfl ?_
    refine PC.pr (k := 1) (pc' := 27) (lv' := [(2, .int (x2 + 1)), (1, .int (x1 + (ι (re (rf a0 0) x2.toNatClampNeg) 2))), (0, .ref a0)]) (st' := []) rfl ?_
    refine PC.pr (k := 1) (pc' := 4) (lv' := [(2, .int (x2 + 1)), (1, .int (x1 + (ι (re (rf a0 0) x2.toNatClampNeg) 2))), (0, .ref a0)]) (st' := []) rfl ?_
    exact PC.lv (lvE.cons rfl (lvE.cons rfl (lvE.cons rfl (lvE.nil)))) h

/-- DoorPaints.visitor(II)I -/
theorem t_62_0 {xl : List Int32} {n : Nat} {ι : IS} {Q : Option Value → IS → Prop} {a0 : Nat} {x1 : Int32} {x2 : Int32} (h : PC xl n 49 0 [(0, .ref (rf (rf a0 2) 0)), (1, .int x1)] [] ι (fun v1 κ1 => ∀ r1, v1 = some (.int r1) → ((¬ r1 = 0 → (0 ≤ x1.toInt → x1.toInt < lr (rf (rf (rf a0 2) 0) 0) → ((x2.toInt = 0 → Q (some (.int (κ1 (re (rf (rf (rf a0 2) 0) 0) x1.toNatClampNeg) 0))) κ1) ∧ (x2.toInt = 1 → Q (some (.int (κ1 (re (rf (rf (rf a0 2) 0) 0) x1.toNatClampNeg) 1))) κ1) ∧ (x2.toInt = 2 → Q (some (.int (κ1 (re (rf (rf (rf a0 2) 0) 0) x1.toNatClampNeg) 2))) κ1) ∧ (x2.toInt = 3 → Q (some (.int (κ1 (re (rf (rf (rf a0 2) 0) 0) x1.toNatClampNeg) 3))) κ1) ∧ (x2.toInt = 4 → PC xl n 63 0 [(0, .ref (rf (rf a0 2) 0)), (1, .int x1)] [] κ1 (fun v2 κ2 => ∀ r2, v2 = some (.int r2) → Q (some (.int r2)) κ2)) ∧ ((x2.toInt < 0 ∨ 4 < x2.toInt) → Q (some (.int (-1))) κ1)))) ∧ (r1 = 0 → Q (some (.int (-1))) κ1)))) : PC xl (n + 1) 62 0 [(0, .ref a0), (1, .int x1), (2, .int x2)] [] ι Q := by
  refine PC.pr1 (k := 0) (pc' := 1) (lv' := [(0, .ref a0), (1, .int x1), (2, .int x2)]) (st' := [.ref a0]) rfl ?_
  refine PC.gR (ci := 0) (j := 2) rfl rfl (by decide) ?_
  refine PC.gR (ci := 2) (j := 0) rfl rfl (by decide) ?_
  refine PC.pr (k := 1) (pc' := 8) (lv' := [(0, .ref a0), (1, .int x1), (2, .int x2)]) (st' := [.int x1, .ref (rf (rf a0 2) 0)]) rfl ?_
  refine (PC.callI (j := 49) (args := [.ref (rf (rf a0 2) 0), .int x1]) (rest := []) (M := cM49) (ty := .boolean) rfl rfl rfl rfl rfl rfl (by decide) rfl rfl (by decide) ?_).weak
  refine PC.imp h (fun v1 κ1 h r1 hv => ?_)
  have h := h r1 hv
  refine PC.if1 (t := 16) rfl rfl (fun c => ?_) (fun c => ?_)
  · have h := h.1 (cmp_ne.1.mp c)
    refine PC.pr (k := 1) (pc' := 17) (lv' := [(0, .ref a0), (1, .int x1), (2, .int x2)]) (st' := [.ref a0]) rfl ?_
    refine PC.gR (ci := 0) (j := 2) rfl rfl (by decide) ?_
    refine PC.gR (ci := 2) (j := 0) rfl rfl (by decide) ?_
    refine PC.gR (ci := 3) (j := 0) rfl rfl (by decide) ?_
    refine PC.pr (k := 1) (pc' := 27) (lv' := [(0, .ref a0), (1, .int x1), (2, .int x2)]) (st' := [.int x1, .ref (rf (rf (rf a0 2) 0) 0)]) rfl ?_
    refine PC.ra rfl (fun c1 c2 => ?_)
    have h := h c1 c2
    refine PC.pr (k := 1) (pc' := 29) (lv' := [(3, .ref (re (rf (rf (rf a0 2) 0) 0) x1.toNatClampNeg)), (0, .ref a0), (1, .int x1), (2, .int x2)]) (st' := []) rfl ?_
    refine PC.pr (k := 1) (pc' := 30) (lv' := [(3, .ref (re (rf (rf (rf a0 2) 0) 0) x1.toNatClampNeg)), (0, .ref a0), (1, .int x1), (2, .int x2)]) (st' := [.int x2]) rfl ?_
    refine PC.tsw rfl (fun i off t ho ht hx => ?_) (fun t ht hx => ?_)
    · match i, ho, hx with
      | 0, ho, hx =>
        obtain rfl : (34 : Int) = off := Option.some.inj ho
        obtain rfl : 64 = t := Option.some.inj ht
        have h := h.1 (by simpa using hx)
        refine PC.pr (k := 1) (pc' := 65) (lv' := [(3, .ref (re (rf (rf (rf a0 2) 0) 0) x1.toNatClampNeg)), (0, .ref a0), (1, .int x1), (2, .int x2)]) (st' := [.ref (re (rf (rf (rf a0 2) 0) 0) x1.toNatClampNeg)]) rfl ?_
        refine PC.gI (ci := 4) (j := 0) rfl rfl (by decide) ?_
        exact PC.retI rfl h
      | 1, ho, hx =>
        obtain rfl : (39 : Int) = off := Option.some.inj ho
        obtain rfl : 69 = t := Option.some.inj ht
        have h := h.2.1 (by simpa using hx)
        refine PC.pr (k := 1) (pc' := 70) (lv' := [(3, .ref (re (rf (rf (rf a0 2) 0) 0) x1.toNatClampNeg)), (0, .ref a0), (1, .int x1), (2, .int x2)]) (st' := [.ref (re (rf (rf (rf a0 2) 0) 0) x1.toNatClampNeg)]) rfl ?_
        refine PC.gI (ci := 4) (j := 1) rfl rfl (by decide) ?_
        exact PC.retI rfl h
      | 2, ho, hx =>
        obtain rfl : (44 : Int) = off := Option.some.inj ho
        obtain rfl : 74 = t := Option.some.inj ht
        have h := h.2.2.1 (by simpa using hx)
        refine PC.pr (k := 1) (pc' := 75) (lv' := [(3, .ref (re (rf (rf (rf a0 2) 0) 0) x1.toNatClampNeg)), (0, .ref a0), (1, .int x1), (2, .int x2)]) (st' := [.ref (re (rf (rf (rf a0 2) 0) 0) x1.toNatClampNeg)]) rfl ?_
        refine PC.gI (ci := 4) (j := 2) rfl rfl (by decide) ?_
        exact PC.retI rfl h
      | 3, ho, hx =>
        obtain rfl : (49 : Int) = off := Option.some.inj ho
        obtain rfl : 79 = t := Option.some.inj ht
        have h := h.2.2.2.1 (by simpa using hx)
        refine PC.pr (k := 1) (pc' := 80) (lv' := [(3, .ref (re (rf (rf (rf a0 2) 0) 0) x1.toNatClampNeg)), (0, .ref a0), (1, .int x1), (2, .int x2)]) (st' := [.ref (re (rf (rf (rf a0 2) 0) 0) x1.toNatClampNeg)]) rfl ?_
        refine PC.gI (ci := 4) (j := 3) rfl rfl (by decide) ?_
        exact PC.retI rfl h
      | 4, ho, hx =>
        obtain rfl : (54 : Int) = off := Option.some.inj ho
        obtain rfl : 84 = t := Option.some.inj ht
        have h := h.2.2.2.2.1 (by simpa using hx)
        refine PC.pr (k := 1) (pc' := 85) (lv' := [(3, .ref (re (rf (rf (rf a0 2) 0) 0) x1.toNatClampNeg)), (0, .ref a0), (1, .int x1), (2, .int x2)]) (st' := [.ref a0]) rfl ?_
        refine PC.gR (ci := 0) (j := 2) rfl rfl (by decide) ?_
        refine PC.gR (ci := 2) (j := 0) rfl rfl (by decide) ?_
        refine PC.pr (k := 1) (pc' := 92) (lv' := [(3, .ref (re (rf (rf (rf a0 2) 0) 0) x1.toNatClampNeg)), (0, .ref a0), (1, .int x1), (2, .int x2)]) (st' := [.int x1, .ref (rf (rf a0 2) 0)]) rfl ?_
        refine (PC.callI (j := 63) (args := [.ref (rf (rf a0 2) 0), .int x1]) (rest := []) (M := cM63) (ty := .int) rfl rfl rfl rfl rfl rfl (by decide) rfl rfl (by decide) ?_).weak
        refine PC.imp h (fun v2 κ2 h r2 hv => ?_)
        have h := h r2 hv
        exact PC.retI rfl h
      | i + 5, ho, hx => cases ho
    · obtain rfl : 96 = t := Option.some.inj ht
      have h := h.2.2.2.2.2 hx
      refine PC.pr (k := 1) (pc' := 97) (lv' := [(3, .ref (re (rf (rf (rf a0 2) 0) 0) x1.toNatClampNeg)), (0, .ref a0), (1, .int x1), (2, .int x2)]) (st' := [.int (-1)]) rfl ?_
      exact PC.retI rfl h
  · have h := h.2 (cmp_ne.2.mp c)
    refine PC.pr (k := 1) (pc' := 15) (lv' := [(0, .ref a0), (1, .int x1), (2, .int x2)]) (st' := [.int (-1)]) rfl ?_
    exact PC.retI rfl h

/-- DoorPaints$Town.brushOf(I)I -/
theorem t_63_0 {xl : List Int32} {n : Nat} {ι : IS} {Q : Option Value → IS → Prop} {a0 : Nat} {x1 : Int32} (h : PC xl n 49 0 [(0, .ref a0), (1, .int x1)] [] ι (fun v1 κ1 => ∀ r1, v1 = some (.int r1) → ((¬ r1 = 0 → ((¬ x1 = (κ1 a0 4) → (0 ≤ x1.toInt → x1.toInt < lr (rf a0 0) → ((¬ (κ1 (re (rf a0 0) x1.toNatClampNeg) 0) = 3 → (0 ≤ x1.toInt → x1.toInt < lr (rf a0 0) → Q (some (.int (κ1 (re (rf a0 0) x1.toNatClampNeg) 1))) κ1)) ∧ ((κ1 (re (rf a0 0) x1.toNatClampNeg) 0) = 3 → (0 ≤ (0 : Int32).toInt → (0 : Int32).toInt < lr (rf a0 0) → Q (some (.int (κ1 (re (rf a0 0) (0 : Int32).toNatClampNeg) 1))) κ1))))) ∧ (x1 = (κ1 a0 4) → Q (some (.int (κ1 a0 5))) κ1))) ∧ (r1 = 0 → Q (some (.int (-1))) κ1)))) : PC xl (n + 1) 63 0 [(0, .ref a0), (1, .int x1)] [] ι Q := by
  refine PC.pr1 (k := 0) (pc' := 1) (lv' := [(0, .ref a0), (1, .int x1)]) (st' := [.ref a0]) rfl ?_
  refine PC.pr (k := 1) (pc' := 2) (lv' := [(0, .ref a0), (1, .int x1)]) (st' := [.int x1, .ref a0]) rfl ?_
  refine (PC.callI (j := 49) (args := [.ref a0, .int x1]) (rest := []) (M := cM49) (ty := .boolean) rfl rfl rfl rfl rfl rfl (by decide) rfl rfl (by decide) ?_).weak
  refine PC.imp h (fun v1 κ1 h r1 hv => ?_)
  have h := h r1 hv
  refine PC.if1 (t := 10) rfl rfl (fun c => ?_) (fun c => ?_)
  · have h := h.1 (cmp_ne.1.mp c)
    refine PC.pr (k := 1) (pc' := 11) (lv' := [(0, .ref a0), (1, .int x1)]) (st' := [.int x1]) rfl ?_
    refine PC.pr (k := 1) (pc' := 12) (lv' := [(0, .ref a0), (1, .int x1)]) (st' := [.ref a0, .int x1]) rfl ?_
    refine PC.gI (ci := 3) (j := 4) rfl rfl (by decide) ?_
    refine PC.if2 (t := 23) rfl rfl (fun c => ?_) (fun c => ?_)
    · have h := h.1 (cmp_ne.1.mp c)
      refine PC.pr (k := 1) (pc' := 24) (lv' := [(0, .ref a0), (1, .int x1)]) (st' := [.ref a0]) rfl ?_
      refine PC.gR (ci := 3) (j := 0) rfl rfl (by decide) ?_
      refine PC.pr (k := 1) (pc' := 28) (lv' := [(0, .ref a0), (1, .int x1)]) (st' := [.int x1, .ref (rf a0 0)]) rfl ?_
      refine PC.ra rfl (fun c1 c2 => ?_)
      have h := h c1 c2
      refine PC.gI (ci := 4) (j := 0) rfl rfl (by decide) ?_
      refine PC.pr (k := 1) (pc' := 33) (lv' := [(0, .ref a0), (1, .int x1)]) (st' := [.int 3, .int (κ1 (re (rf a0 0) x1.toNatClampNeg) 0)]) rfl ?_
      refine PC.if2 (t := 48) rfl rfl (fun c => ?_) (fun c => ?_)
      · have h := h.1 (cmp_ne.1.mp c)
        refine PC.pr (k := 1) (pc' := 49) (lv' := [(0, .ref a0), (1, .int x1)]) (st' := [.ref a0]) rfl ?_
        refine PC.gR (ci := 3) (j := 0) rfl rfl (by decide) ?_
        refine PC.pr (k := 1) (pc' := 53) (lv' := [(0, .ref a0), (1, .int x1)]) (st' := [.int x1, .ref (rf a0 0)]) rfl ?_
        refine PC.ra rfl (fun c1 c2 => ?_)
        have h := h c1 c2
        refine PC.gI (ci := 4) (j := 1) rfl rfl (by decide) ?_
        exact PC.retI rfl h
      · have h := h.2 (cmp_ne.2.mp c)
        refine PC.pr (k := 1) (pc' := 37) (lv' := [(0, .ref a0), (1, .int x1)]) (st' := [.ref a0]) rfl ?_
        refine PC.gR (ci := 3) (j := 0) rfl rfl (by decide) ?_
        refine PC.pr (k := 1) (pc' := 41) (lv' := [(0, .ref a0), (1, .int x1)]) (st' := [.int 0, .ref (rf a0 0)]) rfl ?_
        refine PC.ra rfl (fun c1 c2 => ?_)
        have h := h c1 c2
        refine PC.gI (ci := 4) (j := 1) rfl rfl (by decide) ?_
        refine PC.pr (k := 1) (pc' := 57) (lv' := [(0, .ref a0), (1, .int x1)]) (st' := [.int (κ1 (re (rf a0 0) (0 : Int32).toNatClampNeg) 1)]) rfl ?_
        exact PC.retI rfl h
    · have h := h.2 (cmp_ne.2.mp c)
      refine PC.pr (k := 1) (pc' := 19) (lv' := [(0, .ref a0), (1, .int x1)]) (st' := [.ref a0]) rfl ?_
      refine PC.gI (ci := 3) (j := 5) rfl rfl (by decide) ?_
      exact PC.retI rfl h
  · have h := h.2 (cmp_ne.2.mp c)
    refine PC.pr (k := 1) (pc' := 9) (lv' := [(0, .ref a0), (1, .int x1)]) (st' := [.int (-1)]) rfl ?_
    exact PC.retI rfl h

/-- DoorPaints.door(II)I -/
theorem t_64_0 {xl : List Int32} {n : Nat} {ι : IS} {Q : Option Value → IS → Prop} {a0 : Nat} {x1 : Int32} {x2 : Int32} (h : PC xl n 50 0 [(0, .ref (rf (rf a0 2) 0)), (1, .int x1)] [] ι (fun v1 κ1 => ∀ r1, v1 = some (.int r1) → ((¬ r1 = 0 → (0 ≤ x1.toInt → x1.toInt < lr (rf (rf (rf a0 2) 0) 1) → ((x2 < 10 → PC xl n 64 50 [(0, .ref a0), (1, .int x1), (2, .int x2), (3, .ref (re (rf (rf (rf a0 2) 0) 1) x1.toNatClampNeg))] [] κ1 Q) ∧ (¬ x2 < 10 → ((¬ x2 < 16 → PC xl n 64 50 [(0, .ref a0), (1, .int x1), (2, .int x2), (3, .ref (re (rf (rf (rf a0 2) 0) 1) x1.toNatClampNeg))] [] κ1 Q) ∧ (x2 < 16 → PC xl n 65 0 [(0, .ref (re (rf (rf (rf a0 2) 0) 1) x1.toNatClampNeg)), (1, .int (x2 - 10))] [] κ1 (fun v2 κ2 => ∀ r2, v2 = some (.int r2) → Q (some (.int r2)) κ2))))))) ∧ (r1 = 0 → Q (some (.int (-1))) κ1)))) : PC xl (n + 1) 64 0 [(0, .ref a0), (1, .int x1), (2, .int x2)] [] ι Q := by
  refine PC.pr1 (k := 0) (pc' := 1) (lv' := [(0, .ref a0), (1, .int x1), (2, .int x2)]) (st' := [.ref a0]) rfl ?_
  refine PC.gR (ci := 0) (j := 2) rfl rfl (by decide) ?_
  refine PC.gR (ci := 2) (j := 0) rfl rfl (by decide) ?_
  refine PC.pr (k := 1) (pc' := 8) (lv' := [(0, .ref a0), (1, .int x1), (2, .int x2)]) (st' := [.int x1, .ref (rf (rf a0 2) 0)]) rfl ?_
  refine (PC.callI (j := 50) (args := [.ref (rf (rf a0 2) 0), .int x1]) (rest := []) (M := cM50) (ty := .boolean) rfl rfl rfl rfl rfl rfl (by decide) rfl rfl (by decide) ?_).weak
  refine PC.imp h (fun v1 κ1 h r1 hv => ?_)
  have h := h r1 hv
  refine PC.if1 (t := 16) rfl rfl (fun c => ?_) (fun c => ?_)
  · have h := h.1 (cmp_ne.1.mp c)
    refine PC.pr (k := 1) (pc' := 17) (lv' := [(0, .ref a0), (1, .int x1), (2, .int x2)]) (st' := [.ref a0]) rfl ?_
    refine PC.gR (ci := 0) (j := 2) rfl rfl (by decide) ?_
    refine PC.gR (ci := 2) (j := 0) rfl rfl (by decide) ?_
    refine PC.gR (ci := 3) (j := 1) rfl rfl (by decide) ?_
    refine PC.pr (k := 1) (pc' := 27) (lv' := [(0, .ref a0), (1, .int x1), (2, .int x2)]) (st' := [.int x1, .ref (rf (rf (rf a0 2) 0) 1)]) rfl ?_
    refine PC.ra rfl (fun c1 c2 => ?_)
    have h := h c1 c2
    refine PC.pr (k := 1) (pc' := 29) (lv' := [(3, .ref (re (rf (rf (rf a0 2) 0) 1) x1.toNatClampNeg)), (0, .ref a0), (1, .int x1), (2, .int x2)]) (st' := []) rfl ?_
    refine PC.pr (k := 1) (pc' := 30) (lv' := [(3, .ref (re (rf (rf (rf a0 2) 0) 1) x1.toNatClampNeg)), (0, .ref a0), (1, .int x1), (2, .int x2)]) (st' := [.int x2]) rfl ?_
    refine PC.pr (k := 1) (pc' := 32) (lv' := [(3, .ref (re (rf (rf (rf a0 2) 0) 1) x1.toNatClampNeg)), (0, .ref a0), (1, .int x1), (2, .int x2)]) (st' := [.int 10, .int x2]) rfl ?_
    refine PC.if2 (t := 50) rfl rfl (fun c => ?_) (fun c => ?_)
    · have h := h.1 (cmp_lt.1.mp c)
      exact PC.lv (lvE.cons rfl (lvE.cons rfl (lvE.cons rfl (lvE.cons rfl (lvE.nil))))) h
    · have h := h.2 (cmp_lt.2.mp c)
      refine PC.pr (k := 1) (pc' := 36) (lv' := [(3, .ref (re (rf (rf (rf a0 2) 0) 1) x1.toNatClampNeg)), (0, .ref a0), (1, .int x1), (2, .int x2)]) (st' := [.int x2]) rfl ?_
      refine PC.pr (k := 1) (pc' := 38) (lv' := [(3, .ref (re (rf (rf (rf a0 2) 0) 1) x1.toNatClampNeg)), (0, .ref a0), (1, .int x1), (2, .int x2)]) (st' := [.int 16, .int x2]) rfl ?_
      refine PC.if2 (t := 50) rfl rfl (fun c => ?_) (fun c => ?_)
      · have h := h.1 (cmp_ge.1.mp c)
        exact PC.lv (lvE.cons rfl (lvE.cons rfl (lvE.cons rfl (lvE.cons rfl (lvE.nil))))) h
      · have h := h.2 (cmp_ge.2.mp c)
        refine PC.pr (k := 1) (pc' := 42) (lv' := [(3, .ref (re (rf (rf (rf a0 2) 0) 1) x1.toNatClampNeg)), (0, .ref a0), (1, .int x1), (2, .int x2)]) (st' := [.ref (re (rf (rf (rf a0 2) 0) 1) x1.toNatClampNeg)]) rfl ?_
        refine PC.pr (k := 1) (pc' := 43) (lv' := [(3, .ref (re (rf (rf (rf a0 2) 0) 1) x1.toNatClampNeg)), (0, .ref a0), (1, .int x1), (2, .int x2)]) (st' := [.int x2, .ref (re (rf (rf (rf a0 2) 0) 1) x1.toNatClampNeg)]) rfl ?_
        refine PC.pr (k := 1) (pc' := 45) (lv' := [(3, .ref (re (rf (rf (rf a0 2) 0) 1) x1.toNatClampNeg)), (0, .ref a0), (1, .int x1), (2, .int x2)]) (st' := [.int 10, .int x2, .ref (re (rf (rf (rf a0 2) 0) 1) x1.toNatClampNeg)]) rfl ?_
        refine PC.pr (k := 1) (pc' := 46) (lv' := [(3, .ref (re (rf (rf (rf a0 2) 0) 1) x1.toNatClampNeg)), (0, .ref a0), (1, .int x1), (2, .int x2)]) (st' := [.int (x2 - 10), .ref (re (rf (rf (rf a0 2) 0) 1) x1.toNatClampNeg)]) rfl ?_
        refine (PC.callI (j := 65) (args := [.ref (re (rf (rf (rf a0 2) 0) 1) x1.toNatClampNeg), .int (x2 - 10)]) (rest := []) (M := cM65) (ty := .int) rfl rfl rfl rfl rfl rfl (by decide) rfl rfl (by decide) ?_).weak
        refine PC.imp h (fun v2 κ2 h r2 hv => ?_)
        have h := h r2 hv
        exact PC.retI rfl h
  · have h := h.2 (cmp_ne.2.mp c)
    refine PC.pr (k := 1) (pc' := 15) (lv' := [(0, .ref a0), (1, .int x1), (2, .int x2)]) (st' := [.int (-1)]) rfl ?_
    exact PC.retI rfl h
theorem t_64_50 {xl : List Int32} {n : Nat} {ι : IS} {Q : Option Value → IS → Prop} {w0 : Value} {w1 : Value} {x2 : Int32} {a3 : Nat} (h : ((x2.toInt = 0 → Q (some (.int (ι a3 1))) ι) ∧ (x2.toInt = 1 → PC xl n 60 0 [(0, .ref a3)] [] ι (fun v1 κ1 => ∀ r1, v1 = some (.int r1) → Q (some (.int r1)) κ1)) ∧ (x2.toInt = 2 → Q (some (.int (ι a3 2))) ι) ∧ (x2.toInt = 3 → (((ι a3 3) = 0 → Q (some (.int 0)) ι) ∧ (¬ (ι a3 3) = 0 → Q (some (.int 1)) ι))) ∧ ((x2.toInt < 0 ∨ 3 < x2.toInt) → Q (some (.int (-1))) ι))) : PC xl (n + 1) 64 50 [(0, w0), (1, w1), (2, .int x2), (3, .ref a3)] [] ι Q := by
  refine PC.pr1 (k := 0) (pc' := 51) (lv' := [(0, w0), (1, w1), (2, .int x2), (3, .ref a3)]) (st' := [.int x2]) rfl ?_
  refine PC.tsw rfl (fun i off t ho ht hx => ?_) (fun t ht hx => ?_)
  · match i, ho, hx with
    | 0, ho, hx =>
      obtain rfl : (29 : Int) = off := Option.some.inj ho
      obtain rfl : 80 = t := Option.some.inj ht
      have h := h.1 (by simpa using hx)
      refine PC.pr (k := 1) (pc' := 81) (lv' := [(0, w0), (1, w1), (2, .int x2), (3, .ref a3)]) (st' := [.ref a3]) rfl ?_
      refine PC.gI (ci := 5) (j := 1) rfl rfl (by decide) ?_
      exact PC.retI rfl h
    | 1, ho, hx =>
      obtain rfl : (34 : Int) = off := Option.some.inj ho
      obtain rfl : 85 = t := Option.some.inj ht
      have h := h.2.1 (by simpa using hx)
      refine PC.pr (k := 1) (pc' := 86) (lv' := [(0, w0), (1, w1), (2, .int x2), (3, .ref a3)]) (st' := [.ref a3]) rfl ?_
      refine (PC.callI (j := 60) (args := [.ref a3]) (rest := []) (M := cM60) (ty := .int) rfl rfl rfl rfl rfl rfl (by decide) rfl rfl (by decide) ?_).weak
      refine PC.imp h (fun v1 κ1 h r1 hv => ?_)
      have h := h r1 hv
      exact PC.retI rfl h
    | 2, ho, hx =>
      obtain rfl : (39 : Int) = off := Option.some.inj ho
      obtain rfl : 90 = t := Option.some.inj ht
      have h := h.2.2.1 (by simpa using hx)
      refine PC.pr (k := 1) (pc' := 91) (lv' := [(0, w0), (1, w1), (2, .int x2), (3, .ref a3)]) (st' := [.ref a3]) rfl ?_
      refine PC.gI (ci := 5) (j := 2) rfl rfl (by decide) ?_
      exact PC.retI rfl h
    | 3, ho, hx =>
      obtain rfl : (44 : Int) = off := Option.some.inj ho
      obtain rfl : 95 = t := Option.some.inj ht
      have h := h.2.2.2.1 (by simpa using hx)
      refine PC.pr (k := 1) (pc' := 96) (lv' := [(0, w0), (1, w1), (2, .int x2), (3, .ref a3)]) (st' := [.ref a3]) rfl ?_
      refine PC.gI (ci := 5) (j := 3) rfl rfl (by decide) ?_
      refine PC.if1 (t := 106) rfl rfl (fun c => ?_) (fun c => ?_)
      · have h := h.1 (cmp_eq.1.mp c)
        refine PC.pr (k := 1) (pc' := 107) (lv' := [(0, w0), (1, w1), (2, .int x2), (3, .ref a3)]) (st' := [.int 0]) rfl ?_
        exact PC.retI rfl h
      · have h := h.2 (cmp_eq.2.mp c)
        refine PC.pr (k := 1) (pc' := 103) (lv' := [(0, w0), (1, w1), (2, .int x2), (3, .ref a3)]) (st' := [.int 1]) rfl ?_
        refine PC.pr (k := 1) (pc' := 107) (lv' := [(0, w0), (1, w1), (2, .int x2), (3, .ref a3)]) (st' := [.int 1]) rfl ?_
        exact PC.retI rfl h
    | i + 4, ho, hx => cases ho
  · obtain rfl : 108 = t := Option.some.inj ht
    have h := h.2.2.2.2 hx
    refine PC.pr (k := 1) (pc' := 109) (lv' := [(0, w0), (1, w1), (2, .int x2), (3, .ref a3)]) (st' := [.int (-1)]) rfl ?_
    exact PC.retI rfl h

/-- DoorPaints$Door.layerAt(I)I -/
theorem t_65_0 {xl : List Int32} {n : Nat} {ι : IS} {Q : Option Value → IS → Prop} {a0 : Nat} {x1 : Int32} (h : ((x1 < 0 → Q (some (.int (-4))) ι) ∧ (¬ x1 < 0 → ((¬ x1 < (ι a0 1) → Q (some (.int (-4))) ι) ∧ (x1 < (ι a0 1) → (0 ≤ x1.toInt → x1.toInt < ln (rf a0 0) → Q (some (.int (ι (rf a0 0) x1.toNatClampNeg))) ι)))))) : PC xl (n + 1) 65 0 [(0, .ref a0), (1, .int x1)] [] ι Q := by
  refine PC.pr1 (k := 0) (pc' := 1) (lv' := [(0, .ref a0), (1, .int x1)]) (st' := [.int x1]) rfl ?_
  refine PC.if1 (t := 21) rfl rfl (fun c => ?_) (fun c => ?_)
  · have h := h.1 (cmp_lt.1.mp c)
    refine PC.pr (k := 1) (pc' := 23) (lv' := [(0, .ref a0), (1, .int x1)]) (st' := [.int (-4)]) rfl ?_
    exact PC.retI rfl h
  · have h := h.2 (cmp_lt.2.mp c)
    refine PC.pr (k := 1) (pc' := 5) (lv' := [(0, .ref a0), (1, .int x1)]) (st' := [.int x1]) rfl ?_
    refine PC.pr (k := 1) (pc' := 6) (lv' := [(0, .ref a0), (1, .int x1)]) (st' := [.ref a0, .int x1]) rfl ?_
    refine PC.gI (ci := 5) (j := 1) rfl rfl (by decide) ?_
    refine PC.if2 (t := 21) rfl rfl (fun c => ?_) (fun c => ?_)
    · have h := h.1 (cmp_ge.1.mp c)
      refine PC.pr (k := 1) (pc' := 23) (lv' := [(0, .ref a0), (1, .int x1)]) (st' := [.int (-4)]) rfl ?_
      exact PC.retI rfl h
    · have h := h.2 (cmp_ge.2.mp c)
      refine PC.pr (k := 1) (pc' := 13) (lv' := [(0, .ref a0), (1, .int x1)]) (st' := [.ref a0]) rfl ?_
      refine PC.gR (ci := 5) (j := 0) rfl rfl (by decide) ?_
      refine PC.pr (k := 1) (pc' := 17) (lv' := [(0, .ref a0), (1, .int x1)]) (st' := [.int x1, .ref (rf a0 0)]) rfl ?_
      refine PC.rd rfl (rf_lt _ _) (fun c1 c2 => ?_)
      have h := h c1 c2
      refine PC.pr (k := 1) (pc' := 23) (lv' := [(0, .ref a0), (1, .int x1)]) (st' := [.int (ι (rf a0 0) x1.toNatClampNeg)]) rfl ?_
      exact PC.retI rfl h

/-- DoorPaints.plan(I)I -/
theorem t_66_0 {xl : List Int32} {n : Nat} {ι : IS} {Q : Option Value → IS → Prop} {a0 : Nat} {x1 : Int32} (h : ((x1 < 0 → Q (some (.int (-1))) ι) ∧ (¬ x1 < 0 → ((¬ x1 < (ι (rf a0 2) 2) → Q (some (.int (-1))) ι) ∧ (x1 < (ι (rf a0 2) 2) → (0 ≤ x1.toInt → x1.toInt < ln (rf (rf a0 2) 1) → Q (some (.int (ι (rf (rf a0 2) 1) x1.toNatClampNeg))) ι)))))) : PC xl (n + 1) 66 0 [(0, .ref a0), (1, .int x1)] [] ι Q := by
  refine PC.pr1 (k := 0) (pc' := 1) (lv' := [(0, .ref a0), (1, .int x1)]) (st' := [.int x1]) rfl ?_
  refine PC.if1 (t := 27) rfl rfl (fun c => ?_) (fun c => ?_)
  · have h := h.1 (cmp_lt.1.mp c)
    refine PC.pr (k := 1) (pc' := 28) (lv' := [(0, .ref a0), (1, .int x1)]) (st' := [.int (-1)]) rfl ?_
    exact PC.retI rfl h
  · have h := h.2 (cmp_lt.2.mp c)
    refine PC.pr (k := 1) (pc' := 5) (lv' := [(0, .ref a0), (1, .int x1)]) (st' := [.int x1]) rfl ?_
    refine PC.pr (k := 1) (pc' := 6) (lv' := [(0, .ref a0), (1, .int x1)]) (st' := [.ref a0, .int x1]) rfl ?_
    refine PC.gR (ci := 0) (j := 2) rfl rfl (by decide) ?_
    refine PC.gI (ci := 2) (j := 2) rfl rfl (by decide) ?_
    refine PC.if2 (t := 27) rfl rfl (fun c => ?_) (fun c => ?_)
    · have h := h.1 (cmp_ge.1.mp c)
      refine PC.pr (k := 1) (pc' := 28) (lv' := [(0, .ref a0), (1, .int x1)]) (st' := [.int (-1)]) rfl ?_
      exact PC.retI rfl h
    · have h := h.2 (cmp_ge.2.mp c)
      refine PC.pr (k := 1) (pc' := 16) (lv' := [(0, .ref a0), (1, .int x1)]) (st' := [.ref a0]) rfl ?_
      refine PC.gR (ci := 0) (j := 2) rfl rfl (by decide) ?_
      refine PC.gR (ci := 2) (j := 1) rfl rfl (by decide) ?_
      refine PC.pr (k := 1) (pc' := 23) (lv' := [(0, .ref a0), (1, .int x1)]) (st' := [.int x1, .ref (rf (rf a0 2) 1)]) rfl ?_
      refine PC.rd rfl (rf_lt _ _) (fun c1 c2 => ?_)
      have h := h c1 c2
      refine PC.pr (k := 1) (pc' := 28) (lv' := [(0, .ref a0), (1, .int x1)]) (st' := [.int (ι (rf (rf a0 2) 1) x1.toNatClampNeg)]) rfl ?_
      exact PC.retI rfl h

/-- DoorPaints.uses(II)I -/
theorem t_67_0 {xl : List Int32} {n : Nat} {ι : IS} {Q : Option Value → IS → Prop} {a0 : Nat} {x1 : Int32} {x2 : Int32} (h : PC xl n 68 0 [(0, .ref (rf (rf a0 2) 0)), (1, .int x1), (2, .int x2)] [] ι (fun v1 κ1 => ∀ r1, v1 = some (.int r1) → Q (some (.int r1)) κ1)) : PC xl (n + 1) 67 0 [(0, .ref a0), (1, .int x1), (2, .int x2)] [] ι Q := by
  refine PC.pr1 (k := 0) (pc' := 1) (lv' := [(0, .ref a0), (1, .int x1), (2, .int x2)]) (st' := [.ref a0]) rfl ?_
  refine PC.gR (ci := 0) (j := 2) rfl rfl (by decide) ?_
  refine PC.gR (ci := 2) (j := 0) rfl rfl (by decide) ?_
  refine PC.pr (k := 1) (pc' := 8) (lv' := [(0, .ref a0), (1, .int x1), (2, .int x2)]) (st' := [.int x1, .ref (rf (rf a0 2) 0)]) rfl ?_
  refine PC.pr (k := 1) (pc' := 9) (lv' := [(0, .ref a0), (1, .int x1), (2, .int x2)]) (st' := [.int x2, .int x1, .ref (rf (rf a0 2) 0)]) rfl ?_
  refine (PC.callI (j := 68) (args := [.ref (rf (rf a0 2) 0), .int x1, .int x2]) (rest := []) (M := cM68) (ty := .int) rfl rfl rfl rfl rfl rfl (by decide) rfl rfl (by decide) ?_).weak
  refine PC.imp h (fun v1 κ1 h r1 hv => ?_)
  have h := h r1 hv
  exact PC.retI rfl h

/-- DoorPaints$Town.costOf(II)I -/
theorem t_68_0 {xl : List Int32} {n : Nat} {ι : IS} {Q : Option Value → IS → Prop} {a0 : Nat} {x1 : Int32} {x2 : Int32} (h : PC xl n 49 0 [(0, .ref a0), (1, .int x1)] [] ι (fun v1 κ1 => ∀ r1, v1 = some (.int r1) → ((r1 = 0 → Q (some (.int (-1))) κ1) ∧ (¬ r1 = 0 → PC xl n 50 0 [(0, .ref a0), (1, .int x2)] [] κ1 (fun v2 κ2 => ∀ r2, v2 = some (.int r2) → ((¬ r2 = 0 → (0 ≤ x2.toInt → x2.toInt < lr (rf a0 1) → (0 ≤ x1.toInt → x1.toInt < lr (rf a0 0) → (((κ2 (re (rf a0 0) x1.toNatClampNeg) 0).toInt = 1 → Q (some (.int (2 * (1 + ((κ2 (re (rf a0 1) x2.toNatClampNeg) 1) / 3))))) κ2) ∧ ((κ2 (re (rf a0 0) x1.toNatClampNeg) 0).toInt = 2 → Q (some (.int 0)) κ2) ∧ ((¬ (κ2 (re (rf a0 0) x1.toNatClampNeg) 0).toInt = 1 ∧ ¬ (κ2 (re (rf a0 0) x1.toNatClampNeg) 0).toInt = 2) → Q (some (.int (1 + ((κ2 (re (rf a0 1) x2.toNatClampNeg) 1) / 3)))) κ2))))) ∧ (r2 = 0 → Q (some (.int (-1))) κ2))))))) : PC xl (n + 1) 68 0 [(0, .ref a0), (1, .int x1), (2, .int x2)] [] ι Q := by
  refine PC.pr1 (k := 0) (pc' := 1) (lv' := [(0, .ref a0), (1, .int x1), (2, .int x2)]) (st' := [.ref a0]) rfl ?_
  refine PC.pr (k := 1) (pc' := 2) (lv' := [(0, .ref a0), (1, .int x1), (2, .int x2)]) (st' := [.int x1, .ref a0]) rfl ?_
  refine (PC.callI (j := 49) (args := [.ref a0, .int x1]) (rest := []) (M := cM49) (ty := .boolean) rfl rfl rfl rfl rfl rfl (by decide) rfl rfl (by decide) ?_).weak
  refine PC.imp h (fun v1 κ1 h r1 hv => ?_)
  have h := h r1 hv
  refine PC.if1 (t := 16) rfl rfl (fun c => ?_) (fun c => ?_)
  · have h := h.1 (cmp_eq.1.mp c)
    refine PC.pr (k := 1) (pc' := 17) (lv' := [(0, .ref a0), (1, .int x1), (2, .int x2)]) (st' := [.int (-1)]) rfl ?_
    exact PC.retI rfl h
  · have h := h.2 (cmp_eq.2.mp c)
    refine PC.pr (k := 1) (pc' := 9) (lv' := [(0, .ref a0), (1, .int x1), (2, .int x2)]) (st' := [.ref a0]) rfl ?_
    refine PC.pr (k := 1) (pc' := 10) (lv' := [(0, .ref a0), (1, .int x1), (2, .int x2)]) (st' := [.int x2, .ref a0]) rfl ?_
    refine (PC.callI (j := 50) (args := [.ref a0, .int x2]) (rest := []) (M := cM50) (ty := .boolean) rfl rfl rfl rfl rfl rfl (by decide) rfl rfl (by decide) ?_).weak
    refine PC.imp h (fun v2 κ2 h r2 hv => ?_)
    have h := h r2 hv
    refine PC.if1 (t := 18) rfl rfl (fun c => ?_) (fun c => ?_)
    · have h := h.1 (cmp_ne.1.mp c)
      refine PC.pr (k := 1) (pc' := 19) (lv' := [(0, .ref a0), (1, .int x1), (2, .int x2)]) (st' := [.int 1]) rfl ?_
      refine PC.pr (k := 1) (pc' := 20) (lv' := [(0, .ref a0), (1, .int x1), (2, .int x2)]) (st' := [.ref a0, .int 1]) rfl ?_
      refine PC.gR (ci := 3) (j := 1) rfl rfl (by decide) ?_
      refine PC.pr (k := 1) (pc' := 24) (lv' := [(0, .ref a0), (1, .int x1), (2, .int x2)]) (st' := [.int x2, .ref (rf a0 1), .int 1]) rfl ?_
      refine PC.ra rfl (fun c1 c2 => ?_)
      have h := h c1 c2
      refine PC.gI (ci := 5) (j := 1) rfl rfl (by decide) ?_
      refine PC.pr (k := 1) (pc' := 29) (lv' := [(0, .ref a0), (1, .int x1), (2, .int x2)]) (st' := [.int 3, .int (κ2 (re (rf a0 1) x2.toNatClampNeg) 1), .int 1]) rfl ?_
      refine PC.pr (k := 1) (pc' := 30) (lv' := [(0, .ref a0), (1, .int x1), (2, .int x2)]) (st' := [.int ((κ2 (re (rf a0 1) x2.toNatClampNeg) 1) / 3), .int 1]) rfl ?_
      refine PC.pr (k := 1) (pc' := 31) (lv' := [(0, .ref a0), (1, .int x1), (2, .int x2)]) (st' := [.int (1 + ((κ2 (re (rf a0 1) x2.toNatClampNeg) 1) / 3))]) rfl ?_
      refine PC.pr (k := 1) (pc' := 32) (lv' := [(3, .int (1 + ((κ2 (re (rf a0 1) x2.toNatClampNeg) 1) / 3))), (0, .ref a0), (1, .int x1), (2, .int x2)]) (st' := []) rfl ?_
      refine PC.pr (k := 1) (pc' := 33) (lv' := [(3, .int (1 + ((κ2 (re (rf a0 1) x2.toNatClampNeg) 1) / 3))), (0, .ref a0), (1, .int x1), (2, .int x2)]) (st' := [.ref a0]) rfl ?_
      refine PC.gR (ci := 3) (j := 0) rfl rfl (by decide) ?_
      refine PC.pr (k := 1) (pc' := 37) (lv' := [(3, .int (1 + ((κ2 (re (rf a0 1) x2.toNatClampNeg) 1) / 3))), (0, .ref a0), (1, .int x1), (2, .int x2)]) (st' := [.int x1, .ref (rf a0 0)]) rfl ?_
      refine PC.ra rfl (fun c1 c2 => ?_)
      have h := h c1 c2
      refine PC.gI (ci := 4) (j := 0) rfl rfl (by decide) ?_
      refine PC.lsw rfl (fun o t ho ht => ?_)
      have ho : (if (1 : Int) = (κ2 (re (rf a0 0) x1.toNatClampNeg) 0).toInt then (29 : Int) else (if (2 : Int) = (κ2 (re (rf a0 0) x1.toNatClampNeg) 0).toInt then (27 : Int) else (33 : Int))) = o := ho
      by_cases e0 : (1 : Int) = (κ2 (re (rf a0 0) x1.toNatClampNeg) 0).toInt
      · rw [if_pos e0] at ho
        subst ho
        obtain rfl : 70 = t := Option.some.inj ht
        have h := h.1 e0.symm
        refine PC.pr (k := 1) (pc' := 71) (lv' := [(3, .int (1 + ((κ2 (re (rf a0 1) x2.toNatClampNeg) 1) / 3))), (0, .ref a0), (1, .int x1), (2, .int x2)]) (st' := [.int 2]) rfl ?_
        refine PC.pr (k := 1) (pc' := 72) (lv' := [(3, .int (1 + ((κ2 (re (rf a0 1) x2.toNatClampNeg) 1) / 3))), (0, .ref a0), (1, .int x1), (2, .int x2)]) (st' := [.int (1 + ((κ2 (re (rf a0 1) x2.toNatClampNeg) 1) / 3)), .int 2]) rfl ?_
        refine PC.pr (k := 1) (pc' := 73) (lv' := [(3, .int (1 + ((κ2 (re (rf a0 1) x2.toNatClampNeg) 1) / 3))), (0, .ref a0), (1, .int x1), (2, .int x2)]) (st' := [.int (2 * (1 + ((κ2 (re (rf a0 1) x2.toNatClampNeg) 1) / 3)))]) rfl ?_
        exact PC.retI rfl h
      · rw [if_neg e0] at ho
        by_cases e1 : (2 : Int) = (κ2 (re (rf a0 0) x1.toNatClampNeg) 0).toInt
        · rw [if_pos e1] at ho
          subst ho
          obtain rfl : 68 = t := Option.some.inj ht
          have h := h.2.1 e1.symm
          refine PC.pr (k := 1) (pc' := 69) (lv' := [(3, .int (1 + ((κ2 (re (rf a0 1) x2.toNatClampNeg) 1) / 3))), (0, .ref a0), (1, .int x1), (2, .int x2)]) (st' := [.int 0]) rfl ?_
          exact PC.retI rfl h
        · rw [if_neg e1] at ho
          subst ho
          obtain rfl : 74 = t := Option.some.inj ht
          have h := h.2.2 ⟨fun q => e0 q.symm, fun q => e1 q.symm⟩
          refine PC.pr (k := 1) (pc' := 75) (lv' := [(3, .int (1 + ((κ2 (re (rf a0 1) x2.toNatClampNeg) 1) / 3))), (0, .ref a0), (1, .int x1), (2, .int x2)]) (st' := [.int (1 + ((κ2 (re (rf a0 1) x2.toNatClampNeg) 1) / 3))]) rfl ?_
          exact PC.retI rfl h
    · have h := h.2 (cmp_ne.2.mp c)
      refine PC.pr (k := 1) (pc' := 17) (lv' := [(0, .ref a0), (1, .int x1), (2, .int x2)]) (st' := [.int (-1)]) rfl ?_
      exact PC.retI rfl h

/-- DoorPaints.visit(II)I -/
theorem t_69_0 {xl : List Int32} {n : Nat} {ι : IS} {Q : Option Value → IS → Prop} {a0 : Nat} {x1 : Int32} {x2 : Int32} (h : PC xl n 70 0 [(0, .ref (rf (rf a0 2) 0)), (1, .int x1), (2, .int x2)] [] ι (fun v1 κ1 => ∀ r1, v1 = some (.int r1) → Q (some (.int r1)) κ1)) : PC xl (n + 1) 69 0 [(0, .ref a0), (1, .int x1), (2, .int x2)] [] ι Q := by
  refine PC.pr1 (k := 0) (pc' := 1) (lv' := [(0, .ref a0), (1, .int x1), (2, .int x2)]) (st' := [.ref a0]) rfl ?_
  refine PC.gR (ci := 0) (j := 2) rfl rfl (by decide) ?_
  refine PC.gR (ci := 2) (j := 0) rfl rfl (by decide) ?_
  refine PC.pr (k := 1) (pc' := 8) (lv' := [(0, .ref a0), (1, .int x1), (2, .int x2)]) (st' := [.int x1, .ref (rf (rf a0 2) 0)]) rfl ?_
  refine PC.pr (k := 1) (pc' := 9) (lv' := [(0, .ref a0), (1, .int x1), (2, .int x2)]) (st' := [.int x2, .int x1, .ref (rf (rf a0 2) 0)]) rfl ?_
  refine (PC.callI (j := 70) (args := [.ref (rf (rf a0 2) 0), .int x1, .int x2]) (rest := []) (M := cM70) (ty := .int) rfl rfl rfl rfl rfl rfl (by decide) rfl rfl (by decide) ?_).weak
  refine PC.imp h (fun v1 κ1 h r1 hv => ?_)
  have h := h r1 hv
  exact PC.retI rfl h

/-- DoorPaints$Town.receive(II)I -/
theorem t_70_0 {xl : List Int32} {n : Nat} {ι : IS} {Q : Option Value → IS → Prop} {a0 : Nat} {x1 : Int32} {x2 : Int32} (h : PC xl n 68 0 [(0, .ref a0), (1, .int x1), (2, .int x2)] [] ι (fun v1 κ1 => ∀ r1, v1 = some (.int r1) → ((¬ r1 = (-1) → (0 ≤ x1.toInt → x1.toInt < lr (rf a0 0) → (0 ≤ x2.toInt → x2.toInt < lr (rf a0 1) → ((¬ (κ1 (re (rf a0 0) x1.toNatClampNeg) 2) < r1 → (((κ1 (re (rf a0 0) x1.toNatClampNeg) 0) = 2 → PC xl n 70 62 [(0, .ref a0), (1, .int x1), (2, .int x2), (3, .int r1), (4, .ref (re (rf a0 0) x1.toNatClampNeg)), (5, .ref (re (rf a0 1) x2.toNatClampNeg))] [] κ1 Q) ∧ (¬ (κ1 (re (rf a0 0) x1.toNatClampNeg) 0) = 2 → PC xl n 71 0 [(0, .ref (re (rf a0 1) x2.toNatClampNeg))] [] κ1 (fun v2 κ2 => ∀ r2, v2 = some (.int r2) → ((r2 = 0 → PC xl n 70 62 [(0, .ref a0), (1, .int x1), (2, .int x2), (3, .int r1), (4, .ref (re (rf a0 0) x1.toNatClampNeg)), (5, .ref (re (rf a0 1) x2.toNatClampNeg))] [] κ2 Q) ∧ (¬ r2 = 0 → Q (some (.int (-3))) κ2)))))) ∧ ((κ1 (re (rf a0 0) x1.toNatClampNeg) 2) < r1 → Q (some (.int (-2))) κ1))))) ∧ (r1 = (-1) → Q (some (.int (-1))) κ1)))) : PC xl (n + 1) 70 0 [(0, .ref a0), (1, .int x1), (2, .int x2)] [] ι Q := by
  refine PC.pr1 (k := 0) (pc' := 1) (lv' := [(0, .ref a0), (1, .int x1), (2, .int x2)]) (st' := [.ref a0]) rfl ?_
  refine PC.pr (k := 1) (pc' := 2) (lv' := [(0, .ref a0), (1, .int x1), (2, .int x2)]) (st' := [.int x1, .ref a0]) rfl ?_
  refine PC.pr (k := 1) (pc' := 3) (lv' := [(0, .ref a0), (1, .int x1), (2, .int x2)]) (st' := [.int x2, .int x1, .ref a0]) rfl ?_
  refine (PC.callI (j := 68) (args := [.ref a0, .int x1, .int x2]) (rest := []) (M := cM68) (ty := .int) rfl rfl rfl rfl rfl rfl (by decide) rfl rfl (by decide) ?_).weak
  refine PC.imp h (fun v1 κ1 h r1 hv => ?_)
  have h := h r1 hv
  refine PC.pr (k := 1) (pc' := 7) (lv' := [(3, .int r1), (0, .ref a0), (1, .int x1), (2, .int x2)]) (st' := []) rfl ?_
  refine PC.pr (k := 1) (pc' := 8) (lv' := [(3, .int r1), (0, .ref a0), (1, .int x1), (2, .int x2)]) (st' := [.int r1]) rfl ?_
  refine PC.pr (k := 1) (pc' := 9) (lv' := [(3, .int r1), (0, .ref a0), (1, .int x1), (2, .int x2)]) (st' := [.int (-1), .int r1]) rfl ?_
  refine PC.if2 (t := 14) rfl rfl (fun c => ?_) (fun c => ?_)
  · have h := h.1 (cmp_ne.1.mp c)
    refine PC.pr (k := 1) (pc' := 15) (lv' := [(3, .int r1), (0, .ref a0), (1, .int x1), (2, .int x2)]) (st' := [.ref a0]) rfl ?_
    refine PC.gR (ci := 3) (j := 0) rfl rfl (by decide) ?_
    refine PC.pr (k := 1) (pc' := 19) (lv' := [(3, .int r1), (0, .ref a0), (1, .int x1), (2, .int x2)]) (st' := [.int x1, .ref (rf a0 0)]) rfl ?_
    refine PC.ra rfl (fun c1 c2 => ?_)
    have h := h c1 c2
    refine PC.pr (k := 1) (pc' := 22) (lv' := [(4, .ref (re (rf a0 0) x1.toNatClampNeg)), (3, .int r1), (0, .ref a0), (1, .int x1), (2, .int x2)]) (st' := []) rfl ?_
    refine PC.pr (k := 1) (pc' := 23) (lv' := [(4, .ref (re (rf a0 0) x1.toNatClampNeg)), (3, .int r1), (0, .ref a0), (1, .int x1), (2, .int x2)]) (st' := [.ref a0]) rfl ?_
    refine PC.gR (ci := 3) (j := 1) rfl rfl (by decide) ?_
    refine PC.pr (k := 1) (pc' := 27) (lv' := [(4, .ref (re (rf a0 0) x1.toNatClampNeg)), (3, .int r1), (0, .ref a0), (1, .int x1), (2, .int x2)]) (st' := [.int x2, .ref (rf a0 1)]) rfl ?_
    refine PC.ra rfl (fun c1 c2 => ?_)
    have h := h c1 c2
    refine PC.pr (k := 1) (pc' := 30) (lv' := [(5, .ref (re (rf a0 1) x2.toNatClampNeg)), (4, .ref (re (rf a0 0) x1.toNatClampNeg)), (3, .int r1), (0, .ref a0), (1, .int x1), (2, .int x2)]) (st' := []) rfl ?_
    refine PC.pr (k := 1) (pc' := 32) (lv' := [(5, .ref (re (rf a0 1) x2.toNatClampNeg)), (4, .ref (re (rf a0 0) x1.toNatClampNeg)), (3, .int r1), (0, .ref a0), (1, .int x1), (2, .int x2)]) (st' := [.ref (re (rf a0 0) x1.toNatClampNeg)]) rfl ?_
    refine PC.gI (ci := 4) (j := 2) rfl rfl (by decide) ?_
    refine PC.pr (k := 1) (pc' := 36) (lv' := [(5, .ref (re (rf a0 1) x2.toNatClampNeg)), (4, .ref (re (rf a0 0) x1.toNatClampNeg)), (3, .int r1), (0, .ref a0), (1, .int x1), (2, .int x2)]) (st' := [.int r1, .int (κ1 (re (rf a0 0) x1.toNatClampNeg) 2)]) rfl ?_
    refine PC.if2 (t := 42) rfl rfl (fun c => ?_) (fun c => ?_)
    · have h := h.1 (cmp_ge.1.mp c)
      refine PC.pr (k := 1) (pc' := 44) (lv' := [(5, .ref (re (rf a0 1) x2.toNatClampNeg)), (4, .ref (re (rf a0 0) x1.toNatClampNeg)), (3, .int r1), (0, .ref a0), (1, .int x1), (2, .int x2)]) (st' := [.ref (re (rf a0 0) x1.toNatClampNeg)]) rfl ?_
      refine PC.gI (ci := 4) (j := 0) rfl rfl (by decide) ?_
      refine PC.pr (k := 1) (pc' := 48) (lv' := [(5, .ref (re (rf a0 1) x2.toNatClampNeg)), (4, .ref (re (rf a0 0) x1.toNatClampNeg)), (3, .int r1), (0, .ref a0), (1, .int x1), (2, .int x2)]) (st' := [.int 2, .int (κ1 (re (rf a0 0) x1.toNatClampNeg) 0)]) rfl ?_
      refine PC.if2 (t := 62) rfl rfl (fun c => ?_) (fun c => ?_)
      · have h := h.1 (cmp_eq.1.mp c)
        exact PC.lv (lvE.cons rfl (lvE.cons rfl (lvE.cons rfl (lvE.cons rfl (lvE.cons rfl (lvE.cons rfl (lvE.nil))))))) h
      · have h := h.2 (cmp_eq.2.mp c)
        refine PC.pr (k := 1) (pc' := 53) (lv' := [(5, .ref (re (rf a0 1) x2.toNatClampNeg)), (4, .ref (re (rf a0 0) x1.toNatClampNeg)), (3, .int r1), (0, .ref a0), (1, .int x1), (2, .int x2)]) (st' := [.ref (re (rf a0 1) x2.toNatClampNeg)]) rfl ?_
        refine (PC.callI (j := 71) (args := [.ref (re (rf a0 1) x2.toNatClampNeg)]) (rest := []) (M := cM71) (ty := .boolean) rfl rfl rfl rfl rfl rfl (by decide) rfl rfl (by decide) ?_).weak
        refine PC.imp h (fun v2 κ2 h r2 hv => ?_)
        have h := h r2 hv
        refine PC.if1 (t := 62) rfl rfl (fun c => ?_) (fun c => ?_)
        · have h := h.1 (cmp_eq.1.mp c)
          exact PC.lv (lvE.cons rfl (lvE.cons rfl (lvE.cons rfl (lvE.cons rfl (lvE.cons rfl (lvE.cons rfl (lvE.nil))))))) h
        · have h := h.2 (cmp_eq.2.mp c)
          refine PC.pr (k := 1) (pc' := 61) (lv' := [(5, .ref (re (rf a0 1) x2.toNatClampNeg)), (4, .ref (re (rf a0 0) x1.toNatClampNeg)), (3, .int r1), (0, .ref a0), (1, .int x1), (2, .int x2)]) (st' := [.int (-3)]) rfl ?_
          exact PC.retI rfl h
    · have h := h.2 (cmp_ge.2.mp c)
      refine PC.pr (k := 1) (pc' := 41) (lv' := [(5, .ref (re (rf a0 1) x2.toNatClampNeg)), (4, .ref (re (rf a0 0) x1.toNatClampNeg)), (3, .int r1), (0, .ref a0), (1, .int x1), (2, .int x2)]) (st' := [.int (-2)]) rfl ?_
      exact PC.retI rfl h
  · have h := h.2 (cmp_ne.2.mp c)
    refine PC.pr (k := 1) (pc' := 13) (lv' := [(3, .int r1), (0, .ref a0), (1, .int x1), (2, .int x2)]) (st' := [.int (-1)]) rfl ?_
    exact PC.retI rfl h
theorem t_70_62 {xl : List Int32} {n : Nat} {ι : IS} {Q : Option Value → IS → Prop} {a0 : Nat} {x1 : Int32} {w2 : Value} {x3 : Int32} {a4 : Nat} {a5 : Nat} (h : ((((up ι a4 2 ((ι a4 2) - x3)) a5 3) = 0 → PC xl n 70 91 [(0, .ref a0), (1, .int x1), (2, w2), (3, .int x3), (4, .ref a4), (5, .ref a5)] [] (up ι a4 2 ((ι a4 2) - x3)) Q) ∧ (¬ ((up ι a4 2 ((ι a4 2) - x3)) a5 3) = 0 → PC xl n 60 0 [(0, .ref a5)] [] (up ι a4 2 ((ι a4 2) - x3)) (fun v1 κ1 => ∀ r1, v1 = some (.int r1) → PC xl n 72 0 [(0, .ref a4), (1, .int r1)] [] κ1 (fun _ κ2 => PC xl n 70 91 [(0, .ref a0), (1, .int x1), (2, w2), (3, .int x3), (4, .ref a4), (5, .ref a5)] [] κ2 Q))))) : PC xl (n + 1) 70 62 [(0, .ref a0), (1, .int x1), (2, w2), (3, .int x3), (4, .ref a4), (5, .ref a5)] [] ι Q := by
  refine PC.pr1 (k := 0) (pc' := 64) (lv' := [(0, .ref a0), (1, .int x1), (2, w2), (3, .int x3), (4, .ref a4), (5, .ref a5)]) (st' := [.ref a4]) rfl ?_
  refine PC.pr (k := 1) (pc' := 65) (lv' := [(0, .ref a0), (1, .int x1), (2, w2), (3, .int x3), (4, .ref a4), (5, .ref a5)]) (st' := [.ref a4, .ref a4]) rfl ?_
  refine PC.gI (ci := 4) (j := 2) rfl rfl (by decide) ?_
  refine PC.pr (k := 1) (pc' := 69) (lv' := [(0, .ref a0), (1, .int x1), (2, w2), (3, .int x3), (4, .ref a4), (5, .ref a5)]) (st' := [.int x3, .int (ι a4 2), .ref a4]) rfl ?_
  refine PC.pr (k := 1) (pc' := 70) (lv' := [(0, .ref a0), (1, .int x1), (2, w2), (3, .int x3), (4, .ref a4), (5, .ref a5)]) (st' := [.int ((ι a4 2) - x3), .ref a4]) rfl ?_
  refine PC.pI (ci := 4) (j := 2) rfl rfl ?_
  refine PC.pr (k := 1) (pc' := 75) (lv' := [(0, .ref a0), (1, .int x1), (2, w2), (3, .int x3), (4, .ref a4), (5, .ref a5)]) (st' := [.ref a5]) rfl ?_
  refine PC.gI (ci := 5) (j := 3) rfl rfl (by decide) ?_
  refine PC.if1 (t := 91) rfl rfl (fun c => ?_) (fun c => ?_)
  · have h := h.1 (cmp_eq.1.mp c)
    exact h
  · have h := h.2 (cmp_eq.2.mp c)
    refine PC.pr (k := 1) (pc' := 83) (lv' := [(0, .ref a0), (1, .int x1), (2, w2), (3, .int x3), (4, .ref a4), (5, .ref a5)]) (st' := [.ref a4]) rfl ?_
    refine PC.pr (k := 1) (pc' := 85) (lv' := [(0, .ref a0), (1, .int x1), (2, w2), (3, .int x3), (4, .ref a4), (5, .ref a5)]) (st' := [.ref a5, .ref a4]) rfl ?_
    refine (PC.callI (j := 60) (args := [.ref a5]) (rest := [.ref a4]) (M := cM60) (ty := .int) rfl rfl rfl rfl rfl rfl (by decide) rfl rfl (by decide) ?_).weak
    refine PC.imp h (fun v1 κ1 h r1 hv => ?_)
    have h := h r1 hv
    refine (PC.callV (j := 72) (args := [.ref a4, .int r1]) (rest := []) (M := cM72) rfl rfl rfl rfl rfl rfl (by decide) rfl rfl ?_).weak
    refine PC.imp h (fun _ κ2 h => ?_)
    exact h
theorem t_70_91 {xl : List Int32} {n : Nat} {ι : IS} {Q : Option Value → IS → Prop} {a0 : Nat} {x1 : Int32} {w2 : Value} {w3 : Value} {a4 : Nat} {a5 : Nat} (h : (((ι a4 0) = 2 → PC xl n 60 0 [(0, .ref a5)] [] ι (fun v1 κ1 => ∀ r1, v1 = some (.int r1) → Q (some (.int r1)) κ1)) ∧ (¬ (ι a4 0) = 2 → PC xl n 63 0 [(0, .ref a0), (1, .int x1)] [] ι (fun v2 κ2 => ∀ r2, v2 = some (.int r2) → PC xl n 74 0 [(0, .ref a5), (1, .int r2)] [] κ2 (fun _ κ3 => PC xl n 60 0 [(0, .ref a5)] [] κ3 (fun v4 κ4 => ∀ r4, v4 = some (.int r4) → Q (some (.int r4)) κ4)))))) : PC xl (n + 1) 70 91 [(0, .ref a0), (1, .int x1), (2, w2), (3, w3), (4, .ref a4), (5, .ref a5)] [] ι Q := by
  refine PC.pr1 (k := 0) (pc' := 93) (lv' := [(0, .ref a0), (1, .int x1), (2, w2), (3, w3), (4, .ref a4), (5, .ref a5)]) (st' := [.ref a4]) rfl ?_
  refine PC.gI (ci := 4) (j := 0) rfl rfl (by decide) ?_
  refine PC.pr (k := 1) (pc' := 97) (lv' := [(0, .ref a0), (1, .int x1), (2, w2), (3, w3), (4, .ref a4), (5, .ref a5)]) (st' := [.int 2, .int (ι a4 0)]) rfl ?_
  refine PC.if2 (t := 110) rfl rfl (fun c => ?_) (fun c => ?_)
  · have h := h.1 (cmp_eq.1.mp c)
    refine PC.pr (k := 1) (pc' := 112) (lv' := [(0, .ref a0), (1, .int x1), (2, w2), (3, w3), (4, .ref a4), (5, .ref a5)]) (st' := [.ref a5]) rfl ?_
    refine (PC.callI (j := 60) (args := [.ref a5]) (rest := []) (M := cM60) (ty := .int) rfl rfl rfl rfl rfl rfl (by decide) rfl rfl (by decide) ?_).weak
    refine PC.imp h (fun v1 κ1 h r1 hv => ?_)
    have h := h r1 hv
    exact PC.retI rfl h
  · have h := h.2 (cmp_eq.2.mp c)
    refine PC.pr (k := 1) (pc' := 102) (lv' := [(0, .ref a0), (1, .int x1), (2, w2), (3, w3), (4, .ref a4), (5, .ref a5)]) (st' := [.ref a5]) rfl ?_
    refine PC.pr (k := 1) (pc' := 103) (lv' := [(0, .ref a0), (1, .int x1), (2, w2), (3, w3), (4, .ref a4), (5, .ref a5)]) (st' := [.ref a0, .ref a5]) rfl ?_
    refine PC.pr (k := 1) (pc' := 104) (lv' := [(0, .ref a0), (1, .int x1), (2, w2), (3, w3), (4, .ref a4), (5, .ref a5)]) (st' := [.int x1, .ref a0, .ref a5]) rfl ?_
    refine (PC.callI (j := 63) (args := [.ref a0, .int x1]) (rest := [.ref a5]) (M := cM63) (ty := .int) rfl rfl rfl rfl rfl rfl (by decide) rfl rfl (by decide) ?_).weak
    refine PC.imp h (fun v2 κ2 h r2 hv => ?_)
    have h := h r2 hv
    refine (PC.callV (j := 74) (args := [.ref a5, .int r2]) (rest := []) (M := cM74) rfl rfl rfl rfl rfl rfl (by decide) rfl rfl ?_).weak
    refine PC.imp h (fun _ κ3 h => ?_)
    refine PC.pr (k := 1) (pc' := 112) (lv' := [(0, .ref a0), (1, .int x1), (2, w2), (3, w3), (4, .ref a4), (5, .ref a5)]) (st' := [.ref a5]) rfl ?_
    refine (PC.callI (j := 60) (args := [.ref a5]) (rest := []) (M := cM60) (ty := .int) rfl rfl rfl rfl rfl rfl (by decide) rfl rfl (by decide) ?_).weak
    refine PC.imp h (fun v4 κ4 h r4 hv => ?_)
    have h := h r4 hv
    exact PC.retI rfl h

/-- DoorPaints$Door.takesNoLayer()Z -/
theorem t_71_0 {xl : List Int32} {n : Nat} {ι : IS} {Q : Option Value → IS → Prop} {a0 : Nat} (h : (((ι a0 1) < 6 → Q (some (.int 0)) ι) ∧ (¬ (ι a0 1) < 6 → ((¬ (ι a0 3) = 0 → Q (some (.int 0)) ι) ∧ ((ι a0 3) = 0 → Q (some (.int 1)) ι))))) : PC xl (n + 1) 71 0 [(0, .ref a0)] [] ι Q := by
  refine PC.pr1 (k := 0) (pc' := 1) (lv' := [(0, .ref a0)]) (st' := [.ref a0]) rfl ?_
  refine PC.gI (ci := 5) (j := 1) rfl rfl (by decide) ?_
  refine PC.pr (k := 1) (pc' := 6) (lv' := [(0, .ref a0)]) (st' := [.int 6, .int (ι a0 1)]) rfl ?_
  refine PC.if2 (t := 20) rfl rfl (fun c => ?_) (fun c => ?_)
  · have h := h.1 (cmp_lt.1.mp c)
    refine PC.pr (k := 1) (pc' := 21) (lv' := [(0, .ref a0)]) (st' := [.int 0]) rfl ?_
    exact PC.retI rfl h
  · have h := h.2 (cmp_lt.2.mp c)
    refine PC.pr (k := 1) (pc' := 10) (lv' := [(0, .ref a0)]) (st' := [.ref a0]) rfl ?_
    refine PC.gI (ci := 5) (j := 3) rfl rfl (by decide) ?_
    refine PC.if1 (t := 20) rfl rfl (fun c => ?_) (fun c => ?_)
    · have h := h.1 (cmp_ne.1.mp c)
      refine PC.pr (k := 1) (pc' := 21) (lv' := [(0, .ref a0)]) (st' := [.int 0]) rfl ?_
      exact PC.retI rfl h
    · have h := h.2 (cmp_ne.2.mp c)
      refine PC.pr (k := 1) (pc' := 17) (lv' := [(0, .ref a0)]) (st' := [.int 1]) rfl ?_
      refine PC.pr (k := 1) (pc' := 21) (lv' := [(0, .ref a0)]) (st' := [.int 1]) rfl ?_
      exact PC.retI rfl h

/-- DoorPaints$Visitor.markSleeve(I)V -/
theorem t_72_0 {xl : List Int32} {n : Nat} {ι : IS} {Q : Option Value → IS → Prop} {a0 : Nat} {x1 : Int32} (h : PC xl n 73 0 [(0, .int x1)] [] ι (fun v1 κ1 => ∀ r1, v1 = some (.int r1) → ((r1 = 0 → Q none κ1) ∧ (¬ r1 = 0 → Q none (up κ1 a0 3 ((κ1 a0 3) ||| (1 <<< (x1 &&& 31)))))))) : PC xl (n + 1) 72 0 [(0, .ref a0), (1, .int x1)] [] ι Q := by
  refine PC.pr1 (k := 0) (pc' := 1) (lv' := [(0, .ref a0), (1, .int x1)]) (st' := [.int x1]) rfl ?_
  refine (PC.callI (j := 73) (args := [.int x1]) (rest := []) (M := cM73) (ty := .boolean) rfl rfl rfl rfl rfl rfl (by decide) rfl rfl (by decide) ?_).weak
  refine PC.imp h (fun v1 κ1 h r1 hv => ?_)
  have h := h r1 hv
  refine PC.if1 (t := 19) rfl rfl (fun c => ?_) (fun c => ?_)
  · have h := h.1 (cmp_eq.1.mp c)
    exact PC.retV rfl h
  · have h := h.2 (cmp_eq.2.mp c)
    refine PC.pr (k := 1) (pc' := 8) (lv' := [(0, .ref a0), (1, .int x1)]) (st' := [.ref a0]) rfl ?_
    refine PC.pr (k := 1) (pc' := 9) (lv' := [(0, .ref a0), (1, .int x1)]) (st' := [.ref a0, .ref a0]) rfl ?_
    refine PC.gI (ci := 4) (j := 3) rfl rfl (by decide) ?_
    refine PC.pr (k := 1) (pc' := 13) (lv' := [(0, .ref a0), (1, .int x1)]) (st' := [.int 1, .int (κ1 a0 3), .ref a0]) rfl ?_
    refine PC.pr (k := 1) (pc' := 14) (lv' := [(0, .ref a0), (1, .int x1)]) (st' := [.int x1, .int 1, .int (κ1 a0 3), .ref a0]) rfl ?_
    refine PC.pr (k := 1) (pc' := 15) (lv' := [(0, .ref a0), (1, .int x1)]) (st' := [.int (1 <<< (x1 &&& 31)), .int (κ1 a0 3), .ref a0]) rfl ?_
    refine PC.pr (k := 1) (pc' := 16) (lv' := [(0, .ref a0), (1, .int x1)]) (st' := [.int ((κ1 a0 3) ||| (1 <<< (x1 &&& 31))), .ref a0]) rfl ?_
    refine PC.pI (ci := 4) (j := 3) rfl rfl ?_
    exact PC.retV rfl h

/-- DoorPaints.isColour(I)Z -/
theorem t_73_0 {xl : List Int32} {n : Nat} {ι : IS} {Q : Option Value → IS → Prop} {x0 : Int32} (h : ((x0 < 0 → Q (some (.int 0)) ι) ∧ (¬ x0 < 0 → ((¬ x0 < 6 → Q (some (.int 0)) ι) ∧ (x0 < 6 → Q (some (.int 1)) ι))))) : PC xl (n + 1) 73 0 [(0, .int x0)] [] ι Q := by
  refine PC.pr1 (k := 0) (pc' := 1) (lv' := [(0, .int x0)]) (st' := [.int x0]) rfl ?_
  refine PC.if1 (t := 14) rfl rfl (fun c => ?_) (fun c => ?_)
  · have h := h.1 (cmp_lt.1.mp c)
    refine PC.pr (k := 1) (pc' := 15) (lv' := [(0, .int x0)]) (st' := [.int 0]) rfl ?_
    exact PC.retI rfl h
  · have h := h.2 (cmp_lt.2.mp c)
    refine PC.pr (k := 1) (pc' := 5) (lv' := [(0, .int x0)]) (st' := [.int x0]) rfl ?_
    refine PC.pr (k := 1) (pc' := 7) (lv' := [(0, .int x0)]) (st' := [.int 6, .int x0]) rfl ?_
    refine PC.if2 (t := 14) rfl rfl (fun c => ?_) (fun c => ?_)
    · have h := h.1 (cmp_ge.1.mp c)
      refine PC.pr (k := 1) (pc' := 15) (lv' := [(0, .int x0)]) (st' := [.int 0]) rfl ?_
      exact PC.retI rfl h
    · have h := h.2 (cmp_ge.2.mp c)
      refine PC.pr (k := 1) (pc' := 11) (lv' := [(0, .int x0)]) (st' := [.int 1]) rfl ?_
      refine PC.pr (k := 1) (pc' := 15) (lv' := [(0, .int x0)]) (st' := [.int 1]) rfl ?_
      exact PC.retI rfl h

/-- DoorPaints$Door.paintWith(I)V -/
theorem t_74_0 {xl : List Int32} {n : Nat} {ι : IS} {Q : Option Value → IS → Prop} {a0 : Nat} {x1 : Int32} (h : PC xl n 60 0 [(0, .ref a0)] [] ι (fun v1 κ1 => ∀ r1, v1 = some (.int r1) → (((κ1 a0 3) = 0 → PC xl n 35 0 [(0, .ref a0), (1, .int x1)] [] κ1 (fun v2 κ2 => ∀ r2, v2 = some (.int r2) → Q none (up κ2 a0 3 1))) ∧ (¬ (κ1 a0 3) = 0 → ((r1 = (-4) → PC xl n 35 0 [(0, .ref a0), (1, .int x1)] [] κ1 (fun v3 κ3 => ∀ r3, v3 = some (.int r3) → Q none (up κ3 a0 3 1))) ∧ (¬ r1 = (-4) → (0 ≤ ((κ1 a0 1) - 1).toInt → ((κ1 a0 1) - 1).toInt < ln (rf a0 0) → Q none (up (up κ1 (rf a0 0) ((κ1 a0 1) - 1).toNatClampNeg ((r1 + x1) - (r1 + x1) / 6 * 6)) a0 3 1)))))))) : PC xl (n + 1) 74 0 [(0, .ref a0), (1, .int x1)] [] ι Q := by
  refine PC.pr1 (k := 0) (pc' := 1) (lv' := [(0, .ref a0), (1, .int x1)]) (st' := [.ref a0]) rfl ?_
  refine (PC.callI (j := 60) (args := [.ref a0]) (rest := []) (M := cM60) (ty := .int) rfl rfl rfl rfl rfl rfl (by decide) rfl rfl (by decide) ?_).weak
  refine PC.imp h (fun v1 κ1 h r1 hv => ?_)
  have h := h r1 hv
  refine PC.pr (k := 1) (pc' := 5) (lv' := [(2, .int r1), (0, .ref a0), (1, .int x1)]) (st' := []) rfl ?_
  refine PC.pr (k := 1) (pc' := 6) (lv' := [(2, .int r1), (0, .ref a0), (1, .int x1)]) (st' := [.ref a0]) rfl ?_
  refine PC.gI (ci := 5) (j := 3) rfl rfl (by decide) ?_
  refine PC.if1 (t := 38) rfl rfl (fun c => ?_) (fun c => ?_)
  · have h := h.1 (cmp_eq.1.mp c)
    refine PC.pr (k := 1) (pc' := 39) (lv' := [(2, .int r1), (0, .ref a0), (1, .int x1)]) (st' := [.ref a0]) rfl ?_
    refine PC.pr (k := 1) (pc' := 40) (lv' := [(2, .int r1), (0, .ref a0), (1, .int x1)]) (st' := [.int x1, .ref a0]) rfl ?_
    refine (PC.callI (j := 35) (args := [.ref a0, .int x1]) (rest := []) (M := cM35) (ty := .boolean) rfl rfl rfl rfl rfl rfl (by decide) rfl rfl (by decide) ?_).weak
    refine PC.imp h (fun v2 κ2 h r2 hv => ?_)
    have h := h r2 hv
    refine PC.pr (k := 1) (pc' := 44) (lv' := [(2, .int r1), (0, .ref a0), (1, .int x1)]) (st' := []) rfl ?_
    refine PC.pr (k := 1) (pc' := 45) (lv' := [(2, .int r1), (0, .ref a0), (1, .int x1)]) (st' := [.ref a0]) rfl ?_
    refine PC.pr (k := 1) (pc' := 46) (lv' := [(2, .int r1), (0, .ref a0), (1, .int x1)]) (st' := [.int 1, .ref a0]) rfl ?_
    refine PC.pI (ci := 5) (j := 3) rfl rfl ?_
    exact PC.retV rfl h
  · have h := h.2 (cmp_eq.2.mp c)
    refine PC.pr (k := 1) (pc' := 13) (lv' := [(2, .int r1), (0, .ref a0), (1, .int x1)]) (st' := [.int r1]) rfl ?_
    refine PC.pr (k := 1) (pc' := 15) (lv' := [(2, .int r1), (0, .ref a0), (1, .int x1)]) (st' := [.int (-4), .int r1]) rfl ?_
    refine PC.if2 (t := 38) rfl rfl (fun c => ?_) (fun c => ?_)
    · have h := h.1 (cmp_eq.1.mp c)
      refine PC.pr (k := 1) (pc' := 39) (lv' := [(2, .int r1), (0, .ref a0), (1, .int x1)]) (st' := [.ref a0]) rfl ?_
      refine PC.pr (k := 1) (pc' := 40) (lv' := [(2, .int r1), (0, .ref a0), (1, .int x1)]) (st' := [.int x1, .ref a0]) rfl ?_
      refine (PC.callI (j := 35) (args := [.ref a0, .int x1]) (rest := []) (M := cM35) (ty := .boolean) rfl rfl rfl rfl rfl rfl (by decide) rfl rfl (by decide) ?_).weak
      refine PC.imp h (fun v3 κ3 h r3 hv => ?_)
      have h := h r3 hv
      refine PC.pr (k := 1) (pc' := 44) (lv' := [(2, .int r1), (0, .ref a0), (1, .int x1)]) (st' := []) rfl ?_
      refine PC.pr (k := 1) (pc' := 45) (lv' := [(2, .int r1), (0, .ref a0), (1, .int x1)]) (st' := [.ref a0]) rfl ?_
      refine PC.pr (k := 1) (pc' := 46) (lv' := [(2, .int r1), (0, .ref a0), (1, .int x1)]) (st' := [.int 1, .ref a0]) rfl ?_
      refine PC.pI (ci := 5) (j := 3) rfl rfl ?_
      exact PC.retV rfl h
    · have h := h.2 (cmp_eq.2.mp c)
      refine PC.pr (k := 1) (pc' := 19) (lv' := [(2, .int r1), (0, .ref a0), (1, .int x1)]) (st' := [.ref a0]) rfl ?_
      refine PC.gR (ci := 5) (j := 0) rfl rfl (by decide) ?_
      refine PC.pr (k := 1) (pc' := 23) (lv' := [(2, .int r1), (0, .ref a0), (1, .int x1)]) (st' := [.ref a0, .ref (rf a0 0)]) rfl ?_
      refine PC.gI (ci := 5) (j := 1) rfl rfl (by decide) ?_
      refine PC.pr (k := 1) (pc' := 27) (lv' := [(2, .int r1), (0, .ref a0), (1, .int x1)]) (st' := [.int 1, .int (κ1 a0 1), .ref (rf a0 0)]) rfl ?_
      refine PC.pr (k := 1) (pc' := 28) (lv' := [(2, .int r1), (0, .ref a0), (1, .int x1)]) (st' := [.int ((κ1 a0 1) - 1), .ref (rf a0 0)]) rfl ?_
      refine PC.pr (k := 1) (pc' := 29) (lv' := [(2, .int r1), (0, .ref a0), (1, .int x1)]) (st' := [.int r1, .int ((κ1 a0 1) - 1), .ref (rf a0 0)]) rfl ?_
      refine PC.pr (k := 1) (pc' := 30) (lv' := [(2, .int r1), (0, .ref a0), (1, .int x1)]) (st' := [.int x1, .int r1, .int ((κ1 a0 1) - 1), .ref (rf a0 0)]) rfl ?_
      refine PC.pr (k := 1) (pc' := 31) (lv' := [(2, .int r1), (0, .ref a0), (1, .int x1)]) (st' := [.int (r1 + x1), .int ((κ1 a0 1) - 1), .ref (rf a0 0)]) rfl ?_
      refine PC.pr (k := 1) (pc' := 33) (lv' := [(2, .int r1), (0, .ref a0), (1, .int x1)]) (st' := [.int 6, .int (r1 + x1), .int ((κ1 a0 1) - 1), .ref (rf a0 0)]) rfl ?_
      refine PC.pr (k := 1) (pc' := 34) (lv' := [(2, .int r1), (0, .ref a0), (1, .int x1)]) (st' := [.int ((r1 + x1) - (r1 + x1) / 6 * 6), .int ((κ1 a0 1) - 1), .ref (rf a0 0)]) rfl ?_
      refine PC.wI rfl (fun c1 c2 => ?_)
      have h := h c1 c2
      refine PC.pr (k := 1) (pc' := 44) (lv' := [(2, .int r1), (0, .ref a0), (1, .int x1)]) (st' := []) rfl ?_
      refine PC.pr (k := 1) (pc' := 45) (lv' := [(2, .int r1), (0, .ref a0), (1, .int x1)]) (st' := [.ref a0]) rfl ?_
      refine PC.pr (k := 1) (pc' := 46) (lv' := [(2, .int r1), (0, .ref a0), (1, .int x1)]) (st' := [.int 1, .ref a0]) rfl ?_
      refine PC.pI (ci := 5) (j := 3) rfl rfl ?_
      exact PC.retV rfl h

/-- DoorPaints.sky(I)I -/
theorem t_75_0 {xl : List Int32} {n : Nat} {ι : IS} {Q : Option Value → IS → Prop} {a0 : Nat} {x1 : Int32} (h : ((x1 < 0 → Q (some (.int (-1))) ι) ∧ (¬ x1 < 0 → ((¬ 2 < x1 → PC xl n 76 0 [(0, .ref (rf (rf a0 2) 0)), (1, .int (90 + x1))] [] ι (fun _ κ1 => PC xl n 80 0 [(0, .ref (rf (rf a0 2) 0))] [] κ1 (fun v2 κ2 => ∀ r2, v2 = some (.int r2) → Q (some (.int r2)) κ2))) ∧ (2 < x1 → Q (some (.int (-1))) ι))))) : PC xl (n + 1) 75 0 [(0, .ref a0), (1, .int x1)] [] ι Q := by
  refine PC.pr1 (k := 0) (pc' := 1) (lv' := [(0, .ref a0), (1, .int x1)]) (st' := [.int x1]) rfl ?_
  refine PC.if1 (t := 9) rfl rfl (fun c => ?_) (fun c => ?_)
  · have h := h.1 (cmp_lt.1.mp c)
    refine PC.pr (k := 1) (pc' := 10) (lv' := [(0, .ref a0), (1, .int x1)]) (st' := [.int (-1)]) rfl ?_
    exact PC.retI rfl h
  · have h := h.2 (cmp_lt.2.mp c)
    refine PC.pr (k := 1) (pc' := 5) (lv' := [(0, .ref a0), (1, .int x1)]) (st' := [.int x1]) rfl ?_
    refine PC.pr (k := 1) (pc' := 6) (lv' := [(0, .ref a0), (1, .int x1)]) (st' := [.int 2, .int x1]) rfl ?_
    refine PC.if2 (t := 11) rfl rfl (fun c => ?_) (fun c => ?_)
    · have h := h.1 (cmp_le.1.mp c)
      refine PC.pr (k := 1) (pc' := 12) (lv' := [(0, .ref a0), (1, .int x1)]) (st' := [.ref a0]) rfl ?_
      refine PC.gR (ci := 0) (j := 2) rfl rfl (by decide) ?_
      refine PC.gR (ci := 2) (j := 0) rfl rfl (by decide) ?_
      refine PC.pr (k := 1) (pc' := 20) (lv' := [(0, .ref a0), (1, .int x1)]) (st' := [.int 90, .ref (rf (rf a0 2) 0)]) rfl ?_
      refine PC.pr (k := 1) (pc' := 21) (lv' := [(0, .ref a0), (1, .int x1)]) (st' := [.int x1, .int 90, .ref (rf (rf a0 2) 0)]) rfl ?_
      refine PC.pr (k := 1) (pc' := 22) (lv' := [(0, .ref a0), (1, .int x1)]) (st' := [.int (90 + x1), .ref (rf (rf a0 2) 0)]) rfl ?_
      refine (PC.callV (j := 76) (args := [.ref (rf (rf a0 2) 0), .int (90 + x1)]) (rest := []) (M := cM76) rfl rfl rfl rfl rfl rfl (by decide) rfl rfl ?_).weak
      refine PC.imp h (fun _ κ1 h => ?_)
      refine PC.pr (k := 1) (pc' := 26) (lv' := [(0, .ref a0), (1, .int x1)]) (st' := [.ref a0]) rfl ?_
      refine PC.gR (ci := 0) (j := 2) rfl rfl (by decide) ?_
      refine PC.gR (ci := 2) (j := 0) rfl rfl (by decide) ?_
      refine (PC.callI (j := 80) (args := [.ref (rf (rf a0 2) 0)]) (rest := []) (M := cM80) (ty := .int) rfl rfl rfl rfl rfl rfl (by decide) rfl rfl (by decide) ?_).weak
      refine PC.imp h (fun v2 κ2 h r2 hv => ?_)
      have h := h r2 hv
      exact PC.retI rfl h
    · have h := h.2 (cmp_le.2.mp c)
      refine PC.pr (k := 1) (pc' := 10) (lv' := [(0, .ref a0), (1, .int x1)]) (st' := [.int (-1)]) rfl ?_
      exact PC.retI rfl h

/-- DoorPaints$Town.weather(I)V -/
theorem t_76_0 {xl : List Int32} {n : Nat} {ι : IS} {Q : Option Value → IS → Prop} {a0 : Nat} {x1 : Int32} (h : PC xl n 76 2 [(0, .ref a0), (1, .int x1), (2, .int 0)] [] ι Q) : PC xl (n + 1) 76 0 [(0, .ref a0), (1, .int x1)] [] ι Q := by
  refine PC.pr1 (k := 0) (pc' := 1) (lv' := [(0, .ref a0), (1, .int x1)]) (st' := [.int 0]) rfl ?_
  refine PC.pr (k := 1) (pc' := 2) (lv' := [(2, .int 0), (0, .ref a0), (1, .int x1)]) (st' := []) rfl ?_
  exact PC.lv (lvE.cons rfl (lvE.cons rfl (lvE.cons rfl (lvE.nil)))) h
theorem t_76_2 {xl : List Int32} {n : Nat} {ι : IS} {Q : Option Value → IS → Prop} {a0 : Nat} {x1 : Int32} {x2 : Int32} (h : ((¬ x2 < (ι a0 3) → Q none ι) ∧ (x2 < (ι a0 3) → ((x1.toInt = 90 → (0 ≤ x2.toInt → x2.toInt < lr (rf a0 1) → PC xl n 76 2 [(0, .ref a0), (1, .int x1), (2, .int (x2 + 1))] [] (up ι (re (rf a0 1) x2.toNatClampNeg) 3 0) Q)) ∧ (x1.toInt = 91 → (0 ≤ x2.toInt → x2.toInt < lr (rf a0 1) → PC xl n 77 0 [(0, .ref (re (rf a0 1) x2.toNatClampNeg))] [] ι (fun _ κ1 => PC xl n 76 2 [(0, .ref a0), (1, .int x1), (2, .int (x2 + 1))] [] κ1 Q))) ∧ (x1.toInt = 92 → (0 ≤ x2.toInt → x2.toInt < lr (rf a0 1) → PC xl n 79 0 [(0, .ref (re (rf a0 1) x2.toNatClampNeg))] [] ι (fun _ κ2 => PC xl n 76 2 [(0, .ref a0), (1, .int x1), (2, .int (x2 + 1))] [] κ2 Q))) ∧ ((x1.toInt < 90 ∨ 92 < x1.toInt) → PC xl n 76 2 [(0, .ref a0), (1, .int x1), (2, .int (x2 + 1))] [] ι Q))))) : PC xl (n + 1) 76 2 [(0, .ref a0), (1, .int x1), (2, .int x2)] [] ι Q := by
  refine PC.pr1 (k := 0) (pc' := 3) (lv' := [(0, .ref a0), (1, .int x1), (2, .int x2)]) (st' := [.int x2]) rfl ?_
  refine PC.pr (k := 1) (pc' := 4) (lv' := [(0, .ref a0), (1, .int x1), (2, .int x2)]) (st' := [.ref a0, .int x2]) rfl ?_
  refine PC.gI (ci := 3) (j := 3) rfl rfl (by decide) ?_
  refine PC.if2 (t := 79) rfl rfl (fun c => ?_) (fun c => ?_)
  · have h := h.1 (cmp_ge.1.mp c)
    exact PC.retV rfl h
  · have h := h.2 (cmp_ge.2.mp c)
    refine PC.pr (k := 1) (pc' := 11) (lv' := [(0, .ref a0), (1, .int x1), (2, .int x2)]) (st' := [.int x1]) rfl ?_
    refine PC.tsw rfl (fun i off t ho ht hx => ?_) (fun t ht hx => ?_)
    · match i, ho, hx with
      | 0, ho, hx =>
        obtain rfl : (25 : Int) = off := Option.some.inj ho
        obtain rfl : 36 = t := Option.some.inj ht
        have h := h.1 (by simpa using hx)
        refine PC.pr (k := 1) (pc' := 37) (lv' := [(0, .ref a0), (1, .int x1), (2, .int x2)]) (st' := [.ref a0]) rfl ?_
        refine PC.gR (ci := 3) (j := 1) rfl rfl (by decide) ?_
        refine PC.pr (k := 1) (pc' := 41) (lv' := [(0, .ref a0), (1, .int x1), (2, .int x2)]) (st' := [.int x2, .ref (rf a0 1)]) rfl ?_
        refine PC.ra rfl (fun c1 c2 => ?_)
        have h := h c1 c2
        refine PC.pr (k := 1) (pc' := 43) (lv' := [(0, .ref a0), (1, .int x1), (2, .int x2)]) (st' := [.int 0, .ref (re (rf a0 1) x2.toNatClampNeg)]) rfl ?_
        refine PC.pI (ci := 5) (j := 3) rfl rfl ?_
        refine PC.pr (k := 1) (pc' := 73) (lv' := [(0, .ref a0), (1, .int x1), (2, .int x2)]) (st' := []) rfl ?_
        refine PC.pr (k := 1) (pc' := 76) (lv' := [(2, .int (x2 + 1)), (0, .ref a0), (1, .int x1)]) (st' := []) rfl ?_
        refine PC.pr (k := 1) (pc' := 2) (lv' := [(2, .int (x2 + 1)), (0, .ref a0), (1, .int x1)]) (st' := []) rfl ?_
        exact PC.lv (lvE.cons rfl (lvE.cons rfl (lvE.cons rfl (lvE.nil)))) h
      | 1, ho, hx =>
        obtain rfl : (38 : Int) = off := Option.some.inj ho
        obtain rfl : 49 = t := Option.some.inj ht
        have h := h.2.1 (by simpa using hx)
        refine PC.pr (k := 1) (pc' := 50) (lv' := [(0, .ref a0), (1, .int x1), (2, .int x2)]) (st' := [.ref a0]) rfl ?_
        refine PC.gR (ci := 3) (j := 1) rfl rfl (by decide) ?_
        refine PC.pr (k := 1) (pc' := 54) (lv' := [(0, .ref a0), (1, .int x1), (2, .int x2)]) (st' := [.int x2, .ref (rf a0 1)]) rfl ?_
        refine PC.ra rfl (fun c1 c2 => ?_)
        have h := h c1 c2
        refine (PC.callV (j := 77) (args := [.ref (re (rf a0 1) x2.toNatClampNeg)]) (rest := []) (M := cM77) rfl rfl rfl rfl rfl rfl (by decide) rfl rfl ?_).weak
        refine PC.imp h (fun _ κ1 h => ?_)
        refine PC.pr (k := 1) (pc' := 73) (lv' := [(0, .ref a0), (1, .int x1), (2, .int x2)]) (st' := []) rfl ?_
        refine PC.pr (k := 1) (pc' := 76) (lv' := [(2, .int (x2 + 1)), (0, .ref a0), (1, .int x1)]) (st' := []) rfl ?_
        refine PC.pr (k := 1) (pc' := 2) (lv' := [(2, .int (x2 + 1)), (0, .ref a0), (1, .int x1)]) (st' := []) rfl ?_
        exact PC.lv (lvE.cons rfl (lvE.cons rfl (lvE.cons rfl (lvE.nil)))) h
      | 2, ho, hx =>
        obtain rfl : (50 : Int) = off := Option.some.inj ho
        obtain rfl : 61 = t := Option.some.inj ht
        have h := h.2.2.1 (by simpa using hx)
        refine PC.pr (k := 1) (pc' := 62) (lv' := [(0, .ref a0), (1, .int x1), (2, .int x2)]) (st' := [.ref a0]) rfl ?_
        refine PC.gR (ci := 3) (j := 1) rfl rfl (by decide) ?_
        refine PC.pr (k := 1) (pc' := 66) (lv' := [(0, .ref a0), (1, .int x1), (2, .int x2)]) (st' := [.int x2, .ref (rf a0 1)]) rfl ?_
        refine PC.ra rfl (fun c1 c2 => ?_)
        have h := h c1 c2
        refine (PC.callV (j := 79) (args := [.ref (re (rf a0 1) x2.toNatClampNeg)]) (rest := []) (M := cM79) rfl rfl rfl rfl rfl rfl (by decide) rfl rfl ?_).weak
        refine PC.imp h (fun _ κ2 h => ?_)
        refine PC.pr (k := 1) (pc' := 73) (lv' := [(0, .ref a0), (1, .int x1), (2, .int x2)]) (st' := []) rfl ?_
        refine PC.pr (k := 1) (pc' := 76) (lv' := [(2, .int (x2 + 1)), (0, .ref a0), (1, .int x1)]) (st' := []) rfl ?_
        refine PC.pr (k := 1) (pc' := 2) (lv' := [(2, .int (x2 + 1)), (0, .ref a0), (1, .int x1)]) (st' := []) rfl ?_
        exact PC.lv (lvE.cons rfl (lvE.cons rfl (lvE.cons rfl (lvE.nil)))) h
      | i + 3, ho, hx => cases ho
    · obtain rfl : 73 = t := Option.some.inj ht
      have h := h.2.2.2 hx
      refine PC.pr (k := 1) (pc' := 76) (lv' := [(2, .int (x2 + 1)), (0, .ref a0), (1, .int x1)]) (st' := []) rfl ?_
      refine PC.pr (k := 1) (pc' := 2) (lv' := [(2, .int (x2 + 1)), (0, .ref a0), (1, .int x1)]) (st' := []) rfl ?_
      exact PC.lv (lvE.cons rfl (lvE.cons rfl (lvE.cons rfl (lvE.nil)))) h

/-- DoorPaints$Door.rainOn()V -/
theorem t_77_0 {xl : List Int32} {n : Nat} {ι : IS} {Q : Option Value → IS → Prop} {a0 : Nat} (h : ((¬ (ι a0 1) = 0 → PC xl n 77 12 [(0, .ref a0), (1, .int 0), (2, .int 0)] [] ι Q) ∧ ((ι a0 1) = 0 → Q none ι))) : PC xl (n + 1) 77 0 [(0, .ref a0)] [] ι Q := by
  refine PC.pr1 (k := 0) (pc' := 1) (lv' := [(0, .ref a0)]) (st' := [.ref a0]) rfl ?_
  refine PC.gI (ci := 5) (j := 1) rfl rfl (by decide) ?_
  refine PC.if1 (t := 8) rfl rfl (fun c => ?_) (fun c => ?_)
  · have h := h.1 (cmp_ne.1.mp c)
    refine PC.pr (k := 1) (pc' := 9) (lv' := [(0, .ref a0)]) (st' := [.int 0]) rfl ?_
    refine PC.pr (k := 1) (pc' := 10) (lv' := [(1, .int 0), (0, .ref a0)]) (st' := []) rfl ?_
    refine PC.pr (k := 1) (pc' := 11) (lv' := [(1, .int 0), (0, .ref a0)]) (st' := [.int 0]) rfl ?_
    refine PC.pr (k := 1) (pc' := 12) (lv' := [(2, .int 0), (1, .int 0), (0, .ref a0)]) (st' := []) rfl ?_
    exact PC.lv (lvE.cons rfl (lvE.cons rfl (lvE.cons rfl (lvE.nil)))) h
  · have h := h.2 (cmp_ne.2.mp c)
    exact PC.retV rfl h
theorem t_77_12 {xl : List Int32} {n : Nat} {ι : IS} {Q : Option Value → IS → Prop} {a0 : Nat} {x1 : Int32} {x2 : Int32} (h : ((¬ x2 < 3 → PC xl n 77 41 [(0, .ref a0), (1, .int x1), (2, .int x2)] [] ι Q) ∧ (x2 < 3 → ((¬ 0 < (ι a0 1) → PC xl n 77 41 [(0, .ref a0), (1, .int x1), (2, .int x2)] [] ι Q) ∧ (0 < (ι a0 1) → PC xl n 60 0 [(0, .ref a0)] [] ι (fun v1 κ1 => ∀ r1, v1 = some (.int r1) → PC xl n 78 0 [(0, .ref a0)] [] κ1 (fun _ κ2 => PC xl n 77 12 [(0, .ref a0), (1, .int (x1 + r1)), (2, .int (x2 + 1))] [] κ2 Q))))))) : PC xl (n + 1) 77 12 [(0, .ref a0), (1, .int x1), (2, .int x2)] [] ι Q := by
  refine PC.pr1 (k := 0) (pc' := 13) (lv' := [(0, .ref a0), (1, .int x1), (2, .int x2)]) (st' := [.int x2]) rfl ?_
  refine PC.pr (k := 1) (pc' := 14) (lv' := [(0, .ref a0), (1, .int x1), (2, .int x2)]) (st' := [.int 3, .int x2]) rfl ?_
  refine PC.if2 (t := 41) rfl rfl (fun c => ?_) (fun c => ?_)
  · have h := h.1 (cmp_ge.1.mp c)
    exact h
  · have h := h.2 (cmp_ge.2.mp c)
    refine PC.pr (k := 1) (pc' := 18) (lv' := [(0, .ref a0), (1, .int x1), (2, .int x2)]) (st' := [.ref a0]) rfl ?_
    refine PC.gI (ci := 5) (j := 1) rfl rfl (by decide) ?_
    refine PC.if1 (t := 41) rfl rfl (fun c => ?_) (fun c => ?_)
    · have h := h.1 (cmp_le.1.mp c)
      exact h
    · have h := h.2 (cmp_le.2.mp c)
      refine PC.pr (k := 1) (pc' := 25) (lv' := [(0, .ref a0), (1, .int x1), (2, .int x2)]) (st' := [.int x1]) rfl ?_
      refine PC.pr (k := 1) (pc' := 26) (lv' := [(0, .ref a0), (1, .int x1), (2, .int x2)]) (st' := [.ref a0, .int x1]) rfl ?_
      refine (PC.callI (j := 60) (args := [.ref a0]) (rest := [.int x1]) (M := cM60) (ty := .int) rfl rfl rfl rfl rfl rfl (by decide) rfl rfl (by decide) ?_).weak
      refine PC.imp h (fun v1 κ1 h r1 hv => ?_)
      have h := h r1 hv
      refine PC.pr (k := 1) (pc' := 30) (lv' := [(0, .ref a0), (1, .int x1), (2, .int x2)]) (st' := [.int (x1 + r1)]) rfl ?_
      refine PC.pr (k := 1) (pc' := 31) (lv' := [(1, .int (x1 + r1)), (0, .ref a0), (2, .int x2)]) (st' := []) rfl ?_
      refine PC.pr (k := 1) (pc' := 32) (lv' := [(1, .int (x1 + r1)), (0, .ref a0), (2, .int x2)]) (st' := [.ref a0]) rfl ?_
      refine (PC.callV (j := 78) (args := [.ref a0]) (rest := []) (M := cM78) rfl rfl rfl rfl rfl rfl (by decide) rfl rfl ?_).weak
      refine PC.imp h (fun _ κ2 h => ?_)
      refine PC.pr (k := 1) (pc' := 38) (lv' := [(2, .int (x2 + 1)), (1, .int (x1 + r1)), (0, .ref a0)]) (st' := []) rfl ?_
      refine PC.pr (k := 1) (pc' := 12) (lv' := [(2, .int (x2 + 1)), (1, .int (x1 + r1)), (0, .ref a0)]) (st' := []) rfl ?_
      exact PC.lv (lvE.cons rfl (lvE.cons rfl (lvE.cons rfl (lvE.nil)))) h
theorem t_77_41 {xl : List Int32} {n : Nat} {ι : IS} {Q : Option Value → IS → Prop} {a0 : Nat} {x1 : Int32} {w2 : Value} (h : PC xl n 35 0 [(0, .ref a0), (1, .int (x1 - x1 / 6 * 6))] [] ι (fun v1 κ1 => ∀ r1, v1 = some (.int r1) → Q none (up κ1 a0 3 1))) : PC xl (n + 1) 77 41 [(0, .ref a0), (1, .int x1), (2, w2)] [] ι Q := by
  refine PC.pr1 (k := 0) (pc' := 42) (lv' := [(0, .ref a0), (1, .int x1), (2, w2)]) (st' := [.ref a0]) rfl ?_
  refine PC.pr (k := 1) (pc' := 43) (lv' := [(0, .ref a0), (1, .int x1), (2, w2)]) (st' := [.int x1, .ref a0]) rfl ?_
  refine PC.pr (k := 1) (pc' := 45) (lv' := [(0, .ref a0), (1, .int x1), (2, w2)]) (st' := [.int 6, .int x1, .ref a0]) rfl ?_
  refine PC.pr (k := 1) (pc' := 46) (lv' := [(0, .ref a0), (1, .int x1), (2, w2)]) (st' := [.int (x1 - x1 / 6 * 6), .ref a0]) rfl ?_
  refine (PC.callI (j := 35) (args := [.ref a0, .int (x1 - x1 / 6 * 6)]) (rest := []) (M := cM35) (ty := .boolean) rfl rfl rfl rfl rfl rfl (by decide) rfl rfl (by decide) ?_).weak
  refine PC.imp h (fun v1 κ1 h r1 hv => ?_)
  have h := h r1 hv
  refine PC.pr (k := 1) (pc' := 50) (lv' := [(0, .ref a0), (1, .int x1), (2, w2)]) (st' := []) rfl ?_
  refine PC.pr (k := 1) (pc' := 51) (lv' := [(0, .ref a0), (1, .int x1), (2, w2)]) (st' := [.ref a0]) rfl ?_
  refine PC.pr (k := 1) (pc' := 52) (lv' := [(0, .ref a0), (1, .int x1), (2, w2)]) (st' := [.int 1, .ref a0]) rfl ?_
  refine PC.pI (ci := 5) (j := 3) rfl rfl ?_
  exact PC.retV rfl h

/-- DoorPaints$Door.loseTop()V -/
theorem t_78_0 {xl : List Int32} {n : Nat} {ι : IS} {Q : Option Value → IS → Prop} {a0 : Nat} (h : ((¬ 0 < (ι a0 1) → Q none ι) ∧ (0 < (ι a0 1) → Q none (up ι a0 1 ((ι a0 1) - 1))))) : PC xl (n + 1) 78 0 [(0, .ref a0)] [] ι Q := by
  refine PC.pr1 (k := 0) (pc' := 1) (lv' := [(0, .ref a0)]) (st' := [.ref a0]) rfl ?_
  refine PC.gI (ci := 5) (j := 1) rfl rfl (by decide) ?_
  refine PC.if1 (t := 17) rfl rfl (fun c => ?_) (fun c => ?_)
  · have h := h.1 (cmp_le.1.mp c)
    exact PC.retV rfl h
  · have h := h.2 (cmp_le.2.mp c)
    refine PC.pr (k := 1) (pc' := 8) (lv' := [(0, .ref a0)]) (st' := [.ref a0]) rfl ?_
    refine PC.pr (k := 1) (pc' := 9) (lv' := [(0, .ref a0)]) (st' := [.ref a0, .ref a0]) rfl ?_
    refine PC.gI (ci := 5) (j := 1) rfl rfl (by decide) ?_
    refine PC.pr (k := 1) (pc' := 13) (lv' := [(0, .ref a0)]) (st' := [.int 1, .int (ι a0 1), .ref a0]) rfl ?_
    refine PC.pr (k := 1) (pc' := 14) (lv' := [(0, .ref a0)]) (st' := [.int ((ι a0 1) - 1), .ref a0]) rfl ?_
    refine PC.pI (ci := 5) (j := 1) rfl rfl ?_
    exact PC.retV rfl h

/-- DoorPaints$Door.shineOn()V -/
theorem t_79_0 {xl : List Int32} {n : Nat} {ι : IS} {Q : Option Value → IS → Prop} {a0 : Nat} (h : PC xl n 79 2 [(0, .ref a0), (1, .int 0)] [] ι Q) : PC xl (n + 1) 79 0 [(0, .ref a0)] [] ι Q := by
  refine PC.pr1 (k := 0) (pc' := 1) (lv' := [(0, .ref a0)]) (st' := [.int 0]) rfl ?_
  refine PC.pr (k := 1) (pc' := 2) (lv' := [(1, .int 0), (0, .ref a0)]) (st' := []) rfl ?_
  exact PC.lv (lvE.cons rfl (lvE.cons rfl (lvE.nil))) h
theorem t_79_2 {xl : List Int32} {n : Nat} {ι : IS} {Q : Option Value → IS → Prop} {a0 : Nat} {x1 : Int32} (h : ((¬ x1 < 6 → Q none (up ι a0 3 0)) ∧ (x1 < 6 → PC xl n 60 0 [(0, .ref a0)] [] ι (fun v1 κ1 => ∀ r1, v1 = some (.int r1) → ((¬ r1 = 0 → Q none (up κ1 a0 3 0)) ∧ (r1 = 0 → PC xl n 78 0 [(0, .ref a0)] [] κ1 (fun _ κ2 => PC xl n 79 2 [(0, .ref a0), (1, .int (x1 + 1))] [] κ2 Q))))))) : PC xl (n + 1) 79 2 [(0, .ref a0), (1, .int x1)] [] ι Q := by
  refine PC.pr1 (k := 0) (pc' := 3) (lv' := [(0, .ref a0), (1, .int x1)]) (st' := [.int x1]) rfl ?_
  refine PC.pr (k := 1) (pc' := 5) (lv' := [(0, .ref a0), (1, .int x1)]) (st' := [.int 6, .int x1]) rfl ?_
  refine PC.if2 (t := 25) rfl rfl (fun c => ?_) (fun c => ?_)
  · have h := h.1 (cmp_ge.1.mp c)
    refine PC.pr (k := 1) (pc' := 26) (lv' := [(0, .ref a0), (1, .int x1)]) (st' := [.ref a0]) rfl ?_
    refine PC.pr (k := 1) (pc' := 27) (lv' := [(0, .ref a0), (1, .int x1)]) (st' := [.int 0, .ref a0]) rfl ?_
    refine PC.pI (ci := 5) (j := 3) rfl rfl ?_
    exact PC.retV rfl h
  · have h := h.2 (cmp_ge.2.mp c)
    refine PC.pr (k := 1) (pc' := 9) (lv' := [(0, .ref a0), (1, .int x1)]) (st' := [.ref a0]) rfl ?_
    refine (PC.callI (j := 60) (args := [.ref a0]) (rest := []) (M := cM60) (ty := .int) rfl rfl rfl rfl rfl rfl (by decide) rfl rfl (by decide) ?_).weak
    refine PC.imp h (fun v1 κ1 h r1 hv => ?_)
    have h := h r1 hv
    refine PC.if1 (t := 25) rfl rfl (fun c => ?_) (fun c => ?_)
    · have h := h.1 (cmp_ne.1.mp c)
      refine PC.pr (k := 1) (pc' := 26) (lv' := [(0, .ref a0), (1, .int x1)]) (st' := [.ref a0]) rfl ?_
      refine PC.pr (k := 1) (pc' := 27) (lv' := [(0, .ref a0), (1, .int x1)]) (st' := [.int 0, .ref a0]) rfl ?_
      refine PC.pI (ci := 5) (j := 3) rfl rfl ?_
      exact PC.retV rfl h
    · have h := h.2 (cmp_ne.2.mp c)
      refine PC.pr (k := 1) (pc' := 16) (lv' := [(0, .ref a0), (1, .int x1)]) (st' := [.ref a0]) rfl ?_
      refine (PC.callV (j := 78) (args := [.ref a0]) (rest := []) (M := cM78) rfl rfl rfl rfl rfl rfl (by decide) rfl rfl ?_).weak
      refine PC.imp h (fun _ κ2 h => ?_)
      refine PC.pr (k := 1) (pc' := 22) (lv' := [(1, .int (x1 + 1)), (0, .ref a0)]) (st' := []) rfl ?_
      refine PC.pr (k := 1) (pc' := 2) (lv' := [(1, .int (x1 + 1)), (0, .ref a0)]) (st' := []) rfl ?_
      exact PC.lv (lvE.cons rfl (lvE.cons rfl (lvE.nil))) h

/-- DoorPaints$Town.allLayers()I -/
theorem t_80_0 {xl : List Int32} {n : Nat} {ι : IS} {Q : Option Value → IS → Prop} {a0 : Nat} (h : PC xl n 80 4 [(0, .ref a0), (1, .int 0), (2, .int 0)] [] ι Q) : PC xl (n + 1) 80 0 [(0, .ref a0)] [] ι Q := by
  refine PC.pr1 (k := 0) (pc' := 1) (lv' := [(0, .ref a0)]) (st' := [.int 0]) rfl ?_
  refine PC.pr (k := 1) (pc' := 2) (lv' := [(1, .int 0), (0, .ref a0)]) (st' := []) rfl ?_
  refine PC.pr (k := 1) (pc' := 3) (lv' := [(1, .int 0), (0, .ref a0)]) (st' := [.int 0]) rfl ?_
  refine PC.pr (k := 1) (pc' := 4) (lv' := [(2, .int 0), (1, .int 0), (0, .ref a0)]) (st' := []) rfl ?_
  exact PC.lv (lvE.cons rfl (lvE.cons rfl (lvE.cons rfl (lvE.nil)))) h
theorem t_80_4 {xl : List Int32} {n : Nat} {ι : IS} {Q : Option Value → IS → Prop} {a0 : Nat} {x1 : Int32} {x2 : Int32} (h : ((¬ x2 < (ι a0 3) → Q (some (.int x1)) ι) ∧ (x2 < (ι a0 3) → (0 ≤ x2.toInt → x2.toInt < lr (rf a0 1) → PC xl n 80 4 [(0, .ref a0), (1, .int (x1 + (ι (re (rf a0 1) x2.toNatClampNeg) 1))), (2, .int (x2 + 1))] [] ι Q)))) : PC xl (n + 1) 80 4 [(0, .ref a0), (1, .int x1), (2, .int x2)] [] ι Q := by
  refine PC.pr1 (k := 0) (pc' := 5) (lv' := [(0, .ref a0), (1, .int x1), (2, .int x2)]) (st' := [.int x2]) rfl ?_
  refine PC.pr (k := 1) (pc' := 6) (lv' := [(0, .ref a0), (1, .int x1), (2, .int x2)]) (st' := [.ref a0, .int x2]) rfl ?_
  refine PC.gI (ci := 3) (j := 3) rfl rfl (by decide) ?_
  refine PC.if2 (t := 30) rfl rfl (fun c => ?_) (fun c => ?_)
  · have h := h.1 (cmp_ge.1.mp c)
    refine PC.pr (k := 1) (pc' := 31) (lv' := [(0, .ref a0), (1, .int x1), (2, .int x2)]) (st' := [.int x1]) rfl ?_
    exact PC.retI rfl h
  · have h := h.2 (cmp_ge.2.mp c)
    refine PC.pr (k := 1) (pc' := 13) (lv' := [(0, .ref a0), (1, .int x1), (2, .int x2)]) (st' := [.int x1]) rfl ?_
    refine PC.pr (k := 1) (pc' := 14) (lv' := [(0, .ref a0), (1, .int x1), (2, .int x2)]) (st' := [.ref a0, .int x1]) rfl ?_
    refine PC.gR (ci := 3) (j := 1) rfl rfl (by decide) ?_
    refine PC.pr (k := 1) (pc' := 18) (lv' := [(0, .ref a0), (1, .int x1), (2, .int x2)]) (st' := [.int x2, .ref (rf a0 1), .int x1]) rfl ?_
    refine PC.ra rfl (fun c1 c2 => ?_)
    have h := h c1 c2
    refine PC.gI (ci := 5) (j := 1) rfl rfl (by decide) ?_
    refine PC.pr (k := 1) (pc' := 23) (lv' := [(0, .ref a0), (1, .int x1), (2, .int x2)]) (st' := [.int (x1 + (ι (re (rf a0 1) x2.toNatClampNeg) 1))]) rfl ?_
    refine PC.pr (k := 1) (pc' := 24) (lv' := [(1, .int (x1 + (ι (re (rf a0 1) x2.toNatClampNeg) 1))), (0, .ref a0), (2, .int x2)]) (st' := []) rfl ?_
    refine PC.pr (k := 1) (pc' := 27) (lv' := [(2, .int (x2 + 1)), (1, .int (x1 + (ι (re (rf a0 1) x2.toNatClampNeg) 1))), (0, .ref a0)]) (st' := []) rfl ?_
    refine PC.pr (k := 1) (pc' := 4) (lv' := [(2, .int (x2 + 1)), (1, .int (x1 + (ι (re (rf a0 1) x2.toNatClampNeg) 1))), (0, .ref a0)]) (st' := []) rfl ?_
    exact PC.lv (lvE.cons rfl (lvE.cons rfl (lvE.cons rfl (lvE.nil)))) h
end
section
/-! WHAT RUNS ASK (written by a program) -/
/-- DoorPaints.scrape(I)I -/
theorem t_81_0 {xl : List Int32} {n : Nat} {ι : IS} {Q : Option Value → IS → Prop} {a0 : Nat} {x1 : Int32} (h : PC xl n 50 0 [(0, .ref (rf (rf a0 2) 0)), (1, .int x1)] [] ι (fun v1 κ1 => ∀ r1, v1 = some (.int r1) → ((¬ r1 = 0 → (0 ≤ x1.toInt → x1.toInt < lr (rf (rf (rf a0 2) 0) 1) → ((¬ (κ1 (re (rf (rf (rf a0 2) 0) 1) x1.toNatClampNeg) 1) = 0 → PC xl n 78 0 [(0, .ref (re (rf (rf (rf a0 2) 0) 1) x1.toNatClampNeg))] [] κ1 (fun _ κ2 => PC xl n 60 0 [(0, .ref (re (rf (rf (rf a0 2) 0) 1) x1.toNatClampNeg))] [] (up κ2 (re (rf (rf (rf a0 2) 0) 1) x1.toNatClampNeg) 3 0) (fun v3 κ3 => ∀ r3, v3 = some (.int r3) → Q (some (.int r3)) κ3))) ∧ ((κ1 (re (rf (rf (rf a0 2) 0) 1) x1.toNatClampNeg) 1) = 0 → Q (some (.int (-2))) κ1)))) ∧ (r1 = 0 → Q (some (.int (-1))) κ1)))) : PC xl (n + 1) 81 0 [(0, .ref a0), (1, .int x1)] [] ι Q := by
  refine PC.pr1 (k := 0) (pc' := 1) (lv' := [(0, .ref a0), (1, .int x1)]) (st' := [.ref a0]) rfl ?_
  refine PC.gR (ci := 0) (j := 2) rfl rfl (by decide) ?_
  refine PC.gR (ci := 2) (j := 0) rfl rfl (by decide) ?_
  refine PC.pr (k := 1) (pc' := 8) (lv' := [(0, .ref a0), (1, .int x1)]) (st' := [.int x1, .ref (rf (rf a0 2) 0)]) rfl ?_
  refine (PC.callI (j := 50) (args := [.ref (rf (rf a0 2) 0), .int x1]) (rest := []) (M := cM50) (ty := .boolean) rfl rfl rfl rfl rfl rfl (by decide) rfl rfl (by decide) ?_).weak
  refine PC.imp h (fun v1 κ1 h r1 hv => ?_)
  have h := h r1 hv
  refine PC.if1 (t := 16) rfl rfl (fun c => ?_) (fun c => ?_)
  · have h := h.1 (cmp_ne.1.mp c)
    refine PC.pr (k := 1) (pc' := 17) (lv' := [(0, .ref a0), (1, .int x1)]) (st' := [.ref a0]) rfl ?_
    refine PC.gR (ci := 0) (j := 2) rfl rfl (by decide) ?_
    refine PC.gR (ci := 2) (j := 0) rfl rfl (by decide) ?_
    refine PC.gR (ci := 3) (j := 1) rfl rfl (by decide) ?_
    refine PC.pr (k := 1) (pc' := 27) (lv' := [(0, .ref a0), (1, .int x1)]) (st' := [.int x1, .ref (rf (rf (rf a0 2) 0) 1)]) rfl ?_
    refine PC.ra rfl (fun c1 c2 => ?_)
    have h := h c1 c2
    refine PC.pr (k := 1) (pc' := 29) (lv' := [(2, .ref (re (rf (rf (rf a0 2) 0) 1) x1.toNatClampNeg)), (0, .ref a0), (1, .int x1)]) (st' := []) rfl ?_
    refine PC.pr (k := 1) (pc' := 30) (lv' := [(2, .ref (re (rf (rf (rf a0 2) 0) 1) x1.toNatClampNeg)), (0, .ref a0), (1, .int x1)]) (st' := [.ref (re (rf (rf (rf a0 2) 0) 1) x1.toNatClampNeg)]) rfl ?_
    refine PC.gI (ci := 5) (j := 1) rfl rfl (by decide) ?_
    refine PC.if1 (t := 39) rfl rfl (fun c => ?_) (fun c => ?_)
    · have h := h.1 (cmp_ne.1.mp c)
      refine PC.pr (k := 1) (pc' := 40) (lv' := [(2, .ref (re (rf (rf (rf a0 2) 0) 1) x1.toNatClampNeg)), (0, .ref a0), (1, .int x1)]) (st' := [.ref (re (rf (rf (rf a0 2) 0) 1) x1.toNatClampNeg)]) rfl ?_
      refine (PC.callV (j := 78) (args := [.ref (re (rf (rf (rf a0 2) 0) 1) x1.toNatClampNeg)]) (rest := []) (M := cM78) rfl rfl rfl rfl rfl rfl (by decide) rfl rfl ?_).weak
      refine PC.imp h (fun _ κ2 h => ?_)
      refine PC.pr (k := 1) (pc' := 44) (lv' := [(2, .ref (re (rf (rf (rf a0 2) 0) 1) x1.toNatClampNeg)), (0, .ref a0), (1, .int x1)]) (st' := [.ref (re (rf (rf (rf a0 2) 0) 1) x1.toNatClampNeg)]) rfl ?_
      refine PC.pr (k := 1) (pc' := 45) (lv' := [(2, .ref (re (rf (rf (rf a0 2) 0) 1) x1.toNatClampNeg)), (0, .ref a0), (1, .int x1)]) (st' := [.int 0, .ref (re (rf (rf (rf a0 2) 0) 1) x1.toNatClampNeg)]) rfl ?_
      refine PC.pI (ci := 5) (j := 3) rfl rfl ?_
      refine PC.pr (k := 1) (pc' := 49) (lv' := [(2, .ref (re (rf (rf (rf a0 2) 0) 1) x1.toNatClampNeg)), (0, .ref a0), (1, .int x1)]) (st' := [.ref (re (rf (rf (rf a0 2) 0) 1) x1.toNatClampNeg)]) rfl ?_
      refine (PC.callI (j := 60) (args := [.ref (re (rf (rf (rf a0 2) 0) 1) x1.toNatClampNeg)]) (rest := []) (M := cM60) (ty := .int) rfl rfl rfl rfl rfl rfl (by decide) rfl rfl (by decide) ?_).weak
      refine PC.imp h (fun v3 κ3 h r3 hv => ?_)
      have h := h r3 hv
      exact PC.retI rfl h
    · have h := h.2 (cmp_ne.2.mp c)
      refine PC.pr (k := 1) (pc' := 38) (lv' := [(2, .ref (re (rf (rf (rf a0 2) 0) 1) x1.toNatClampNeg)), (0, .ref a0), (1, .int x1)]) (st' := [.int (-2)]) rfl ?_
      exact PC.retI rfl h
  · have h := h.2 (cmp_ne.2.mp c)
    refine PC.pr (k := 1) (pc' := 15) (lv' := [(0, .ref a0), (1, .int x1)]) (st' := [.int (-1)]) rfl ?_
    exact PC.retI rfl h

/-- DoorPaints.alter(III)I -/
theorem t_82_0 {xl : List Int32} {n : Nat} {ι : IS} {Q : Option Value → IS → Prop} {a0 : Nat} {x1 : Int32} {x2 : Int32} {x3 : Int32} (h : PC xl n 49 0 [(0, .ref (rf (rf a0 2) 0)), (1, .int x1)] [] ι (fun v1 κ1 => ∀ r1, v1 = some (.int r1) → ((r1 = 0 → Q (some (.int (-1))) κ1) ∧ (¬ r1 = 0 → ((¬ x3 < 0 → (0 ≤ x1.toInt → x1.toInt < lr (rf (rf (rf a0 2) 0) 0) → ((¬ x2 = 0 → PC xl n 82 59 [(0, .ref a0), (1, .int x1), (2, .int x2), (3, .int x3), (4, .ref (re (rf (rf (rf a0 2) 0) 0) x1.toNatClampNeg))] [] κ1 Q) ∧ (x2 = 0 → ((¬ x3 < 4 → PC xl n 82 59 [(0, .ref a0), (1, .int x1), (2, .int x2), (3, .int x3), (4, .ref (re (rf (rf (rf a0 2) 0) 0) x1.toNatClampNeg))] [] κ1 Q) ∧ (x3 < 4 → Q (some (.int (κ1 (re (rf (rf (rf a0 2) 0) 0) x1.toNatClampNeg) 0))) (up κ1 (re (rf (rf (rf a0 2) 0) 0) x1.toNatClampNeg) 0 x3))))))) ∧ (x3 < 0 → Q (some (.int (-1))) κ1)))))) : PC xl (n + 1) 82 0 [(0, .ref a0), (1, .int x1), (2, .int x2), (3, .int x3)] [] ι Q := by
  refine PC.pr1 (k := 0) (pc' := 1) (lv' := [(0, .ref a0), (1, .int x1), (2, .int x2), (3, .int x3)]) (st' := [.ref a0]) rfl ?_
  refine PC.gR (ci := 0) (j := 2) rfl rfl (by decide) ?_
  refine PC.gR (ci := 2) (j := 0) rfl rfl (by decide) ?_
  refine PC.pr (k := 1) (pc' := 8) (lv' := [(0, .ref a0), (1, .int x1), (2, .int x2), (3, .int x3)]) (st' := [.int x1, .ref (rf (rf a0 2) 0)]) rfl ?_
  refine (PC.callI (j := 49) (args := [.ref (rf (rf a0 2) 0), .int x1]) (rest := []) (M := cM49) (ty := .boolean) rfl rfl rfl rfl rfl rfl (by decide) rfl rfl (by decide) ?_).weak
  refine PC.imp h (fun v1 κ1 h r1 hv => ?_)
  have h := h r1 hv
  refine PC.if1 (t := 18) rfl rfl (fun c => ?_) (fun c => ?_)
  · have h := h.1 (cmp_eq.1.mp c)
    refine PC.pr (k := 1) (pc' := 19) (lv' := [(0, .ref a0), (1, .int x1), (2, .int x2), (3, .int x3)]) (st' := [.int (-1)]) rfl ?_
    exact PC.retI rfl h
  · have h := h.2 (cmp_eq.2.mp c)
    refine PC.pr (k := 1) (pc' := 15) (lv' := [(0, .ref a0), (1, .int x1), (2, .int x2), (3, .int x3)]) (st' := [.int x3]) rfl ?_
    refine PC.if1 (t := 20) rfl rfl (fun c => ?_) (fun c => ?_)
    · have h := h.1 (cmp_ge.1.mp c)
      refine PC.pr (k := 1) (pc' := 21) (lv' := [(0, .ref a0), (1, .int x1), (2, .int x2), (3, .int x3)]) (st' := [.ref a0]) rfl ?_
      refine PC.gR (ci := 0) (j := 2) rfl rfl (by decide) ?_
      refine PC.gR (ci := 2) (j := 0) rfl rfl (by decide) ?_
      refine PC.gR (ci := 3) (j := 0) rfl rfl (by decide) ?_
      refine PC.pr (k := 1) (pc' := 31) (lv' := [(0, .ref a0), (1, .int x1), (2, .int x2), (3, .int x3)]) (st' := [.int x1, .ref (rf (rf (rf a0 2) 0) 0)]) rfl ?_
      refine PC.ra rfl (fun c1 c2 => ?_)
      have h := h c1 c2
      refine PC.pr (k := 1) (pc' := 34) (lv' := [(4, .ref (re (rf (rf (rf a0 2) 0) 0) x1.toNatClampNeg)), (0, .ref a0), (1, .int x1), (2, .int x2), (3, .int x3)]) (st' := []) rfl ?_
      refine PC.pr (k := 1) (pc' := 35) (lv' := [(4, .ref (re (rf (rf (rf a0 2) 0) 0) x1.toNatClampNeg)), (0, .ref a0), (1, .int x1), (2, .int x2), (3, .int x3)]) (st' := [.int x2]) rfl ?_
      refine PC.if1 (t := 59) rfl rfl (fun c => ?_) (fun c => ?_)
      · have h := h.1 (cmp_ne.1.mp c)
        exact PC.lv (lvE.cons rfl (lvE.cons rfl (lvE.cons rfl (lvE.cons rfl (lvE.cons rfl (lvE.nil)))))) h
      · have h := h.2 (cmp_ne.2.mp c)
        refine PC.pr (k := 1) (pc' := 39) (lv' := [(4, .ref (re (rf (rf (rf a0 2) 0) 0) x1.toNatClampNeg)), (0, .ref a0), (1, .int x1), (2, .int x2), (3, .int x3)]) (st' := [.int x3]) rfl ?_
        refine PC.pr (k := 1) (pc' := 40) (lv' := [(4, .ref (re (rf (rf (rf a0 2) 0) 0) x1.toNatClampNeg)), (0, .ref a0), (1, .int x1), (2, .int x2), (3, .int x3)]) (st' := [.int 4, .int x3]) rfl ?_
        refine PC.if2 (t := 59) rfl rfl (fun c => ?_) (fun c => ?_)
        · have h := h.1 (cmp_ge.1.mp c)
          exact PC.lv (lvE.cons rfl (lvE.cons rfl (lvE.cons rfl (lvE.cons rfl (lvE.cons rfl (lvE.nil)))))) h
        · have h := h.2 (cmp_ge.2.mp c)
          refine PC.pr (k := 1) (pc' := 45) (lv' := [(4, .ref (re (rf (rf (rf a0 2) 0) 0) x1.toNatClampNeg)), (0, .ref a0), (1, .int x1), (2, .int x2), (3, .int x3)]) (st' := [.ref (re (rf (rf (rf a0 2) 0) 0) x1.toNatClampNeg)]) rfl ?_
          refine PC.gI (ci := 4) (j := 0) rfl rfl (by decide) ?_
          refine PC.pr (k := 1) (pc' := 50) (lv' := [(5, .int (κ1 (re (rf (rf (rf a0 2) 0) 0) x1.toNatClampNeg) 0)), (4, .ref (re (rf (rf (rf a0 2) 0) 0) x1.toNatClampNeg)), (0, .ref a0), (1, .int x1), (2, .int x2), (3, .int x3)]) (st' := []) rfl ?_
          refine PC.pr (k := 1) (pc' := 52) (lv' := [(5, .int (κ1 (re (rf (rf (rf a0 2) 0) 0) x1.toNatClampNeg) 0)), (4, .ref (re (rf (rf (rf a0 2) 0) 0) x1.toNatClampNeg)), (0, .ref a0), (1, .int x1), (2, .int x2), (3, .int x3)]) (st' := [.ref (re (rf (rf (rf a0 2) 0) 0) x1.toNatClampNeg)]) rfl ?_
          refine PC.pr (k := 1) (pc' := 53) (lv' := [(5, .int (κ1 (re (rf (rf (rf a0 2) 0) 0) x1.toNatClampNeg) 0)), (4, .ref (re (rf (rf (rf a0 2) 0) 0) x1.toNatClampNeg)), (0, .ref a0), (1, .int x1), (2, .int x2), (3, .int x3)]) (st' := [.int x3, .ref (re (rf (rf (rf a0 2) 0) 0) x1.toNatClampNeg)]) rfl ?_
          refine PC.pI (ci := 4) (j := 0) rfl rfl ?_
          refine PC.pr (k := 1) (pc' := 58) (lv' := [(5, .int (κ1 (re (rf (rf (rf a0 2) 0) 0) x1.toNatClampNeg) 0)), (4, .ref (re (rf (rf (rf a0 2) 0) 0) x1.toNatClampNeg)), (0, .ref a0), (1, .int x1), (2, .int x2), (3, .int x3)]) (st' := [.int (κ1 (re (rf (rf (rf a0 2) 0) 0) x1.toNatClampNeg) 0)]) rfl ?_
          exact PC.retI rfl h
    · have h := h.2 (cmp_ge.2.mp c)
      refine PC.pr (k := 1) (pc' := 19) (lv' := [(0, .ref a0), (1, .int x1), (2, .int x2), (3, .int x3)]) (st' := [.int (-1)]) rfl ?_
      exact PC.retI rfl h
theorem t_82_59 {xl : List Int32} {n : Nat} {ι : IS} {Q : Option Value → IS → Prop} {w0 : Value} {w1 : Value} {x2 : Int32} {x3 : Int32} {a4 : Nat} (h : ((¬ x2 = 1 → PC xl n 82 86 [(0, w0), (1, w1), (2, .int x2), (3, .int x3), (4, .ref a4)] [] ι Q) ∧ (x2 = 1 → ((¬ x3 < 6 → PC xl n 82 86 [(0, w0), (1, w1), (2, .int x2), (3, .int x3), (4, .ref a4)] [] ι Q) ∧ (x3 < 6 → Q (some (.int (ι a4 1))) (up ι a4 1 x3)))))) : PC xl (n + 1) 82 59 [(0, w0), (1, w1), (2, .int x2), (3, .int x3), (4, .ref a4)] [] ι Q := by
  refine PC.pr1 (k := 0) (pc' := 60) (lv' := [(0, w0), (1, w1), (2, .int x2), (3, .int x3), (4, .ref a4)]) (st' := [.int x2]) rfl ?_
  refine PC.pr (k := 1) (pc' := 61) (lv' := [(0, w0), (1, w1), (2, .int x2), (3, .int x3), (4, .ref a4)]) (st' := [.int 1, .int x2]) rfl ?_
  refine PC.if2 (t := 86) rfl rfl (fun c => ?_) (fun c => ?_)
  · have h := h.1 (cmp_ne.1.mp c)
    exact h
  · have h := h.2 (cmp_ne.2.mp c)
    refine PC.pr (k := 1) (pc' := 65) (lv' := [(0, w0), (1, w1), (2, .int x2), (3, .int x3), (4, .ref a4)]) (st' := [.int x3]) rfl ?_
    refine PC.pr (k := 1) (pc' := 67) (lv' := [(0, w0), (1, w1), (2, .int x2), (3, .int x3), (4, .ref a4)]) (st' := [.int 6, .int x3]) rfl ?_
    refine PC.if2 (t := 86) rfl rfl (fun c => ?_) (fun c => ?_)
    · have h := h.1 (cmp_ge.1.mp c)
      exact h
    · have h := h.2 (cmp_ge.2.mp c)
      refine PC.pr (k := 1) (pc' := 72) (lv' := [(0, w0), (1, w1), (2, .int x2), (3, .int x3), (4, .ref a4)]) (st' := [.ref a4]) rfl ?_
      refine PC.gI (ci := 4) (j := 1) rfl rfl (by decide) ?_
      refine PC.pr (k := 1) (pc' := 77) (lv' := [(5, .int (ι a4 1)), (0, w0), (1, w1), (2, .int x2), (3, .int x3), (4, .ref a4)]) (st' := []) rfl ?_
      refine PC.pr (k := 1) (pc' := 79) (lv' := [(5, .int (ι a4 1)), (0, w0), (1, w1), (2, .int x2), (3, .int x3), (4, .ref a4)]) (st' := [.ref a4]) rfl ?_
      refine PC.pr (k := 1) (pc' := 80) (lv' := [(5, .int (ι a4 1)), (0, w0), (1, w1), (2, .int x2), (3, .int x3), (4, .ref a4)]) (st' := [.int x3, .ref a4]) rfl ?_
      refine PC.pI (ci := 4) (j := 1) rfl rfl ?_
      refine PC.pr (k := 1) (pc' := 85) (lv' := [(5, .int (ι a4 1)), (0, w0), (1, w1), (2, .int x2), (3, .int x3), (4, .ref a4)]) (st' := [.int (ι a4 1)]) rfl ?_
      exact PC.retI rfl h
theorem t_82_86 {xl : List Int32} {n : Nat} {ι : IS} {Q : Option Value → IS → Prop} {w0 : Value} {w1 : Value} {x2 : Int32} {x3 : Int32} {a4 : Nat} (h : ((¬ x2 = 2 → PC xl n 82 113 [(0, w0), (1, w1), (2, .int x2), (3, .int x3), (4, .ref a4)] [] ι Q) ∧ (x2 = 2 → ((99 < x3 → PC xl n 82 113 [(0, w0), (1, w1), (2, .int x2), (3, .int x3), (4, .ref a4)] [] ι Q) ∧ (¬ 99 < x3 → Q (some (.int (ι a4 2))) (up ι a4 2 x3)))))) : PC xl (n + 1) 82 86 [(0, w0), (1, w1), (2, .int x2), (3, .int x3), (4, .ref a4)] [] ι Q := by
  refine PC.pr1 (k := 0) (pc' := 87) (lv' := [(0, w0), (1, w1), (2, .int x2), (3, .int x3), (4, .ref a4)]) (st' := [.int x2]) rfl ?_
  refine PC.pr (k := 1) (pc' := 88) (lv' := [(0, w0), (1, w1), (2, .int x2), (3, .int x3), (4, .ref a4)]) (st' := [.int 2, .int x2]) rfl ?_
  refine PC.if2 (t := 113) rfl rfl (fun c => ?_) (fun c => ?_)
  · have h := h.1 (cmp_ne.1.mp c)
    exact h
  · have h := h.2 (cmp_ne.2.mp c)
    refine PC.pr (k := 1) (pc' := 92) (lv' := [(0, w0), (1, w1), (2, .int x2), (3, .int x3), (4, .ref a4)]) (st' := [.int x3]) rfl ?_
    refine PC.pr (k := 1) (pc' := 94) (lv' := [(0, w0), (1, w1), (2, .int x2), (3, .int x3), (4, .ref a4)]) (st' := [.int 99, .int x3]) rfl ?_
    refine PC.if2 (t := 113) rfl rfl (fun c => ?_) (fun c => ?_)
    · have h := h.1 (cmp_gt.1.mp c)
      exact h
    · have h := h.2 (cmp_gt.2.mp c)
      refine PC.pr (k := 1) (pc' := 99) (lv' := [(0, w0), (1, w1), (2, .int x2), (3, .int x3), (4, .ref a4)]) (st' := [.ref a4]) rfl ?_
      refine PC.gI (ci := 4) (j := 2) rfl rfl (by decide) ?_
      refine PC.pr (k := 1) (pc' := 104) (lv' := [(5, .int (ι a4 2)), (0, w0), (1, w1), (2, .int x2), (3, .int x3), (4, .ref a4)]) (st' := []) rfl ?_
      refine PC.pr (k := 1) (pc' := 106) (lv' := [(5, .int (ι a4 2)), (0, w0), (1, w1), (2, .int x2), (3, .int x3), (4, .ref a4)]) (st' := [.ref a4]) rfl ?_
      refine PC.pr (k := 1) (pc' := 107) (lv' := [(5, .int (ι a4 2)), (0, w0), (1, w1), (2, .int x2), (3, .int x3), (4, .ref a4)]) (st' := [.int x3, .ref a4]) rfl ?_
      refine PC.pI (ci := 4) (j := 2) rfl rfl ?_
      refine PC.pr (k := 1) (pc' := 112) (lv' := [(5, .int (ι a4 2)), (0, w0), (1, w1), (2, .int x2), (3, .int x3), (4, .ref a4)]) (st' := [.int (ι a4 2)]) rfl ?_
      exact PC.retI rfl h
theorem t_82_113 {xl : List Int32} {n : Nat} {ι : IS} {Q : Option Value → IS → Prop} {w0 : Value} {w1 : Value} {x2 : Int32} {x3 : Int32} {a4 : Nat} (h : ((¬ x2 = 3 → Q (some (.int (-1))) ι) ∧ (x2 = 3 → ((¬ x3 = 0 → Q (some (.int (-1))) ι) ∧ (x3 = 0 → Q (some (.int (ι a4 3))) (up ι a4 3 0)))))) : PC xl (n + 1) 82 113 [(0, w0), (1, w1), (2, .int x2), (3, .int x3), (4, .ref a4)] [] ι Q := by
  refine PC.pr1 (k := 0) (pc' := 114) (lv' := [(0, w0), (1, w1), (2, .int x2), (3, .int x3), (4, .ref a4)]) (st' := [.int x2]) rfl ?_
  refine PC.pr (k := 1) (pc' := 115) (lv' := [(0, w0), (1, w1), (2, .int x2), (3, .int x3), (4, .ref a4)]) (st' := [.int 3, .int x2]) rfl ?_
  refine PC.if2 (t := 138) rfl rfl (fun c => ?_) (fun c => ?_)
  · have h := h.1 (cmp_ne.1.mp c)
    refine PC.pr (k := 1) (pc' := 139) (lv' := [(0, w0), (1, w1), (2, .int x2), (3, .int x3), (4, .ref a4)]) (st' := [.int (-1)]) rfl ?_
    exact PC.retI rfl h
  · have h := h.2 (cmp_ne.2.mp c)
    refine PC.pr (k := 1) (pc' := 119) (lv' := [(0, w0), (1, w1), (2, .int x2), (3, .int x3), (4, .ref a4)]) (st' := [.int x3]) rfl ?_
    refine PC.if1 (t := 138) rfl rfl (fun c => ?_) (fun c => ?_)
    · have h := h.1 (cmp_ne.1.mp c)
      refine PC.pr (k := 1) (pc' := 139) (lv' := [(0, w0), (1, w1), (2, .int x2), (3, .int x3), (4, .ref a4)]) (st' := [.int (-1)]) rfl ?_
      exact PC.retI rfl h
    · have h := h.2 (cmp_ne.2.mp c)
      refine PC.pr (k := 1) (pc' := 124) (lv' := [(0, w0), (1, w1), (2, .int x2), (3, .int x3), (4, .ref a4)]) (st' := [.ref a4]) rfl ?_
      refine PC.gI (ci := 4) (j := 3) rfl rfl (by decide) ?_
      refine PC.pr (k := 1) (pc' := 129) (lv' := [(5, .int (ι a4 3)), (0, w0), (1, w1), (2, .int x2), (3, .int x3), (4, .ref a4)]) (st' := []) rfl ?_
      refine PC.pr (k := 1) (pc' := 131) (lv' := [(5, .int (ι a4 3)), (0, w0), (1, w1), (2, .int x2), (3, .int x3), (4, .ref a4)]) (st' := [.ref a4]) rfl ?_
      refine PC.pr (k := 1) (pc' := 132) (lv' := [(5, .int (ι a4 3)), (0, w0), (1, w1), (2, .int x2), (3, .int x3), (4, .ref a4)]) (st' := [.int 0, .ref a4]) rfl ?_
      refine PC.pI (ci := 4) (j := 3) rfl rfl ?_
      refine PC.pr (k := 1) (pc' := 137) (lv' := [(5, .int (ι a4 3)), (0, w0), (1, w1), (2, .int x2), (3, .int x3), (4, .ref a4)]) (st' := [.int (ι a4 3)]) rfl ?_
      exact PC.retI rfl h

/-- DoorPaints.ought(IIZ)I -/
theorem t_83_0 {xl : List Int32} {n : Nat} {ι : IS} {Q : Option Value → IS → Prop} {a0 : Nat} {x1 : Int32} {x2 : Int32} {x3 : Int32} (h : PC xl n 50 0 [(0, .ref (rf (rf a0 2) 0)), (1, .int x1)] [] ι (fun v1 κ1 => ∀ r1, v1 = some (.int r1) → ((r1 = 0 → Q (some (.int (-1))) κ1) ∧ (¬ r1 = 0 → PC xl n 73 0 [(0, .int x2)] [] κ1 (fun v2 κ2 => ∀ r2, v2 = some (.int r2) → ((¬ r2 = 0 → (0 ≤ x1.toInt → x1.toInt < lr (rf (rf (rf a0 2) 0) 1) → PC xl n 39 0 [(0, .ref (re (rf (rf (rf a0 2) 0) 1) x1.toNatClampNeg)), (1, .int x2), (2, .int x3)] [] κ2 (fun _ κ3 => ((x3 = 0 → Q (some (.int 0)) κ3) ∧ (¬ x3 = 0 → Q (some (.int 1)) κ3))))) ∧ (r2 = 0 → Q (some (.int (-1))) κ2))))))) : PC xl (n + 1) 83 0 [(0, .ref a0), (1, .int x1), (2, .int x2), (3, .int x3)] [] ι Q := by
  refine PC.pr1 (k := 0) (pc' := 1) (lv' := [(0, .ref a0), (1, .int x1), (2, .int x2), (3, .int x3)]) (st' := [.ref a0]) rfl ?_
  refine PC.gR (ci := 0) (j := 2) rfl rfl (by decide) ?_
  refine PC.gR (ci := 2) (j := 0) rfl rfl (by decide) ?_
  refine PC.pr (k := 1) (pc' := 8) (lv' := [(0, .ref a0), (1, .int x1), (2, .int x2), (3, .int x3)]) (st' := [.int x1, .ref (rf (rf a0 2) 0)]) rfl ?_
  refine (PC.callI (j := 50) (args := [.ref (rf (rf a0 2) 0), .int x1]) (rest := []) (M := cM50) (ty := .boolean) rfl rfl rfl rfl rfl rfl (by decide) rfl rfl (by decide) ?_).weak
  refine PC.imp h (fun v1 κ1 h r1 hv => ?_)
  have h := h r1 hv
  refine PC.if1 (t := 21) rfl rfl (fun c => ?_) (fun c => ?_)
  · have h := h.1 (cmp_eq.1.mp c)
    refine PC.pr (k := 1) (pc' := 22) (lv' := [(0, .ref a0), (1, .int x1), (2, .int x2), (3, .int x3)]) (st' := [.int (-1)]) rfl ?_
    exact PC.retI rfl h
  · have h := h.2 (cmp_eq.2.mp c)
    refine PC.pr (k := 1) (pc' := 15) (lv' := [(0, .ref a0), (1, .int x1), (2, .int x2), (3, .int x3)]) (st' := [.int x2]) rfl ?_
    refine (PC.callI (j := 73) (args := [.int x2]) (rest := []) (M := cM73) (ty := .boolean) rfl rfl rfl rfl rfl rfl (by decide) rfl rfl (by decide) ?_).weak
    refine PC.imp h (fun v2 κ2 h r2 hv => ?_)
    have h := h r2 hv
    refine PC.if1 (t := 23) rfl rfl (fun c => ?_) (fun c => ?_)
    · have h := h.1 (cmp_ne.1.mp c)
      refine PC.pr (k := 1) (pc' := 24) (lv' := [(0, .ref a0), (1, .int x1), (2, .int x2), (3, .int x3)]) (st' := [.ref a0]) rfl ?_
      refine PC.gR (ci := 0) (j := 2) rfl rfl (by decide) ?_
      refine PC.gR (ci := 2) (j := 0) rfl rfl (by decide) ?_
      refine PC.gR (ci := 3) (j := 1) rfl rfl (by decide) ?_
      refine PC.pr (k := 1) (pc' := 34) (lv' := [(0, .ref a0), (1, .int x1), (2, .int x2), (3, .int x3)]) (st' := [.int x1, .ref (rf (rf (rf a0 2) 0) 1)]) rfl ?_
      refine PC.ra rfl (fun c1 c2 => ?_)
      have h := h c1 c2
      refine PC.pr (k := 1) (pc' := 36) (lv' := [(0, .ref a0), (1, .int x1), (2, .int x2), (3, .int x3)]) (st' := [.int x2, .ref (re (rf (rf (rf a0 2) 0) 1) x1.toNatClampNeg)]) rfl ?_
      refine PC.pr (k := 1) (pc' := 37) (lv' := [(0, .ref a0), (1, .int x1), (2, .int x2), (3, .int x3)]) (st' := [.int x3, .int x2, .ref (re (rf (rf (rf a0 2) 0) 1) x1.toNatClampNeg)]) rfl ?_
      refine (PC.callV (j := 39) (args := [.ref (re (rf (rf (rf a0 2) 0) 1) x1.toNatClampNeg), .int x2, .int x3]) (rest := []) (M := cM39) rfl rfl rfl rfl rfl rfl (by decide) rfl rfl ?_).weak
      refine PC.imp h (fun _ κ3 h => ?_)
      refine PC.pr (k := 1) (pc' := 41) (lv' := [(0, .ref a0), (1, .int x1), (2, .int x2), (3, .int x3)]) (st' := [.int x3]) rfl ?_
      refine PC.if1 (t := 48) rfl rfl (fun c => ?_) (fun c => ?_)
      · have h := h.1 (cmp_eq.1.mp c)
        refine PC.pr (k := 1) (pc' := 49) (lv' := [(0, .ref a0), (1, .int x1), (2, .int x2), (3, .int x3)]) (st' := [.int 0]) rfl ?_
        exact PC.retI rfl h
      · have h := h.2 (cmp_eq.2.mp c)
        refine PC.pr (k := 1) (pc' := 45) (lv' := [(0, .ref a0), (1, .int x1), (2, .int x2), (3, .int x3)]) (st' := [.int 1]) rfl ?_
        refine PC.pr (k := 1) (pc' := 49) (lv' := [(0, .ref a0), (1, .int x1), (2, .int x2), (3, .int x3)]) (st' := [.int 1]) rfl ?_
        exact PC.retI rfl h
    · have h := h.2 (cmp_ne.2.mp c)
      refine PC.pr (k := 1) (pc' := 22) (lv' := [(0, .ref a0), (1, .int x1), (2, .int x2), (3, .int x3)]) (st' := [.int (-1)]) rfl ?_
      exact PC.retI rfl h

/-- DoorPaints.plans(I)I -/
theorem t_84_0 {xl : List Int32} {n : Nat} {ι : IS} {Q : Option Value → IS → Prop} {a0 : Nat} {x1 : Int32} (h : PC xl n 41 0 [(0, .int x1)] [] ι (fun v1 κ1 => ∀ r1, v1 = some (.int r1) → ((r1 = 0 → Q (some (.int (-1))) κ1) ∧ (¬ r1 = 0 → PC xl n 48 0 [(0, .ref (rf (rf a0 2) 0)), (1, .int x1)] [] κ1 (fun v2 κ2 => ∀ r2, v2 = some (.int r2) → ((¬ r2 = 0 → PC xl n 43 0 [(0, .ref (rf a0 2)), (1, .int x1)] [] κ2 (fun v3 κ3 => ∀ r3, v3 = some (.int r3) → ((r3 = 0 → Q (some (.int (-3))) κ3) ∧ (¬ r3 = 0 → Q (some (.int (κ3 (rf a0 2) 2))) κ3)))) ∧ (r2 = 0 → Q (some (.int (-1))) κ2))))))) : PC xl (n + 1) 84 0 [(0, .ref a0), (1, .int x1)] [] ι Q := by
  refine PC.pr1 (k := 0) (pc' := 1) (lv' := [(0, .ref a0), (1, .int x1)]) (st' := [.int x1]) rfl ?_
  refine (PC.callI (j := 41) (args := [.int x1]) (rest := []) (M := cM41) (ty := .boolean) rfl rfl rfl rfl rfl rfl (by decide) rfl rfl (by decide) ?_).weak
  refine PC.imp h (fun v1 κ1 h r1 hv => ?_)
  have h := h r1 hv
  refine PC.if1 (t := 21) rfl rfl (fun c => ?_) (fun c => ?_)
  · have h := h.1 (cmp_eq.1.mp c)
    refine PC.pr (k := 1) (pc' := 22) (lv' := [(0, .ref a0), (1, .int x1)]) (st' := [.int (-1)]) rfl ?_
    exact PC.retI rfl h
  · have h := h.2 (cmp_eq.2.mp c)
    refine PC.pr (k := 1) (pc' := 8) (lv' := [(0, .ref a0), (1, .int x1)]) (st' := [.ref a0]) rfl ?_
    refine PC.gR (ci := 0) (j := 2) rfl rfl (by decide) ?_
    refine PC.gR (ci := 2) (j := 0) rfl rfl (by decide) ?_
    refine PC.pr (k := 1) (pc' := 15) (lv' := [(0, .ref a0), (1, .int x1)]) (st' := [.int x1, .ref (rf (rf a0 2) 0)]) rfl ?_
    refine (PC.callI (j := 48) (args := [.ref (rf (rf a0 2) 0), .int x1]) (rest := []) (M := cM48) (ty := .boolean) rfl rfl rfl rfl rfl rfl (by decide) rfl rfl (by decide) ?_).weak
    refine PC.imp h (fun v2 κ2 h r2 hv => ?_)
    have h := h r2 hv
    refine PC.if1 (t := 23) rfl rfl (fun c => ?_) (fun c => ?_)
    · have h := h.1 (cmp_ne.1.mp c)
      refine PC.pr (k := 1) (pc' := 24) (lv' := [(0, .ref a0), (1, .int x1)]) (st' := [.ref a0]) rfl ?_
      refine PC.gR (ci := 0) (j := 2) rfl rfl (by decide) ?_
      refine PC.pr (k := 1) (pc' := 28) (lv' := [(0, .ref a0), (1, .int x1)]) (st' := [.int x1, .ref (rf a0 2)]) rfl ?_
      refine (PC.callI (j := 43) (args := [.ref (rf a0 2), .int x1]) (rest := []) (M := cM43) (ty := .boolean) rfl rfl rfl rfl rfl rfl (by decide) rfl rfl (by decide) ?_).weak
      refine PC.imp h (fun v3 κ3 h r3 hv => ?_)
      have h := h r3 hv
      refine PC.if1 (t := 44) rfl rfl (fun c => ?_) (fun c => ?_)
      · have h := h.1 (cmp_eq.1.mp c)
        refine PC.pr (k := 1) (pc' := 46) (lv' := [(0, .ref a0), (1, .int x1)]) (st' := [.int (-3)]) rfl ?_
        exact PC.retI rfl h
      · have h := h.2 (cmp_eq.2.mp c)
        refine PC.pr (k := 1) (pc' := 35) (lv' := [(0, .ref a0), (1, .int x1)]) (st' := [.ref a0]) rfl ?_
        refine PC.gR (ci := 0) (j := 2) rfl rfl (by decide) ?_
        refine PC.gI (ci := 2) (j := 2) rfl rfl (by decide) ?_
        refine PC.pr (k := 1) (pc' := 46) (lv' := [(0, .ref a0), (1, .int x1)]) (st' := [.int (κ3 (rf a0 2) 2)]) rfl ?_
        exact PC.retI rfl h
    · have h := h.2 (cmp_ne.2.mp c)
      refine PC.pr (k := 1) (pc' := 22) (lv' := [(0, .ref a0), (1, .int x1)]) (st' := [.int (-1)]) rfl ?_
      exact PC.retI rfl h

/-- DoorPaints.cut(I)I -/
theorem t_85_0 {xl : List Int32} {n : Nat} {ι : IS} {Q : Option Value → IS → Prop} {a0 : Nat} {x1 : Int32} (h : ((x1 < 0 → Q (some (.int (-1))) ι) ∧ (¬ x1 < 0 → ((¬ (ι (rf a0 2) 2) < x1 → Q (some (.int (ι (rf a0 2) 2))) (up ι (rf a0 2) 2 x1)) ∧ ((ι (rf a0 2) 2) < x1 → Q (some (.int (-1))) ι))))) : PC xl (n + 1) 85 0 [(0, .ref a0), (1, .int x1)] [] ι Q := by
  refine PC.pr1 (k := 0) (pc' := 1) (lv' := [(0, .ref a0), (1, .int x1)]) (st' := [.int x1]) rfl ?_
  refine PC.if1 (t := 15) rfl rfl (fun c => ?_) (fun c => ?_)
  · have h := h.1 (cmp_lt.1.mp c)
    refine PC.pr (k := 1) (pc' := 16) (lv' := [(0, .ref a0), (1, .int x1)]) (st' := [.int (-1)]) rfl ?_
    exact PC.retI rfl h
  · have h := h.2 (cmp_lt.2.mp c)
    refine PC.pr (k := 1) (pc' := 5) (lv' := [(0, .ref a0), (1, .int x1)]) (st' := [.int x1]) rfl ?_
    refine PC.pr (k := 1) (pc' := 6) (lv' := [(0, .ref a0), (1, .int x1)]) (st' := [.ref a0, .int x1]) rfl ?_
    refine PC.gR (ci := 0) (j := 2) rfl rfl (by decide) ?_
    refine PC.gI (ci := 2) (j := 2) rfl rfl (by decide) ?_
    refine PC.if2 (t := 17) rfl rfl (fun c => ?_) (fun c => ?_)
    · have h := h.1 (cmp_le.1.mp c)
      refine PC.pr (k := 1) (pc' := 18) (lv' := [(0, .ref a0), (1, .int x1)]) (st' := [.ref a0]) rfl ?_
      refine PC.gR (ci := 0) (j := 2) rfl rfl (by decide) ?_
      refine PC.gI (ci := 2) (j := 2) rfl rfl (by decide) ?_
      refine PC.pr (k := 1) (pc' := 25) (lv' := [(2, .int (ι (rf a0 2) 2)), (0, .ref a0), (1, .int x1)]) (st' := []) rfl ?_
      refine PC.pr (k := 1) (pc' := 26) (lv' := [(2, .int (ι (rf a0 2) 2)), (0, .ref a0), (1, .int x1)]) (st' := [.ref a0]) rfl ?_
      refine PC.gR (ci := 0) (j := 2) rfl rfl (by decide) ?_
      refine PC.pr (k := 1) (pc' := 30) (lv' := [(2, .int (ι (rf a0 2) 2)), (0, .ref a0), (1, .int x1)]) (st' := [.int x1, .ref (rf a0 2)]) rfl ?_
      refine PC.pI (ci := 2) (j := 2) rfl rfl ?_
      refine PC.pr (k := 1) (pc' := 34) (lv' := [(2, .int (ι (rf a0 2) 2)), (0, .ref a0), (1, .int x1)]) (st' := [.int (ι (rf a0 2) 2)]) rfl ?_
      exact PC.retI rfl h
    · have h := h.2 (cmp_le.2.mp c)
      refine PC.pr (k := 1) (pc' := 16) (lv' := [(0, .ref a0), (1, .int x1)]) (st' := [.int (-1)]) rfl ?_
      exact PC.retI rfl h

/-- DoorPaints.isRefusal(I)Z -/
theorem t_90_0 {xl : List Int32} {n : Nat} {ι : IS} {Q : Option Value → IS → Prop} {x0 : Int32} (h : ((x0 = (-1) → Q (some (.int 1)) ι) ∧ (¬ x0 = (-1) → ((x0 = (-2) → Q (some (.int 1)) ι) ∧ (¬ x0 = (-2) → ((¬ x0 = (-3) → Q (some (.int 0)) ι) ∧ (x0 = (-3) → Q (some (.int 1)) ι))))))) : PC xl (n + 1) 90 0 [(0, .int x0)] [] ι Q := by
  refine PC.pr1 (k := 0) (pc' := 1) (lv' := [(0, .int x0)]) (st' := [.int x0]) rfl ?_
  refine PC.pr (k := 1) (pc' := 2) (lv' := [(0, .int x0)]) (st' := [.int (-1), .int x0]) rfl ?_
  refine PC.if2 (t := 17) rfl rfl (fun c => ?_) (fun c => ?_)
  · have h := h.1 (cmp_eq.1.mp c)
    refine PC.pr (k := 1) (pc' := 18) (lv' := [(0, .int x0)]) (st' := [.int 1]) rfl ?_
    refine PC.pr (k := 1) (pc' := 22) (lv' := [(0, .int x0)]) (st' := [.int 1]) rfl ?_
    exact PC.retI rfl h
  · have h := h.2 (cmp_eq.2.mp c)
    refine PC.pr (k := 1) (pc' := 6) (lv' := [(0, .int x0)]) (st' := [.int x0]) rfl ?_
    refine PC.pr (k := 1) (pc' := 8) (lv' := [(0, .int x0)]) (st' := [.int (-2), .int x0]) rfl ?_
    refine PC.if2 (t := 17) rfl rfl (fun c => ?_) (fun c => ?_)
    · have h := h.1 (cmp_eq.1.mp c)
      refine PC.pr (k := 1) (pc' := 18) (lv' := [(0, .int x0)]) (st' := [.int 1]) rfl ?_
      refine PC.pr (k := 1) (pc' := 22) (lv' := [(0, .int x0)]) (st' := [.int 1]) rfl ?_
      exact PC.retI rfl h
    · have h := h.2 (cmp_eq.2.mp c)
      refine PC.pr (k := 1) (pc' := 12) (lv' := [(0, .int x0)]) (st' := [.int x0]) rfl ?_
      refine PC.pr (k := 1) (pc' := 14) (lv' := [(0, .int x0)]) (st' := [.int (-3), .int x0]) rfl ?_
      refine PC.if2 (t := 21) rfl rfl (fun c => ?_) (fun c => ?_)
      · have h := h.1 (cmp_ne.1.mp c)
        refine PC.pr (k := 1) (pc' := 22) (lv' := [(0, .int x0)]) (st' := [.int 0]) rfl ?_
        exact PC.retI rfl h
      · have h := h.2 (cmp_ne.2.mp c)
        refine PC.pr (k := 1) (pc' := 18) (lv' := [(0, .int x0)]) (st' := [.int 1]) rfl ?_
        refine PC.pr (k := 1) (pc' := 22) (lv' := [(0, .int x0)]) (st' := [.int 1]) rfl ?_
        exact PC.retI rfl h

/-- DoorPaints.reads(I)I -/
theorem t_109_0 {xl : List Int32} {n : Nat} {ι : IS} {Q : Option Value → IS → Prop} {a0 : Nat} {x1 : Int32} (h : PC xl n 49 0 [(0, .ref (rf (rf a0 2) 0)), (1, .int x1)] [] ι (fun v1 κ1 => ∀ r1, v1 = some (.int r1) → ((¬ r1 = 0 → PC xl n 63 0 [(0, .ref (rf (rf a0 2) 0)), (1, .int x1)] [] κ1 (fun v2 κ2 => ∀ r2, v2 = some (.int r2) → PC xl n 109 33 [(0, .ref a0), (1, .int x1), (2, .int r2), (3, .int 0), (4, .int 0)] [] κ2 Q)) ∧ (r1 = 0 → Q (some (.int (-1))) κ1)))) : PC xl (n + 1) 109 0 [(0, .ref a0), (1, .int x1)] [] ι Q := by
  refine PC.pr1 (k := 0) (pc' := 1) (lv' := [(0, .ref a0), (1, .int x1)]) (st' := [.ref a0]) rfl ?_
  refine PC.gR (ci := 0) (j := 2) rfl rfl (by decide) ?_
  refine PC.gR (ci := 2) (j := 0) rfl rfl (by decide) ?_
  refine PC.pr (k := 1) (pc' := 8) (lv' := [(0, .ref a0), (1, .int x1)]) (st' := [.int x1, .ref (rf (rf a0 2) 0)]) rfl ?_
  refine (PC.callI (j := 49) (args := [.ref (rf (rf a0 2) 0), .int x1]) (rest := []) (M := cM49) (ty := .boolean) rfl rfl rfl rfl rfl rfl (by decide) rfl rfl (by decide) ?_).weak
  refine PC.imp h (fun v1 κ1 h r1 hv => ?_)
  have h := h r1 hv
  refine PC.if1 (t := 16) rfl rfl (fun c => ?_) (fun c => ?_)
  · have h := h.1 (cmp_ne.1.mp c)
    refine PC.pr (k := 1) (pc' := 17) (lv' := [(0, .ref a0), (1, .int x1)]) (st' := [.ref a0]) rfl ?_
    refine PC.gR (ci := 0) (j := 2) rfl rfl (by decide) ?_
    refine PC.gR (ci := 2) (j := 0) rfl rfl (by decide) ?_
    refine PC.pr (k := 1) (pc' := 24) (lv' := [(0, .ref a0), (1, .int x1)]) (st' := [.int x1, .ref (rf (rf a0 2) 0)]) rfl ?_
    refine (PC.callI (j := 63) (args := [.ref (rf (rf a0 2) 0), .int x1]) (rest := []) (M := cM63) (ty := .int) rfl rfl rfl rfl rfl rfl (by decide) rfl rfl (by decide) ?_).weak
    refine PC.imp h (fun v2 κ2 h r2 hv => ?_)
    have h := h r2 hv
    refine PC.pr (k := 1) (pc' := 28) (lv' := [(2, .int r2), (0, .ref a0), (1, .int x1)]) (st' := []) rfl ?_
    refine PC.pr (k := 1) (pc' := 29) (lv' := [(2, .int r2), (0, .ref a0), (1, .int x1)]) (st' := [.int 0]) rfl ?_
    refine PC.pr (k := 1) (pc' := 30) (lv' := [(3, .int 0), (2, .int r2), (0, .ref a0), (1, .int x1)]) (st' := []) rfl ?_
    refine PC.pr (k := 1) (pc' := 31) (lv' := [(3, .int 0), (2, .int r2), (0, .ref a0), (1, .int x1)]) (st' := [.int 0]) rfl ?_
    refine PC.pr (k := 1) (pc' := 33) (lv' := [(4, .int 0), (3, .int 0), (2, .int r2), (0, .ref a0), (1, .int x1)]) (st' := []) rfl ?_
    exact PC.lv (lvE.cons rfl (lvE.cons rfl (lvE.cons rfl (lvE.cons rfl (lvE.cons rfl (lvE.nil)))))) h
  · have h := h.2 (cmp_ne.2.mp c)
    refine PC.pr (k := 1) (pc' := 15) (lv' := [(0, .ref a0), (1, .int x1)]) (st' := [.int (-1)]) rfl ?_
    exact PC.retI rfl h
theorem t_109_33 {xl : List Int32} {n : Nat} {ι : IS} {Q : Option Value → IS → Prop} {a0 : Nat} {w1 : Value} {x2 : Int32} {x3 : Int32} {x4 : Int32} (h : ((¬ x4 < (ι (rf (rf a0 2) 0) 3) → Q (some (.int x3)) ι) ∧ (x4 < (ι (rf (rf a0 2) 0) 3) → (0 ≤ x4.toInt → x4.toInt < lr (rf (rf (rf a0 2) 0) 1) → PC xl n 110 0 [(0, .ref (re (rf (rf (rf a0 2) 0) 1) x4.toNatClampNeg)), (1, .int x2)] [] ι (fun v1 κ1 => ∀ r1, v1 = some (.int r1) → ((r1 = 0 → PC xl n 109 33 [(0, .ref a0), (1, w1), (2, .int x2), (3, .int x3), (4, .int (x4 + 1))] [] κ1 Q) ∧ (¬ r1 = 0 → PC xl n 109 33 [(0, .ref a0), (1, w1), (2, .int x2), (3, .int (x3 ||| (1 <<< (x4 &&& 31)))), (4, .int (x4 + 1))] [] κ1 Q))))))) : PC xl (n + 1) 109 33 [(0, .ref a0), (1, w1), (2, .int x2), (3, .int x3), (4, .int x4)] [] ι Q := by
  refine PC.pr1 (k := 0) (pc' := 35) (lv' := [(0, .ref a0), (1, w1), (2, .int x2), (3, .int x3), (4, .int x4)]) (st' := [.int x4]) rfl ?_
  refine PC.pr (k := 1) (pc' := 36) (lv' := [(0, .ref a0), (1, w1), (2, .int x2), (3, .int x3), (4, .int x4)]) (st' := [.ref a0, .int x4]) rfl ?_
  refine PC.gR (ci := 0) (j := 2) rfl rfl (by decide) ?_
  refine PC.gR (ci := 2) (j := 0) rfl rfl (by decide) ?_
  refine PC.gI (ci := 3) (j := 3) rfl rfl (by decide) ?_
  refine PC.if2 (t := 81) rfl rfl (fun c => ?_) (fun c => ?_)
  · have h := h.1 (cmp_ge.1.mp c)
    refine PC.pr (k := 1) (pc' := 82) (lv' := [(0, .ref a0), (1, w1), (2, .int x2), (3, .int x3), (4, .int x4)]) (st' := [.int x3]) rfl ?_
    exact PC.retI rfl h
  · have h := h.2 (cmp_ge.2.mp c)
    refine PC.pr (k := 1) (pc' := 49) (lv' := [(0, .ref a0), (1, w1), (2, .int x2), (3, .int x3), (4, .int x4)]) (st' := [.ref a0]) rfl ?_
    refine PC.gR (ci := 0) (j := 2) rfl rfl (by decide) ?_
    refine PC.gR (ci := 2) (j := 0) rfl rfl (by decide) ?_
    refine PC.gR (ci := 3) (j := 1) rfl rfl (by decide) ?_
    refine PC.pr (k := 1) (pc' := 60) (lv' := [(0, .ref a0), (1, w1), (2, .int x2), (3, .int x3), (4, .int x4)]) (st' := [.int x4, .ref (rf (rf (rf a0 2) 0) 1)]) rfl ?_
    refine PC.ra rfl (fun c1 c2 => ?_)
    have h := h c1 c2
    refine PC.pr (k := 1) (pc' := 62) (lv' := [(0, .ref a0), (1, w1), (2, .int x2), (3, .int x3), (4, .int x4)]) (st' := [.int x2, .ref (re (rf (rf (rf a0 2) 0) 1) x4.toNatClampNeg)]) rfl ?_
    refine (PC.callI (j := 110) (args := [.ref (re (rf (rf (rf a0 2) 0) 1) x4.toNatClampNeg), .int x2]) (rest := []) (M := cM110) (ty := .boolean) rfl rfl rfl rfl rfl rfl (by decide) rfl rfl (by decide) ?_).weak
    refine PC.imp h (fun v1 κ1 h r1 hv => ?_)
    have h := h r1 hv
    refine PC.if1 (t := 75) rfl rfl (fun c => ?_) (fun c => ?_)
    · have h := h.1 (cmp_eq.1.mp c)
      refine PC.pr (k := 1) (pc' := 78) (lv' := [(4, .int (x4 + 1)), (0, .ref a0), (1, w1), (2, .int x2), (3, .int x3)]) (st' := []) rfl ?_
      refine PC.pr (k := 1) (pc' := 33) (lv' := [(4, .int (x4 + 1)), (0, .ref a0), (1, w1), (2, .int x2), (3, .int x3)]) (st' := []) rfl ?_
      exact PC.lv (lvE.cons rfl (lvE.cons rfl (lvE.cons rfl (lvE.cons rfl (lvE.cons rfl (lvE.nil)))))) h
    · have h := h.2 (cmp_eq.2.mp c)
      refine PC.pr (k := 1) (pc' := 69) (lv' := [(0, .ref a0), (1, w1), (2, .int x2), (3, .int x3), (4, .int x4)]) (st' := [.int x3]) rfl ?_
      refine PC.pr (k := 1) (pc' := 70) (lv' := [(0, .ref a0), (1, w1), (2, .int x2), (3, .int x3), (4, .int x4)]) (st' := [.int 1, .int x3]) rfl ?_
      refine PC.pr (k := 1) (pc' := 72) (lv' := [(0, .ref a0), (1, w1), (2, .int x2), (3, .int x3), (4, .int x4)]) (st' := [.int x4, .int 1, .int x3]) rfl ?_
      refine PC.pr (k := 1) (pc' := 73) (lv' := [(0, .ref a0), (1, w1), (2, .int x2), (3, .int x3), (4, .int x4)]) (st' := [.int (1 <<< (x4 &&& 31)), .int x3]) rfl ?_
      refine PC.pr (k := 1) (pc' := 74) (lv' := [(0, .ref a0), (1, w1), (2, .int x2), (3, .int x3), (4, .int x4)]) (st' := [.int (x3 ||| (1 <<< (x4 &&& 31)))]) rfl ?_
      refine PC.pr (k := 1) (pc' := 75) (lv' := [(3, .int (x3 ||| (1 <<< (x4 &&& 31)))), (0, .ref a0), (1, w1), (2, .int x2), (4, .int x4)]) (st' := []) rfl ?_
      refine PC.pr (k := 1) (pc' := 78) (lv' := [(4, .int (x4 + 1)), (3, .int (x3 ||| (1 <<< (x4 &&& 31)))), (0, .ref a0), (1, w1), (2, .int x2)]) (st' := []) rfl ?_
      refine PC.pr (k := 1) (pc' := 33) (lv' := [(4, .int (x4 + 1)), (3, .int (x3 ||| (1 <<< (x4 &&& 31)))), (0, .ref a0), (1, w1), (2, .int x2)]) (st' := []) rfl ?_
      exact PC.lv (lvE.cons rfl (lvE.cons rfl (lvE.cons rfl (lvE.cons rfl (lvE.cons rfl (lvE.nil)))))) h

/-- DoorPaints$Door.hasLayerOf(I)Z -/
theorem t_110_0 {xl : List Int32} {n : Nat} {ι : IS} {Q : Option Value → IS → Prop} {a0 : Nat} {x1 : Int32} (h : PC xl n 110 2 [(0, .ref a0), (1, .int x1), (2, .int 0)] [] ι Q) : PC xl (n + 1) 110 0 [(0, .ref a0), (1, .int x1)] [] ι Q := by
  refine PC.pr1 (k := 0) (pc' := 1) (lv' := [(0, .ref a0), (1, .int x1)]) (st' := [.int 0]) rfl ?_
  refine PC.pr (k := 1) (pc' := 2) (lv' := [(2, .int 0), (0, .ref a0), (1, .int x1)]) (st' := []) rfl ?_
  exact PC.lv (lvE.cons rfl (lvE.cons rfl (lvE.cons rfl (lvE.nil)))) h
theorem t_110_2 {xl : List Int32} {n : Nat} {ι : IS} {Q : Option Value → IS → Prop} {a0 : Nat} {x1 : Int32} {x2 : Int32} (h : ((¬ x2 < (ι a0 1) → Q (some (.int 0)) ι) ∧ (x2 < (ι a0 1) → (0 ≤ x2.toInt → x2.toInt < ln (rf a0 0) → ((¬ (ι (rf a0 0) x2.toNatClampNeg) = x1 → PC xl n 110 2 [(0, .ref a0), (1, .int x1), (2, .int (x2 + 1))] [] ι Q) ∧ ((ι (rf a0 0) x2.toNatClampNeg) = x1 → Q (some (.int 1)) ι)))))) : PC xl (n + 1) 110 2 [(0, .ref a0), (1, .int x1), (2, .int x2)] [] ι Q := by
  refine PC.pr1 (k := 0) (pc' := 3) (lv' := [(0, .ref a0), (1, .int x1), (2, .int x2)]) (st' := [.int x2]) rfl ?_
  refine PC.pr (k := 1) (pc' := 4) (lv' := [(0, .ref a0), (1, .int x1), (2, .int x2)]) (st' := [.ref a0, .int x2]) rfl ?_
  refine PC.gI (ci := 5) (j := 1) rfl rfl (by decide) ?_
  refine PC.if2 (t := 28) rfl rfl (fun c => ?_) (fun c => ?_)
  · have h := h.1 (cmp_ge.1.mp c)
    refine PC.pr (k := 1) (pc' := 29) (lv' := [(0, .ref a0), (1, .int x1), (2, .int x2)]) (st' := [.int 0]) rfl ?_
    exact PC.retI rfl h
  · have h := h.2 (cmp_ge.2.mp c)
    refine PC.pr (k := 1) (pc' := 11) (lv' := [(0, .ref a0), (1, .int x1), (2, .int x2)]) (st' := [.ref a0]) rfl ?_
    refine PC.gR (ci := 5) (j := 0) rfl rfl (by decide) ?_
    refine PC.pr (k := 1) (pc' := 15) (lv' := [(0, .ref a0), (1, .int x1), (2, .int x2)]) (st' := [.int x2, .ref (rf a0 0)]) rfl ?_
    refine PC.rd rfl (rf_lt _ _) (fun c1 c2 => ?_)
    have h := h c1 c2
    refine PC.pr (k := 1) (pc' := 17) (lv' := [(0, .ref a0), (1, .int x1), (2, .int x2)]) (st' := [.int x1, .int (ι (rf a0 0) x2.toNatClampNeg)]) rfl ?_
    refine PC.if2 (t := 22) rfl rfl (fun c => ?_) (fun c => ?_)
    · have h := h.1 (cmp_ne.1.mp c)
      refine PC.pr (k := 1) (pc' := 25) (lv' := [(2, .int (x2 + 1)), (0, .ref a0), (1, .int x1)]) (st' := []) rfl ?_
      refine PC.pr (k := 1) (pc' := 2) (lv' := [(2, .int (x2 + 1)), (0, .ref a0), (1, .int x1)]) (st' := []) rfl ?_
      exact PC.lv (lvE.cons rfl (lvE.cons rfl (lvE.cons rfl (lvE.nil)))) h
    · have h := h.2 (cmp_ne.2.mp c)
      refine PC.pr (k := 1) (pc' := 21) (lv' := [(0, .ref a0), (1, .int x1), (2, .int x2)]) (st' := [.int 1]) rfl ?_
      exact PC.retI rfl h

/-- DoorPaints.see(III)I -/
theorem t_111_0 {xl : List Int32} {n : Nat} {ι : IS} {Q : Option Value → IS → Prop} {a0 : Nat} {x1 : Int32} {x2 : Int32} {x3 : Int32} (h : PC xl n 73 0 [(0, .int x3)] [] ι (fun v1 κ1 => ∀ r1, v1 = some (.int r1) → ((¬ r1 = 0 → PC xl n 111 13 [(0, .ref a0), (1, .int x1), (2, .int x2), (3, .int x3)] [] κ1 Q) ∧ (r1 = 0 → ((¬ x3 = (-4) → PC xl n 50 0 [(0, .ref (rf (rf a0 2) 0)), (1, .int x1)] [] κ1 (fun v2 κ2 => ∀ r2, v2 = some (.int r2) → ((r2 = 0 → Q (some (.int (-1))) κ2) ∧ (¬ r2 = 0 → ((x2 < 0 → Q (some (.int (-1))) κ2) ∧ (¬ x2 < 0 → ((¬ x2 < 6 → Q (some (.int (-1))) κ2) ∧ (x2 < 6 → ((¬ (0 : Int32) = 0 → PC xl n 112 0 [(0, .ref (rf a0 2)), (1, .int x1), (2, .int x2), (3, .int x3)] [] κ2 (fun v3 κ3 => ∀ r3, v3 = some (.int r3) → ((r3 = 0 → Q (some (.int (-3))) κ3) ∧ (¬ r3 = 0 → Q (some (.int (κ3 (rf a0 2) 6))) κ3)))) ∧ ((0 : Int32) = 0 → Q (some (.int (-1))) κ2)))))))))) ∧ (x3 = (-4) → PC xl n 111 13 [(0, .ref a0), (1, .int x1), (2, .int x2), (3, .int x3)] [] κ1 Q)))))) : PC xl (n + 1) 111 0 [(0, .ref a0), (1, .int x1), (2, .int x2), (3, .int x3)] [] ι Q := by
  refine PC.pr1 (k := 0) (pc' := 1) (lv' := [(0, .ref a0), (1, .int x1), (2, .int x2), (3, .int x3)]) (st' := [.int x3]) rfl ?_
  refine (PC.callI (j := 73) (args := [.int x3]) (rest := []) (M := cM73) (ty := .boolean) rfl rfl rfl rfl rfl rfl (by decide) rfl rfl (by decide) ?_).weak
  refine PC.imp h (fun v1 κ1 h r1 hv => ?_)
  have h := h r1 hv
  refine PC.if1 (t := 13) rfl rfl (fun c => ?_) (fun c => ?_)
  · have h := h.1 (cmp_ne.1.mp c)
    exact h
  · have h := h.2 (cmp_ne.2.mp c)
    refine PC.pr (k := 1) (pc' := 8) (lv' := [(0, .ref a0), (1, .int x1), (2, .int x2), (3, .int x3)]) (st' := [.int x3]) rfl ?_
    refine PC.pr (k := 1) (pc' := 10) (lv' := [(0, .ref a0), (1, .int x1), (2, .int x2), (3, .int x3)]) (st' := [.int (-4), .int x3]) rfl ?_
    refine PC.if2 (t := 17) rfl rfl (fun c => ?_) (fun c => ?_)
    · have h := h.1 (cmp_ne.1.mp c)
      refine PC.pr (k := 1) (pc' := 18) (lv' := [(0, .ref a0), (1, .int x1), (2, .int x2), (3, .int x3)]) (st' := [.int 0]) rfl ?_
      refine PC.pr (k := 1) (pc' := 20) (lv' := [(4, .int 0), (0, .ref a0), (1, .int x1), (2, .int x2), (3, .int x3)]) (st' := []) rfl ?_
      refine PC.pr (k := 1) (pc' := 21) (lv' := [(4, .int 0), (0, .ref a0), (1, .int x1), (2, .int x2), (3, .int x3)]) (st' := [.ref a0]) rfl ?_
      refine PC.gR (ci := 0) (j := 2) rfl rfl (by decide) ?_
      refine PC.gR (ci := 2) (j := 0) rfl rfl (by decide) ?_
      refine PC.pr (k := 1) (pc' := 28) (lv' := [(4, .int 0), (0, .ref a0), (1, .int x1), (2, .int x2), (3, .int x3)]) (st' := [.int x1, .ref (rf (rf a0 2) 0)]) rfl ?_
      refine (PC.callI (j := 50) (args := [.ref (rf (rf a0 2) 0), .int x1]) (rest := []) (M := cM50) (ty := .boolean) rfl rfl rfl rfl rfl rfl (by decide) rfl rfl (by decide) ?_).weak
      refine PC.imp h (fun v2 κ2 h r2 hv => ?_)
      have h := h r2 hv
      refine PC.if1 (t := 49) rfl rfl (fun c => ?_) (fun c => ?_)
      · have h := h.1 (cmp_eq.1.mp c)
        refine PC.pr (k := 1) (pc' := 50) (lv' := [(4, .int 0), (0, .ref a0), (1, .int x1), (2, .int x2), (3, .int x3)]) (st' := [.int (-1)]) rfl ?_
        exact PC.retI rfl h
      · have h := h.2 (cmp_eq.2.mp c)
        refine PC.pr (k := 1) (pc' := 35) (lv' := [(4, .int 0), (0, .ref a0), (1, .int x1), (2, .int x2), (3, .int x3)]) (st' := [.int x2]) rfl ?_
        refine PC.if1 (t := 49) rfl rfl (fun c => ?_) (fun c => ?_)
        · have h := h.1 (cmp_lt.1.mp c)
          refine PC.pr (k := 1) (pc' := 50) (lv' := [(4, .int 0), (0, .ref a0), (1, .int x1), (2, .int x2), (3, .int x3)]) (st' := [.int (-1)]) rfl ?_
          exact PC.retI rfl h
        · have h := h.2 (cmp_lt.2.mp c)
          refine PC.pr (k := 1) (pc' := 39) (lv' := [(4, .int 0), (0, .ref a0), (1, .int x1), (2, .int x2), (3, .int x3)]) (st' := [.int x2]) rfl ?_
          refine PC.pr (k := 1) (pc' := 41) (lv' := [(4, .int 0), (0, .ref a0), (1, .int x1), (2, .int x2), (3, .int x3)]) (st' := [.int 6, .int x2]) rfl ?_
          refine PC.if2 (t := 49) rfl rfl (fun c => ?_) (fun c => ?_)
          · have h := h.1 (cmp_ge.1.mp c)
            refine PC.pr (k := 1) (pc' := 50) (lv' := [(4, .int 0), (0, .ref a0), (1, .int x1), (2, .int x2), (3, .int x3)]) (st' := [.int (-1)]) rfl ?_
            exact PC.retI rfl h
          · have h := h.2 (cmp_ge.2.mp c)
            refine PC.pr (k := 1) (pc' := 46) (lv' := [(4, .int 0), (0, .ref a0), (1, .int x1), (2, .int x2), (3, .int x3)]) (st' := [.int 0]) rfl ?_
            refine PC.if1 (t := 51) rfl rfl (fun c => ?_) (fun c => ?_)
            · have h := h.1 (cmp_ne.1.mp c)
              refine PC.pr (k := 1) (pc' := 52) (lv' := [(4, .int 0), (0, .ref a0), (1, .int x1), (2, .int x2), (3, .int x3)]) (st' := [.ref a0]) rfl ?_
              refine PC.gR (ci := 0) (j := 2) rfl rfl (by decide) ?_
              refine PC.pr (k := 1) (pc' := 56) (lv' := [(4, .int 0), (0, .ref a0), (1, .int x1), (2, .int x2), (3, .int x3)]) (st' := [.int x1, .ref (rf a0 2)]) rfl ?_
              refine PC.pr (k := 1) (pc' := 57) (lv' := [(4, .int 0), (0, .ref a0), (1, .int x1), (2, .int x2), (3, .int x3)]) (st' := [.int x2, .int x1, .ref (rf a0 2)]) rfl ?_
              refine PC.pr (k := 1) (pc' := 58) (lv' := [(4, .int 0), (0, .ref a0), (1, .int x1), (2, .int x2), (3, .int x3)]) (st' := [.int x3, .int x2, .int x1, .ref (rf a0 2)]) rfl ?_
              refine (PC.callI (j := 112) (args := [.ref (rf a0 2), .int x1, .int x2, .int x3]) (rest := []) (M := cM112) (ty := .boolean) rfl rfl rfl rfl rfl rfl (by decide) rfl rfl (by decide) ?_).weak
              refine PC.imp h (fun v3 κ3 h r3 hv => ?_)
              have h := h r3 hv
              refine PC.if1 (t := 74) rfl rfl (fun c => ?_) (fun c => ?_)
              · have h := h.1 (cmp_eq.1.mp c)
                refine PC.pr (k := 1) (pc' := 76) (lv' := [(4, .int 0), (0, .ref a0), (1, .int x1), (2, .int x2), (3, .int x3)]) (st' := [.int (-3)]) rfl ?_
                exact PC.retI rfl h
              · have h := h.2 (cmp_eq.2.mp c)
                refine PC.pr (k := 1) (pc' := 65) (lv' := [(4, .int 0), (0, .ref a0), (1, .int x1), (2, .int x2), (3, .int x3)]) (st' := [.ref a0]) rfl ?_
                refine PC.gR (ci := 0) (j := 2) rfl rfl (by decide) ?_
                refine PC.gI (ci := 2) (j := 6) rfl rfl (by decide) ?_
                refine PC.pr (k := 1) (pc' := 76) (lv' := [(4, .int 0), (0, .ref a0), (1, .int x1), (2, .int x2), (3, .int x3)]) (st' := [.int (κ3 (rf a0 2) 6)]) rfl ?_
                exact PC.retI rfl h
            · have h := h.2 (cmp_ne.2.mp c)
              refine PC.pr (k := 1) (pc' := 50) (lv' := [(4, .int 0), (0, .ref a0), (1, .int x1), (2, .int x2), (3, .int x3)]) (st' := [.int (-1)]) rfl ?_
              exact PC.retI rfl h
    · have h := h.2 (cmp_ne.2.mp c)
      exact h
theorem t_111_13 {xl : List Int32} {n : Nat} {ι : IS} {Q : Option Value → IS → Prop} {a0 : Nat} {x1 : Int32} {x2 : Int32} {x3 : Int32} (h : PC xl n 50 0 [(0, .ref (rf (rf a0 2) 0)), (1, .int x1)] [] ι (fun v1 κ1 => ∀ r1, v1 = some (.int r1) → ((r1 = 0 → Q (some (.int (-1))) κ1) ∧ (¬ r1 = 0 → ((x2 < 0 → Q (some (.int (-1))) κ1) ∧ (¬ x2 < 0 → ((¬ x2 < 6 → Q (some (.int (-1))) κ1) ∧ (x2 < 6 → ((¬ (1 : Int32) = 0 → PC xl n 112 0 [(0, .ref (rf a0 2)), (1, .int x1), (2, .int x2), (3, .int x3)] [] κ1 (fun v2 κ2 => ∀ r2, v2 = some (.int r2) → ((r2 = 0 → Q (some (.int (-3))) κ2) ∧ (¬ r2 = 0 → Q (some (.int (κ2 (rf a0 2) 6))) κ2)))) ∧ ((1 : Int32) = 0 → Q (some (.int (-1))) κ1)))))))))) : PC xl (n + 1) 111 13 [(0, .ref a0), (1, .int x1), (2, .int x2), (3, .int x3)] [] ι Q := by
  refine PC.pr1 (k := 0) (pc' := 14) (lv' := [(0, .ref a0), (1, .int x1), (2, .int x2), (3, .int x3)]) (st' := [.int 1]) rfl ?_
  refine PC.pr (k := 1) (pc' := 18) (lv' := [(0, .ref a0), (1, .int x1), (2, .int x2), (3, .int x3)]) (st' := [.int 1]) rfl ?_
  refine PC.pr (k := 1) (pc' := 20) (lv' := [(4, .int 1), (0, .ref a0), (1, .int x1), (2, .int x2), (3, .int x3)]) (st' := []) rfl ?_
  refine PC.pr (k := 1) (pc' := 21) (lv' := [(4, .int 1), (0, .ref a0), (1, .int x1), (2, .int x2), (3, .int x3)]) (st' := [.ref a0]) rfl ?_
  refine PC.gR (ci := 0) (j := 2) rfl rfl (by decide) ?_
  refine PC.gR (ci := 2) (j := 0) rfl rfl (by decide) ?_
  refine PC.pr (k := 1) (pc' := 28) (lv' := [(4, .int 1), (0, .ref a0), (1, .int x1), (2, .int x2), (3, .int x3)]) (st' := [.int x1, .ref (rf (rf a0 2) 0)]) rfl ?_
  refine (PC.callI (j := 50) (args := [.ref (rf (rf a0 2) 0), .int x1]) (rest := []) (M := cM50) (ty := .boolean) rfl rfl rfl rfl rfl rfl (by decide) rfl rfl (by decide) ?_).weak
  refine PC.imp h (fun v1 κ1 h r1 hv => ?_)
  have h := h r1 hv
  refine PC.if1 (t := 49) rfl rfl (fun c => ?_) (fun c => ?_)
  · have h := h.1 (cmp_eq.1.mp c)
    refine PC.pr (k := 1) (pc' := 50) (lv' := [(4, .int 1), (0, .ref a0), (1, .int x1), (2, .int x2), (3, .int x3)]) (st' := [.int (-1)]) rfl ?_
    exact PC.retI rfl h
  · have h := h.2 (cmp_eq.2.mp c)
    refine PC.pr (k := 1) (pc' := 35) (lv' := [(4, .int 1), (0, .ref a0), (1, .int x1), (2, .int x2), (3, .int x3)]) (st' := [.int x2]) rfl ?_
    refine PC.if1 (t := 49) rfl rfl (fun c => ?_) (fun c => ?_)
    · have h := h.1 (cmp_lt.1.mp c)
      refine PC.pr (k := 1) (pc' := 50) (lv' := [(4, .int 1), (0, .ref a0), (1, .int x1), (2, .int x2), (3, .int x3)]) (st' := [.int (-1)]) rfl ?_
      exact PC.retI rfl h
    · have h := h.2 (cmp_lt.2.mp c)
      refine PC.pr (k := 1) (pc' := 39) (lv' := [(4, .int 1), (0, .ref a0), (1, .int x1), (2, .int x2), (3, .int x3)]) (st' := [.int x2]) rfl ?_
      refine PC.pr (k := 1) (pc' := 41) (lv' := [(4, .int 1), (0, .ref a0), (1, .int x1), (2, .int x2), (3, .int x3)]) (st' := [.int 6, .int x2]) rfl ?_
      refine PC.if2 (t := 49) rfl rfl (fun c => ?_) (fun c => ?_)
      · have h := h.1 (cmp_ge.1.mp c)
        refine PC.pr (k := 1) (pc' := 50) (lv' := [(4, .int 1), (0, .ref a0), (1, .int x1), (2, .int x2), (3, .int x3)]) (st' := [.int (-1)]) rfl ?_
        exact PC.retI rfl h
      · have h := h.2 (cmp_ge.2.mp c)
        refine PC.pr (k := 1) (pc' := 46) (lv' := [(4, .int 1), (0, .ref a0), (1, .int x1), (2, .int x2), (3, .int x3)]) (st' := [.int 1]) rfl ?_
        refine PC.if1 (t := 51) rfl rfl (fun c => ?_) (fun c => ?_)
        · have h := h.1 (cmp_ne.1.mp c)
          refine PC.pr (k := 1) (pc' := 52) (lv' := [(4, .int 1), (0, .ref a0), (1, .int x1), (2, .int x2), (3, .int x3)]) (st' := [.ref a0]) rfl ?_
          refine PC.gR (ci := 0) (j := 2) rfl rfl (by decide) ?_
          refine PC.pr (k := 1) (pc' := 56) (lv' := [(4, .int 1), (0, .ref a0), (1, .int x1), (2, .int x2), (3, .int x3)]) (st' := [.int x1, .ref (rf a0 2)]) rfl ?_
          refine PC.pr (k := 1) (pc' := 57) (lv' := [(4, .int 1), (0, .ref a0), (1, .int x1), (2, .int x2), (3, .int x3)]) (st' := [.int x2, .int x1, .ref (rf a0 2)]) rfl ?_
          refine PC.pr (k := 1) (pc' := 58) (lv' := [(4, .int 1), (0, .ref a0), (1, .int x1), (2, .int x2), (3, .int x3)]) (st' := [.int x3, .int x2, .int x1, .ref (rf a0 2)]) rfl ?_
          refine (PC.callI (j := 112) (args := [.ref (rf a0 2), .int x1, .int x2, .int x3]) (rest := []) (M := cM112) (ty := .boolean) rfl rfl rfl rfl rfl rfl (by decide) rfl rfl (by decide) ?_).weak
          refine PC.imp h (fun v2 κ2 h r2 hv => ?_)
          have h := h r2 hv
          refine PC.if1 (t := 74) rfl rfl (fun c => ?_) (fun c => ?_)
          · have h := h.1 (cmp_eq.1.mp c)
            refine PC.pr (k := 1) (pc' := 76) (lv' := [(4, .int 1), (0, .ref a0), (1, .int x1), (2, .int x2), (3, .int x3)]) (st' := [.int (-3)]) rfl ?_
            exact PC.retI rfl h
          · have h := h.2 (cmp_eq.2.mp c)
            refine PC.pr (k := 1) (pc' := 65) (lv' := [(4, .int 1), (0, .ref a0), (1, .int x1), (2, .int x2), (3, .int x3)]) (st' := [.ref a0]) rfl ?_
            refine PC.gR (ci := 0) (j := 2) rfl rfl (by decide) ?_
            refine PC.gI (ci := 2) (j := 6) rfl rfl (by decide) ?_
            refine PC.pr (k := 1) (pc' := 76) (lv' := [(4, .int 1), (0, .ref a0), (1, .int x1), (2, .int x2), (3, .int x3)]) (st' := [.int (κ2 (rf a0 2) 6)]) rfl ?_
            exact PC.retI rfl h
        · have h := h.2 (cmp_ne.2.mp c)
          refine PC.pr (k := 1) (pc' := 50) (lv' := [(4, .int 1), (0, .ref a0), (1, .int x1), (2, .int x2), (3, .int x3)]) (st' := [.int (-1)]) rfl ?_
          exact PC.retI rfl h

/-- DoorPaints$Told.addSeen(III)Z -/
theorem t_112_0 {xl : List Int32} {n : Nat} {ι : IS} {Q : Option Value → IS → Prop} {a0 : Nat} {x1 : Int32} {x2 : Int32} {x3 : Int32} (h : (((ι a0 6) < 6 → (0 ≤ (ι a0 6).toInt → (ι a0 6).toInt < ln (rf a0 3) → (0 ≤ ((up ι (rf a0 3) (ι a0 6).toNatClampNeg x1) a0 6).toInt → ((up ι (rf a0 3) (ι a0 6).toNatClampNeg x1) a0 6).toInt < ln (rf a0 4) → (0 ≤ ((up (up ι (rf a0 3) (ι a0 6).toNatClampNeg x1) (rf a0 4) ((up ι (rf a0 3) (ι a0 6).toNatClampNeg x1) a0 6).toNatClampNeg x2) a0 6).toInt → ((up (up ι (rf a0 3) (ι a0 6).toNatClampNeg x1) (rf a0 4) ((up ι (rf a0 3) (ι a0 6).toNatClampNeg x1) a0 6).toNatClampNeg x2) a0 6).toInt < ln (rf a0 5) → PC xl n 112 41 [(0, .ref a0), (1, .int x1), (2, .int x2), (3, .int x3)] [] (up (up (up ι (rf a0 3) (ι a0 6).toNatClampNeg x1) (rf a0 4) ((up ι (rf a0 3) (ι a0 6).toNatClampNeg x1) a0 6).toNatClampNeg x2) (rf a0 5) ((up (up ι (rf a0 3) (ι a0 6).toNatClampNeg x1) (rf a0 4) ((up ι (rf a0 3) (ι a0 6).toNatClampNeg x1) a0 6).toNatClampNeg x2) a0 6).toNatClampNeg x3) Q)))) ∧ (¬ (ι a0 6) < 6 → Q (some (.int 0)) ι))) : PC xl (n + 1) 112 0 [(0, .ref a0), (1, .int x1), (2, .int x2), (3, .int x3)] [] ι Q := by
  refine PC.pr1 (k := 0) (pc' := 1) (lv' := [(0, .ref a0), (1, .int x1), (2, .int x2), (3, .int x3)]) (st' := [.ref a0]) rfl ?_
  refine PC.gI (ci := 2) (j := 6) rfl rfl (by decide) ?_
  refine PC.pr (k := 1) (pc' := 6) (lv' := [(0, .ref a0), (1, .int x1), (2, .int x2), (3, .int x3)]) (st' := [.int 6, .int (ι a0 6)]) rfl ?_
  refine PC.if2 (t := 11) rfl rfl (fun c => ?_) (fun c => ?_)
  · have h := h.1 (cmp_lt.1.mp c)
    refine PC.pr (k := 1) (pc' := 12) (lv' := [(0, .ref a0), (1, .int x1), (2, .int x2), (3, .int x3)]) (st' := [.ref a0]) rfl ?_
    refine PC.gR (ci := 2) (j := 3) rfl rfl (by decide) ?_
    refine PC.pr (k := 1) (pc' := 16) (lv' := [(0, .ref a0), (1, .int x1), (2, .int x2), (3, .int x3)]) (st' := [.ref a0, .ref (rf a0 3)]) rfl ?_
    refine PC.gI (ci := 2) (j := 6) rfl rfl (by decide) ?_
    refine PC.pr (k := 1) (pc' := 20) (lv' := [(0, .ref a0), (1, .int x1), (2, .int x2), (3, .int x3)]) (st' := [.int x1, .int (ι a0 6), .ref (rf a0 3)]) rfl ?_
    refine PC.wI rfl (fun c1 c2 => ?_)
    have h := h c1 c2
    refine PC.pr (k := 1) (pc' := 22) (lv' := [(0, .ref a0), (1, .int x1), (2, .int x2), (3, .int x3)]) (st' := [.ref a0]) rfl ?_
    refine PC.gR (ci := 2) (j := 4) rfl rfl (by decide) ?_
    refine PC.pr (k := 1) (pc' := 26) (lv' := [(0, .ref a0), (1, .int x1), (2, .int x2), (3, .int x3)]) (st' := [.ref a0, .ref (rf a0 4)]) rfl ?_
    refine PC.gI (ci := 2) (j := 6) rfl rfl (by decide) ?_
    refine PC.pr (k := 1) (pc' := 30) (lv' := [(0, .ref a0), (1, .int x1), (2, .int x2), (3, .int x3)]) (st' := [.int x2, .int ((up ι (rf a0 3) (ι a0 6).toNatClampNeg x1) a0 6), .ref (rf a0 4)]) rfl ?_
    refine PC.wI rfl (fun c1 c2 => ?_)
    have h := h c1 c2
    refine PC.pr (k := 1) (pc' := 32) (lv' := [(0, .ref a0), (1, .int x1), (2, .int x2), (3, .int x3)]) (st' := [.ref a0]) rfl ?_
    refine PC.gR (ci := 2) (j := 5) rfl rfl (by decide) ?_
    refine PC.pr (k := 1) (pc' := 36) (lv' := [(0, .ref a0), (1, .int x1), (2, .int x2), (3, .int x3)]) (st' := [.ref a0, .ref (rf a0 5)]) rfl ?_
    refine PC.gI (ci := 2) (j := 6) rfl rfl (by decide) ?_
    refine PC.pr (k := 1) (pc' := 40) (lv' := [(0, .ref a0), (1, .int x1), (2, .int x2), (3, .int x3)]) (st' := [.int x3, .int ((up (up ι (rf a0 3) (ι a0 6).toNatClampNeg x1) (rf a0 4) ((up ι (rf a0 3) (ι a0 6).toNatClampNeg x1) a0 6).toNatClampNeg x2) a0 6), .ref (rf a0 5)]) rfl ?_
    refine PC.wI rfl (fun c1 c2 => ?_)
    have h := h c1 c2
    exact h
  · have h := h.2 (cmp_lt.2.mp c)
    refine PC.pr (k := 1) (pc' := 10) (lv' := [(0, .ref a0), (1, .int x1), (2, .int x2), (3, .int x3)]) (st' := [.int 0]) rfl ?_
    exact PC.retI rfl h
theorem t_112_41 {xl : List Int32} {n : Nat} {ι : IS} {Q : Option Value → IS → Prop} {a0 : Nat} {w1 : Value} {w2 : Value} {w3 : Value} (h : Q (some (.int 1)) (up ι a0 6 ((ι a0 6) + 1))) : PC xl (n + 1) 112 41 [(0, .ref a0), (1, w1), (2, w2), (3, w3)] [] ι Q := by
  refine PC.pr1 (k := 0) (pc' := 42) (lv' := [(0, .ref a0), (1, w1), (2, w2), (3, w3)]) (st' := [.ref a0]) rfl ?_
  refine PC.pr (k := 1) (pc' := 43) (lv' := [(0, .ref a0), (1, w1), (2, w2), (3, w3)]) (st' := [.ref a0, .ref a0]) rfl ?_
  refine PC.gI (ci := 2) (j := 6) rfl rfl (by decide) ?_
  refine PC.pr (k := 1) (pc' := 47) (lv' := [(0, .ref a0), (1, w1), (2, w2), (3, w3)]) (st' := [.int 1, .int (ι a0 6), .ref a0]) rfl ?_
  refine PC.pr (k := 1) (pc' := 48) (lv' := [(0, .ref a0), (1, w1), (2, w2), (3, w3)]) (st' := [.int ((ι a0 6) + 1), .ref a0]) rfl ?_
  refine PC.pI (ci := 2) (j := 6) rfl rfl ?_
  refine PC.pr (k := 1) (pc' := 52) (lv' := [(0, .ref a0), (1, w1), (2, w2), (3, w3)]) (st' := [.int 1]) rfl ?_
  exact PC.retI rfl h

/-- DoorPaints.forget(I)I -/
theorem t_113_0 {xl : List Int32} {n : Nat} {ι : IS} {Q : Option Value → IS → Prop} {a0 : Nat} {x1 : Int32} (h : ((x1 < 0 → Q (some (.int (-1))) ι) ∧ (¬ x1 < 0 → ((¬ (ι (rf a0 2) 6) < x1 → Q (some (.int (ι (rf a0 2) 6))) (up ι (rf a0 2) 6 x1)) ∧ ((ι (rf a0 2) 6) < x1 → Q (some (.int (-1))) ι))))) : PC xl (n + 1) 113 0 [(0, .ref a0), (1, .int x1)] [] ι Q := by
  refine PC.pr1 (k := 0) (pc' := 1) (lv' := [(0, .ref a0), (1, .int x1)]) (st' := [.int x1]) rfl ?_
  refine PC.if1 (t := 15) rfl rfl (fun c => ?_) (fun c => ?_)
  · have h := h.1 (cmp_lt.1.mp c)
    refine PC.pr (k := 1) (pc' := 16) (lv' := [(0, .ref a0), (1, .int x1)]) (st' := [.int (-1)]) rfl ?_
    exact PC.retI rfl h
  · have h := h.2 (cmp_lt.2.mp c)
    refine PC.pr (k := 1) (pc' := 5) (lv' := [(0, .ref a0), (1, .int x1)]) (st' := [.int x1]) rfl ?_
    refine PC.pr (k := 1) (pc' := 6) (lv' := [(0, .ref a0), (1, .int x1)]) (st' := [.ref a0, .int x1]) rfl ?_
    refine PC.gR (ci := 0) (j := 2) rfl rfl (by decide) ?_
    refine PC.gI (ci := 2) (j := 6) rfl rfl (by decide) ?_
    refine PC.if2 (t := 17) rfl rfl (fun c => ?_) (fun c => ?_)
    · have h := h.1 (cmp_le.1.mp c)
      refine PC.pr (k := 1) (pc' := 18) (lv' := [(0, .ref a0), (1, .int x1)]) (st' := [.ref a0]) rfl ?_
      refine PC.gR (ci := 0) (j := 2) rfl rfl (by decide) ?_
      refine PC.gI (ci := 2) (j := 6) rfl rfl (by decide) ?_
      refine PC.pr (k := 1) (pc' := 25) (lv' := [(2, .int (ι (rf a0 2) 6)), (0, .ref a0), (1, .int x1)]) (st' := []) rfl ?_
      refine PC.pr (k := 1) (pc' := 26) (lv' := [(2, .int (ι (rf a0 2) 6)), (0, .ref a0), (1, .int x1)]) (st' := [.ref a0]) rfl ?_
      refine PC.gR (ci := 0) (j := 2) rfl rfl (by decide) ?_
      refine PC.pr (k := 1) (pc' := 30) (lv' := [(2, .int (ι (rf a0 2) 6)), (0, .ref a0), (1, .int x1)]) (st' := [.int x1, .ref (rf a0 2)]) rfl ?_
      refine PC.pI (ci := 2) (j := 6) rfl rfl ?_
      refine PC.pr (k := 1) (pc' := 34) (lv' := [(2, .int (ι (rf a0 2) 6)), (0, .ref a0), (1, .int x1)]) (st' := [.int (ι (rf a0 2) 6)]) rfl ?_
      exact PC.retI rfl h
    · have h := h.2 (cmp_le.2.mp c)
      refine PC.pr (k := 1) (pc' := 16) (lv' := [(0, .ref a0), (1, .int x1)]) (st' := [.int (-1)]) rfl ?_
      exact PC.retI rfl h

/-- DoorPaints.back(I)I -/
theorem t_131_0 {xl : List Int32} {n : Nat} {ι : IS} {Q : Option Value → IS → Prop} {a0 : Nat} {x1 : Int32} (h : ((x1 < 0 → Q (some (.int (-1))) ι) ∧ (¬ x1 < 0 → ((x1 < 2 → (0 ≤ x1.toInt → x1.toInt < ln (rf a0 4) → ((¬ (ι (rf a0 4) x1.toNatClampNeg) = 0 → (0 ≤ x1.toInt → x1.toInt < lr (rf a0 3) → PC xl n 51 0 [(0, .ref (rf a0 2)), (1, .ref (re (rf a0 3) x1.toNatClampNeg))] [] ι (fun _ κ1 => PC xl n 80 0 [(0, .ref (rf (rf a0 2) 0))] [] κ1 (fun v2 κ2 => ∀ r2, v2 = some (.int r2) → Q (some (.int r2)) κ2)))) ∧ ((ι (rf a0 4) x1.toNatClampNeg) = 0 → Q (some (.int (-2))) ι)))) ∧ (¬ x1 < 2 → Q (some (.int (-1))) ι))))) : PC xl (n + 1) 131 0 [(0, .ref a0), (1, .int x1)] [] ι Q := by
  refine PC.pr1 (k := 0) (pc' := 1) (lv' := [(0, .ref a0), (1, .int x1)]) (st' := [.int x1]) rfl ?_
  refine PC.if1 (t := 9) rfl rfl (fun c => ?_) (fun c => ?_)
  · have h := h.1 (cmp_lt.1.mp c)
    refine PC.pr (k := 1) (pc' := 10) (lv' := [(0, .ref a0), (1, .int x1)]) (st' := [.int (-1)]) rfl ?_
    exact PC.retI rfl h
  · have h := h.2 (cmp_lt.2.mp c)
    refine PC.pr (k := 1) (pc' := 5) (lv' := [(0, .ref a0), (1, .int x1)]) (st' := [.int x1]) rfl ?_
    refine PC.pr (k := 1) (pc' := 6) (lv' := [(0, .ref a0), (1, .int x1)]) (st' := [.int 2, .int x1]) rfl ?_
    refine PC.if2 (t := 11) rfl rfl (fun c => ?_) (fun c => ?_)
    · have h := h.1 (cmp_lt.1.mp c)
      refine PC.pr (k := 1) (pc' := 12) (lv' := [(0, .ref a0), (1, .int x1)]) (st' := [.ref a0]) rfl ?_
      refine PC.gR (ci := 0) (j := 4) rfl rfl (by decide) ?_
      refine PC.pr (k := 1) (pc' := 16) (lv' := [(0, .ref a0), (1, .int x1)]) (st' := [.int x1, .ref (rf a0 4)]) rfl ?_
      refine PC.ba rfl (rf_lt _ _) (fun c1 c2 => ?_)
      have h := h c1 c2
      refine PC.if1 (t := 23) rfl rfl (fun c => ?_) (fun c => ?_)
      · have h := h.1 (cmp_ne.1.mp c)
        refine PC.pr (k := 1) (pc' := 24) (lv' := [(0, .ref a0), (1, .int x1)]) (st' := [.ref a0]) rfl ?_
        refine PC.gR (ci := 0) (j := 2) rfl rfl (by decide) ?_
        refine PC.pr (k := 1) (pc' := 28) (lv' := [(0, .ref a0), (1, .int x1)]) (st' := [.ref a0, .ref (rf a0 2)]) rfl ?_
        refine PC.gR (ci := 0) (j := 3) rfl rfl (by decide) ?_
        refine PC.pr (k := 1) (pc' := 32) (lv' := [(0, .ref a0), (1, .int x1)]) (st' := [.int x1, .ref (rf a0 3), .ref (rf a0 2)]) rfl ?_
        refine PC.ra rfl (fun c1 c2 => ?_)
        have h := h c1 c2
        refine (PC.callV (j := 51) (args := [.ref (rf a0 2), .ref (re (rf a0 3) x1.toNatClampNeg)]) (rest := []) (M := cM51) rfl rfl rfl rfl rfl rfl (by decide) rfl rfl ?_).weak
        refine PC.imp h (fun _ κ1 h => ?_)
        refine PC.pr (k := 1) (pc' := 37) (lv' := [(0, .ref a0), (1, .int x1)]) (st' := [.ref a0]) rfl ?_
        refine PC.gR (ci := 0) (j := 2) rfl rfl (by decide) ?_
        refine PC.gR (ci := 2) (j := 0) rfl rfl (by decide) ?_
        refine (PC.callI (j := 80) (args := [.ref (rf (rf a0 2) 0)]) (rest := []) (M := cM80) (ty := .int) rfl rfl rfl rfl rfl rfl (by decide) rfl rfl (by decide) ?_).weak
        refine PC.imp h (fun v2 κ2 h r2 hv => ?_)
        have h := h r2 hv
        exact PC.retI rfl h
      · have h := h.2 (cmp_ne.2.mp c)
        refine PC.pr (k := 1) (pc' := 22) (lv' := [(0, .ref a0), (1, .int x1)]) (st' := [.int (-2)]) rfl ?_
        exact PC.retI rfl h
    · have h := h.2 (cmp_lt.2.mp c)
      refine PC.pr (k := 1) (pc' := 10) (lv' := [(0, .ref a0), (1, .int x1)]) (st' := [.int (-1)]) rfl ?_
      exact PC.retI rfl h

/-- DoorPaints.sheet(III)I -/
theorem t_132_0 {xl : List Int32} {n : Nat} {ι : IS} {Q : Option Value → IS → Prop} {a0 : Nat} {x1 : Int32} {x2 : Int32} {x3 : Int32} (h : PC xl n 133 0 [(0, .int x1)] [] ι (fun v1 κ1 => ∀ r1, v1 = some (.int r1) → ((r1 = 0 → Q (some (.int (-1))) κ1) ∧ (¬ r1 = 0 → PC xl n 134 0 [(0, .int x2)] [] κ1 (fun v2 κ2 => ∀ r2, v2 = some (.int r2) → ((r2 = 0 → Q (some (.int (-1))) κ2) ∧ (¬ r2 = 0 → ((¬ 40 < x3 → ((¬ x3 < 0 → (0 ≤ x1.toInt → x1.toInt < lr (rf a0 8) → PC xl n 135 0 [(0, .ref (re (rf a0 8) x1.toNatClampNeg)), (1, .int x2), (2, .int x3)] [] κ2 (fun _ κ3 => Q (some (.int 1)) κ3))) ∧ (x3 < 0 → Q (some (.int (-14))) κ2))) ∧ (40 < x3 → Q (some (.int (-1))) κ2))))))))) : PC xl (n + 1) 132 0 [(0, .ref a0), (1, .int x1), (2, .int x2), (3, .int x3)] [] ι Q := by
  refine PC.pr1 (k := 0) (pc' := 1) (lv' := [(0, .ref a0), (1, .int x1), (2, .int x2), (3, .int x3)]) (st' := [.int x1]) rfl ?_
  refine (PC.callI (j := 133) (args := [.int x1]) (rest := []) (M := cM133) (ty := .boolean) rfl rfl rfl rfl rfl rfl (by decide) rfl rfl (by decide) ?_).weak
  refine PC.imp h (fun v1 κ1 h r1 hv => ?_)
  have h := h r1 hv
  refine PC.if1 (t := 20) rfl rfl (fun c => ?_) (fun c => ?_)
  · have h := h.1 (cmp_eq.1.mp c)
    refine PC.pr (k := 1) (pc' := 21) (lv' := [(0, .ref a0), (1, .int x1), (2, .int x2), (3, .int x3)]) (st' := [.int (-1)]) rfl ?_
    exact PC.retI rfl h
  · have h := h.2 (cmp_eq.2.mp c)
    refine PC.pr (k := 1) (pc' := 8) (lv' := [(0, .ref a0), (1, .int x1), (2, .int x2), (3, .int x3)]) (st' := [.int x2]) rfl ?_
    refine (PC.callI (j := 134) (args := [.int x2]) (rest := []) (M := cM134) (ty := .boolean) rfl rfl rfl rfl rfl rfl (by decide) rfl rfl (by decide) ?_).weak
    refine PC.imp h (fun v2 κ2 h r2 hv => ?_)
    have h := h r2 hv
    refine PC.if1 (t := 20) rfl rfl (fun c => ?_) (fun c => ?_)
    · have h := h.1 (cmp_eq.1.mp c)
      refine PC.pr (k := 1) (pc' := 21) (lv' := [(0, .ref a0), (1, .int x1), (2, .int x2), (3, .int x3)]) (st' := [.int (-1)]) rfl ?_
      exact PC.retI rfl h
    · have h := h.2 (cmp_eq.2.mp c)
      refine PC.pr (k := 1) (pc' := 15) (lv' := [(0, .ref a0), (1, .int x1), (2, .int x2), (3, .int x3)]) (st' := [.int x3]) rfl ?_
      refine PC.pr (k := 1) (pc' := 17) (lv' := [(0, .ref a0), (1, .int x1), (2, .int x2), (3, .int x3)]) (st' := [.int 40, .int x3]) rfl ?_
      refine PC.if2 (t := 22) rfl rfl (fun c => ?_) (fun c => ?_)
      · have h := h.1 (cmp_le.1.mp c)
        refine PC.pr (k := 1) (pc' := 23) (lv' := [(0, .ref a0), (1, .int x1), (2, .int x2), (3, .int x3)]) (st' := [.int x3]) rfl ?_
        refine PC.if1 (t := 29) rfl rfl (fun c => ?_) (fun c => ?_)
        · have h := h.1 (cmp_ge.1.mp c)
          refine PC.pr (k := 1) (pc' := 30) (lv' := [(0, .ref a0), (1, .int x1), (2, .int x2), (3, .int x3)]) (st' := [.ref a0]) rfl ?_
          refine PC.gR (ci := 0) (j := 8) rfl rfl (by decide) ?_
          refine PC.pr (k := 1) (pc' := 34) (lv' := [(0, .ref a0), (1, .int x1), (2, .int x2), (3, .int x3)]) (st' := [.int x1, .ref (rf a0 8)]) rfl ?_
          refine PC.ra rfl (fun c1 c2 => ?_)
          have h := h c1 c2
          refine PC.pr (k := 1) (pc' := 36) (lv' := [(0, .ref a0), (1, .int x1), (2, .int x2), (3, .int x3)]) (st' := [.int x2, .ref (re (rf a0 8) x1.toNatClampNeg)]) rfl ?_
          refine PC.pr (k := 1) (pc' := 37) (lv' := [(0, .ref a0), (1, .int x1), (2, .int x2), (3, .int x3)]) (st' := [.int x3, .int x2, .ref (re (rf a0 8) x1.toNatClampNeg)]) rfl ?_
          refine (PC.callV (j := 135) (args := [.ref (re (rf a0 8) x1.toNatClampNeg), .int x2, .int x3]) (rest := []) (M := cM135) rfl rfl rfl rfl rfl rfl (by decide) rfl rfl ?_).weak
          refine PC.imp h (fun _ κ3 h => ?_)
          refine PC.pr (k := 1) (pc' := 41) (lv' := [(0, .ref a0), (1, .int x1), (2, .int x2), (3, .int x3)]) (st' := [.int 1]) rfl ?_
          exact PC.retI rfl h
        · have h := h.2 (cmp_ge.2.mp c)
          refine PC.pr (k := 1) (pc' := 28) (lv' := [(0, .ref a0), (1, .int x1), (2, .int x2), (3, .int x3)]) (st' := [.int (-14)]) rfl ?_
          exact PC.retI rfl h
      · have h := h.2 (cmp_le.2.mp c)
        refine PC.pr (k := 1) (pc' := 21) (lv' := [(0, .ref a0), (1, .int x1), (2, .int x2), (3, .int x3)]) (st' := [.int (-1)]) rfl ?_
        exact PC.retI rfl h

/-- DoorPaints.isSheet(I)Z -/
theorem t_133_0 {xl : List Int32} {n : Nat} {ι : IS} {Q : Option Value → IS → Prop} {x0 : Int32} (h : ((x0 < 0 → Q (some (.int 0)) ι) ∧ (¬ x0 < 0 → ((¬ x0 < 4 → Q (some (.int 0)) ι) ∧ (x0 < 4 → Q (some (.int 1)) ι))))) : PC xl (n + 1) 133 0 [(0, .int x0)] [] ι Q := by
  refine PC.pr1 (k := 0) (pc' := 1) (lv' := [(0, .int x0)]) (st' := [.int x0]) rfl ?_
  refine PC.if1 (t := 13) rfl rfl (fun c => ?_) (fun c => ?_)
  · have h := h.1 (cmp_lt.1.mp c)
    refine PC.pr (k := 1) (pc' := 14) (lv' := [(0, .int x0)]) (st' := [.int 0]) rfl ?_
    exact PC.retI rfl h
  · have h := h.2 (cmp_lt.2.mp c)
    refine PC.pr (k := 1) (pc' := 5) (lv' := [(0, .int x0)]) (st' := [.int x0]) rfl ?_
    refine PC.pr (k := 1) (pc' := 6) (lv' := [(0, .int x0)]) (st' := [.int 4, .int x0]) rfl ?_
    refine PC.if2 (t := 13) rfl rfl (fun c => ?_) (fun c => ?_)
    · have h := h.1 (cmp_ge.1.mp c)
      refine PC.pr (k := 1) (pc' := 14) (lv' := [(0, .int x0)]) (st' := [.int 0]) rfl ?_
      exact PC.retI rfl h
    · have h := h.2 (cmp_ge.2.mp c)
      refine PC.pr (k := 1) (pc' := 10) (lv' := [(0, .int x0)]) (st' := [.int 1]) rfl ?_
      refine PC.pr (k := 1) (pc' := 14) (lv' := [(0, .int x0)]) (st' := [.int 1]) rfl ?_
      exact PC.retI rfl h

/-- DoorPaints.isLane(I)Z -/
theorem t_134_0 {xl : List Int32} {n : Nat} {ι : IS} {Q : Option Value → IS → Prop} {x0 : Int32} (h : ((x0 < 0 → Q (some (.int 0)) ι) ∧ (¬ x0 < 0 → ((¬ x0 < 3 → Q (some (.int 0)) ι) ∧ (x0 < 3 → Q (some (.int 1)) ι))))) : PC xl (n + 1) 134 0 [(0, .int x0)] [] ι Q := by
  refine PC.pr1 (k := 0) (pc' := 1) (lv' := [(0, .int x0)]) (st' := [.int x0]) rfl ?_
  refine PC.if1 (t := 13) rfl rfl (fun c => ?_) (fun c => ?_)
  · have h := h.1 (cmp_lt.1.mp c)
    refine PC.pr (k := 1) (pc' := 14) (lv' := [(0, .int x0)]) (st' := [.int 0]) rfl ?_
    exact PC.retI rfl h
  · have h := h.2 (cmp_lt.2.mp c)
    refine PC.pr (k := 1) (pc' := 5) (lv' := [(0, .int x0)]) (st' := [.int x0]) rfl ?_
    refine PC.pr (k := 1) (pc' := 6) (lv' := [(0, .int x0)]) (st' := [.int 3, .int x0]) rfl ?_
    refine PC.if2 (t := 13) rfl rfl (fun c => ?_) (fun c => ?_)
    · have h := h.1 (cmp_ge.1.mp c)
      refine PC.pr (k := 1) (pc' := 14) (lv' := [(0, .int x0)]) (st' := [.int 0]) rfl ?_
      exact PC.retI rfl h
    · have h := h.2 (cmp_ge.2.mp c)
      refine PC.pr (k := 1) (pc' := 10) (lv' := [(0, .int x0)]) (st' := [.int 1]) rfl ?_
      refine PC.pr (k := 1) (pc' := 14) (lv' := [(0, .int x0)]) (st' := [.int 1]) rfl ?_
      exact PC.retI rfl h

/-- DoorPaints$Sheet.renew(II)V -/
theorem t_135_0 {xl : List Int32} {n : Nat} {ι : IS} {Q : Option Value → IS → Prop} {a0 : Nat} {x1 : Int32} {x2 : Int32} (h : PC xl n 135 12 [(0, .ref a0), (1, .int x1), (2, .int x2), (3, .int 0)] [] (up (up ι a0 2 x1) a0 1 x2) Q) : PC xl (n + 1) 135 0 [(0, .ref a0), (1, .int x1), (2, .int x2)] [] ι Q := by
  refine PC.pr1 (k := 0) (pc' := 1) (lv' := [(0, .ref a0), (1, .int x1), (2, .int x2)]) (st' := [.ref a0]) rfl ?_
  refine PC.pr (k := 1) (pc' := 2) (lv' := [(0, .ref a0), (1, .int x1), (2, .int x2)]) (st' := [.int x1, .ref a0]) rfl ?_
  refine PC.pI (ci := 8) (j := 2) rfl rfl ?_
  refine PC.pr (k := 1) (pc' := 6) (lv' := [(0, .ref a0), (1, .int x1), (2, .int x2)]) (st' := [.ref a0]) rfl ?_
  refine PC.pr (k := 1) (pc' := 7) (lv' := [(0, .ref a0), (1, .int x1), (2, .int x2)]) (st' := [.int x2, .ref a0]) rfl ?_
  refine PC.pI (ci := 8) (j := 1) rfl rfl ?_
  refine PC.pr (k := 1) (pc' := 11) (lv' := [(0, .ref a0), (1, .int x1), (2, .int x2)]) (st' := [.int 0]) rfl ?_
  refine PC.pr (k := 1) (pc' := 12) (lv' := [(3, .int 0), (0, .ref a0), (1, .int x1), (2, .int x2)]) (st' := []) rfl ?_
  exact PC.lv (lvE.cons rfl (lvE.cons rfl (lvE.cons rfl (lvE.cons rfl (lvE.nil))))) h
theorem t_135_12 {xl : List Int32} {n : Nat} {ι : IS} {Q : Option Value → IS → Prop} {a0 : Nat} {x1 : Int32} {x2 : Int32} {x3 : Int32} (h : ((¬ x3 < 40 → Q none ι) ∧ (x3 < 40 → (0 ≤ x3.toInt → x3.toInt < ln (rf a0 0) → PC xl n 135 12 [(0, .ref a0), (1, .int x1), (2, .int x2), (3, .int (x3 + 1))] [] (up ι (rf a0 0) x3.toNatClampNeg 0) Q)))) : PC xl (n + 1) 135 12 [(0, .ref a0), (1, .int x1), (2, .int x2), (3, .int x3)] [] ι Q := by
  refine PC.pr1 (k := 0) (pc' := 13) (lv' := [(0, .ref a0), (1, .int x1), (2, .int x2), (3, .int x3)]) (st' := [.int x3]) rfl ?_
  refine PC.pr (k := 1) (pc' := 15) (lv' := [(0, .ref a0), (1, .int x1), (2, .int x2), (3, .int x3)]) (st' := [.int 40, .int x3]) rfl ?_
  refine PC.if2 (t := 31) rfl rfl (fun c => ?_) (fun c => ?_)
  · have h := h.1 (cmp_ge.1.mp c)
    exact PC.retV rfl h
  · have h := h.2 (cmp_ge.2.mp c)
    refine PC.pr (k := 1) (pc' := 19) (lv' := [(0, .ref a0), (1, .int x1), (2, .int x2), (3, .int x3)]) (st' := [.ref a0]) rfl ?_
    refine PC.gR (ci := 8) (j := 0) rfl rfl (by decide) ?_
    refine PC.pr (k := 1) (pc' := 23) (lv' := [(0, .ref a0), (1, .int x1), (2, .int x2), (3, .int x3)]) (st' := [.int x3, .ref (rf a0 0)]) rfl ?_
    refine PC.pr (k := 1) (pc' := 24) (lv' := [(0, .ref a0), (1, .int x1), (2, .int x2), (3, .int x3)]) (st' := [.int 0, .int x3, .ref (rf a0 0)]) rfl ?_
    refine PC.wI rfl (fun c1 c2 => ?_)
    have h := h c1 c2
    refine PC.pr (k := 1) (pc' := 28) (lv' := [(3, .int (x3 + 1)), (0, .ref a0), (1, .int x1), (2, .int x2)]) (st' := []) rfl ?_
    refine PC.pr (k := 1) (pc' := 12) (lv' := [(3, .int (x3 + 1)), (0, .ref a0), (1, .int x1), (2, .int x2)]) (st' := []) rfl ?_
    exact PC.lv (lvE.cons rfl (lvE.cons rfl (lvE.cons rfl (lvE.cons rfl (lvE.nil))))) h

/-- DoorPaints.lay(III)I -/
theorem t_136_0 {xl : List Int32} {n : Nat} {ι : IS} {Q : Option Value → IS → Prop} {a0 : Nat} {x1 : Int32} {x2 : Int32} {x3 : Int32} (h : PC xl n 133 0 [(0, .int x1)] [] ι (fun v1 κ1 => ∀ r1, v1 = some (.int r1) → ((¬ r1 = 0 → (0 ≤ x1.toInt → x1.toInt < lr (rf a0 8) → PC xl n 137 0 [(0, .ref (re (rf a0 8) x1.toNatClampNeg)), (1, .int (κ1 (re (rf a0 8) x1.toNatClampNeg) 2)), (2, .int x2)] [] κ1 (fun v2 κ2 => ∀ r2, v2 = some (.int r2) → ((r2 = 0 → PC xl n 138 0 [(0, .ref (re (rf a0 8) x1.toNatClampNeg)), (1, .int x2), (2, .int x3)] [] κ2 (fun _ κ3 => Q (some (.int 1)) κ3)) ∧ (¬ r2 = 0 → Q (some (.int ((-10) - r2))) κ2))))) ∧ (r1 = 0 → Q (some (.int (-1))) κ1)))) : PC xl (n + 1) 136 0 [(0, .ref a0), (1, .int x1), (2, .int x2), (3, .int x3)] [] ι Q := by
  refine PC.pr1 (k := 0) (pc' := 1) (lv' := [(0, .ref a0), (1, .int x1), (2, .int x2), (3, .int x3)]) (st' := [.int x1]) rfl ?_
  refine (PC.callI (j := 133) (args := [.int x1]) (rest := []) (M := cM133) (ty := .boolean) rfl rfl rfl rfl rfl rfl (by decide) rfl rfl (by decide) ?_).weak
  refine PC.imp h (fun v1 κ1 h r1 hv => ?_)
  have h := h r1 hv
  refine PC.if1 (t := 9) rfl rfl (fun c => ?_) (fun c => ?_)
  · have h := h.1 (cmp_ne.1.mp c)
    refine PC.pr (k := 1) (pc' := 10) (lv' := [(0, .ref a0), (1, .int x1), (2, .int x2), (3, .int x3)]) (st' := [.ref a0]) rfl ?_
    refine PC.gR (ci := 0) (j := 8) rfl rfl (by decide) ?_
    refine PC.pr (k := 1) (pc' := 14) (lv' := [(0, .ref a0), (1, .int x1), (2, .int x2), (3, .int x3)]) (st' := [.int x1, .ref (rf a0 8)]) rfl ?_
    refine PC.ra rfl (fun c1 c2 => ?_)
    have h := h c1 c2
    refine PC.pr (k := 1) (pc' := 17) (lv' := [(4, .ref (re (rf a0 8) x1.toNatClampNeg)), (0, .ref a0), (1, .int x1), (2, .int x2), (3, .int x3)]) (st' := []) rfl ?_
    refine PC.pr (k := 1) (pc' := 19) (lv' := [(4, .ref (re (rf a0 8) x1.toNatClampNeg)), (0, .ref a0), (1, .int x1), (2, .int x2), (3, .int x3)]) (st' := [.ref (re (rf a0 8) x1.toNatClampNeg)]) rfl ?_
    refine PC.pr (k := 1) (pc' := 21) (lv' := [(4, .ref (re (rf a0 8) x1.toNatClampNeg)), (0, .ref a0), (1, .int x1), (2, .int x2), (3, .int x3)]) (st' := [.ref (re (rf a0 8) x1.toNatClampNeg), .ref (re (rf a0 8) x1.toNatClampNeg)]) rfl ?_
    refine PC.gI (ci := 8) (j := 2) rfl rfl (by decide) ?_
    refine PC.pr (k := 1) (pc' := 25) (lv' := [(4, .ref (re (rf a0 8) x1.toNatClampNeg)), (0, .ref a0), (1, .int x1), (2, .int x2), (3, .int x3)]) (st' := [.int x2, .int (κ1 (re (rf a0 8) x1.toNatClampNeg) 2), .ref (re (rf a0 8) x1.toNatClampNeg)]) rfl ?_
    refine (PC.callI (j := 137) (args := [.ref (re (rf a0 8) x1.toNatClampNeg), .int (κ1 (re (rf a0 8) x1.toNatClampNeg) 2), .int x2]) (rest := []) (M := cM137) (ty := .int) rfl rfl rfl rfl rfl rfl (by decide) rfl rfl (by decide) ?_).weak
    refine PC.imp h (fun v2 κ2 h r2 hv => ?_)
    have h := h r2 hv
    refine PC.pr (k := 1) (pc' := 30) (lv' := [(5, .int r2), (4, .ref (re (rf a0 8) x1.toNatClampNeg)), (0, .ref a0), (1, .int x1), (2, .int x2), (3, .int x3)]) (st' := []) rfl ?_
    refine PC.pr (k := 1) (pc' := 32) (lv' := [(5, .int r2), (4, .ref (re (rf a0 8) x1.toNatClampNeg)), (0, .ref a0), (1, .int x1), (2, .int x2), (3, .int x3)]) (st' := [.int r2]) rfl ?_
    refine PC.if1 (t := 41) rfl rfl (fun c => ?_) (fun c => ?_)
    · have h := h.1 (cmp_eq.1.mp c)
      refine PC.pr (k := 1) (pc' := 43) (lv' := [(5, .int r2), (4, .ref (re (rf a0 8) x1.toNatClampNeg)), (0, .ref a0), (1, .int x1), (2, .int x2), (3, .int x3)]) (st' := [.ref (re (rf a0 8) x1.toNatClampNeg)]) rfl ?_
      refine PC.pr (k := 1) (pc' := 44) (lv' := [(5, .int r2), (4, .ref (re (rf a0 8) x1.toNatClampNeg)), (0, .ref a0), (1, .int x1), (2, .int x2), (3, .int x3)]) (st' := [.int x2, .ref (re (rf a0 8) x1.toNatClampNeg)]) rfl ?_
      refine PC.pr (k := 1) (pc' := 45) (lv' := [(5, .int r2), (4, .ref (re (rf a0 8) x1.toNatClampNeg)), (0, .ref a0), (1, .int x1), (2, .int x2), (3, .int x3)]) (st' := [.int x3, .int x2, .ref (re (rf a0 8) x1.toNatClampNeg)]) rfl ?_
      refine (PC.callV (j := 138) (args := [.ref (re (rf a0 8) x1.toNatClampNeg), .int x2, .int x3]) (rest := []) (M := cM138) rfl rfl rfl rfl rfl rfl (by decide) rfl rfl ?_).weak
      refine PC.imp h (fun _ κ3 h => ?_)
      refine PC.pr (k := 1) (pc' := 49) (lv' := [(5, .int r2), (4, .ref (re (rf a0 8) x1.toNatClampNeg)), (0, .ref a0), (1, .int x1), (2, .int x2), (3, .int x3)]) (st' := [.int 1]) rfl ?_
      exact PC.retI rfl h
    · have h := h.2 (cmp_eq.2.mp c)
      refine PC.pr (k := 1) (pc' := 37) (lv' := [(5, .int r2), (4, .ref (re (rf a0 8) x1.toNatClampNeg)), (0, .ref a0), (1, .int x1), (2, .int x2), (3, .int x3)]) (st' := [.int (-10)]) rfl ?_
      refine PC.pr (k := 1) (pc' := 39) (lv' := [(5, .int r2), (4, .ref (re (rf a0 8) x1.toNatClampNeg)), (0, .ref a0), (1, .int x1), (2, .int x2), (3, .int x3)]) (st' := [.int r2, .int (-10)]) rfl ?_
      refine PC.pr (k := 1) (pc' := 40) (lv' := [(5, .int r2), (4, .ref (re (rf a0 8) x1.toNatClampNeg)), (0, .ref a0), (1, .int x1), (2, .int x2), (3, .int x3)]) (st' := [.int ((-10) - r2)]) rfl ?_
      exact PC.retI rfl h
  · have h := h.2 (cmp_ne.2.mp c)
    refine PC.pr (k := 1) (pc' := 8) (lv' := [(0, .ref a0), (1, .int x1), (2, .int x2), (3, .int x3)]) (st' := [.int (-1)]) rfl ?_
    exact PC.retI rfl h

/-- DoorPaints$Sheet.faultAt(II)I -/
theorem t_137_0 {xl : List Int32} {n : Nat} {ι : IS} {Q : Option Value → IS → Prop} {a0 : Nat} {x1 : Int32} {x2 : Int32} (h : ((¬ (ι a0 2) = (-4) → (((ι a0 2) = x1 → ((x2 < 0 → Q (some (.int 2)) ι) ∧ (¬ x2 < 0 → ((x2 < (ι a0 1) → Q (some (.int 0)) ι) ∧ (¬ x2 < (ι a0 1) → Q (some (.int 2)) ι))))) ∧ (¬ (ι a0 2) = x1 → Q (some (.int 3)) ι))) ∧ ((ι a0 2) = (-4) → Q (some (.int 1)) ι))) : PC xl (n + 1) 137 0 [(0, .ref a0), (1, .int x1), (2, .int x2)] [] ι Q := by
  refine PC.pr1 (k := 0) (pc' := 1) (lv' := [(0, .ref a0), (1, .int x1), (2, .int x2)]) (st' := [.ref a0]) rfl ?_
  refine PC.gI (ci := 8) (j := 2) rfl rfl (by decide) ?_
  refine PC.pr (k := 1) (pc' := 6) (lv' := [(0, .ref a0), (1, .int x1), (2, .int x2)]) (st' := [.int (-4), .int (ι a0 2)]) rfl ?_
  refine PC.if2 (t := 11) rfl rfl (fun c => ?_) (fun c => ?_)
  · have h := h.1 (cmp_ne.1.mp c)
    refine PC.pr (k := 1) (pc' := 12) (lv' := [(0, .ref a0), (1, .int x1), (2, .int x2)]) (st' := [.ref a0]) rfl ?_
    refine PC.gI (ci := 8) (j := 2) rfl rfl (by decide) ?_
    refine PC.pr (k := 1) (pc' := 16) (lv' := [(0, .ref a0), (1, .int x1), (2, .int x2)]) (st' := [.int x1, .int (ι a0 2)]) rfl ?_
    refine PC.if2 (t := 21) rfl rfl (fun c => ?_) (fun c => ?_)
    · have h := h.1 (cmp_eq.1.mp c)
      refine PC.pr (k := 1) (pc' := 22) (lv' := [(0, .ref a0), (1, .int x1), (2, .int x2)]) (st' := [.int x2]) rfl ?_
      refine PC.if1 (t := 33) rfl rfl (fun c => ?_) (fun c => ?_)
      · have h := h.1 (cmp_lt.1.mp c)
        refine PC.pr (k := 1) (pc' := 34) (lv' := [(0, .ref a0), (1, .int x1), (2, .int x2)]) (st' := [.int 2]) rfl ?_
        refine PC.pr (k := 1) (pc' := 38) (lv' := [(0, .ref a0), (1, .int x1), (2, .int x2)]) (st' := [.int 2]) rfl ?_
        exact PC.retI rfl h
      · have h := h.2 (cmp_lt.2.mp c)
        refine PC.pr (k := 1) (pc' := 26) (lv' := [(0, .ref a0), (1, .int x1), (2, .int x2)]) (st' := [.int x2]) rfl ?_
        refine PC.pr (k := 1) (pc' := 27) (lv' := [(0, .ref a0), (1, .int x1), (2, .int x2)]) (st' := [.ref a0, .int x2]) rfl ?_
        refine PC.gI (ci := 8) (j := 1) rfl rfl (by decide) ?_
        refine PC.if2 (t := 37) rfl rfl (fun c => ?_) (fun c => ?_)
        · have h := h.1 (cmp_lt.1.mp c)
          refine PC.pr (k := 1) (pc' := 38) (lv' := [(0, .ref a0), (1, .int x1), (2, .int x2)]) (st' := [.int 0]) rfl ?_
          exact PC.retI rfl h
        · have h := h.2 (cmp_lt.2.mp c)
          refine PC.pr (k := 1) (pc' := 34) (lv' := [(0, .ref a0), (1, .int x1), (2, .int x2)]) (st' := [.int 2]) rfl ?_
          refine PC.pr (k := 1) (pc' := 38) (lv' := [(0, .ref a0), (1, .int x1), (2, .int x2)]) (st' := [.int 2]) rfl ?_
          exact PC.retI rfl h
    · have h := h.2 (cmp_eq.2.mp c)
      refine PC.pr (k := 1) (pc' := 20) (lv' := [(0, .ref a0), (1, .int x1), (2, .int x2)]) (st' := [.int 3]) rfl ?_
      exact PC.retI rfl h
  · have h := h.2 (cmp_ne.2.mp c)
    refine PC.pr (k := 1) (pc' := 10) (lv' := [(0, .ref a0), (1, .int x1), (2, .int x2)]) (st' := [.int 1]) rfl ?_
    exact PC.retI rfl h

/-- DoorPaints$Sheet.put(II)V -/
theorem t_138_0 {xl : List Int32} {n : Nat} {ι : IS} {Q : Option Value → IS → Prop} {a0 : Nat} {x1 : Int32} {x2 : Int32} (h : ((x1 < 0 → Q none ι) ∧ (¬ x1 < 0 → ((¬ x1 < (ι a0 1) → Q none ι) ∧ (x1 < (ι a0 1) → ((¬ (ι a0 2) = 0 → ((¬ (ι a0 2) = 1 → (0 ≤ x1.toInt → x1.toInt < ln (rf a0 0) → Q none (up ι (rf a0 0) x1.toNatClampNeg x2))) ∧ ((ι a0 2) = 1 → (0 ≤ x1.toInt → x1.toInt < ln (rf a0 0) → Q none (up ι (rf a0 0) x1.toNatClampNeg (x2).toInt16.toInt32))))) ∧ ((ι a0 2) = 0 → (0 ≤ x1.toInt → x1.toInt < ln (rf a0 0) → Q none (up ι (rf a0 0) x1.toNatClampNeg (x2).toInt8.toInt32))))))))) : PC xl (n + 1) 138 0 [(0, .ref a0), (1, .int x1), (2, .int x2)] [] ι Q := by
  refine PC.pr1 (k := 0) (pc' := 1) (lv' := [(0, .ref a0), (1, .int x1), (2, .int x2)]) (st' := [.int x1]) rfl ?_
  refine PC.if1 (t := 44) rfl rfl (fun c => ?_) (fun c => ?_)
  · have h := h.1 (cmp_lt.1.mp c)
    exact PC.retV rfl h
  · have h := h.2 (cmp_lt.2.mp c)
    refine PC.pr (k := 1) (pc' := 5) (lv' := [(0, .ref a0), (1, .int x1), (2, .int x2)]) (st' := [.int x1]) rfl ?_
    refine PC.pr (k := 1) (pc' := 6) (lv' := [(0, .ref a0), (1, .int x1), (2, .int x2)]) (st' := [.ref a0, .int x1]) rfl ?_
    refine PC.gI (ci := 8) (j := 1) rfl rfl (by decide) ?_
    refine PC.if2 (t := 44) rfl rfl (fun c => ?_) (fun c => ?_)
    · have h := h.1 (cmp_ge.1.mp c)
      exact PC.retV rfl h
    · have h := h.2 (cmp_ge.2.mp c)
      refine PC.pr (k := 1) (pc' := 13) (lv' := [(0, .ref a0), (1, .int x1), (2, .int x2)]) (st' := [.ref a0]) rfl ?_
      refine PC.gR (ci := 8) (j := 0) rfl rfl (by decide) ?_
      refine PC.pr (k := 1) (pc' := 17) (lv' := [(0, .ref a0), (1, .int x1), (2, .int x2)]) (st' := [.int x1, .ref (rf a0 0)]) rfl ?_
      refine PC.pr (k := 1) (pc' := 18) (lv' := [(0, .ref a0), (1, .int x1), (2, .int x2)]) (st' := [.ref a0, .int x1, .ref (rf a0 0)]) rfl ?_
      refine PC.gI (ci := 8) (j := 2) rfl rfl (by decide) ?_
      refine PC.if1 (t := 29) rfl rfl (fun c => ?_) (fun c => ?_)
      · have h := h.1 (cmp_ne.1.mp c)
        refine PC.pr (k := 1) (pc' := 30) (lv' := [(0, .ref a0), (1, .int x1), (2, .int x2)]) (st' := [.ref a0, .int x1, .ref (rf a0 0)]) rfl ?_
        refine PC.gI (ci := 8) (j := 2) rfl rfl (by decide) ?_
        refine PC.pr (k := 1) (pc' := 34) (lv' := [(0, .ref a0), (1, .int x1), (2, .int x2)]) (st' := [.int 1, .int (ι a0 2), .int x1, .ref (rf a0 0)]) rfl ?_
        refine PC.if2 (t := 42) rfl rfl (fun c => ?_) (fun c => ?_)
        · have h := h.1 (cmp_ne.1.mp c)
          refine PC.pr (k := 1) (pc' := 43) (lv' := [(0, .ref a0), (1, .int x1), (2, .int x2)]) (st' := [.int x2, .int x1, .ref (rf a0 0)]) rfl ?_
          refine PC.wI rfl (fun c1 c2 => ?_)
          have h := h c1 c2
          exact PC.retV rfl h
        · have h := h.2 (cmp_ne.2.mp c)
          refine PC.pr (k := 1) (pc' := 38) (lv' := [(0, .ref a0), (1, .int x1), (2, .int x2)]) (st' := [.int x2, .int x1, .ref (rf a0 0)]) rfl ?_
          refine PC.pr (k := 1) (pc' := 39) (lv' := [(0, .ref a0), (1, .int x1), (2, .int x2)]) (st' := [.int (x2).toInt16.toInt32, .int x1, .ref (rf a0 0)]) rfl ?_
          refine PC.pr (k := 1) (pc' := 43) (lv' := [(0, .ref a0), (1, .int x1), (2, .int x2)]) (st' := [.int (x2).toInt16.toInt32, .int x1, .ref (rf a0 0)]) rfl ?_
          refine PC.wI rfl (fun c1 c2 => ?_)
          have h := h c1 c2
          exact PC.retV rfl h
      · have h := h.2 (cmp_ne.2.mp c)
        refine PC.pr (k := 1) (pc' := 25) (lv' := [(0, .ref a0), (1, .int x1), (2, .int x2)]) (st' := [.int x2, .int x1, .ref (rf a0 0)]) rfl ?_
        refine PC.pr (k := 1) (pc' := 26) (lv' := [(0, .ref a0), (1, .int x1), (2, .int x2)]) (st' := [.int (x2).toInt8.toInt32, .int x1, .ref (rf a0 0)]) rfl ?_
        refine PC.pr (k := 1) (pc' := 43) (lv' := [(0, .ref a0), (1, .int x1), (2, .int x2)]) (st' := [.int (x2).toInt8.toInt32, .int x1, .ref (rf a0 0)]) rfl ?_
        refine PC.wI rfl (fun c1 c2 => ?_)
        have h := h c1 c2
        exact PC.retV rfl h

/-- DoorPaints.read(IIII)I -/
theorem t_139_0 {xl : List Int32} {n : Nat} {ι : IS} {Q : Option Value → IS → Prop} {a0 : Nat} {x1 : Int32} {x2 : Int32} {x3 : Int32} {x4 : Int32} (h : PC xl n 133 0 [(0, .int x1)] [] ι (fun v1 κ1 => ∀ r1, v1 = some (.int r1) → ((r1 = 0 → Q (some (.int (-1))) κ1) ∧ (¬ r1 = 0 → PC xl n 134 0 [(0, .int x2)] [] κ1 (fun v2 κ2 => ∀ r2, v2 = some (.int r2) → ((r2 = 0 → Q (some (.int (-1))) κ2) ∧ (¬ r2 = 0 → ((x4 < 0 → Q (some (.int (-1))) κ2) ∧ (¬ x4 < 0 → ((¬ 20 < x4 → (0 ≤ x1.toInt → x1.toInt < lr (rf a0 8) → PC xl n 52 0 [(0, .ref (rf a0 5)), (1, .ref (rf (rf a0 2) 0))] [] κ2 (fun _ κ3 => PC xl n 139 59 [(0, .ref a0), (1, .int x1), (2, .int x2), (3, .int x3), (4, .int x4), (5, .ref (re (rf a0 8) x1.toNatClampNeg)), (6, .int 0), (7, .int 0), (8, .int 0), (9, .null)] [] κ3 Q))) ∧ (20 < x4 → Q (some (.int (-1))) κ2))))))))))) : PC xl (n + 1) 139 0 [(0, .ref a0), (1, .int x1), (2, .int x2), (3, .int x3), (4, .int x4)] [] ι Q := by
  refine PC.pr1 (k := 0) (pc' := 1) (lv' := [(0, .ref a0), (1, .int x1), (2, .int x2), (3, .int x3), (4, .int x4)]) (st' := [.int x1]) rfl ?_
  refine (PC.callI (j := 133) (args := [.int x1]) (rest := []) (M := cM133) (ty := .boolean) rfl rfl rfl rfl rfl rfl (by decide) rfl rfl (by decide) ?_).weak
  refine PC.imp h (fun v1 κ1 h r1 hv => ?_)
  have h := h r1 hv
  refine PC.if1 (t := 26) rfl rfl (fun c => ?_) (fun c => ?_)
  · have h := h.1 (cmp_eq.1.mp c)
    refine PC.pr (k := 1) (pc' := 27) (lv' := [(0, .ref a0), (1, .int x1), (2, .int x2), (3, .int x3), (4, .int x4)]) (st' := [.int (-1)]) rfl ?_
    exact PC.retI rfl h
  · have h := h.2 (cmp_eq.2.mp c)
    refine PC.pr (k := 1) (pc' := 8) (lv' := [(0, .ref a0), (1, .int x1), (2, .int x2), (3, .int x3), (4, .int x4)]) (st' := [.int x2]) rfl ?_
    refine (PC.callI (j := 134) (args := [.int x2]) (rest := []) (M := cM134) (ty := .boolean) rfl rfl rfl rfl rfl rfl (by decide) rfl rfl (by decide) ?_).weak
    refine PC.imp h (fun v2 κ2 h r2 hv => ?_)
    have h := h r2 hv
    refine PC.if1 (t := 26) rfl rfl (fun c => ?_) (fun c => ?_)
    · have h := h.1 (cmp_eq.1.mp c)
      refine PC.pr (k := 1) (pc' := 27) (lv' := [(0, .ref a0), (1, .int x1), (2, .int x2), (3, .int x3), (4, .int x4)]) (st' := [.int (-1)]) rfl ?_
      exact PC.retI rfl h
    · have h := h.2 (cmp_eq.2.mp c)
      refine PC.pr (k := 1) (pc' := 16) (lv' := [(0, .ref a0), (1, .int x1), (2, .int x2), (3, .int x3), (4, .int x4)]) (st' := [.int x4]) rfl ?_
      refine PC.if1 (t := 26) rfl rfl (fun c => ?_) (fun c => ?_)
      · have h := h.1 (cmp_lt.1.mp c)
        refine PC.pr (k := 1) (pc' := 27) (lv' := [(0, .ref a0), (1, .int x1), (2, .int x2), (3, .int x3), (4, .int x4)]) (st' := [.int (-1)]) rfl ?_
        exact PC.retI rfl h
      · have h := h.2 (cmp_lt.2.mp c)
        refine PC.pr (k := 1) (pc' := 21) (lv' := [(0, .ref a0), (1, .int x1), (2, .int x2), (3, .int x3), (4, .int x4)]) (st' := [.int x4]) rfl ?_
        refine PC.pr (k := 1) (pc' := 23) (lv' := [(0, .ref a0), (1, .int x1), (2, .int x2), (3, .int x3), (4, .int x4)]) (st' := [.int 20, .int x4]) rfl ?_
        refine PC.if2 (t := 28) rfl rfl (fun c => ?_) (fun c => ?_)
        · have h := h.1 (cmp_le.1.mp c)
          refine PC.pr (k := 1) (pc' := 29) (lv' := [(0, .ref a0), (1, .int x1), (2, .int x2), (3, .int x3), (4, .int x4)]) (st' := [.ref a0]) rfl ?_
          refine PC.gR (ci := 0) (j := 8) rfl rfl (by decide) ?_
          refine PC.pr (k := 1) (pc' := 33) (lv' := [(0, .ref a0), (1, .int x1), (2, .int x2), (3, .int x3), (4, .int x4)]) (st' := [.int x1, .ref (rf a0 8)]) rfl ?_
          refine PC.ra rfl (fun c1 c2 => ?_)
          have h := h c1 c2
          refine PC.pr (k := 1) (pc' := 36) (lv' := [(5, .ref (re (rf a0 8) x1.toNatClampNeg)), (0, .ref a0), (1, .int x1), (2, .int x2), (3, .int x3), (4, .int x4)]) (st' := []) rfl ?_
          refine PC.pr (k := 1) (pc' := 37) (lv' := [(5, .ref (re (rf a0 8) x1.toNatClampNeg)), (0, .ref a0), (1, .int x1), (2, .int x2), (3, .int x3), (4, .int x4)]) (st' := [.ref a0]) rfl ?_
          refine PC.gR (ci := 0) (j := 5) rfl rfl (by decide) ?_
          refine PC.pr (k := 1) (pc' := 41) (lv' := [(5, .ref (re (rf a0 8) x1.toNatClampNeg)), (0, .ref a0), (1, .int x1), (2, .int x2), (3, .int x3), (4, .int x4)]) (st' := [.ref a0, .ref (rf a0 5)]) rfl ?_
          refine PC.gR (ci := 0) (j := 2) rfl rfl (by decide) ?_
          refine PC.gR (ci := 2) (j := 0) rfl rfl (by decide) ?_
          refine (PC.callV (j := 52) (args := [.ref (rf a0 5), .ref (rf (rf a0 2) 0)]) (rest := []) (M := cM52) rfl rfl rfl rfl rfl rfl (by decide) rfl rfl ?_).weak
          refine PC.imp h (fun _ κ3 h => ?_)
          refine PC.pr (k := 1) (pc' := 51) (lv' := [(5, .ref (re (rf a0 8) x1.toNatClampNeg)), (0, .ref a0), (1, .int x1), (2, .int x2), (3, .int x3), (4, .int x4)]) (st' := [.int 0]) rfl ?_
          refine PC.pr (k := 1) (pc' := 53) (lv' := [(6, .int 0), (5, .ref (re (rf a0 8) x1.toNatClampNeg)), (0, .ref a0), (1, .int x1), (2, .int x2), (3, .int x3), (4, .int x4)]) (st' := []) rfl ?_
          refine PC.pr (k := 1) (pc' := 54) (lv' := [(6, .int 0), (5, .ref (re (rf a0 8) x1.toNatClampNeg)), (0, .ref a0), (1, .int x1), (2, .int x2), (3, .int x3), (4, .int x4)]) (st' := [.int 0]) rfl ?_
          refine PC.pr (k := 1) (pc' := 56) (lv' := [(7, .int 0), (6, .int 0), (5, .ref (re (rf a0 8) x1.toNatClampNeg)), (0, .ref a0), (1, .int x1), (2, .int x2), (3, .int x3), (4, .int x4)]) (st' := []) rfl ?_
          refine PC.pr (k := 1) (pc' := 57) (lv' := [(7, .int 0), (6, .int 0), (5, .ref (re (rf a0 8) x1.toNatClampNeg)), (0, .ref a0), (1, .int x1), (2, .int x2), (3, .int x3), (4, .int x4)]) (st' := [.int 0]) rfl ?_
          refine PC.pr (k := 1) (pc' := 59) (lv' := [(8, .int 0), (7, .int 0), (6, .int 0), (5, .ref (re (rf a0 8) x1.toNatClampNeg)), (0, .ref a0), (1, .int x1), (2, .int x2), (3, .int x3), (4, .int x4)]) (st' := []) rfl ?_
          exact PC.lv (lvE.cons rfl (lvE.cons rfl (lvE.cons rfl (lvE.cons rfl (lvE.cons rfl (lvE.cons rfl (lvE.cons rfl (lvE.cons rfl (lvE.cons rfl (lvE.nil)))))))))) h
        · have h := h.2 (cmp_le.2.mp c)
          refine PC.pr (k := 1) (pc' := 27) (lv' := [(0, .ref a0), (1, .int x1), (2, .int x2), (3, .int x3), (4, .int x4)]) (st' := [.int (-1)]) rfl ?_
          exact PC.retI rfl h
theorem t_139_59 {xl : List Int32} {n : Nat} {ι : IS} {Q : Option Value → IS → Prop} {a0 : Nat} {x1 : Int32} {x2 : Int32} {x3 : Int32} {x4 : Int32} {a5 : Nat} {x6 : Int32} {x7 : Int32} {x8 : Int32} {w9 : Value} (h : ((¬ x8 < x4 → PC xl n 139 138 [(0, .ref a0), (1, .int x1), (2, .int x2), (3, .int x3), (4, .int x4), (5, .ref a5), (6, .int x6), (7, .int x7), (8, .int x8), (9, w9)] [] ι Q) ∧ (x8 < x4 → ((¬ x6 = 0 → PC xl n 139 138 [(0, .ref a0), (1, .int x1), (2, .int x2), (3, .int x3), (4, .int x4), (5, .ref a5), (6, .int x6), (7, .int x7), (8, .int x8), (9, w9)] [] ι Q) ∧ (x6 = 0 → PC xl n 140 0 [(0, .ref a5), (1, .int x2), (2, .int (x3 + (2 * x8)))] [] ι (fun v1 κ1 => ∀ r1, v1 = some (.int r1) → ((¬ r1 = 0 → PC xl n 139 132 [(0, .ref a0), (1, .int x1), (2, .int x2), (3, .int x3), (4, .int x4), (5, .ref a5), (6, .int r1), (7, .int x7), (8, .int x8), (9, .int (x3 + (2 * x8)))] [] κ1 Q) ∧ (r1 = 0 → PC xl n 141 0 [(0, .ref a5), (1, .int (x3 + (2 * x8)))] [] κ1 (fun v2 κ2 => ∀ r2, v2 = some (.int r2) → PC xl n 141 0 [(0, .ref a5), (1, .int ((x3 + (2 * x8)) + 1))] [] κ2 (fun v3 κ3 => ∀ r3, v3 = some (.int r3) → PC xl n 70 0 [(0, .ref (rf a0 5)), (1, .int r2), (2, .int r3)] [] κ3 (fun v4 κ4 => ∀ r4, v4 = some (.int r4) → PC xl n 90 0 [(0, .int r4)] [] κ4 (fun v5 κ5 => ∀ r5, v5 = some (.int r5) → ((r5 = 0 → PC xl n 139 132 [(0, .ref a0), (1, .int x1), (2, .int x2), (3, .int x3), (4, .int x4), (5, .ref a5), (6, .int r1), (7, .int (x7 + 1)), (8, .int x8), (9, .int (x3 + (2 * x8)))] [] κ5 Q) ∧ (¬ r5 = 0 → Q (some (.int ((-20) - x8))) κ5)))))))))))))) : PC xl (n + 1) 139 59 [(0, .ref a0), (1, .int x1), (2, .int x2), (3, .int x3), (4, .int x4), (5, .ref a5), (6, .int x6), (7, .int x7), (8, .int x8), (9, w9)] [] ι Q := by
  refine PC.pr1 (k := 0) (pc' := 61) (lv' := [(0, .ref a0), (1, .int x1), (2, .int x2), (3, .int x3), (4, .int x4), (5, .ref a5), (6, .int x6), (7, .int x7), (8, .int x8), (9, w9)]) (st' := [.int x8]) rfl ?_
  refine PC.pr (k := 1) (pc' := 63) (lv' := [(0, .ref a0), (1, .int x1), (2, .int x2), (3, .int x3), (4, .int x4), (5, .ref a5), (6, .int x6), (7, .int x7), (8, .int x8), (9, w9)]) (st' := [.int x4, .int x8]) rfl ?_
  refine PC.if2 (t := 138) rfl rfl (fun c => ?_) (fun c => ?_)
  · have h := h.1 (cmp_ge.1.mp c)
    exact h
  · have h := h.2 (cmp_ge.2.mp c)
    refine PC.pr (k := 1) (pc' := 68) (lv' := [(0, .ref a0), (1, .int x1), (2, .int x2), (3, .int x3), (4, .int x4), (5, .ref a5), (6, .int x6), (7, .int x7), (8, .int x8), (9, w9)]) (st' := [.int x6]) rfl ?_
    refine PC.if1 (t := 138) rfl rfl (fun c => ?_) (fun c => ?_)
    · have h := h.1 (cmp_ne.1.mp c)
      exact h
    · have h := h.2 (cmp_ne.2.mp c)
      refine PC.pr (k := 1) (pc' := 72) (lv' := [(0, .ref a0), (1, .int x1), (2, .int x2), (3, .int x3), (4, .int x4), (5, .ref a5), (6, .int x6), (7, .int x7), (8, .int x8), (9, w9)]) (st' := [.int x3]) rfl ?_
      refine PC.pr (k := 1) (pc' := 73) (lv' := [(0, .ref a0), (1, .int x1), (2, .int x2), (3, .int x3), (4, .int x4), (5, .ref a5), (6, .int x6), (7, .int x7), (8, .int x8), (9, w9)]) (st' := [.int 2, .int x3]) rfl ?_
      refine PC.pr (k := 1) (pc' := 75) (lv' := [(0, .ref a0), (1, .int x1), (2, .int x2), (3, .int x3), (4, .int x4), (5, .ref a5), (6, .int x6), (7, .int x7), (8, .int x8), (9, w9)]) (st' := [.int x8, .int 2, .int x3]) rfl ?_
      refine PC.pr (k := 1) (pc' := 76) (lv' := [(0, .ref a0), (1, .int x1), (2, .int x2), (3, .int x3), (4, .int x4), (5, .ref a5), (6, .int x6), (7, .int x7), (8, .int x8), (9, w9)]) (st' := [.int (2 * x8), .int x3]) rfl ?_
      refine PC.pr (k := 1) (pc' := 77) (lv' := [(0, .ref a0), (1, .int x1), (2, .int x2), (3, .int x3), (4, .int x4), (5, .ref a5), (6, .int x6), (7, .int x7), (8, .int x8), (9, w9)]) (st' := [.int (x3 + (2 * x8))]) rfl ?_
      refine PC.pr (k := 1) (pc' := 79) (lv' := [(9, .int (x3 + (2 * x8))), (0, .ref a0), (1, .int x1), (2, .int x2), (3, .int x3), (4, .int x4), (5, .ref a5), (6, .int x6), (7, .int x7), (8, .int x8)]) (st' := []) rfl ?_
      refine PC.pr (k := 1) (pc' := 81) (lv' := [(9, .int (x3 + (2 * x8))), (0, .ref a0), (1, .int x1), (2, .int x2), (3, .int x3), (4, .int x4), (5, .ref a5), (6, .int x6), (7, .int x7), (8, .int x8)]) (st' := [.ref a5]) rfl ?_
      refine PC.pr (k := 1) (pc' := 82) (lv' := [(9, .int (x3 + (2 * x8))), (0, .ref a0), (1, .int x1), (2, .int x2), (3, .int x3), (4, .int x4), (5, .ref a5), (6, .int x6), (7, .int x7), (8, .int x8)]) (st' := [.int x2, .ref a5]) rfl ?_
      refine PC.pr (k := 1) (pc' := 84) (lv' := [(9, .int (x3 + (2 * x8))), (0, .ref a0), (1, .int x1), (2, .int x2), (3, .int x3), (4, .int x4), (5, .ref a5), (6, .int x6), (7, .int x7), (8, .int x8)]) (st' := [.int (x3 + (2 * x8)), .int x2, .ref a5]) rfl ?_
      refine (PC.callI (j := 140) (args := [.ref a5, .int x2, .int (x3 + (2 * x8))]) (rest := []) (M := cM140) (ty := .int) rfl rfl rfl rfl rfl rfl (by decide) rfl rfl (by decide) ?_).weak
      refine PC.imp h (fun v1 κ1 h r1 hv => ?_)
      have h := h r1 hv
      refine PC.pr (k := 1) (pc' := 89) (lv' := [(6, .int r1), (9, .int (x3 + (2 * x8))), (0, .ref a0), (1, .int x1), (2, .int x2), (3, .int x3), (4, .int x4), (5, .ref a5), (7, .int x7), (8, .int x8)]) (st' := []) rfl ?_
      refine PC.pr (k := 1) (pc' := 91) (lv' := [(6, .int r1), (9, .int (x3 + (2 * x8))), (0, .ref a0), (1, .int x1), (2, .int x2), (3, .int x3), (4, .int x4), (5, .ref a5), (7, .int x7), (8, .int x8)]) (st' := [.int r1]) rfl ?_
      refine PC.if1 (t := 132) rfl rfl (fun c => ?_) (fun c => ?_)
      · have h := h.1 (cmp_ne.1.mp c)
        exact PC.lv (lvE.cons rfl (lvE.cons rfl (lvE.cons rfl (lvE.cons rfl (lvE.cons rfl (lvE.cons rfl (lvE.cons rfl (lvE.cons rfl (lvE.cons rfl (lvE.cons rfl (lvE.nil))))))))))) h
      · have h := h.2 (cmp_ne.2.mp c)
        refine PC.pr (k := 1) (pc' := 95) (lv' := [(6, .int r1), (9, .int (x3 + (2 * x8))), (0, .ref a0), (1, .int x1), (2, .int x2), (3, .int x3), (4, .int x4), (5, .ref a5), (7, .int x7), (8, .int x8)]) (st' := [.ref a0]) rfl ?_
        refine PC.gR (ci := 0) (j := 5) rfl rfl (by decide) ?_
        refine PC.pr (k := 1) (pc' := 100) (lv' := [(6, .int r1), (9, .int (x3 + (2 * x8))), (0, .ref a0), (1, .int x1), (2, .int x2), (3, .int x3), (4, .int x4), (5, .ref a5), (7, .int x7), (8, .int x8)]) (st' := [.ref a5, .ref (rf a0 5)]) rfl ?_
        refine PC.pr (k := 1) (pc' := 102) (lv' := [(6, .int r1), (9, .int (x3 + (2 * x8))), (0, .ref a0), (1, .int x1), (2, .int x2), (3, .int x3), (4, .int x4), (5, .ref a5), (7, .int x7), (8, .int x8)]) (st' := [.int (x3 + (2 * x8)), .ref a5, .ref (rf a0 5)]) rfl ?_
        refine (PC.callI (j := 141) (args := [.ref a5, .int (x3 + (2 * x8))]) (rest := [.ref (rf a0 5)]) (M := cM141) (ty := .int) rfl rfl rfl rfl rfl rfl (by decide) rfl rfl (by decide) ?_).weak
        refine PC.imp h (fun v2 κ2 h r2 hv => ?_)
        have h := h r2 hv
        refine PC.pr (k := 1) (pc' := 107) (lv' := [(6, .int r1), (9, .int (x3 + (2 * x8))), (0, .ref a0), (1, .int x1), (2, .int x2), (3, .int x3), (4, .int x4), (5, .ref a5), (7, .int x7), (8, .int x8)]) (st' := [.ref a5, .int r2, .ref (rf a0 5)]) rfl ?_
        refine PC.pr (k := 1) (pc' := 109) (lv' := [(6, .int r1), (9, .int (x3 + (2 * x8))), (0, .ref a0), (1, .int x1), (2, .int x2), (3, .int x3), (4, .int x4), (5, .ref a5), (7, .int x7), (8, .int x8)]) (st' := [.int (x3 + (2 * x8)), .ref a5, .int r2, .ref (rf a0 5)]) rfl ?_
        refine PC.pr (k := 1) (pc' := 110) (lv' := [(6, .int r1), (9, .int (x3 + (2 * x8))), (0, .ref a0), (1, .int x1), (2, .int x2), (3, .int x3), (4, .int x4), (5, .ref a5), (7, .int x7), (8, .int x8)]) (st' := [.int 1, .int (x3 + (2 * x8)), .ref a5, .int r2, .ref (rf a0 5)]) rfl ?_
        refine PC.pr (k := 1) (pc' := 111) (lv' := [(6, .int r1), (9, .int (x3 + (2 * x8))), (0, .ref a0), (1, .int x1), (2, .int x2), (3, .int x3), (4, .int x4), (5, .ref a5), (7, .int x7), (8, .int x8)]) (st' := [.int ((x3 + (2 * x8)) + 1), .ref a5, .int r2, .ref (rf a0 5)]) rfl ?_
        refine (PC.callI (j := 141) (args := [.ref a5, .int ((x3 + (2 * x8)) + 1)]) (rest := [.int r2, .ref (rf a0 5)]) (M := cM141) (ty := .int) rfl rfl rfl rfl rfl rfl (by decide) rfl rfl (by decide) ?_).weak
        refine PC.imp h (fun v3 κ3 h r3 hv => ?_)
        have h := h r3 hv
        refine (PC.callI (j := 70) (args := [.ref (rf a0 5), .int r2, .int r3]) (rest := []) (M := cM70) (ty := .int) rfl rfl rfl rfl rfl rfl (by decide) rfl rfl (by decide) ?_).weak
        refine PC.imp h (fun v4 κ4 h r4 hv => ?_)
        have h := h r4 hv
        refine (PC.callI (j := 90) (args := [.int r4]) (rest := []) (M := cM90) (ty := .boolean) rfl rfl rfl rfl rfl rfl (by decide) rfl rfl (by decide) ?_).weak
        refine PC.imp h (fun v5 κ5 h r5 hv => ?_)
        have h := h r5 hv
        refine PC.if1 (t := 129) rfl rfl (fun c => ?_) (fun c => ?_)
        · have h := h.1 (cmp_eq.1.mp c)
          refine PC.pr (k := 1) (pc' := 132) (lv' := [(7, .int (x7 + 1)), (6, .int r1), (9, .int (x3 + (2 * x8))), (0, .ref a0), (1, .int x1), (2, .int x2), (3, .int x3), (4, .int x4), (5, .ref a5), (8, .int x8)]) (st' := []) rfl ?_
          exact PC.lv (lvE.cons rfl (lvE.cons rfl (lvE.cons rfl (lvE.cons rfl (lvE.cons rfl (lvE.cons rfl (lvE.cons rfl (lvE.cons rfl (lvE.cons rfl (lvE.cons rfl (lvE.nil))))))))))) h
        · have h := h.2 (cmp_eq.2.mp c)
          refine PC.pr (k := 1) (pc' := 125) (lv' := [(6, .int r1), (9, .int (x3 + (2 * x8))), (0, .ref a0), (1, .int x1), (2, .int x2), (3, .int x3), (4, .int x4), (5, .ref a5), (7, .int x7), (8, .int x8)]) (st' := [.int (-20)]) rfl ?_
          refine PC.pr (k := 1) (pc' := 127) (lv' := [(6, .int r1), (9, .int (x3 + (2 * x8))), (0, .ref a0), (1, .int x1), (2, .int x2), (3, .int x3), (4, .int x4), (5, .ref a5), (7, .int x7), (8, .int x8)]) (st' := [.int x8, .int (-20)]) rfl ?_
          refine PC.pr (k := 1) (pc' := 128) (lv' := [(6, .int r1), (9, .int (x3 + (2 * x8))), (0, .ref a0), (1, .int x1), (2, .int x2), (3, .int x3), (4, .int x4), (5, .ref a5), (7, .int x7), (8, .int x8)]) (st' := [.int ((-20) - x8)]) rfl ?_
          exact PC.retI rfl h
theorem t_139_132 {xl : List Int32} {n : Nat} {ι : IS} {Q : Option Value → IS → Prop} {a0 : Nat} {x1 : Int32} {x2 : Int32} {x3 : Int32} {x4 : Int32} {a5 : Nat} {x6 : Int32} {x7 : Int32} {x8 : Int32} {x9 : Int32} (h : PC xl n 139 59 [(0, .ref a0), (1, .int x1), (2, .int x2), (3, .int x3), (4, .int x4), (5, .ref a5), (6, .int x6), (7, .int x7), (8, .int (x8 + 1)), (9, .int x9)] [] ι Q) : PC xl (n + 1) 139 132 [(0, .ref a0), (1, .int x1), (2, .int x2), (3, .int x3), (4, .int x4), (5, .ref a5), (6, .int x6), (7, .int x7), (8, .int x8), (9, .int x9)] [] ι Q := by
  refine PC.pr1 (k := 0) (pc' := 135) (lv' := [(8, .int (x8 + 1)), (0, .ref a0), (1, .int x1), (2, .int x2), (3, .int x3), (4, .int x4), (5, .ref a5), (6, .int x6), (7, .int x7), (9, .int x9)]) (st' := []) rfl ?_
  refine PC.pr (k := 1) (pc' := 59) (lv' := [(8, .int (x8 + 1)), (0, .ref a0), (1, .int x1), (2, .int x2), (3, .int x3), (4, .int x4), (5, .ref a5), (6, .int x6), (7, .int x7), (9, .int x9)]) (st' := []) rfl ?_
  exact PC.lv (lvE.cons rfl (lvE.cons rfl (lvE.cons rfl (lvE.cons rfl (lvE.cons rfl (lvE.cons rfl (lvE.cons rfl (lvE.cons rfl (lvE.cons rfl (lvE.cons rfl (lvE.nil))))))))))) h
theorem t_139_138 {xl : List Int32} {n : Nat} {ι : IS} {Q : Option Value → IS → Prop} {a0 : Nat} {x1 : Int32} {x2 : Int32} {x3 : Int32} {x4 : Int32} {a5 : Nat} {x6 : Int32} {x7 : Int32} {x8 : Int32} {w9 : Value} (h : PC xl n 52 0 [(0, .ref (rf (rf a0 2) 0)), (1, .ref (rf a0 5))] [] ι (fun _ κ1 => Q (some (.int x7)) (up κ1 a0 10 x6))) : PC xl (n + 1) 139 138 [(0, .ref a0), (1, .int x1), (2, .int x2), (3, .int x3), (4, .int x4), (5, .ref a5), (6, .int x6), (7, .int x7), (8, .int x8), (9, w9)] [] ι Q := by
  refine PC.pr1 (k := 0) (pc' := 139) (lv' := [(0, .ref a0), (1, .int x1), (2, .int x2), (3, .int x3), (4, .int x4), (5, .ref a5), (6, .int x6), (7, .int x7), (8, .int x8), (9, w9)]) (st' := [.ref a0]) rfl ?_
  refine PC.gR (ci := 0) (j := 2) rfl rfl (by decide) ?_
  refine PC.gR (ci := 2) (j := 0) rfl rfl (by decide) ?_
  refine PC.pr (k := 1) (pc' := 146) (lv' := [(0, .ref a0), (1, .int x1), (2, .int x2), (3, .int x3), (4, .int x4), (5, .ref a5), (6, .int x6), (7, .int x7), (8, .int x8), (9, w9)]) (st' := [.ref a0, .ref (rf (rf a0 2) 0)]) rfl ?_
  refine PC.gR (ci := 0) (j := 5) rfl rfl (by decide) ?_
  refine (PC.callV (j := 52) (args := [.ref (rf (rf a0 2) 0), .ref (rf a0 5)]) (rest := []) (M := cM52) rfl rfl rfl rfl rfl rfl (by decide) rfl rfl ?_).weak
  refine PC.imp h (fun _ κ1 h => ?_)
  refine PC.pr (k := 1) (pc' := 153) (lv' := [(0, .ref a0), (1, .int x1), (2, .int x2), (3, .int x3), (4, .int x4), (5, .ref a5), (6, .int x6), (7, .int x7), (8, .int x8), (9, w9)]) (st' := [.ref a0]) rfl ?_
  refine PC.pr (k := 1) (pc' := 155) (lv' := [(0, .ref a0), (1, .int x1), (2, .int x2), (3, .int x3), (4, .int x4), (5, .ref a5), (6, .int x6), (7, .int x7), (8, .int x8), (9, w9)]) (st' := [.int x6, .ref a0]) rfl ?_
  refine PC.pI (ci := 0) (j := 10) rfl rfl ?_
  refine PC.pr (k := 1) (pc' := 160) (lv' := [(0, .ref a0), (1, .int x1), (2, .int x2), (3, .int x3), (4, .int x4), (5, .ref a5), (6, .int x6), (7, .int x7), (8, .int x8), (9, w9)]) (st' := [.int x7]) rfl ?_
  exact PC.retI rfl h

/-- DoorPaints$Sheet.faultOfPair(II)I -/
theorem t_140_0 {xl : List Int32} {n : Nat} {ι : IS} {Q : Option Value → IS → Prop} {a0 : Nat} {x1 : Int32} {x2 : Int32} (h : PC xl n 137 0 [(0, .ref a0), (1, .int x1), (2, .int x2)] [] ι (fun v1 κ1 => ∀ r1, v1 = some (.int r1) → ((r1 = 0 → PC xl n 137 0 [(0, .ref a0), (1, .int x1), (2, .int (x2 + 1))] [] κ1 (fun v2 κ2 => ∀ r2, v2 = some (.int r2) → Q (some (.int r2)) κ2)) ∧ (¬ r1 = 0 → Q (some (.int r1)) κ1)))) : PC xl (n + 1) 140 0 [(0, .ref a0), (1, .int x1), (2, .int x2)] [] ι Q := by
  refine PC.pr1 (k := 0) (pc' := 1) (lv' := [(0, .ref a0), (1, .int x1), (2, .int x2)]) (st' := [.ref a0]) rfl ?_
  refine PC.pr (k := 1) (pc' := 2) (lv' := [(0, .ref a0), (1, .int x1), (2, .int x2)]) (st' := [.int x1, .ref a0]) rfl ?_
  refine PC.pr (k := 1) (pc' := 3) (lv' := [(0, .ref a0), (1, .int x1), (2, .int x2)]) (st' := [.int x2, .int x1, .ref a0]) rfl ?_
  refine (PC.callI (j := 137) (args := [.ref a0, .int x1, .int x2]) (rest := []) (M := cM137) (ty := .int) rfl rfl rfl rfl rfl rfl (by decide) rfl rfl (by decide) ?_).weak
  refine PC.imp h (fun v1 κ1 h r1 hv => ?_)
  have h := h r1 hv
  refine PC.pr (k := 1) (pc' := 7) (lv' := [(3, .int r1), (0, .ref a0), (1, .int x1), (2, .int x2)]) (st' := []) rfl ?_
  refine PC.pr (k := 1) (pc' := 8) (lv' := [(3, .int r1), (0, .ref a0), (1, .int x1), (2, .int x2)]) (st' := [.int r1]) rfl ?_
  refine PC.if1 (t := 15) rfl rfl (fun c => ?_) (fun c => ?_)
  · have h := h.1 (cmp_eq.1.mp c)
    refine PC.pr (k := 1) (pc' := 16) (lv' := [(3, .int r1), (0, .ref a0), (1, .int x1), (2, .int x2)]) (st' := [.ref a0]) rfl ?_
    refine PC.pr (k := 1) (pc' := 17) (lv' := [(3, .int r1), (0, .ref a0), (1, .int x1), (2, .int x2)]) (st' := [.int x1, .ref a0]) rfl ?_
    refine PC.pr (k := 1) (pc' := 18) (lv' := [(3, .int r1), (0, .ref a0), (1, .int x1), (2, .int x2)]) (st' := [.int x2, .int x1, .ref a0]) rfl ?_
    refine PC.pr (k := 1) (pc' := 19) (lv' := [(3, .int r1), (0, .ref a0), (1, .int x1), (2, .int x2)]) (st' := [.int 1, .int x2, .int x1, .ref a0]) rfl ?_
    refine PC.pr (k := 1) (pc' := 20) (lv' := [(3, .int r1), (0, .ref a0), (1, .int x1), (2, .int x2)]) (st' := [.int (x2 + 1), .int x1, .ref a0]) rfl ?_
    refine (PC.callI (j := 137) (args := [.ref a0, .int x1, .int (x2 + 1)]) (rest := []) (M := cM137) (ty := .int) rfl rfl rfl rfl rfl rfl (by decide) rfl rfl (by decide) ?_).weak
    refine PC.imp h (fun v2 κ2 h r2 hv => ?_)
    have h := h r2 hv
    exact PC.retI rfl h
  · have h := h.2 (cmp_eq.2.mp c)
    refine PC.pr (k := 1) (pc' := 12) (lv' := [(3, .int r1), (0, .ref a0), (1, .int x1), (2, .int x2)]) (st' := [.int r1]) rfl ?_
    refine PC.pr (k := 1) (pc' := 23) (lv' := [(3, .int r1), (0, .ref a0), (1, .int x1), (2, .int x2)]) (st' := [.int r1]) rfl ?_
    exact PC.retI rfl h

/-- DoorPaints$Sheet.cellAt(I)I -/
theorem t_141_0 {xl : List Int32} {n : Nat} {ι : IS} {Q : Option Value → IS → Prop} {a0 : Nat} {x1 : Int32} (h : ((x1 < 0 → Q (some (.int (-1))) ι) ∧ (¬ x1 < 0 → ((¬ x1 < (ι a0 1) → Q (some (.int (-1))) ι) ∧ (x1 < (ι a0 1) → (0 ≤ x1.toInt → x1.toInt < ln (rf a0 0) → Q (some (.int (ι (rf a0 0) x1.toNatClampNeg))) ι)))))) : PC xl (n + 1) 141 0 [(0, .ref a0), (1, .int x1)] [] ι Q := by
  refine PC.pr1 (k := 0) (pc' := 1) (lv' := [(0, .ref a0), (1, .int x1)]) (st' := [.int x1]) rfl ?_
  refine PC.if1 (t := 21) rfl rfl (fun c => ?_) (fun c => ?_)
  · have h := h.1 (cmp_lt.1.mp c)
    refine PC.pr (k := 1) (pc' := 22) (lv' := [(0, .ref a0), (1, .int x1)]) (st' := [.int (-1)]) rfl ?_
    exact PC.retI rfl h
  · have h := h.2 (cmp_lt.2.mp c)
    refine PC.pr (k := 1) (pc' := 5) (lv' := [(0, .ref a0), (1, .int x1)]) (st' := [.int x1]) rfl ?_
    refine PC.pr (k := 1) (pc' := 6) (lv' := [(0, .ref a0), (1, .int x1)]) (st' := [.ref a0, .int x1]) rfl ?_
    refine PC.gI (ci := 8) (j := 1) rfl rfl (by decide) ?_
    refine PC.if2 (t := 21) rfl rfl (fun c => ?_) (fun c => ?_)
    · have h := h.1 (cmp_ge.1.mp c)
      refine PC.pr (k := 1) (pc' := 22) (lv' := [(0, .ref a0), (1, .int x1)]) (st' := [.int (-1)]) rfl ?_
      exact PC.retI rfl h
    · have h := h.2 (cmp_ge.2.mp c)
      refine PC.pr (k := 1) (pc' := 13) (lv' := [(0, .ref a0), (1, .int x1)]) (st' := [.ref a0]) rfl ?_
      refine PC.gR (ci := 8) (j := 0) rfl rfl (by decide) ?_
      refine PC.pr (k := 1) (pc' := 17) (lv' := [(0, .ref a0), (1, .int x1)]) (st' := [.int x1, .ref (rf a0 0)]) rfl ?_
      refine PC.rd rfl (rf_lt _ _) (fun c1 c2 => ?_)
      have h := h c1 c2
      refine PC.pr (k := 1) (pc' := 22) (lv' := [(0, .ref a0), (1, .int x1)]) (st' := [.int (ι (rf a0 0) x1.toNatClampNeg)]) rfl ?_
      exact PC.retI rfl h

/-- DoorPaints.torn()I -/
theorem t_142_0 {xl : List Int32} {n : Nat} {ι : IS} {Q : Option Value → IS → Prop} {a0 : Nat} (h : Q (some (.int (ι a0 10))) ι) : PC xl (n + 1) 142 0 [(0, .ref a0)] [] ι Q := by
  refine PC.pr1 (k := 0) (pc' := 1) (lv' := [(0, .ref a0)]) (st' := [.ref a0]) rfl ?_
  refine PC.gI (ci := 0) (j := 10) rfl rfl (by decide) ?_
  exact PC.retI rfl h

/-- DoorPaints.count(I)I -/
theorem t_143_0 {xl : List Int32} {n : Nat} {ι : IS} {Q : Option Value → IS → Prop} {a0 : Nat} {x1 : Int32} (h : ((x1.toInt = 0 → PC xl n 80 0 [(0, .ref (rf (rf a0 2) 0))] [] ι (fun v1 κ1 => ∀ r1, v1 = some (.int r1) → Q (some (.int r1)) κ1)) ∧ (x1.toInt = 1 → Q (some (.int (ι (rf a0 2) 6))) ι) ∧ (x1.toInt = 2 → (0 ≤ (0 : Int32).toInt → (0 : Int32).toInt < ln (rf a0 4) → (((ι (rf a0 4) (0 : Int32).toNatClampNeg) = 0 → (0 ≤ (1 : Int32).toInt → (1 : Int32).toInt < ln (rf a0 4) → (((ι (rf a0 4) (1 : Int32).toNatClampNeg) = 0 → Q (some (.int (0 + 0))) ι) ∧ (¬ (ι (rf a0 4) (1 : Int32).toNatClampNeg) = 0 → Q (some (.int (0 + 1))) ι)))) ∧ (¬ (ι (rf a0 4) (0 : Int32).toNatClampNeg) = 0 → (0 ≤ (1 : Int32).toInt → (1 : Int32).toInt < ln (rf a0 4) → (((ι (rf a0 4) (1 : Int32).toNatClampNeg) = 0 → Q (some (.int (1 + 0))) ι) ∧ (¬ (ι (rf a0 4) (1 : Int32).toNatClampNeg) = 0 → Q (some (.int (1 + 1))) ι))))))) ∧ (x1.toInt = 3 → Q (some (.int (ι (rf a0 1) 1))) ι) ∧ (x1.toInt = 4 → (0 ≤ (0 : Int32).toInt → (0 : Int32).toInt < lr (rf a0 8) → ((¬ (ι (re (rf a0 8) (0 : Int32).toNatClampNeg) 2) = (-4) → (0 ≤ (0 : Int32).toInt → (0 : Int32).toInt < lr (rf a0 8) → Q (some (.int (ι (re (rf a0 8) (0 : Int32).toNatClampNeg) 1))) ι)) ∧ ((ι (re (rf a0 8) (0 : Int32).toNatClampNeg) 2) = (-4) → Q (some (.int (-4))) ι)))) ∧ ((x1.toInt < 0 ∨ 4 < x1.toInt) → Q (some (.int (-1))) ι))) : PC xl (n + 1) 143 0 [(0, .ref a0), (1, .int x1)] [] ι Q := by
  refine PC.pr1 (k := 0) (pc' := 1) (lv' := [(0, .ref a0), (1, .int x1)]) (st' := [.int x1]) rfl ?_
  refine PC.tsw rfl (fun i off t ho ht hx => ?_) (fun t ht hx => ?_)
  · match i, ho, hx with
    | 0, ho, hx =>
      obtain rfl : (35 : Int) = off := Option.some.inj ho
      obtain rfl : 36 = t := Option.some.inj ht
      have h := h.1 (by simpa using hx)
      refine PC.pr (k := 1) (pc' := 37) (lv' := [(0, .ref a0), (1, .int x1)]) (st' := [.ref a0]) rfl ?_
      refine PC.gR (ci := 0) (j := 2) rfl rfl (by decide) ?_
      refine PC.gR (ci := 2) (j := 0) rfl rfl (by decide) ?_
      refine (PC.callI (j := 80) (args := [.ref (rf (rf a0 2) 0)]) (rest := []) (M := cM80) (ty := .int) rfl rfl rfl rfl rfl rfl (by decide) rfl rfl (by decide) ?_).weak
      refine PC.imp h (fun v1 κ1 h r1 hv => ?_)
      have h := h r1 hv
      exact PC.retI rfl h
    | 1, ho, hx =>
      obtain rfl : (46 : Int) = off := Option.some.inj ho
      obtain rfl : 47 = t := Option.some.inj ht
      have h := h.2.1 (by simpa using hx)
      refine PC.pr (k := 1) (pc' := 48) (lv' := [(0, .ref a0), (1, .int x1)]) (st' := [.ref a0]) rfl ?_
      refine PC.gR (ci := 0) (j := 2) rfl rfl (by decide) ?_
      refine PC.gI (ci := 2) (j := 6) rfl rfl (by decide) ?_
      exact PC.retI rfl h
    | 2, ho, hx =>
      obtain rfl : (54 : Int) = off := Option.some.inj ho
      obtain rfl : 55 = t := Option.some.inj ht
      have h := h.2.2.1 (by simpa using hx)
      refine PC.pr (k := 1) (pc' := 56) (lv' := [(0, .ref a0), (1, .int x1)]) (st' := [.ref a0]) rfl ?_
      refine PC.gR (ci := 0) (j := 4) rfl rfl (by decide) ?_
      refine PC.pr (k := 1) (pc' := 60) (lv' := [(0, .ref a0), (1, .int x1)]) (st' := [.int 0, .ref (rf a0 4)]) rfl ?_
      refine PC.ba rfl (rf_lt _ _) (fun c1 c2 => ?_)
      have h := h c1 c2
      refine PC.if1 (t := 68) rfl rfl (fun c => ?_) (fun c => ?_)
      · have h := h.1 (cmp_eq.1.mp c)
        refine PC.pr (k := 1) (pc' := 69) (lv' := [(0, .ref a0), (1, .int x1)]) (st' := [.int 0]) rfl ?_
        refine PC.pr (k := 1) (pc' := 70) (lv' := [(0, .ref a0), (1, .int x1)]) (st' := [.ref a0, .int 0]) rfl ?_
        refine PC.gR (ci := 0) (j := 4) rfl rfl (by decide) ?_
        refine PC.pr (k := 1) (pc' := 74) (lv' := [(0, .ref a0), (1, .int x1)]) (st' := [.int 1, .ref (rf a0 4), .int 0]) rfl ?_
        refine PC.ba rfl (rf_lt _ _) (fun c1 c2 => ?_)
        have h := h c1 c2
        refine PC.if1 (t := 82) rfl rfl (fun c => ?_) (fun c => ?_)
        · have h := h.1 (cmp_eq.1.mp c)
          refine PC.pr (k := 1) (pc' := 83) (lv' := [(0, .ref a0), (1, .int x1)]) (st' := [.int 0, .int 0]) rfl ?_
          refine PC.pr (k := 1) (pc' := 84) (lv' := [(0, .ref a0), (1, .int x1)]) (st' := [.int (0 + 0)]) rfl ?_
          exact PC.retI rfl h
        · have h := h.2 (cmp_eq.2.mp c)
          refine PC.pr (k := 1) (pc' := 79) (lv' := [(0, .ref a0), (1, .int x1)]) (st' := [.int 1, .int 0]) rfl ?_
          refine PC.pr (k := 1) (pc' := 83) (lv' := [(0, .ref a0), (1, .int x1)]) (st' := [.int 1, .int 0]) rfl ?_
          refine PC.pr (k := 1) (pc' := 84) (lv' := [(0, .ref a0), (1, .int x1)]) (st' := [.int (0 + 1)]) rfl ?_
          exact PC.retI rfl h
      · have h := h.2 (cmp_eq.2.mp c)
        refine PC.pr (k := 1) (pc' := 65) (lv' := [(0, .ref a0), (1, .int x1)]) (st' := [.int 1]) rfl ?_
        refine PC.pr (k := 1) (pc' := 69) (lv' := [(0, .ref a0), (1, .int x1)]) (st' := [.int 1]) rfl ?_
        refine PC.pr (k := 1) (pc' := 70) (lv' := [(0, .ref a0), (1, .int x1)]) (st' := [.ref a0, .int 1]) rfl ?_
        refine PC.gR (ci := 0) (j := 4) rfl rfl (by decide) ?_
        refine PC.pr (k := 1) (pc' := 74) (lv' := [(0, .ref a0), (1, .int x1)]) (st' := [.int 1, .ref (rf a0 4), .int 1]) rfl ?_
        refine PC.ba rfl (rf_lt _ _) (fun c1 c2 => ?_)
        have h := h c1 c2
        refine PC.if1 (t := 82) rfl rfl (fun c => ?_) (fun c => ?_)
        · have h := h.1 (cmp_eq.1.mp c)
          refine PC.pr (k := 1) (pc' := 83) (lv' := [(0, .ref a0), (1, .int x1)]) (st' := [.int 0, .int 1]) rfl ?_
          refine PC.pr (k := 1) (pc' := 84) (lv' := [(0, .ref a0), (1, .int x1)]) (st' := [.int (1 + 0)]) rfl ?_
          exact PC.retI rfl h
        · have h := h.2 (cmp_eq.2.mp c)
          refine PC.pr (k := 1) (pc' := 79) (lv' := [(0, .ref a0), (1, .int x1)]) (st' := [.int 1, .int 1]) rfl ?_
          refine PC.pr (k := 1) (pc' := 83) (lv' := [(0, .ref a0), (1, .int x1)]) (st' := [.int 1, .int 1]) rfl ?_
          refine PC.pr (k := 1) (pc' := 84) (lv' := [(0, .ref a0), (1, .int x1)]) (st' := [.int (1 + 1)]) rfl ?_
          exact PC.retI rfl h
    | 3, ho, hx =>
      obtain rfl : (84 : Int) = off := Option.some.inj ho
      obtain rfl : 85 = t := Option.some.inj ht
      have h := h.2.2.2.1 (by simpa using hx)
      refine PC.pr (k := 1) (pc' := 86) (lv' := [(0, .ref a0), (1, .int x1)]) (st' := [.ref a0]) rfl ?_
      refine PC.gR (ci := 0) (j := 1) rfl rfl (by decide) ?_
      refine PC.gI (ci := 6) (j := 1) rfl rfl (by decide) ?_
      exact PC.retI rfl h
    | 4, ho, hx =>
      obtain rfl : (92 : Int) = off := Option.some.inj ho
      obtain rfl : 93 = t := Option.some.inj ht
      have h := h.2.2.2.2.1 (by simpa using hx)
      refine PC.pr (k := 1) (pc' := 94) (lv' := [(0, .ref a0), (1, .int x1)]) (st' := [.ref a0]) rfl ?_
      refine PC.gR (ci := 0) (j := 8) rfl rfl (by decide) ?_
      refine PC.pr (k := 1) (pc' := 98) (lv' := [(0, .ref a0), (1, .int x1)]) (st' := [.int 0, .ref (rf a0 8)]) rfl ?_
      refine PC.ra rfl (fun c1 c2 => ?_)
      have h := h c1 c2
      refine PC.gI (ci := 8) (j := 2) rfl rfl (by decide) ?_
      refine PC.pr (k := 1) (pc' := 104) (lv' := [(0, .ref a0), (1, .int x1)]) (st' := [.int (-4), .int (ι (re (rf a0 8) (0 : Int32).toNatClampNeg) 2)]) rfl ?_
      refine PC.if2 (t := 112) rfl rfl (fun c => ?_) (fun c => ?_)
      · have h := h.1 (cmp_ne.1.mp c)
        refine PC.pr (k := 1) (pc' := 113) (lv' := [(0, .ref a0), (1, .int x1)]) (st' := [.ref a0]) rfl ?_
        refine PC.gR (ci := 0) (j := 8) rfl rfl (by decide) ?_
        refine PC.pr (k := 1) (pc' := 117) (lv' := [(0, .ref a0), (1, .int x1)]) (st' := [.int 0, .ref (rf a0 8)]) rfl ?_
        refine PC.ra rfl (fun c1 c2 => ?_)
        have h := h c1 c2
        refine PC.gI (ci := 8) (j := 1) rfl rfl (by decide) ?_
        exact PC.retI rfl h
      · have h := h.2 (cmp_ne.2.mp c)
        refine PC.pr (k := 1) (pc' := 109) (lv' := [(0, .ref a0), (1, .int x1)]) (st' := [.int (-4)]) rfl ?_
        refine PC.pr (k := 1) (pc' := 121) (lv' := [(0, .ref a0), (1, .int x1)]) (st' := [.int (-4)]) rfl ?_
        exact PC.retI rfl h
    | i + 5, ho, hx => cases ho
  · obtain rfl : 122 = t := Option.some.inj ht
    have h := h.2.2.2.2.2 hx
    refine PC.pr (k := 1) (pc' := 123) (lv' := [(0, .ref a0), (1, .int x1)]) (st' := [.int (-1)]) rfl ?_
    exact PC.retI rfl h
end
