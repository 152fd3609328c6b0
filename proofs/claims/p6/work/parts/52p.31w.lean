/-! WHAT RUNS ASK (written by a program) -/
/-- DoorPaints$Tape.nameIs(Ljava/lang/String;)Z -/
theorem t_25_0 {xl : List Int32} {n : Nat} {ι : IS} {Q : Option Value → IS → Prop} {o : Nat} {bs : List Int32} (ho1 : tRo xl o = some (.inl (99, [.ref (KB + (o + 1)), .int 0]))) (ho2 : tRo xl (o + 1) = some (.inr (.inl (2, bs)))) {a0 : Nat} (h : ((¬ (ι a0 2) = 1 → Q (some (.int 0)) ι) ∧ ((ι a0 2) = 1 → PC xl n 26 0 [(0, .ref (KB + o))] [] ι (fun v1 κ1 => ∀ r1, v1 = some (.int r1) → ((((ι a0 4) - (ι a0 3)) = r1 → PC xl n 25 28 [(0, .ref a0), (1, .ref (KB + o)), (2, .int 0)] [] κ1 Q) ∧ (¬ ((ι a0 4) - (ι a0 3)) = r1 → Q (some (.int 0)) κ1)))))) : PC xl (n + 1) 25 0 [(0, .ref a0), (1, .ref (KB + o))] [] ι Q := by
  refine PC.pr1 (k := 0) (pc' := 1) (lv' := [(0, .ref a0), (1, .ref (KB + o))]) (st' := [.ref a0]) rfl ?_
  refine PC.gI (ci := 6) (j := 2) rfl rfl (by decide) ?_
  refine PC.pr (k := 1) (pc' := 5) (lv' := [(0, .ref a0), (1, .ref (KB + o))]) (st' := [.int 1, .int (ι a0 2)]) rfl ?_
  refine PC.if2 (t := 24) rfl rfl (fun c => ?_) (fun c => ?_)
  · have h := h.1 (cmp_ne.1.mp c)
    refine PC.pr (k := 1) (pc' := 25) (lv' := [(0, .ref a0), (1, .ref (KB + o))]) (st' := [.int 0]) rfl ?_
    exact PC.retI rfl h
  · have h := h.2 (cmp_ne.2.mp c)
    refine PC.pr (k := 1) (pc' := 9) (lv' := [(0, .ref a0), (1, .ref (KB + o))]) (st' := [.ref a0]) rfl ?_
    refine PC.gI (ci := 6) (j := 4) rfl rfl (by decide) ?_
    refine PC.pr (k := 1) (pc' := 13) (lv' := [(0, .ref a0), (1, .ref (KB + o))]) (st' := [.ref a0, .int (ι a0 4)]) rfl ?_
    refine PC.gI (ci := 6) (j := 3) rfl rfl (by decide) ?_
    refine PC.pr (k := 1) (pc' := 17) (lv' := [(0, .ref a0), (1, .ref (KB + o))]) (st' := [.int ((ι a0 4) - (ι a0 3))]) rfl ?_
    refine PC.pr (k := 1) (pc' := 18) (lv' := [(0, .ref a0), (1, .ref (KB + o))]) (st' := [.ref (KB + o), .int ((ι a0 4) - (ι a0 3))]) rfl ?_
    refine (PC.callI (j := 26) (args := [.ref (KB + o)]) (rest := [.int ((ι a0 4) - (ι a0 3))]) (M := cM26) (ty := .int) rfl rfl rfl rfl rfl rfl (by decide) rfl rfl (by decide) ?_).weak
    refine PC.imp h (fun v1 κ1 h r1 hv => ?_)
    have h := h r1 hv
    refine PC.if2 (t := 26) rfl rfl (fun c => ?_) (fun c => ?_)
    · have h := h.1 (cmp_eq.1.mp c)
      refine PC.pr (k := 1) (pc' := 27) (lv' := [(0, .ref a0), (1, .ref (KB + o))]) (st' := [.int 0]) rfl ?_
      refine PC.pr (k := 1) (pc' := 28) (lv' := [(2, .int 0), (0, .ref a0), (1, .ref (KB + o))]) (st' := []) rfl ?_
      exact PC.lv (lvE.cons rfl (lvE.cons rfl (lvE.cons rfl (lvE.nil)))) h
    · have h := h.2 (cmp_eq.2.mp c)
      refine PC.pr (k := 1) (pc' := 25) (lv' := [(0, .ref a0), (1, .ref (KB + o))]) (st' := [.int 0]) rfl ?_
      exact PC.retI rfl h
theorem t_25_28 {xl : List Int32} {n : Nat} {ι : IS} {Q : Option Value → IS → Prop} {a0 : Nat} {o : Nat} {bs : List Int32} (ho1 : tRo xl o = some (.inl (99, [.ref (KB + (o + 1)), .int 0]))) (ho2 : tRo xl (o + 1) = some (.inr (.inl (2, bs)))) {x2 : Int32} (h : PC xl n 26 0 [(0, .ref (KB + o))] [] ι (fun v1 κ1 => ∀ r1, v1 = some (.int r1) → ((¬ x2 < r1 → Q (some (.int 1)) κ1) ∧ (x2 < r1 → (0 ≤ ((κ1 a0 3) + x2).toInt → ((κ1 a0 3) + x2).toInt < ln (rf a0 0) → PC xl n 28 0 [(0, .ref (KB + o)), (1, .int x2)] [] κ1 (fun v2 κ2 => ∀ r2, v2 = some (.int r2) → (((κ1 (rf a0 0) ((κ1 a0 3) + x2).toNatClampNeg) = r2 → PC xl n 25 28 [(0, .ref a0), (1, .ref (KB + o)), (2, .int (x2 + 1))] [] κ2 Q) ∧ (¬ (κ1 (rf a0 0) ((κ1 a0 3) + x2).toNatClampNeg) = r2 → Q (some (.int 0)) κ2)))))))) : PC xl (n + 1) 25 28 [(0, .ref a0), (1, .ref (KB + o)), (2, .int x2)] [] ι Q := by
  refine PC.pr1 (k := 0) (pc' := 29) (lv' := [(0, .ref a0), (1, .ref (KB + o)), (2, .int x2)]) (st' := [.int x2]) rfl ?_
  refine PC.pr (k := 1) (pc' := 30) (lv' := [(0, .ref a0), (1, .ref (KB + o)), (2, .int x2)]) (st' := [.ref (KB + o), .int x2]) rfl ?_
  refine (PC.callI (j := 26) (args := [.ref (KB + o)]) (rest := [.int x2]) (M := cM26) (ty := .int) rfl rfl rfl rfl rfl rfl (by decide) rfl rfl (by decide) ?_).weak
  refine PC.imp h (fun v1 κ1 h r1 hv => ?_)
  have h := h r1 hv
  refine PC.if2 (t := 63) rfl rfl (fun c => ?_) (fun c => ?_)
  · have h := h.1 (cmp_ge.1.mp c)
    refine PC.pr (k := 1) (pc' := 64) (lv' := [(0, .ref a0), (1, .ref (KB + o)), (2, .int x2)]) (st' := [.int 1]) rfl ?_
    exact PC.retI rfl h
  · have h := h.2 (cmp_ge.2.mp c)
    refine PC.pr (k := 1) (pc' := 37) (lv' := [(0, .ref a0), (1, .ref (KB + o)), (2, .int x2)]) (st' := [.ref a0]) rfl ?_
    refine PC.gR (ci := 6) (j := 0) rfl rfl (by decide) ?_
    refine PC.pr (k := 1) (pc' := 41) (lv' := [(0, .ref a0), (1, .ref (KB + o)), (2, .int x2)]) (st' := [.ref a0, .ref (rf a0 0)]) rfl ?_
    refine PC.gI (ci := 6) (j := 3) rfl rfl (by decide) ?_
    refine PC.pr (k := 1) (pc' := 45) (lv' := [(0, .ref a0), (1, .ref (KB + o)), (2, .int x2)]) (st' := [.int x2, .int (κ1 a0 3), .ref (rf a0 0)]) rfl ?_
    refine PC.pr (k := 1) (pc' := 46) (lv' := [(0, .ref a0), (1, .ref (KB + o)), (2, .int x2)]) (st' := [.int ((κ1 a0 3) + x2), .ref (rf a0 0)]) rfl ?_
    refine PC.rd rfl (rf_lt _ _) (fun c1 c2 => ?_)
    have h := h c1 c2
    refine PC.pr (k := 1) (pc' := 48) (lv' := [(0, .ref a0), (1, .ref (KB + o)), (2, .int x2)]) (st' := [.ref (KB + o), .int (κ1 (rf a0 0) ((κ1 a0 3) + x2).toNatClampNeg)]) rfl ?_
    refine PC.pr (k := 1) (pc' := 49) (lv' := [(0, .ref a0), (1, .ref (KB + o)), (2, .int x2)]) (st' := [.int x2, .ref (KB + o), .int (κ1 (rf a0 0) ((κ1 a0 3) + x2).toNatClampNeg)]) rfl ?_
    refine (PC.callI (j := 28) (args := [.ref (KB + o), .int x2]) (rest := [.int (κ1 (rf a0 0) ((κ1 a0 3) + x2).toNatClampNeg)]) (M := cM28) (ty := .char) rfl rfl rfl rfl rfl rfl (by decide) rfl rfl (by decide) ?_).weak
    refine PC.imp h (fun v2 κ2 h r2 hv => ?_)
    have h := h r2 hv
    refine PC.if2 (t := 57) rfl rfl (fun c => ?_) (fun c => ?_)
    · have h := h.1 (cmp_eq.1.mp c)
      refine PC.pr (k := 1) (pc' := 60) (lv' := [(2, .int (x2 + 1)), (0, .ref a0), (1, .ref (KB + o))]) (st' := []) rfl ?_
      refine PC.pr (k := 1) (pc' := 28) (lv' := [(2, .int (x2 + 1)), (0, .ref a0), (1, .ref (KB + o))]) (st' := []) rfl ?_
      exact PC.lv (lvE.cons rfl (lvE.cons rfl (lvE.cons rfl (lvE.nil)))) h
    · have h := h.2 (cmp_eq.2.mp c)
      refine PC.pr (k := 1) (pc' := 56) (lv' := [(0, .ref a0), (1, .ref (KB + o)), (2, .int x2)]) (st' := [.int 0]) rfl ?_
      exact PC.retI rfl h

/-- java/lang/String.length()I -/
theorem t_26_0 {xl : List Int32} {n : Nat} {ι : IS} {Q : Option Value → IS → Prop} {o : Nat} {bs : List Int32} (ho1 : tRo xl o = some (.inl (99, [.ref (KB + (o + 1)), .int 0]))) (ho2 : tRo xl (o + 1) = some (.inr (.inl (2, bs)))) (h : PC xl n 27 0 [(0, .ref (KB + o))] [] ι (fun v1 κ1 => ∀ r1, v1 = some (.int r1) → Q (some (.int ((Int32.ofNat bs.length) >>> (r1 &&& 31)))) κ1)) : PC xl (n + 1) 26 0 [(0, .ref (KB + o))] [] ι Q := by
  refine PC.pr1 (k := 0) (pc' := 1) (lv' := [(0, .ref (KB + o))]) (st' := [.ref (KB + o)]) rfl ?_
  refine PC.gS ho1 rfl rfl ?_
  refine PC.aL ho2 rfl ?_
  refine PC.pr (k := 1) (pc' := 6) (lv' := [(0, .ref (KB + o))]) (st' := [.ref (KB + o), .int (Int32.ofNat bs.length)]) rfl ?_
  refine (PC.callI (j := 27) (args := [.ref (KB + o)]) (rest := [.int (Int32.ofNat bs.length)]) (M := cM27) (ty := .byte) rfl rfl rfl rfl rfl rfl (by decide) rfl rfl (by decide) ?_).weak
  refine PC.imp h (fun v1 κ1 h r1 hv => ?_)
  have h := h r1 hv
  refine PC.pr (k := 1) (pc' := 10) (lv' := [(0, .ref (KB + o))]) (st' := [.int ((Int32.ofNat bs.length) >>> (r1 &&& 31))]) rfl ?_
  exact PC.retI rfl h

/-- java/lang/String.coder()B -/
theorem t_27_0 {xl : List Int32} {n : Nat} {ι : IS} {Q : Option Value → IS → Prop} {o : Nat} {bs : List Int32} (ho1 : tRo xl o = some (.inl (99, [.ref (KB + (o + 1)), .int 0]))) (ho2 : tRo xl (o + 1) = some (.inr (.inl (2, bs)))) (h : (((1 : Int32) = 0 → Q (some (.int 1)) ι) ∧ (¬ (1 : Int32) = 0 → Q (some (.int 0)) ι))) : PC xl (n + 1) 27 0 [(0, .ref (KB + o))] [] ι Q := by
  refine PC.pr1 (k := 0) (pc' := 3) (lv' := [(0, .ref (KB + o))]) (st' := [.int 1]) rfl ?_
  refine PC.if1 (t := 13) rfl rfl (fun c => ?_) (fun c => ?_)
  · have h := h.1 (cmp_eq.1.mp c)
    refine PC.pr (k := 1) (pc' := 14) (lv' := [(0, .ref (KB + o))]) (st' := [.int 1]) rfl ?_
    exact PC.retI rfl h
  · have h := h.2 (cmp_eq.2.mp c)
    refine PC.pr (k := 1) (pc' := 7) (lv' := [(0, .ref (KB + o))]) (st' := [.ref (KB + o)]) rfl ?_
    refine PC.gS ho1 rfl rfl ?_
    refine PC.pr (k := 1) (pc' := 14) (lv' := [(0, .ref (KB + o))]) (st' := [.int 0]) rfl ?_
    exact PC.retI rfl h

/-- java/lang/String.charAt(I)C -/
theorem t_28_0 {xl : List Int32} {n : Nat} {ι : IS} {Q : Option Value → IS → Prop} {o : Nat} {bs : List Int32} (ho1 : tRo xl o = some (.inl (99, [.ref (KB + (o + 1)), .int 0]))) (ho2 : tRo xl (o + 1) = some (.inr (.inl (2, bs)))) {x1 : Int32} (h : PC xl n 29 0 [(0, .ref (KB + o))] [] ι (fun v1 κ1 => ∀ r1, v1 = some (.int r1) → ((r1 = 0 → True) ∧ (¬ r1 = 0 → PC xl n 30 0 [(0, .ref (KB + (o + 1))), (1, .int x1)] [] κ1 (fun v2 κ2 => ∀ r2, v2 = some (.int r2) → Q (some (.int r2)) κ2))))) : PC xl (n + 1) 28 0 [(0, .ref (KB + o)), (1, .int x1)] [] ι Q := by
  refine PC.pr1 (k := 0) (pc' := 1) (lv' := [(0, .ref (KB + o)), (1, .int x1)]) (st' := [.ref (KB + o)]) rfl ?_
  refine (PC.callI (j := 29) (args := [.ref (KB + o)]) (rest := []) (M := cM29) (ty := .boolean) rfl rfl rfl rfl rfl rfl (by decide) rfl rfl (by decide) ?_).weak
  refine PC.imp h (fun v1 κ1 h r1 hv => ?_)
  have h := h r1 hv
  refine PC.if1 (t := 16) rfl rfl (fun c => ?_) (fun c => ?_)
  · have h := h.1 (cmp_eq.1.mp c)
    refine PC.pr (k := 1) (pc' := 17) (lv' := [(0, .ref (KB + o)), (1, .int x1)]) (st' := [.ref (KB + o)]) rfl ?_
    refine PC.gS ho1 rfl rfl ?_
    refine PC.pr (k := 1) (pc' := 21) (lv' := [(0, .ref (KB + o)), (1, .int x1)]) (st' := [.int x1, .ref (KB + (o + 1))]) rfl ?_
    exact PC.none rfl
  · have h := h.2 (cmp_eq.2.mp c)
    refine PC.pr (k := 1) (pc' := 8) (lv' := [(0, .ref (KB + o)), (1, .int x1)]) (st' := [.ref (KB + o)]) rfl ?_
    refine PC.gS ho1 rfl rfl ?_
    refine PC.pr (k := 1) (pc' := 12) (lv' := [(0, .ref (KB + o)), (1, .int x1)]) (st' := [.int x1, .ref (KB + (o + 1))]) rfl ?_
    refine (PC.callI (j := 30) (args := [.ref (KB + (o + 1)), .int x1]) (rest := []) (M := cM30) (ty := .char) rfl rfl rfl rfl rfl rfl (by decide) rfl rfl (by decide) ?_).weak
    refine PC.imp h (fun v2 κ2 h r2 hv => ?_)
    have h := h r2 hv
    exact PC.retI rfl h

/-- java/lang/String.isLatin1()Z -/
theorem t_29_0 {xl : List Int32} {n : Nat} {ι : IS} {Q : Option Value → IS → Prop} {o : Nat} {bs : List Int32} (ho1 : tRo xl o = some (.inl (99, [.ref (KB + (o + 1)), .int 0]))) (ho2 : tRo xl (o + 1) = some (.inr (.inl (2, bs)))) (h : (((1 : Int32) = 0 → Q (some (.int 0)) ι) ∧ (¬ (1 : Int32) = 0 → ((¬ (0 : Int32) = 0 → Q (some (.int 0)) ι) ∧ ((0 : Int32) = 0 → Q (some (.int 1)) ι))))) : PC xl (n + 1) 29 0 [(0, .ref (KB + o))] [] ι Q := by
  refine PC.pr1 (k := 0) (pc' := 3) (lv' := [(0, .ref (KB + o))]) (st' := [.int 1]) rfl ?_
  refine PC.if1 (t := 17) rfl rfl (fun c => ?_) (fun c => ?_)
  · have h := h.1 (cmp_eq.1.mp c)
    refine PC.pr (k := 1) (pc' := 18) (lv' := [(0, .ref (KB + o))]) (st' := [.int 0]) rfl ?_
    exact PC.retI rfl h
  · have h := h.2 (cmp_eq.2.mp c)
    refine PC.pr (k := 1) (pc' := 7) (lv' := [(0, .ref (KB + o))]) (st' := [.ref (KB + o)]) rfl ?_
    refine PC.gS ho1 rfl rfl ?_
    refine PC.if1 (t := 17) rfl rfl (fun c => ?_) (fun c => ?_)
    · have h := h.1 (cmp_ne.1.mp c)
      refine PC.pr (k := 1) (pc' := 18) (lv' := [(0, .ref (KB + o))]) (st' := [.int 0]) rfl ?_
      exact PC.retI rfl h
    · have h := h.2 (cmp_ne.2.mp c)
      refine PC.pr (k := 1) (pc' := 14) (lv' := [(0, .ref (KB + o))]) (st' := [.int 1]) rfl ?_
      refine PC.pr (k := 1) (pc' := 18) (lv' := [(0, .ref (KB + o))]) (st' := [.int 1]) rfl ?_
      exact PC.retI rfl h

/-- java/lang/StringLatin1.charAt([BI)C -/
theorem t_30_0 {xl : List Int32} {n : Nat} {ι : IS} {Q : Option Value → IS → Prop} {o : Nat} {bs : List Int32} (ho1 : tRo xl o = some (.inl (99, [.ref (KB + (o + 1)), .int 0]))) (ho2 : tRo xl (o + 1) = some (.inr (.inl (2, bs)))) {x1 : Int32} (h : PC xl n 31 0 [(0, .int x1), (1, .int (Int32.ofNat bs.length))] [] ι (fun _ κ1 => (0 ≤ x1.toInt → x1.toInt < bs.length → Q (some (.int ((((bs.getD x1.toNatClampNeg 0) &&& 255)).toUInt32 % 65536).toInt32)) κ1))) : PC xl (n + 1) 30 0 [(0, .ref (KB + (o + 1))), (1, .int x1)] [] ι Q := by
  refine PC.pr1 (k := 0) (pc' := 1) (lv' := [(0, .ref (KB + (o + 1))), (1, .int x1)]) (st' := [.int x1]) rfl ?_
  refine PC.pr (k := 1) (pc' := 2) (lv' := [(0, .ref (KB + (o + 1))), (1, .int x1)]) (st' := [.ref (KB + (o + 1)), .int x1]) rfl ?_
  refine PC.aL ho2 rfl ?_
  refine (PC.callV (j := 31) (args := [.int x1, .int (Int32.ofNat bs.length)]) (rest := []) (M := cM31) rfl rfl rfl rfl rfl rfl (by decide) rfl rfl ?_).weak
  refine PC.imp h (fun _ κ1 h => ?_)
  refine PC.pr (k := 1) (pc' := 7) (lv' := [(0, .ref (KB + (o + 1))), (1, .int x1)]) (st' := [.ref (KB + (o + 1))]) rfl ?_
  refine PC.pr (k := 1) (pc' := 8) (lv' := [(0, .ref (KB + (o + 1))), (1, .int x1)]) (st' := [.int x1, .ref (KB + (o + 1))]) rfl ?_
  refine PC.bS ho2 rfl (fun c1 c2 => ?_)
  have h := h c1 c2
  refine PC.pr (k := 1) (pc' := 12) (lv' := [(0, .ref (KB + (o + 1))), (1, .int x1)]) (st' := [.int 255, .int (bs.getD x1.toNatClampNeg 0)]) rfl ?_
  refine PC.pr (k := 1) (pc' := 13) (lv' := [(0, .ref (KB + (o + 1))), (1, .int x1)]) (st' := [.int ((bs.getD x1.toNatClampNeg 0) &&& 255)]) rfl ?_
  refine PC.pr (k := 1) (pc' := 14) (lv' := [(0, .ref (KB + (o + 1))), (1, .int x1)]) (st' := [.int ((((bs.getD x1.toNatClampNeg 0) &&& 255)).toUInt32 % 65536).toInt32]) rfl ?_
  exact PC.retI rfl h

/-- java/lang/String.checkIndex(II)V -/
theorem t_31_0 {xl : List Int32} {n : Nat} {ι : IS} {Q : Option Value → IS → Prop} {x0 : Int32} {x1 : Int32} (h : PC xl n 32 0 [(0, .int x0), (1, .int x1), (2, .ref (KB + 100))] [] ι (fun v1 κ1 => ∀ r1, v1 = some (.int r1) → Q none κ1)) : PC xl (n + 1) 31 0 [(0, .int x0), (1, .int x1)] [] ι Q := by
  refine PC.pr1 (k := 0) (pc' := 1) (lv' := [(0, .int x0), (1, .int x1)]) (st' := [.int x0]) rfl ?_
  refine PC.pr (k := 1) (pc' := 2) (lv' := [(0, .int x0), (1, .int x1)]) (st' := [.int x1, .int x0]) rfl ?_
  refine PC.pr (k := 1) (pc' := 5) (lv' := [(0, .int x0), (1, .int x1)]) (st' := [.ref (KB + 100), .int x1, .int x0]) rfl ?_
  refine (PC.callI (j := 32) (args := [.int x0, .int x1, .ref (KB + 100)]) (rest := []) (M := cM32) (ty := .int) rfl rfl rfl rfl rfl rfl (by decide) rfl rfl (by decide) ?_).weak
  refine PC.imp h (fun v1 κ1 h r1 hv => ?_)
  have h := h r1 hv
  refine PC.pr (k := 1) (pc' := 9) (lv' := [(0, .int x0), (1, .int x1)]) (st' := []) rfl ?_
  exact PC.retV rfl h

/-- jdk/internal/util/Preconditions.checkIndex(IILjava/util/function/BiFunction;)I -/
theorem t_32_0 {xl : List Int32} {n : Nat} {ι : IS} {Q : Option Value → IS → Prop} {x0 : Int32} {x1 : Int32} {a2 : Nat} (h : ((x0 < 0 → True) ∧ (¬ x0 < 0 → ((x0 < x1 → Q (some (.int x0)) ι) ∧ (¬ x0 < x1 → True))))) : PC xl (n + 1) 32 0 [(0, .int x0), (1, .int x1), (2, .ref a2)] [] ι Q := by
  refine PC.pr1 (k := 0) (pc' := 1) (lv' := [(0, .int x0), (1, .int x1), (2, .ref a2)]) (st' := [.int x0]) rfl ?_
  refine PC.if1 (t := 9) rfl rfl (fun c => ?_) (fun c => ?_)
  · have h := h.1 (cmp_lt.1.mp c)
    refine PC.pr (k := 1) (pc' := 10) (lv' := [(0, .int x0), (1, .int x1), (2, .ref a2)]) (st' := [.ref a2]) rfl ?_
    refine PC.pr (k := 1) (pc' := 11) (lv' := [(0, .int x0), (1, .int x1), (2, .ref a2)]) (st' := [.int x0, .ref a2]) rfl ?_
    refine PC.pr (k := 1) (pc' := 12) (lv' := [(0, .int x0), (1, .int x1), (2, .ref a2)]) (st' := [.int x1, .int x0, .ref a2]) rfl ?_
    exact PC.none rfl
  · have h := h.2 (cmp_lt.2.mp c)
    refine PC.pr (k := 1) (pc' := 5) (lv' := [(0, .int x0), (1, .int x1), (2, .ref a2)]) (st' := [.int x0]) rfl ?_
    refine PC.pr (k := 1) (pc' := 6) (lv' := [(0, .int x0), (1, .int x1), (2, .ref a2)]) (st' := [.int x1, .int x0]) rfl ?_
    refine PC.if2 (t := 16) rfl rfl (fun c => ?_) (fun c => ?_)
    · have h := h.1 (cmp_lt.1.mp c)
      refine PC.pr (k := 1) (pc' := 17) (lv' := [(0, .int x0), (1, .int x1), (2, .ref a2)]) (st' := [.int x0]) rfl ?_
      exact PC.retI rfl h
    · have h := h.2 (cmp_lt.2.mp c)
      refine PC.pr (k := 1) (pc' := 10) (lv' := [(0, .int x0), (1, .int x1), (2, .ref a2)]) (st' := [.ref a2]) rfl ?_
      refine PC.pr (k := 1) (pc' := 11) (lv' := [(0, .int x0), (1, .int x1), (2, .ref a2)]) (st' := [.int x0, .ref a2]) rfl ?_
      refine PC.pr (k := 1) (pc' := 12) (lv' := [(0, .int x0), (1, .int x1), (2, .ref a2)]) (st' := [.int x1, .int x0, .ref a2]) rfl ?_
      exact PC.none rfl

/-- DoorPaintsModel.lineNow()I -/
theorem t_155_0 {xl : List Int32} {n : Nat} {ι : IS} {Q : Option Value → IS → Prop} {a0 : Nat} (h : PC xl n 156 0 [(0, .ref a0), (1, .int 5), (2, .int 112), (3, .int 108), (4, .int 97)] [] ι (fun v1 κ1 => ∀ r1, v1 = some (.int r1) → ((r1 = 0 → PC xl n 155 28 [(0, .ref a0)] [] κ1 Q) ∧ (¬ r1 = 0 → PC xl n 157 0 [(0, .ref a0), (1, .int 105), (2, .int 110), (3, .int 0)] [] κ1 (fun v2 κ2 => ∀ r2, v2 = some (.int r2) → ((r2 = 0 → PC xl n 155 28 [(0, .ref a0)] [] κ2 Q) ∧ (¬ r2 = 0 → Q (some (.int 0)) κ2))))))) : PC xl (n + 1) 155 0 [(0, .ref a0)] [] ι Q := by
  refine PC.pr1 (k := 0) (pc' := 1) (lv' := [(0, .ref a0)]) (st' := [.ref a0]) rfl ?_
  refine PC.pr (k := 1) (pc' := 2) (lv' := [(0, .ref a0)]) (st' := [.int 5, .ref a0]) rfl ?_
  refine PC.pr (k := 1) (pc' := 4) (lv' := [(0, .ref a0)]) (st' := [.int 112, .int 5, .ref a0]) rfl ?_
  refine PC.pr (k := 1) (pc' := 6) (lv' := [(0, .ref a0)]) (st' := [.int 108, .int 112, .int 5, .ref a0]) rfl ?_
  refine PC.pr (k := 1) (pc' := 8) (lv' := [(0, .ref a0)]) (st' := [.int 97, .int 108, .int 112, .int 5, .ref a0]) rfl ?_
  refine (PC.callI (j := 156) (args := [.ref a0, .int 5, .int 112, .int 108, .int 97]) (rest := []) (M := cM156) (ty := .boolean) rfl rfl rfl rfl rfl rfl (by decide) rfl rfl (by decide) ?_).weak
  refine PC.imp h (fun v1 κ1 h r1 hv => ?_)
  have h := h r1 hv
  refine PC.if1 (t := 28) rfl rfl (fun c => ?_) (fun c => ?_)
  · have h := h.1 (cmp_eq.1.mp c)
    exact h
  · have h := h.2 (cmp_eq.2.mp c)
    refine PC.pr (k := 1) (pc' := 15) (lv' := [(0, .ref a0)]) (st' := [.ref a0]) rfl ?_
    refine PC.pr (k := 1) (pc' := 17) (lv' := [(0, .ref a0)]) (st' := [.int 105, .ref a0]) rfl ?_
    refine PC.pr (k := 1) (pc' := 19) (lv' := [(0, .ref a0)]) (st' := [.int 110, .int 105, .ref a0]) rfl ?_
    refine PC.pr (k := 1) (pc' := 20) (lv' := [(0, .ref a0)]) (st' := [.int 0, .int 110, .int 105, .ref a0]) rfl ?_
    refine (PC.callI (j := 157) (args := [.ref a0, .int 105, .int 110, .int 0]) (rest := []) (M := cM157) (ty := .boolean) rfl rfl rfl rfl rfl rfl (by decide) rfl rfl (by decide) ?_).weak
    refine PC.imp h (fun v2 κ2 h r2 hv => ?_)
    have h := h r2 hv
    refine PC.if1 (t := 28) rfl rfl (fun c => ?_) (fun c => ?_)
    · have h := h.1 (cmp_eq.1.mp c)
      exact h
    · have h := h.2 (cmp_eq.2.mp c)
      refine PC.pr (k := 1) (pc' := 27) (lv' := [(0, .ref a0)]) (st' := [.int 0]) rfl ?_
      exact PC.retI rfl h
theorem t_155_28 {xl : List Int32} {n : Nat} {ι : IS} {Q : Option Value → IS → Prop} {a0 : Nat} (h : PC xl n 156 0 [(0, .ref a0), (1, .int 6), (2, .int 112), (3, .int 114), (4, .int 105)] [] ι (fun v1 κ1 => ∀ r1, v1 = some (.int r1) → ((r1 = 0 → PC xl n 155 58 [(0, .ref a0)] [] κ1 Q) ∧ (¬ r1 = 0 → PC xl n 157 0 [(0, .ref a0), (1, .int 101), (2, .int 115), (3, .int 116)] [] κ1 (fun v2 κ2 => ∀ r2, v2 = some (.int r2) → ((r2 = 0 → PC xl n 155 58 [(0, .ref a0)] [] κ2 Q) ∧ (¬ r2 = 0 → Q (some (.int 1)) κ2))))))) : PC xl (n + 1) 155 28 [(0, .ref a0)] [] ι Q := by
  refine PC.pr1 (k := 0) (pc' := 29) (lv' := [(0, .ref a0)]) (st' := [.ref a0]) rfl ?_
  refine PC.pr (k := 1) (pc' := 31) (lv' := [(0, .ref a0)]) (st' := [.int 6, .ref a0]) rfl ?_
  refine PC.pr (k := 1) (pc' := 33) (lv' := [(0, .ref a0)]) (st' := [.int 112, .int 6, .ref a0]) rfl ?_
  refine PC.pr (k := 1) (pc' := 35) (lv' := [(0, .ref a0)]) (st' := [.int 114, .int 112, .int 6, .ref a0]) rfl ?_
  refine PC.pr (k := 1) (pc' := 37) (lv' := [(0, .ref a0)]) (st' := [.int 105, .int 114, .int 112, .int 6, .ref a0]) rfl ?_
  refine (PC.callI (j := 156) (args := [.ref a0, .int 6, .int 112, .int 114, .int 105]) (rest := []) (M := cM156) (ty := .boolean) rfl rfl rfl rfl rfl rfl (by decide) rfl rfl (by decide) ?_).weak
  refine PC.imp h (fun v1 κ1 h r1 hv => ?_)
  have h := h r1 hv
  refine PC.if1 (t := 58) rfl rfl (fun c => ?_) (fun c => ?_)
  · have h := h.1 (cmp_eq.1.mp c)
    exact h
  · have h := h.2 (cmp_eq.2.mp c)
    refine PC.pr (k := 1) (pc' := 44) (lv' := [(0, .ref a0)]) (st' := [.ref a0]) rfl ?_
    refine PC.pr (k := 1) (pc' := 46) (lv' := [(0, .ref a0)]) (st' := [.int 101, .ref a0]) rfl ?_
    refine PC.pr (k := 1) (pc' := 48) (lv' := [(0, .ref a0)]) (st' := [.int 115, .int 101, .ref a0]) rfl ?_
    refine PC.pr (k := 1) (pc' := 50) (lv' := [(0, .ref a0)]) (st' := [.int 116, .int 115, .int 101, .ref a0]) rfl ?_
    refine (PC.callI (j := 157) (args := [.ref a0, .int 101, .int 115, .int 116]) (rest := []) (M := cM157) (ty := .boolean) rfl rfl rfl rfl rfl rfl (by decide) rfl rfl (by decide) ?_).weak
    refine PC.imp h (fun v2 κ2 h r2 hv => ?_)
    have h := h r2 hv
    refine PC.if1 (t := 58) rfl rfl (fun c => ?_) (fun c => ?_)
    · have h := h.1 (cmp_eq.1.mp c)
      exact h
    · have h := h.2 (cmp_eq.2.mp c)
      refine PC.pr (k := 1) (pc' := 57) (lv' := [(0, .ref a0)]) (st' := [.int 1]) rfl ?_
      exact PC.retI rfl h
theorem t_155_58 {xl : List Int32} {n : Nat} {ι : IS} {Q : Option Value → IS → Prop} {a0 : Nat} (h : PC xl n 156 0 [(0, .ref a0), (1, .int 5), (2, .int 109), (3, .int 105), (4, .int 115)] [] ι (fun v1 κ1 => ∀ r1, v1 = some (.int r1) → ((r1 = 0 → PC xl n 155 86 [(0, .ref a0)] [] κ1 Q) ∧ (¬ r1 = 0 → PC xl n 157 0 [(0, .ref a0), (1, .int 101), (2, .int 114), (3, .int 0)] [] κ1 (fun v2 κ2 => ∀ r2, v2 = some (.int r2) → ((r2 = 0 → PC xl n 155 86 [(0, .ref a0)] [] κ2 Q) ∧ (¬ r2 = 0 → Q (some (.int 2)) κ2))))))) : PC xl (n + 1) 155 58 [(0, .ref a0)] [] ι Q := by
  refine PC.pr1 (k := 0) (pc' := 59) (lv' := [(0, .ref a0)]) (st' := [.ref a0]) rfl ?_
  refine PC.pr (k := 1) (pc' := 60) (lv' := [(0, .ref a0)]) (st' := [.int 5, .ref a0]) rfl ?_
  refine PC.pr (k := 1) (pc' := 62) (lv' := [(0, .ref a0)]) (st' := [.int 109, .int 5, .ref a0]) rfl ?_
  refine PC.pr (k := 1) (pc' := 64) (lv' := [(0, .ref a0)]) (st' := [.int 105, .int 109, .int 5, .ref a0]) rfl ?_
  refine PC.pr (k := 1) (pc' := 66) (lv' := [(0, .ref a0)]) (st' := [.int 115, .int 105, .int 109, .int 5, .ref a0]) rfl ?_
  refine (PC.callI (j := 156) (args := [.ref a0, .int 5, .int 109, .int 105, .int 115]) (rest := []) (M := cM156) (ty := .boolean) rfl rfl rfl rfl rfl rfl (by decide) rfl rfl (by decide) ?_).weak
  refine PC.imp h (fun v1 κ1 h r1 hv => ?_)
  have h := h r1 hv
  refine PC.if1 (t := 86) rfl rfl (fun c => ?_) (fun c => ?_)
  · have h := h.1 (cmp_eq.1.mp c)
    exact h
  · have h := h.2 (cmp_eq.2.mp c)
    refine PC.pr (k := 1) (pc' := 73) (lv' := [(0, .ref a0)]) (st' := [.ref a0]) rfl ?_
    refine PC.pr (k := 1) (pc' := 75) (lv' := [(0, .ref a0)]) (st' := [.int 101, .ref a0]) rfl ?_
    refine PC.pr (k := 1) (pc' := 77) (lv' := [(0, .ref a0)]) (st' := [.int 114, .int 101, .ref a0]) rfl ?_
    refine PC.pr (k := 1) (pc' := 78) (lv' := [(0, .ref a0)]) (st' := [.int 0, .int 114, .int 101, .ref a0]) rfl ?_
    refine (PC.callI (j := 157) (args := [.ref a0, .int 101, .int 114, .int 0]) (rest := []) (M := cM157) (ty := .boolean) rfl rfl rfl rfl rfl rfl (by decide) rfl rfl (by decide) ?_).weak
    refine PC.imp h (fun v2 κ2 h r2 hv => ?_)
    have h := h r2 hv
    refine PC.if1 (t := 86) rfl rfl (fun c => ?_) (fun c => ?_)
    · have h := h.1 (cmp_eq.1.mp c)
      exact h
    · have h := h.2 (cmp_eq.2.mp c)
      refine PC.pr (k := 1) (pc' := 85) (lv' := [(0, .ref a0)]) (st' := [.int 2]) rfl ?_
      exact PC.retI rfl h
theorem t_155_86 {xl : List Int32} {n : Nat} {ι : IS} {Q : Option Value → IS → Prop} {a0 : Nat} (h : PC xl n 156 0 [(0, .ref a0), (1, .int 3), (2, .int 115), (3, .int 112), (4, .int 121)] [] ι (fun v1 κ1 => ∀ r1, v1 = some (.int r1) → ((r1 = 0 → PC xl n 156 0 [(0, .ref a0), (1, .int 4), (2, .int 100), (3, .int 111), (4, .int 111)] [] κ1 (fun v2 κ2 => ∀ r2, v2 = some (.int r2) → ((r2 = 0 → PC xl n 155 129 [(0, .ref a0)] [] κ2 Q) ∧ (¬ r2 = 0 → PC xl n 157 0 [(0, .ref a0), (1, .int 114), (2, .int 0), (3, .int 0)] [] κ2 (fun v3 κ3 => ∀ r3, v3 = some (.int r3) → ((r3 = 0 → PC xl n 155 129 [(0, .ref a0)] [] κ3 Q) ∧ (¬ r3 = 0 → Q (some (.int 4)) κ3))))))) ∧ (¬ r1 = 0 → Q (some (.int 3)) κ1)))) : PC xl (n + 1) 155 86 [(0, .ref a0)] [] ι Q := by
  refine PC.pr1 (k := 0) (pc' := 87) (lv' := [(0, .ref a0)]) (st' := [.ref a0]) rfl ?_
  refine PC.pr (k := 1) (pc' := 88) (lv' := [(0, .ref a0)]) (st' := [.int 3, .ref a0]) rfl ?_
  refine PC.pr (k := 1) (pc' := 90) (lv' := [(0, .ref a0)]) (st' := [.int 115, .int 3, .ref a0]) rfl ?_
  refine PC.pr (k := 1) (pc' := 92) (lv' := [(0, .ref a0)]) (st' := [.int 112, .int 115, .int 3, .ref a0]) rfl ?_
  refine PC.pr (k := 1) (pc' := 94) (lv' := [(0, .ref a0)]) (st' := [.int 121, .int 112, .int 115, .int 3, .ref a0]) rfl ?_
  refine (PC.callI (j := 156) (args := [.ref a0, .int 3, .int 115, .int 112, .int 121]) (rest := []) (M := cM156) (ty := .boolean) rfl rfl rfl rfl rfl rfl (by decide) rfl rfl (by decide) ?_).weak
  refine PC.imp h (fun v1 κ1 h r1 hv => ?_)
  have h := h r1 hv
  refine PC.if1 (t := 102) rfl rfl (fun c => ?_) (fun c => ?_)
  · have h := h.1 (cmp_eq.1.mp c)
    refine PC.pr (k := 1) (pc' := 103) (lv' := [(0, .ref a0)]) (st' := [.ref a0]) rfl ?_
    refine PC.pr (k := 1) (pc' := 104) (lv' := [(0, .ref a0)]) (st' := [.int 4, .ref a0]) rfl ?_
    refine PC.pr (k := 1) (pc' := 106) (lv' := [(0, .ref a0)]) (st' := [.int 100, .int 4, .ref a0]) rfl ?_
    refine PC.pr (k := 1) (pc' := 108) (lv' := [(0, .ref a0)]) (st' := [.int 111, .int 100, .int 4, .ref a0]) rfl ?_
    refine PC.pr (k := 1) (pc' := 110) (lv' := [(0, .ref a0)]) (st' := [.int 111, .int 111, .int 100, .int 4, .ref a0]) rfl ?_
    refine (PC.callI (j := 156) (args := [.ref a0, .int 4, .int 100, .int 111, .int 111]) (rest := []) (M := cM156) (ty := .boolean) rfl rfl rfl rfl rfl rfl (by decide) rfl rfl (by decide) ?_).weak
    refine PC.imp h (fun v2 κ2 h r2 hv => ?_)
    have h := h r2 hv
    refine PC.if1 (t := 129) rfl rfl (fun c => ?_) (fun c => ?_)
    · have h := h.1 (cmp_eq.1.mp c)
      exact h
    · have h := h.2 (cmp_eq.2.mp c)
      refine PC.pr (k := 1) (pc' := 117) (lv' := [(0, .ref a0)]) (st' := [.ref a0]) rfl ?_
      refine PC.pr (k := 1) (pc' := 119) (lv' := [(0, .ref a0)]) (st' := [.int 114, .ref a0]) rfl ?_
      refine PC.pr (k := 1) (pc' := 120) (lv' := [(0, .ref a0)]) (st' := [.int 0, .int 114, .ref a0]) rfl ?_
      refine PC.pr (k := 1) (pc' := 121) (lv' := [(0, .ref a0)]) (st' := [.int 0, .int 0, .int 114, .ref a0]) rfl ?_
      refine (PC.callI (j := 157) (args := [.ref a0, .int 114, .int 0, .int 0]) (rest := []) (M := cM157) (ty := .boolean) rfl rfl rfl rfl rfl rfl (by decide) rfl rfl (by decide) ?_).weak
      refine PC.imp h (fun v3 κ3 h r3 hv => ?_)
      have h := h r3 hv
      refine PC.if1 (t := 129) rfl rfl (fun c => ?_) (fun c => ?_)
      · have h := h.1 (cmp_eq.1.mp c)
        exact h
      · have h := h.2 (cmp_eq.2.mp c)
        refine PC.pr (k := 1) (pc' := 128) (lv' := [(0, .ref a0)]) (st' := [.int 4]) rfl ?_
        exact PC.retI rfl h
  · have h := h.2 (cmp_eq.2.mp c)
    refine PC.pr (k := 1) (pc' := 101) (lv' := [(0, .ref a0)]) (st' := [.int 3]) rfl ?_
    exact PC.retI rfl h
theorem t_155_129 {xl : List Int32} {n : Nat} {ι : IS} {Q : Option Value → IS → Prop} {a0 : Nat} (h : PC xl n 156 0 [(0, .ref a0), (1, .int 3), (2, .int 110), (3, .int 111), (4, .int 116)] [] ι (fun v1 κ1 => ∀ r1, v1 = some (.int r1) → ((r1 = 0 → PC xl n 156 0 [(0, .ref a0), (1, .int 4), (2, .int 112), (3, .int 108), (4, .int 97)] [] κ1 (fun v2 κ2 => ∀ r2, v2 = some (.int r2) → ((r2 = 0 → Q (some (.int (-4))) κ2) ∧ (¬ r2 = 0 → PC xl n 157 0 [(0, .ref a0), (1, .int 110), (2, .int 0), (3, .int 0)] [] κ2 (fun v3 κ3 => ∀ r3, v3 = some (.int r3) → ((r3 = 0 → Q (some (.int (-4))) κ3) ∧ (¬ r3 = 0 → Q (some (.int 6)) κ3))))))) ∧ (¬ r1 = 0 → Q (some (.int 5)) κ1)))) : PC xl (n + 1) 155 129 [(0, .ref a0)] [] ι Q := by
  refine PC.pr1 (k := 0) (pc' := 130) (lv' := [(0, .ref a0)]) (st' := [.ref a0]) rfl ?_
  refine PC.pr (k := 1) (pc' := 131) (lv' := [(0, .ref a0)]) (st' := [.int 3, .ref a0]) rfl ?_
  refine PC.pr (k := 1) (pc' := 133) (lv' := [(0, .ref a0)]) (st' := [.int 110, .int 3, .ref a0]) rfl ?_
  refine PC.pr (k := 1) (pc' := 135) (lv' := [(0, .ref a0)]) (st' := [.int 111, .int 110, .int 3, .ref a0]) rfl ?_
  refine PC.pr (k := 1) (pc' := 137) (lv' := [(0, .ref a0)]) (st' := [.int 116, .int 111, .int 110, .int 3, .ref a0]) rfl ?_
  refine (PC.callI (j := 156) (args := [.ref a0, .int 3, .int 110, .int 111, .int 116]) (rest := []) (M := cM156) (ty := .boolean) rfl rfl rfl rfl rfl rfl (by decide) rfl rfl (by decide) ?_).weak
  refine PC.imp h (fun v1 κ1 h r1 hv => ?_)
  have h := h r1 hv
  refine PC.if1 (t := 147) rfl rfl (fun c => ?_) (fun c => ?_)
  · have h := h.1 (cmp_eq.1.mp c)
    refine PC.pr (k := 1) (pc' := 148) (lv' := [(0, .ref a0)]) (st' := [.ref a0]) rfl ?_
    refine PC.pr (k := 1) (pc' := 149) (lv' := [(0, .ref a0)]) (st' := [.int 4, .ref a0]) rfl ?_
    refine PC.pr (k := 1) (pc' := 151) (lv' := [(0, .ref a0)]) (st' := [.int 112, .int 4, .ref a0]) rfl ?_
    refine PC.pr (k := 1) (pc' := 153) (lv' := [(0, .ref a0)]) (st' := [.int 108, .int 112, .int 4, .ref a0]) rfl ?_
    refine PC.pr (k := 1) (pc' := 155) (lv' := [(0, .ref a0)]) (st' := [.int 97, .int 108, .int 112, .int 4, .ref a0]) rfl ?_
    refine (PC.callI (j := 156) (args := [.ref a0, .int 4, .int 112, .int 108, .int 97]) (rest := []) (M := cM156) (ty := .boolean) rfl rfl rfl rfl rfl rfl (by decide) rfl rfl (by decide) ?_).weak
    refine PC.imp h (fun v2 κ2 h r2 hv => ?_)
    have h := h r2 hv
    refine PC.if1 (t := 177) rfl rfl (fun c => ?_) (fun c => ?_)
    · have h := h.1 (cmp_eq.1.mp c)
      refine PC.pr (k := 1) (pc' := 179) (lv' := [(0, .ref a0)]) (st' := [.int (-4)]) rfl ?_
      exact PC.retI rfl h
    · have h := h.2 (cmp_eq.2.mp c)
      refine PC.pr (k := 1) (pc' := 162) (lv' := [(0, .ref a0)]) (st' := [.ref a0]) rfl ?_
      refine PC.pr (k := 1) (pc' := 164) (lv' := [(0, .ref a0)]) (st' := [.int 110, .ref a0]) rfl ?_
      refine PC.pr (k := 1) (pc' := 165) (lv' := [(0, .ref a0)]) (st' := [.int 0, .int 110, .ref a0]) rfl ?_
      refine PC.pr (k := 1) (pc' := 166) (lv' := [(0, .ref a0)]) (st' := [.int 0, .int 0, .int 110, .ref a0]) rfl ?_
      refine (PC.callI (j := 157) (args := [.ref a0, .int 110, .int 0, .int 0]) (rest := []) (M := cM157) (ty := .boolean) rfl rfl rfl rfl rfl rfl (by decide) rfl rfl (by decide) ?_).weak
      refine PC.imp h (fun v3 κ3 h r3 hv => ?_)
      have h := h r3 hv
      refine PC.if1 (t := 177) rfl rfl (fun c => ?_) (fun c => ?_)
      · have h := h.1 (cmp_eq.1.mp c)
        refine PC.pr (k := 1) (pc' := 179) (lv' := [(0, .ref a0)]) (st' := [.int (-4)]) rfl ?_
        exact PC.retI rfl h
      · have h := h.2 (cmp_eq.2.mp c)
        refine PC.pr (k := 1) (pc' := 174) (lv' := [(0, .ref a0)]) (st' := [.int 6]) rfl ?_
        refine PC.pr (k := 1) (pc' := 179) (lv' := [(0, .ref a0)]) (st' := [.int 6]) rfl ?_
        exact PC.retI rfl h
  · have h := h.2 (cmp_eq.2.mp c)
    refine PC.pr (k := 1) (pc' := 144) (lv' := [(0, .ref a0)]) (st' := [.int 5]) rfl ?_
    refine PC.pr (k := 1) (pc' := 179) (lv' := [(0, .ref a0)]) (st' := [.int 5]) rfl ?_
    exact PC.retI rfl h

/-- DoorPaintsModel.is(IIII)Z -/
theorem t_156_0 {xl : List Int32} {n : Nat} {ι : IS} {Q : Option Value → IS → Prop} {a0 : Nat} {x1 : Int32} {x2 : Int32} {x3 : Int32} {x4 : Int32} (h : ((¬ ((ι a0 14) - (ι a0 15)) = x1 → Q (some (.int 0)) ι) ∧ (((ι a0 14) - (ι a0 15)) = x1 → PC xl n 152 0 [(0, .ref a0), (1, .int (ι a0 15))] [] ι (fun v1 κ1 => ∀ r1, v1 = some (.int r1) → ((¬ r1 = x2 → Q (some (.int 0)) κ1) ∧ (r1 = x2 → PC xl n 152 0 [(0, .ref a0), (1, .int ((κ1 a0 15) + 1))] [] κ1 (fun v2 κ2 => ∀ r2, v2 = some (.int r2) → ((¬ r2 = x3 → Q (some (.int 0)) κ2) ∧ (r2 = x3 → PC xl n 152 0 [(0, .ref a0), (1, .int ((κ2 a0 15) + 2))] [] κ2 (fun v3 κ3 => ∀ r3, v3 = some (.int r3) → ((¬ r3 = x4 → Q (some (.int 0)) κ3) ∧ (r3 = x4 → Q (some (.int 1)) κ3)))))))))))) : PC xl (n + 1) 156 0 [(0, .ref a0), (1, .int x1), (2, .int x2), (3, .int x3), (4, .int x4)] [] ι Q := by
  refine PC.pr1 (k := 0) (pc' := 1) (lv' := [(0, .ref a0), (1, .int x1), (2, .int x2), (3, .int x3), (4, .int x4)]) (st' := [.ref a0]) rfl ?_
  refine PC.gI (ci := 9) (j := 14) rfl rfl (by decide) ?_
  refine PC.pr (k := 1) (pc' := 5) (lv' := [(0, .ref a0), (1, .int x1), (2, .int x2), (3, .int x3), (4, .int x4)]) (st' := [.ref a0, .int (ι a0 14)]) rfl ?_
  refine PC.gI (ci := 9) (j := 15) rfl rfl (by decide) ?_
  refine PC.pr (k := 1) (pc' := 9) (lv' := [(0, .ref a0), (1, .int x1), (2, .int x2), (3, .int x3), (4, .int x4)]) (st' := [.int ((ι a0 14) - (ι a0 15))]) rfl ?_
  refine PC.pr (k := 1) (pc' := 10) (lv' := [(0, .ref a0), (1, .int x1), (2, .int x2), (3, .int x3), (4, .int x4)]) (st' := [.int x1, .int ((ι a0 14) - (ι a0 15))]) rfl ?_
  refine PC.if2 (t := 58) rfl rfl (fun c => ?_) (fun c => ?_)
  · have h := h.1 (cmp_ne.1.mp c)
    refine PC.pr (k := 1) (pc' := 59) (lv' := [(0, .ref a0), (1, .int x1), (2, .int x2), (3, .int x3), (4, .int x4)]) (st' := [.int 0]) rfl ?_
    exact PC.retI rfl h
  · have h := h.2 (cmp_ne.2.mp c)
    refine PC.pr (k := 1) (pc' := 14) (lv' := [(0, .ref a0), (1, .int x1), (2, .int x2), (3, .int x3), (4, .int x4)]) (st' := [.ref a0]) rfl ?_
    refine PC.pr (k := 1) (pc' := 15) (lv' := [(0, .ref a0), (1, .int x1), (2, .int x2), (3, .int x3), (4, .int x4)]) (st' := [.ref a0, .ref a0]) rfl ?_
    refine PC.gI (ci := 9) (j := 15) rfl rfl (by decide) ?_
    refine (PC.callI (j := 152) (args := [.ref a0, .int (ι a0 15)]) (rest := []) (M := cM152) (ty := .int) rfl rfl rfl rfl rfl rfl (by decide) rfl rfl (by decide) ?_).weak
    refine PC.imp h (fun v1 κ1 h r1 hv => ?_)
    have h := h r1 hv
    refine PC.pr (k := 1) (pc' := 22) (lv' := [(0, .ref a0), (1, .int x1), (2, .int x2), (3, .int x3), (4, .int x4)]) (st' := [.int x2, .int r1]) rfl ?_
    refine PC.if2 (t := 58) rfl rfl (fun c => ?_) (fun c => ?_)
    · have h := h.1 (cmp_ne.1.mp c)
      refine PC.pr (k := 1) (pc' := 59) (lv' := [(0, .ref a0), (1, .int x1), (2, .int x2), (3, .int x3), (4, .int x4)]) (st' := [.int 0]) rfl ?_
      exact PC.retI rfl h
    · have h := h.2 (cmp_ne.2.mp c)
      refine PC.pr (k := 1) (pc' := 26) (lv' := [(0, .ref a0), (1, .int x1), (2, .int x2), (3, .int x3), (4, .int x4)]) (st' := [.ref a0]) rfl ?_
      refine PC.pr (k := 1) (pc' := 27) (lv' := [(0, .ref a0), (1, .int x1), (2, .int x2), (3, .int x3), (4, .int x4)]) (st' := [.ref a0, .ref a0]) rfl ?_
      refine PC.gI (ci := 9) (j := 15) rfl rfl (by decide) ?_
      refine PC.pr (k := 1) (pc' := 31) (lv' := [(0, .ref a0), (1, .int x1), (2, .int x2), (3, .int x3), (4, .int x4)]) (st' := [.int 1, .int (κ1 a0 15), .ref a0]) rfl ?_
      refine PC.pr (k := 1) (pc' := 32) (lv' := [(0, .ref a0), (1, .int x1), (2, .int x2), (3, .int x3), (4, .int x4)]) (st' := [.int ((κ1 a0 15) + 1), .ref a0]) rfl ?_
      refine (PC.callI (j := 152) (args := [.ref a0, .int ((κ1 a0 15) + 1)]) (rest := []) (M := cM152) (ty := .int) rfl rfl rfl rfl rfl rfl (by decide) rfl rfl (by decide) ?_).weak
      refine PC.imp h (fun v2 κ2 h r2 hv => ?_)
      have h := h r2 hv
      refine PC.pr (k := 1) (pc' := 36) (lv' := [(0, .ref a0), (1, .int x1), (2, .int x2), (3, .int x3), (4, .int x4)]) (st' := [.int x3, .int r2]) rfl ?_
      refine PC.if2 (t := 58) rfl rfl (fun c => ?_) (fun c => ?_)
      · have h := h.1 (cmp_ne.1.mp c)
        refine PC.pr (k := 1) (pc' := 59) (lv' := [(0, .ref a0), (1, .int x1), (2, .int x2), (3, .int x3), (4, .int x4)]) (st' := [.int 0]) rfl ?_
        exact PC.retI rfl h
      · have h := h.2 (cmp_ne.2.mp c)
        refine PC.pr (k := 1) (pc' := 40) (lv' := [(0, .ref a0), (1, .int x1), (2, .int x2), (3, .int x3), (4, .int x4)]) (st' := [.ref a0]) rfl ?_
        refine PC.pr (k := 1) (pc' := 41) (lv' := [(0, .ref a0), (1, .int x1), (2, .int x2), (3, .int x3), (4, .int x4)]) (st' := [.ref a0, .ref a0]) rfl ?_
        refine PC.gI (ci := 9) (j := 15) rfl rfl (by decide) ?_
        refine PC.pr (k := 1) (pc' := 45) (lv' := [(0, .ref a0), (1, .int x1), (2, .int x2), (3, .int x3), (4, .int x4)]) (st' := [.int 2, .int (κ2 a0 15), .ref a0]) rfl ?_
        refine PC.pr (k := 1) (pc' := 46) (lv' := [(0, .ref a0), (1, .int x1), (2, .int x2), (3, .int x3), (4, .int x4)]) (st' := [.int ((κ2 a0 15) + 2), .ref a0]) rfl ?_
        refine (PC.callI (j := 152) (args := [.ref a0, .int ((κ2 a0 15) + 2)]) (rest := []) (M := cM152) (ty := .int) rfl rfl rfl rfl rfl rfl (by decide) rfl rfl (by decide) ?_).weak
        refine PC.imp h (fun v3 κ3 h r3 hv => ?_)
        have h := h r3 hv
        refine PC.pr (k := 1) (pc' := 51) (lv' := [(0, .ref a0), (1, .int x1), (2, .int x2), (3, .int x3), (4, .int x4)]) (st' := [.int x4, .int r3]) rfl ?_
        refine PC.if2 (t := 58) rfl rfl (fun c => ?_) (fun c => ?_)
        · have h := h.1 (cmp_ne.1.mp c)
          refine PC.pr (k := 1) (pc' := 59) (lv' := [(0, .ref a0), (1, .int x1), (2, .int x2), (3, .int x3), (4, .int x4)]) (st' := [.int 0]) rfl ?_
          exact PC.retI rfl h
        · have h := h.2 (cmp_ne.2.mp c)
          refine PC.pr (k := 1) (pc' := 55) (lv' := [(0, .ref a0), (1, .int x1), (2, .int x2), (3, .int x3), (4, .int x4)]) (st' := [.int 1]) rfl ?_
          refine PC.pr (k := 1) (pc' := 59) (lv' := [(0, .ref a0), (1, .int x1), (2, .int x2), (3, .int x3), (4, .int x4)]) (st' := [.int 1]) rfl ?_
          exact PC.retI rfl h

/-- DoorPaintsModel.ends(III)Z -/
theorem t_157_0 {xl : List Int32} {n : Nat} {ι : IS} {Q : Option Value → IS → Prop} {a0 : Nat} {x1 : Int32} {x2 : Int32} {x3 : Int32} (h : PC xl n 152 0 [(0, .ref a0), (1, .int ((ι a0 15) + 3))] [] ι (fun v1 κ1 => ∀ r1, v1 = some (.int r1) → ((¬ r1 = x1 → Q (some (.int 0)) κ1) ∧ (r1 = x1 → ((x2 = 0 → ((x3 = 0 → Q (some (.int 1)) κ1) ∧ (¬ x3 = 0 → PC xl n 152 0 [(0, .ref a0), (1, .int ((κ1 a0 15) + 5))] [] κ1 (fun v2 κ2 => ∀ r2, v2 = some (.int r2) → ((¬ r2 = x3 → Q (some (.int 0)) κ2) ∧ (r2 = x3 → Q (some (.int 1)) κ2)))))) ∧ (¬ x2 = 0 → PC xl n 152 0 [(0, .ref a0), (1, .int ((κ1 a0 15) + 4))] [] κ1 (fun v3 κ3 => ∀ r3, v3 = some (.int r3) → ((¬ r3 = x2 → Q (some (.int 0)) κ3) ∧ (r3 = x2 → ((x3 = 0 → Q (some (.int 1)) κ3) ∧ (¬ x3 = 0 → PC xl n 152 0 [(0, .ref a0), (1, .int ((κ3 a0 15) + 5))] [] κ3 (fun v4 κ4 => ∀ r4, v4 = some (.int r4) → ((¬ r4 = x3 → Q (some (.int 0)) κ4) ∧ (r4 = x3 → Q (some (.int 1)) κ4)))))))))))))) : PC xl (n + 1) 157 0 [(0, .ref a0), (1, .int x1), (2, .int x2), (3, .int x3)] [] ι Q := by
  refine PC.pr1 (k := 0) (pc' := 1) (lv' := [(0, .ref a0), (1, .int x1), (2, .int x2), (3, .int x3)]) (st' := [.ref a0]) rfl ?_
  refine PC.pr (k := 1) (pc' := 2) (lv' := [(0, .ref a0), (1, .int x1), (2, .int x2), (3, .int x3)]) (st' := [.ref a0, .ref a0]) rfl ?_
  refine PC.gI (ci := 9) (j := 15) rfl rfl (by decide) ?_
  refine PC.pr (k := 1) (pc' := 6) (lv' := [(0, .ref a0), (1, .int x1), (2, .int x2), (3, .int x3)]) (st' := [.int 3, .int (ι a0 15), .ref a0]) rfl ?_
  refine PC.pr (k := 1) (pc' := 7) (lv' := [(0, .ref a0), (1, .int x1), (2, .int x2), (3, .int x3)]) (st' := [.int ((ι a0 15) + 3), .ref a0]) rfl ?_
  refine (PC.callI (j := 152) (args := [.ref a0, .int ((ι a0 15) + 3)]) (rest := []) (M := cM152) (ty := .int) rfl rfl rfl rfl rfl rfl (by decide) rfl rfl (by decide) ?_).weak
  refine PC.imp h (fun v1 κ1 h r1 hv => ?_)
  have h := h r1 hv
  refine PC.pr (k := 1) (pc' := 11) (lv' := [(0, .ref a0), (1, .int x1), (2, .int x2), (3, .int x3)]) (st' := [.int x1, .int r1]) rfl ?_
  refine PC.if2 (t := 54) rfl rfl (fun c => ?_) (fun c => ?_)
  · have h := h.1 (cmp_ne.1.mp c)
    refine PC.pr (k := 1) (pc' := 55) (lv' := [(0, .ref a0), (1, .int x1), (2, .int x2), (3, .int x3)]) (st' := [.int 0]) rfl ?_
    exact PC.retI rfl h
  · have h := h.2 (cmp_ne.2.mp c)
    refine PC.pr (k := 1) (pc' := 15) (lv' := [(0, .ref a0), (1, .int x1), (2, .int x2), (3, .int x3)]) (st' := [.int x2]) rfl ?_
    refine PC.if1 (t := 32) rfl rfl (fun c => ?_) (fun c => ?_)
    · have h := h.1 (cmp_eq.1.mp c)
      refine PC.pr (k := 1) (pc' := 33) (lv' := [(0, .ref a0), (1, .int x1), (2, .int x2), (3, .int x3)]) (st' := [.int x3]) rfl ?_
      refine PC.if1 (t := 50) rfl rfl (fun c => ?_) (fun c => ?_)
      · have h := h.1 (cmp_eq.1.mp c)
        refine PC.pr (k := 1) (pc' := 51) (lv' := [(0, .ref a0), (1, .int x1), (2, .int x2), (3, .int x3)]) (st' := [.int 1]) rfl ?_
        refine PC.pr (k := 1) (pc' := 55) (lv' := [(0, .ref a0), (1, .int x1), (2, .int x2), (3, .int x3)]) (st' := [.int 1]) rfl ?_
        exact PC.retI rfl h
      · have h := h.2 (cmp_eq.2.mp c)
        refine PC.pr (k := 1) (pc' := 37) (lv' := [(0, .ref a0), (1, .int x1), (2, .int x2), (3, .int x3)]) (st' := [.ref a0]) rfl ?_
        refine PC.pr (k := 1) (pc' := 38) (lv' := [(0, .ref a0), (1, .int x1), (2, .int x2), (3, .int x3)]) (st' := [.ref a0, .ref a0]) rfl ?_
        refine PC.gI (ci := 9) (j := 15) rfl rfl (by decide) ?_
        refine PC.pr (k := 1) (pc' := 42) (lv' := [(0, .ref a0), (1, .int x1), (2, .int x2), (3, .int x3)]) (st' := [.int 5, .int (κ1 a0 15), .ref a0]) rfl ?_
        refine PC.pr (k := 1) (pc' := 43) (lv' := [(0, .ref a0), (1, .int x1), (2, .int x2), (3, .int x3)]) (st' := [.int ((κ1 a0 15) + 5), .ref a0]) rfl ?_
        refine (PC.callI (j := 152) (args := [.ref a0, .int ((κ1 a0 15) + 5)]) (rest := []) (M := cM152) (ty := .int) rfl rfl rfl rfl rfl rfl (by decide) rfl rfl (by decide) ?_).weak
        refine PC.imp h (fun v2 κ2 h r2 hv => ?_)
        have h := h r2 hv
        refine PC.pr (k := 1) (pc' := 47) (lv' := [(0, .ref a0), (1, .int x1), (2, .int x2), (3, .int x3)]) (st' := [.int x3, .int r2]) rfl ?_
        refine PC.if2 (t := 54) rfl rfl (fun c => ?_) (fun c => ?_)
        · have h := h.1 (cmp_ne.1.mp c)
          refine PC.pr (k := 1) (pc' := 55) (lv' := [(0, .ref a0), (1, .int x1), (2, .int x2), (3, .int x3)]) (st' := [.int 0]) rfl ?_
          exact PC.retI rfl h
        · have h := h.2 (cmp_ne.2.mp c)
          refine PC.pr (k := 1) (pc' := 51) (lv' := [(0, .ref a0), (1, .int x1), (2, .int x2), (3, .int x3)]) (st' := [.int 1]) rfl ?_
          refine PC.pr (k := 1) (pc' := 55) (lv' := [(0, .ref a0), (1, .int x1), (2, .int x2), (3, .int x3)]) (st' := [.int 1]) rfl ?_
          exact PC.retI rfl h
    · have h := h.2 (cmp_eq.2.mp c)
      refine PC.pr (k := 1) (pc' := 19) (lv' := [(0, .ref a0), (1, .int x1), (2, .int x2), (3, .int x3)]) (st' := [.ref a0]) rfl ?_
      refine PC.pr (k := 1) (pc' := 20) (lv' := [(0, .ref a0), (1, .int x1), (2, .int x2), (3, .int x3)]) (st' := [.ref a0, .ref a0]) rfl ?_
      refine PC.gI (ci := 9) (j := 15) rfl rfl (by decide) ?_
      refine PC.pr (k := 1) (pc' := 24) (lv' := [(0, .ref a0), (1, .int x1), (2, .int x2), (3, .int x3)]) (st' := [.int 4, .int (κ1 a0 15), .ref a0]) rfl ?_
      refine PC.pr (k := 1) (pc' := 25) (lv' := [(0, .ref a0), (1, .int x1), (2, .int x2), (3, .int x3)]) (st' := [.int ((κ1 a0 15) + 4), .ref a0]) rfl ?_
      refine (PC.callI (j := 152) (args := [.ref a0, .int ((κ1 a0 15) + 4)]) (rest := []) (M := cM152) (ty := .int) rfl rfl rfl rfl rfl rfl (by decide) rfl rfl (by decide) ?_).weak
      refine PC.imp h (fun v3 κ3 h r3 hv => ?_)
      have h := h r3 hv
      refine PC.pr (k := 1) (pc' := 29) (lv' := [(0, .ref a0), (1, .int x1), (2, .int x2), (3, .int x3)]) (st' := [.int x2, .int r3]) rfl ?_
      refine PC.if2 (t := 54) rfl rfl (fun c => ?_) (fun c => ?_)
      · have h := h.1 (cmp_ne.1.mp c)
        refine PC.pr (k := 1) (pc' := 55) (lv' := [(0, .ref a0), (1, .int x1), (2, .int x2), (3, .int x3)]) (st' := [.int 0]) rfl ?_
        exact PC.retI rfl h
      · have h := h.2 (cmp_ne.2.mp c)
        refine PC.pr (k := 1) (pc' := 33) (lv' := [(0, .ref a0), (1, .int x1), (2, .int x2), (3, .int x3)]) (st' := [.int x3]) rfl ?_
        refine PC.if1 (t := 50) rfl rfl (fun c => ?_) (fun c => ?_)
        · have h := h.1 (cmp_eq.1.mp c)
          refine PC.pr (k := 1) (pc' := 51) (lv' := [(0, .ref a0), (1, .int x1), (2, .int x2), (3, .int x3)]) (st' := [.int 1]) rfl ?_
          refine PC.pr (k := 1) (pc' := 55) (lv' := [(0, .ref a0), (1, .int x1), (2, .int x2), (3, .int x3)]) (st' := [.int 1]) rfl ?_
          exact PC.retI rfl h
        · have h := h.2 (cmp_eq.2.mp c)
          refine PC.pr (k := 1) (pc' := 37) (lv' := [(0, .ref a0), (1, .int x1), (2, .int x2), (3, .int x3)]) (st' := [.ref a0]) rfl ?_
          refine PC.pr (k := 1) (pc' := 38) (lv' := [(0, .ref a0), (1, .int x1), (2, .int x2), (3, .int x3)]) (st' := [.ref a0, .ref a0]) rfl ?_
          refine PC.gI (ci := 9) (j := 15) rfl rfl (by decide) ?_
          refine PC.pr (k := 1) (pc' := 42) (lv' := [(0, .ref a0), (1, .int x1), (2, .int x2), (3, .int x3)]) (st' := [.int 5, .int (κ3 a0 15), .ref a0]) rfl ?_
          refine PC.pr (k := 1) (pc' := 43) (lv' := [(0, .ref a0), (1, .int x1), (2, .int x2), (3, .int x3)]) (st' := [.int ((κ3 a0 15) + 5), .ref a0]) rfl ?_
          refine (PC.callI (j := 152) (args := [.ref a0, .int ((κ3 a0 15) + 5)]) (rest := []) (M := cM152) (ty := .int) rfl rfl rfl rfl rfl rfl (by decide) rfl rfl (by decide) ?_).weak
          refine PC.imp h (fun v4 κ4 h r4 hv => ?_)
          have h := h r4 hv
          refine PC.pr (k := 1) (pc' := 47) (lv' := [(0, .ref a0), (1, .int x1), (2, .int x2), (3, .int x3)]) (st' := [.int x3, .int r4]) rfl ?_
          refine PC.if2 (t := 54) rfl rfl (fun c => ?_) (fun c => ?_)
          · have h := h.1 (cmp_ne.1.mp c)
            refine PC.pr (k := 1) (pc' := 55) (lv' := [(0, .ref a0), (1, .int x1), (2, .int x2), (3, .int x3)]) (st' := [.int 0]) rfl ?_
            exact PC.retI rfl h
          · have h := h.2 (cmp_ne.2.mp c)
            refine PC.pr (k := 1) (pc' := 51) (lv' := [(0, .ref a0), (1, .int x1), (2, .int x2), (3, .int x3)]) (st' := [.int 1]) rfl ?_
            refine PC.pr (k := 1) (pc' := 55) (lv' := [(0, .ref a0), (1, .int x1), (2, .int x2), (3, .int x3)]) (st' := [.int 1]) rfl ?_
            exact PC.retI rfl h

