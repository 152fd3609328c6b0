section
/-! THE LAW, place by place (written by a program) -/
theorem l_18 {xl : List Int32} {n : Nat} {F : MH} {Q : Option Value → MH → Prop} {x3 : Int32} (h : ((((Int32.ofNat xl.length) - 5) < x3 → Q (some (.int 1)) F) ∧ (¬ ((Int32.ofNat xl.length) - 5) < x3 → (0 ≤ x3.toInt → x3.toInt < xl.length → ((((xl.getD x3.toNatClampNeg 0) &&& 63).toInt = 0 → PF (tRo xl) n 0 196 [(3, .int x3), (2, .ref 129), (1, .ref 0), (0, .ref KB)] [] F Q) ∧ (((xl.getD x3.toNatClampNeg 0) &&& 63).toInt = 1 → PF (tRo xl) n 0 219 [(3, .int x3), (2, .ref 129), (1, .ref 0), (0, .ref KB)] [] F Q) ∧ (((xl.getD x3.toNatClampNeg 0) &&& 63).toInt = 2 → PF (tRo xl) n 0 242 [(3, .int x3), (2, .ref 129), (1, .ref 0), (0, .ref KB)] [] F Q) ∧ (((xl.getD x3.toNatClampNeg 0) &&& 63).toInt = 3 → PF (tRo xl) n 0 255 [(3, .int x3), (2, .ref 129), (1, .ref 0), (0, .ref KB)] [] F Q) ∧ (((xl.getD x3.toNatClampNeg 0) &&& 63).toInt = 4 → PF (tRo xl) n 0 268 [(3, .int x3), (2, .ref 129), (1, .ref 0), (0, .ref KB)] [] F Q) ∧ (((xl.getD x3.toNatClampNeg 0) &&& 63).toInt = 5 → PF (tRo xl) n 0 291 [(3, .int x3), (2, .ref 129), (1, .ref 0), (0, .ref KB)] [] F Q) ∧ (((xl.getD x3.toNatClampNeg 0) &&& 63).toInt = 6 → PF (tRo xl) n 0 324 [(3, .int x3), (2, .ref 129), (1, .ref 0), (0, .ref KB)] [] F Q) ∧ (((xl.getD x3.toNatClampNeg 0) &&& 63).toInt = 7 → PF (tRo xl) n 0 357 [(3, .int x3), (2, .ref 129), (1, .ref 0), (0, .ref KB)] [] F Q) ∧ (((xl.getD x3.toNatClampNeg 0) &&& 63).toInt = 8 → PF (tRo xl) n 0 380 [(3, .int x3), (2, .ref 129), (1, .ref 0), (0, .ref KB)] [] F Q) ∧ (((xl.getD x3.toNatClampNeg 0) &&& 63).toInt = 9 → PF (tRo xl) n 0 413 [(3, .int x3), (2, .ref 129), (1, .ref 0), (0, .ref KB)] [] F Q) ∧ (((xl.getD x3.toNatClampNeg 0) &&& 63).toInt = 10 → PF (tRo xl) n 0 446 [(3, .int x3), (2, .ref 129), (1, .ref 0), (0, .ref KB)] [] F Q) ∧ (((xl.getD x3.toNatClampNeg 0) &&& 63).toInt = 11 → PF (tRo xl) n 0 469 [(3, .int x3), (2, .ref 129), (1, .ref 0), (0, .ref KB)] [] F Q) ∧ (((xl.getD x3.toNatClampNeg 0) &&& 63).toInt = 12 → PF (tRo xl) n 0 492 [(3, .int x3), (2, .ref 129), (1, .ref 0), (0, .ref KB)] [] F Q) ∧ (((xl.getD x3.toNatClampNeg 0) &&& 63).toInt = 13 → PF (tRo xl) n 0 535 [(3, .int x3), (2, .ref 129), (1, .ref 0), (0, .ref KB)] [] F Q) ∧ (((xl.getD x3.toNatClampNeg 0) &&& 63).toInt = 14 → PF (tRo xl) n 0 594 [(3, .int x3), (2, .ref 129), (1, .ref 0), (0, .ref KB)] [] F Q) ∧ (((xl.getD x3.toNatClampNeg 0) &&& 63).toInt = 15 → PF (tRo xl) n 0 617 [(3, .int x3), (2, .ref 129), (1, .ref 0), (0, .ref KB)] [] F Q) ∧ (((xl.getD x3.toNatClampNeg 0) &&& 63).toInt = 16 → PF (tRo xl) n 0 640 [(3, .int x3), (2, .ref 129), (1, .ref 0), (0, .ref KB)] [] F Q) ∧ (((xl.getD x3.toNatClampNeg 0) &&& 63).toInt = 17 → PF (tRo xl) n 0 663 [(3, .int x3), (2, .ref 129), (1, .ref 0), (0, .ref KB)] [] F Q) ∧ (((xl.getD x3.toNatClampNeg 0) &&& 63).toInt = 18 → PF (tRo xl) n 0 686 [(3, .int x3), (2, .ref 129), (1, .ref 0), (0, .ref KB)] [] F Q) ∧ (((xl.getD x3.toNatClampNeg 0) &&& 63).toInt = 19 → PF (tRo xl) n 0 709 [(3, .int x3), (2, .ref 129), (1, .ref 0), (0, .ref KB)] [] F Q) ∧ (((xl.getD x3.toNatClampNeg 0) &&& 63).toInt = 20 → PF (tRo xl) n 0 742 [(3, .int x3), (2, .ref 129), (1, .ref 0), (0, .ref KB)] [] F Q) ∧ (((xl.getD x3.toNatClampNeg 0) &&& 63).toInt = 21 → PF (tRo xl) n 0 765 [(3, .int x3), (2, .ref 129), (1, .ref 0), (0, .ref KB)] [] F Q) ∧ (((xl.getD x3.toNatClampNeg 0) &&& 63).toInt = 22 → PF (tRo xl) n 0 788 [(3, .int x3), (2, .ref 129), (1, .ref 0), (0, .ref KB)] [] F Q) ∧ (((xl.getD x3.toNatClampNeg 0) &&& 63).toInt = 23 → PF (tRo xl) n 0 831 [(3, .int x3), (2, .ref 129), (1, .ref 0), (0, .ref KB)] [] F Q) ∧ (((xl.getD x3.toNatClampNeg 0) &&& 63).toInt = 24 → PF (tRo xl) n 0 854 [(3, .int x3), (2, .ref 129), (1, .ref 0), (0, .ref KB)] [] F Q) ∧ (((xl.getD x3.toNatClampNeg 0) &&& 63).toInt = 25 → PF (tRo xl) n 0 877 [(3, .int x3), (2, .ref 129), (1, .ref 0), (0, .ref KB)] [] F Q) ∧ (((xl.getD x3.toNatClampNeg 0) &&& 63).toInt = 26 → PF (tRo xl) n 0 890 [(3, .int x3), (2, .ref 129), (1, .ref 0), (0, .ref KB)] [] F Q) ∧ (((xl.getD x3.toNatClampNeg 0) &&& 63).toInt = 27 → PF (tRo xl) n 0 913 [(3, .int x3), (2, .ref 129), (1, .ref 0), (0, .ref KB)] [] F Q) ∧ (((xl.getD x3.toNatClampNeg 0) &&& 63).toInt = 28 → PF (tRo xl) n 0 956 [(3, .int x3), (2, .ref 129), (1, .ref 0), (0, .ref KB)] [] F Q) ∧ (((xl.getD x3.toNatClampNeg 0) &&& 63).toInt = 29 → PF (tRo xl) n 0 989 [(3, .int x3), (2, .ref 129), (1, .ref 0), (0, .ref KB)] [] F Q) ∧ (((xl.getD x3.toNatClampNeg 0) &&& 63).toInt = 30 → PF (tRo xl) n 0 1032 [(3, .int x3), (2, .ref 129), (1, .ref 0), (0, .ref KB)] [] F Q) ∧ (((xl.getD x3.toNatClampNeg 0) &&& 63).toInt = 31 → PF (tRo xl) n 0 1055 [(3, .int x3), (2, .ref 129), (1, .ref 0), (0, .ref KB)] [] F Q) ∧ (((xl.getD x3.toNatClampNeg 0) &&& 63).toInt = 32 → PF (tRo xl) n 0 1078 [(3, .int x3), (2, .ref 129), (1, .ref 0), (0, .ref KB)] [] F Q) ∧ (((xl.getD x3.toNatClampNeg 0) &&& 63).toInt = 33 → PF (tRo xl) n 0 1121 [(3, .int x3), (2, .ref 129), (1, .ref 0), (0, .ref KB)] [] F Q) ∧ (((xl.getD x3.toNatClampNeg 0) &&& 63).toInt = 34 → PF (tRo xl) n 0 1164 [(3, .int x3), (2, .ref 129), (1, .ref 0), (0, .ref KB)] [] F Q) ∧ (((xl.getD x3.toNatClampNeg 0) &&& 63).toInt = 35 → PF (tRo xl) n 0 1217 [(3, .int x3), (2, .ref 129), (1, .ref 0), (0, .ref KB)] [] F Q) ∧ (((xl.getD x3.toNatClampNeg 0) &&& 63).toInt = 36 → PF (tRo xl) n 0 1230 [(3, .int x3), (2, .ref 129), (1, .ref 0), (0, .ref KB)] [] F Q) ∧ ((((xl.getD x3.toNatClampNeg 0) &&& 63).toInt < 0 ∨ 36 < ((xl.getD x3.toNatClampNeg 0) &&& 63).toInt) → PF (tRo xl) n 0 1253 [(3, .int x3), (2, .ref 129), (1, .ref 0), (0, .ref KB)] [] F Q)))))) : PF (tRo xl) (n + 1) 0 18 [(3, .int x3), (2, .ref 129), (1, .ref 0), (0, .ref KB)] [] F Q := by
  refine PF.pr1 (k := 0) (pc' := 19) (lv' := [(3, .int x3), (2, .ref 129), (1, .ref 0), (0, .ref KB)]) (st' := [.int x3]) rfl ?_
  refine PF.pr (k := 1) (pc' := 20) (lv' := [(3, .int x3), (2, .ref 129), (1, .ref 0), (0, .ref KB)]) (st' := [.ref KB, .int x3]) rfl ?_
  refine PF.sln rfl ?_
  refine PF.pr (k := 1) (pc' := 22) (lv' := [(3, .int x3), (2, .ref 129), (1, .ref 0), (0, .ref KB)]) (st' := [.int 5, .int (Int32.ofNat xl.length), .int x3]) rfl ?_
  refine PF.pr (k := 1) (pc' := 23) (lv' := [(3, .int x3), (2, .ref 129), (1, .ref 0), (0, .ref KB)]) (st' := [.int ((Int32.ofNat xl.length) - 5), .int x3]) rfl ?_
  refine PF.if2 (t := 1259) rfl rfl (fun c => ?_) (fun c => ?_)
  · have h := h.1 (cmp_gt.1.mp c)
    refine PF.pr (k := 1) (pc' := 1260) (lv' := [(3, .int x3), (2, .ref 129), (1, .ref 0), (0, .ref KB)]) (st' := [.int 1]) rfl ?_
    exact PF.retI rfl h
  · have h := h.2 (cmp_gt.2.mp c)
    refine PF.pr (k := 1) (pc' := 27) (lv' := [(3, .int x3), (2, .ref 129), (1, .ref 0), (0, .ref KB)]) (st' := [.ref KB]) rfl ?_
    refine PF.pr (k := 1) (pc' := 28) (lv' := [(3, .int x3), (2, .ref 129), (1, .ref 0), (0, .ref KB)]) (st' := [.int x3, .ref KB]) rfl ?_
    refine PF.scr rfl (fun c1 c2 => ?_)
    have h := h c1 c2
    refine PF.pr (k := 1) (pc' := 31) (lv' := [(3, .int x3), (2, .ref 129), (1, .ref 0), (0, .ref KB)]) (st' := [.int 63, .int (xl.getD x3.toNatClampNeg 0)]) rfl ?_
    refine PF.pr (k := 1) (pc' := 32) (lv' := [(3, .int x3), (2, .ref 129), (1, .ref 0), (0, .ref KB)]) (st' := [.int ((xl.getD x3.toNatClampNeg 0) &&& 63)]) rfl ?_
    refine PF.tsw rfl (fun i off t ho ht hx => ?_) (fun t ht hx => ?_)
    · match i, ho, hx with
      | 0, ho, hx =>
        obtain rfl : (164 : Int) = off := Option.some.inj ho
        obtain rfl : 196 = t := Option.some.inj ht
        have h := h.1 (by simpa using hx)
        exact h
      | 1, ho, hx =>
        obtain rfl : (187 : Int) = off := Option.some.inj ho
        obtain rfl : 219 = t := Option.some.inj ht
        have h := h.2.1 (by simpa using hx)
        exact h
      | 2, ho, hx =>
        obtain rfl : (210 : Int) = off := Option.some.inj ho
        obtain rfl : 242 = t := Option.some.inj ht
        have h := h.2.2.1 (by simpa using hx)
        exact h
      | 3, ho, hx =>
        obtain rfl : (223 : Int) = off := Option.some.inj ho
        obtain rfl : 255 = t := Option.some.inj ht
        have h := h.2.2.2.1 (by simpa using hx)
        exact h
      | 4, ho, hx =>
        obtain rfl : (236 : Int) = off := Option.some.inj ho
        obtain rfl : 268 = t := Option.some.inj ht
        have h := h.2.2.2.2.1 (by simpa using hx)
        exact h
      | 5, ho, hx =>
        obtain rfl : (259 : Int) = off := Option.some.inj ho
        obtain rfl : 291 = t := Option.some.inj ht
        have h := h.2.2.2.2.2.1 (by simpa using hx)
        exact h
      | 6, ho, hx =>
        obtain rfl : (292 : Int) = off := Option.some.inj ho
        obtain rfl : 324 = t := Option.some.inj ht
        have h := h.2.2.2.2.2.2.1 (by simpa using hx)
        exact h
      | 7, ho, hx =>
        obtain rfl : (325 : Int) = off := Option.some.inj ho
        obtain rfl : 357 = t := Option.some.inj ht
        have h := h.2.2.2.2.2.2.2.1 (by simpa using hx)
        exact h
      | 8, ho, hx =>
        obtain rfl : (348 : Int) = off := Option.some.inj ho
        obtain rfl : 380 = t := Option.some.inj ht
        have h := h.2.2.2.2.2.2.2.2.1 (by simpa using hx)
        exact h
      | 9, ho, hx =>
        obtain rfl : (381 : Int) = off := Option.some.inj ho
        obtain rfl : 413 = t := Option.some.inj ht
        have h := h.2.2.2.2.2.2.2.2.2.1 (by simpa using hx)
        exact h
      | 10, ho, hx =>
        obtain rfl : (414 : Int) = off := Option.some.inj ho
        obtain rfl : 446 = t := Option.some.inj ht
        have h := h.2.2.2.2.2.2.2.2.2.2.1 (by simpa using hx)
        exact h
      | 11, ho, hx =>
        obtain rfl : (437 : Int) = off := Option.some.inj ho
        obtain rfl : 469 = t := Option.some.inj ht
        have h := h.2.2.2.2.2.2.2.2.2.2.2.1 (by simpa using hx)
        exact h
      | 12, ho, hx =>
        obtain rfl : (460 : Int) = off := Option.some.inj ho
        obtain rfl : 492 = t := Option.some.inj ht
        have h := h.2.2.2.2.2.2.2.2.2.2.2.2.1 (by simpa using hx)
        exact h
      | 13, ho, hx =>
        obtain rfl : (503 : Int) = off := Option.some.inj ho
        obtain rfl : 535 = t := Option.some.inj ht
        have h := h.2.2.2.2.2.2.2.2.2.2.2.2.2.1 (by simpa using hx)
        exact h
      | 14, ho, hx =>
        obtain rfl : (562 : Int) = off := Option.some.inj ho
        obtain rfl : 594 = t := Option.some.inj ht
        have h := h.2.2.2.2.2.2.2.2.2.2.2.2.2.2.1 (by simpa using hx)
        exact h
      | 15, ho, hx =>
        obtain rfl : (585 : Int) = off := Option.some.inj ho
        obtain rfl : 617 = t := Option.some.inj ht
        have h := h.2.2.2.2.2.2.2.2.2.2.2.2.2.2.2.1 (by simpa using hx)
        exact h
      | 16, ho, hx =>
        obtain rfl : (608 : Int) = off := Option.some.inj ho
        obtain rfl : 640 = t := Option.some.inj ht
        have h := h.2.2.2.2.2.2.2.2.2.2.2.2.2.2.2.2.1 (by simpa using hx)
        exact h
      | 17, ho, hx =>
        obtain rfl : (631 : Int) = off := Option.some.inj ho
        obtain rfl : 663 = t := Option.some.inj ht
        have h := h.2.2.2.2.2.2.2.2.2.2.2.2.2.2.2.2.2.1 (by simpa using hx)
        exact h
      | 18, ho, hx =>
        obtain rfl : (654 : Int) = off := Option.some.inj ho
        obtain rfl : 686 = t := Option.some.inj ht
        have h := h.2.2.2.2.2.2.2.2.2.2.2.2.2.2.2.2.2.2.1 (by simpa using hx)
        exact h
      | 19, ho, hx =>
        obtain rfl : (677 : Int) = off := Option.some.inj ho
        obtain rfl : 709 = t := Option.some.inj ht
        have h := h.2.2.2.2.2.2.2.2.2.2.2.2.2.2.2.2.2.2.2.1 (by simpa using hx)
        exact h
      | 20, ho, hx =>
        obtain rfl : (710 : Int) = off := Option.some.inj ho
        obtain rfl : 742 = t := Option.some.inj ht
        have h := h.2.2.2.2.2.2.2.2.2.2.2.2.2.2.2.2.2.2.2.2.1 (by simpa using hx)
        exact h
      | 21, ho, hx =>
        obtain rfl : (733 : Int) = off := Option.some.inj ho
        obtain rfl : 765 = t := Option.some.inj ht
        have h := h.2.2.2.2.2.2.2.2.2.2.2.2.2.2.2.2.2.2.2.2.2.1 (by simpa using hx)
        exact h
      | 22, ho, hx =>
        obtain rfl : (756 : Int) = off := Option.some.inj ho
        obtain rfl : 788 = t := Option.some.inj ht
        have h := h.2.2.2.2.2.2.2.2.2.2.2.2.2.2.2.2.2.2.2.2.2.2.1 (by simpa using hx)
        exact h
      | 23, ho, hx =>
        obtain rfl : (799 : Int) = off := Option.some.inj ho
        obtain rfl : 831 = t := Option.some.inj ht
        have h := h.2.2.2.2.2.2.2.2.2.2.2.2.2.2.2.2.2.2.2.2.2.2.2.1 (by simpa using hx)
        exact h
      | 24, ho, hx =>
        obtain rfl : (822 : Int) = off := Option.some.inj ho
        obtain rfl : 854 = t := Option.some.inj ht
        have h := h.2.2.2.2.2.2.2.2.2.2.2.2.2.2.2.2.2.2.2.2.2.2.2.2.1 (by simpa using hx)
        exact h
      | 25, ho, hx =>
        obtain rfl : (845 : Int) = off := Option.some.inj ho
        obtain rfl : 877 = t := Option.some.inj ht
        have h := h.2.2.2.2.2.2.2.2.2.2.2.2.2.2.2.2.2.2.2.2.2.2.2.2.2.1 (by simpa using hx)
        exact h
      | 26, ho, hx =>
        obtain rfl : (858 : Int) = off := Option.some.inj ho
        obtain rfl : 890 = t := Option.some.inj ht
        have h := h.2.2.2.2.2.2.2.2.2.2.2.2.2.2.2.2.2.2.2.2.2.2.2.2.2.2.1 (by simpa using hx)
        exact h
      | 27, ho, hx =>
        obtain rfl : (881 : Int) = off := Option.some.inj ho
        obtain rfl : 913 = t := Option.some.inj ht
        have h := h.2.2.2.2.2.2.2.2.2.2.2.2.2.2.2.2.2.2.2.2.2.2.2.2.2.2.2.1 (by simpa using hx)
        exact h
      | 28, ho, hx =>
        obtain rfl : (924 : Int) = off := Option.some.inj ho
        obtain rfl : 956 = t := Option.some.inj ht
        have h := h.2.2.2.2.2.2.2.2.2.2.2.2.2.2.2.2.2.2.2.2.2.2.2.2.2.2.2.2.1 (by simpa using hx)
        exact h
      | 29, ho, hx =>
        obtain rfl : (957 : Int) = off := Option.some.inj ho
        obtain rfl : 989 = t := Option.some.inj ht
        have h := h.2.2.2.2.2.2.2.2.2.2.2.2.2.2.2.2.2.2.2.2.2.2.2.2.2.2.2.2.2.1 (by simpa using hx)
        exact h
      | 30, ho, hx =>
        obtain rfl : (1000 : Int) = off := Option.some.inj ho
        obtain rfl : 1032 = t := Option.some.inj ht
        have h := h.2.2.2.2.2.2.2.2.2.2.2.2.2.2.2.2.2.2.2.2.2.2.2.2.2.2.2.2.2.2.1 (by simpa using hx)
        exact h
      | 31, ho, hx =>
        obtain rfl : (1023 : Int) = off := Option.some.inj ho
        obtain rfl : 1055 = t := Option.some.inj ht
        have h := h.2.2.2.2.2.2.2.2.2.2.2.2.2.2.2.2.2.2.2.2.2.2.2.2.2.2.2.2.2.2.2.1 (by simpa using hx)
        exact h
      | 32, ho, hx =>
        obtain rfl : (1046 : Int) = off := Option.some.inj ho
        obtain rfl : 1078 = t := Option.some.inj ht
        have h := h.2.2.2.2.2.2.2.2.2.2.2.2.2.2.2.2.2.2.2.2.2.2.2.2.2.2.2.2.2.2.2.2.1 (by simpa using hx)
        exact h
      | 33, ho, hx =>
        obtain rfl : (1089 : Int) = off := Option.some.inj ho
        obtain rfl : 1121 = t := Option.some.inj ht
        have h := h.2.2.2.2.2.2.2.2.2.2.2.2.2.2.2.2.2.2.2.2.2.2.2.2.2.2.2.2.2.2.2.2.2.1 (by simpa using hx)
        exact h
      | 34, ho, hx =>
        obtain rfl : (1132 : Int) = off := Option.some.inj ho
        obtain rfl : 1164 = t := Option.some.inj ht
        have h := h.2.2.2.2.2.2.2.2.2.2.2.2.2.2.2.2.2.2.2.2.2.2.2.2.2.2.2.2.2.2.2.2.2.2.1 (by simpa using hx)
        exact h
      | 35, ho, hx =>
        obtain rfl : (1185 : Int) = off := Option.some.inj ho
        obtain rfl : 1217 = t := Option.some.inj ht
        have h := h.2.2.2.2.2.2.2.2.2.2.2.2.2.2.2.2.2.2.2.2.2.2.2.2.2.2.2.2.2.2.2.2.2.2.2.1 (by simpa using hx)
        exact h
      | 36, ho, hx =>
        obtain rfl : (1198 : Int) = off := Option.some.inj ho
        obtain rfl : 1230 = t := Option.some.inj ht
        have h := h.2.2.2.2.2.2.2.2.2.2.2.2.2.2.2.2.2.2.2.2.2.2.2.2.2.2.2.2.2.2.2.2.2.2.2.2.1 (by simpa using hx)
        exact h
      | i + 37, ho, hx => cases ho
    · obtain rfl : 1253 = t := Option.some.inj ht
      have h := h.2.2.2.2.2.2.2.2.2.2.2.2.2.2.2.2.2.2.2.2.2.2.2.2.2.2.2.2.2.2.2.2.2.2.2.2.2 hx
      exact h

theorem l_196 {xl : List Int32} {n : Nat} {F : MH} {Q : Option Value → MH → Prop} {x3 : Int32} (h : (0 ≤ (x3 + 1).toInt → (x3 + 1).toInt < xl.length → PF (tRo xl) n 10 0 [(0, .ref 0), (1, .int (xl.getD (x3 + 1).toNatClampNeg 0))] [] F (fun v1 F1 => ∀ r1, v1 = some (.int r1) → (0 ≤ (x3 + 1).toInt → (x3 + 1).toInt < xl.length → PF (tRo xl) n 147 0 [(0, .ref 129), (1, .int (xl.getD (x3 + 1).toNatClampNeg 0))] [] F1 (fun v2 F2 => ∀ r2, v2 = some (.int r2) → PF (tRo xl) n 0 1253 [(3, .int x3), (2, .ref 129), (1, .ref 0), (0, .ref KB)] [] F2 Q))))) : PF (tRo xl) (n + 1) 0 196 [(3, .int x3), (2, .ref 129), (1, .ref 0), (0, .ref KB)] [] F Q := by
  refine PF.pr1 (k := 0) (pc' := 197) (lv' := [(3, .int x3), (2, .ref 129), (1, .ref 0), (0, .ref KB)]) (st' := [.ref 0]) rfl ?_
  refine PF.pr (k := 1) (pc' := 198) (lv' := [(3, .int x3), (2, .ref 129), (1, .ref 0), (0, .ref KB)]) (st' := [.ref KB, .ref 0]) rfl ?_
  refine PF.pr (k := 1) (pc' := 199) (lv' := [(3, .int x3), (2, .ref 129), (1, .ref 0), (0, .ref KB)]) (st' := [.int x3, .ref KB, .ref 0]) rfl ?_
  refine PF.pr (k := 1) (pc' := 200) (lv' := [(3, .int x3), (2, .ref 129), (1, .ref 0), (0, .ref KB)]) (st' := [.int 1, .int x3, .ref KB, .ref 0]) rfl ?_
  refine PF.pr (k := 1) (pc' := 201) (lv' := [(3, .int x3), (2, .ref 129), (1, .ref 0), (0, .ref KB)]) (st' := [.int (x3 + 1), .ref KB, .ref 0]) rfl ?_
  refine PF.scr rfl (fun c1 c2 => ?_)
  have h := h c1 c2
  refine (PF.callI (j := 10) (args := [.ref 0, .int (xl.getD (x3 + 1).toNatClampNeg 0)]) (rest := []) (M := cM10) (ty := .int) rfl rfl rfl rfl rfl (by decide) rfl rfl (by decide) ?_).weak
  refine PF.imp h (fun v1 F1 h r1 hv => ?_)
  have h := h r1 hv
  refine PF.pr (k := 1) (pc' := 206) (lv' := [(3, .int x3), (2, .ref 129), (1, .ref 0), (0, .ref KB)]) (st' := []) rfl ?_
  refine PF.pr (k := 1) (pc' := 207) (lv' := [(3, .int x3), (2, .ref 129), (1, .ref 0), (0, .ref KB)]) (st' := [.ref 129]) rfl ?_
  refine PF.pr (k := 1) (pc' := 208) (lv' := [(3, .int x3), (2, .ref 129), (1, .ref 0), (0, .ref KB)]) (st' := [.ref KB, .ref 129]) rfl ?_
  refine PF.pr (k := 1) (pc' := 209) (lv' := [(3, .int x3), (2, .ref 129), (1, .ref 0), (0, .ref KB)]) (st' := [.int x3, .ref KB, .ref 129]) rfl ?_
  refine PF.pr (k := 1) (pc' := 210) (lv' := [(3, .int x3), (2, .ref 129), (1, .ref 0), (0, .ref KB)]) (st' := [.int 1, .int x3, .ref KB, .ref 129]) rfl ?_
  refine PF.pr (k := 1) (pc' := 211) (lv' := [(3, .int x3), (2, .ref 129), (1, .ref 0), (0, .ref KB)]) (st' := [.int (x3 + 1), .ref KB, .ref 129]) rfl ?_
  refine PF.scr rfl (fun c1 c2 => ?_)
  have h := h c1 c2
  refine (PF.callI (j := 147) (args := [.ref 129, .int (xl.getD (x3 + 1).toNatClampNeg 0)]) (rest := []) (M := cM147) (ty := .int) rfl rfl rfl rfl rfl (by decide) rfl rfl (by decide) ?_).weak
  refine PF.imp h (fun v2 F2 h r2 hv => ?_)
  have h := h r2 hv
  refine PF.pr (k := 1) (pc' := 216) (lv' := [(3, .int x3), (2, .ref 129), (1, .ref 0), (0, .ref KB)]) (st' := []) rfl ?_
  refine PF.pr (k := 1) (pc' := 1253) (lv' := [(3, .int x3), (2, .ref 129), (1, .ref 0), (0, .ref KB)]) (st' := []) rfl ?_
  exact h

theorem l_219 {xl : List Int32} {n : Nat} {F : MH} {Q : Option Value → MH → Prop} {x3 : Int32} (h : (0 ≤ (x3 + 1).toInt → (x3 + 1).toInt < xl.length → PF (tRo xl) n 12 0 [(0, .ref 0), (1, .int (xl.getD (x3 + 1).toNatClampNeg 0))] [] F (fun v1 F1 => ∀ r1, v1 = some (.int r1) → (0 ≤ (x3 + 1).toInt → (x3 + 1).toInt < xl.length → PF (tRo xl) n 149 0 [(0, .ref 129), (1, .int (xl.getD (x3 + 1).toNatClampNeg 0))] [] F1 (fun v2 F2 => ∀ r2, v2 = some (.int r2) → PF (tRo xl) n 0 1253 [(3, .int x3), (2, .ref 129), (1, .ref 0), (0, .ref KB)] [] F2 Q))))) : PF (tRo xl) (n + 1) 0 219 [(3, .int x3), (2, .ref 129), (1, .ref 0), (0, .ref KB)] [] F Q := by
  refine PF.pr1 (k := 0) (pc' := 220) (lv' := [(3, .int x3), (2, .ref 129), (1, .ref 0), (0, .ref KB)]) (st' := [.ref 0]) rfl ?_
  refine PF.pr (k := 1) (pc' := 221) (lv' := [(3, .int x3), (2, .ref 129), (1, .ref 0), (0, .ref KB)]) (st' := [.ref KB, .ref 0]) rfl ?_
  refine PF.pr (k := 1) (pc' := 222) (lv' := [(3, .int x3), (2, .ref 129), (1, .ref 0), (0, .ref KB)]) (st' := [.int x3, .ref KB, .ref 0]) rfl ?_
  refine PF.pr (k := 1) (pc' := 223) (lv' := [(3, .int x3), (2, .ref 129), (1, .ref 0), (0, .ref KB)]) (st' := [.int 1, .int x3, .ref KB, .ref 0]) rfl ?_
  refine PF.pr (k := 1) (pc' := 224) (lv' := [(3, .int x3), (2, .ref 129), (1, .ref 0), (0, .ref KB)]) (st' := [.int (x3 + 1), .ref KB, .ref 0]) rfl ?_
  refine PF.scr rfl (fun c1 c2 => ?_)
  have h := h c1 c2
  refine (PF.callI (j := 12) (args := [.ref 0, .int (xl.getD (x3 + 1).toNatClampNeg 0)]) (rest := []) (M := cM12) (ty := .int) rfl rfl rfl rfl rfl (by decide) rfl rfl (by decide) ?_).weak
  refine PF.imp h (fun v1 F1 h r1 hv => ?_)
  have h := h r1 hv
  refine PF.pr (k := 1) (pc' := 229) (lv' := [(3, .int x3), (2, .ref 129), (1, .ref 0), (0, .ref KB)]) (st' := []) rfl ?_
  refine PF.pr (k := 1) (pc' := 230) (lv' := [(3, .int x3), (2, .ref 129), (1, .ref 0), (0, .ref KB)]) (st' := [.ref 129]) rfl ?_
  refine PF.pr (k := 1) (pc' := 231) (lv' := [(3, .int x3), (2, .ref 129), (1, .ref 0), (0, .ref KB)]) (st' := [.ref KB, .ref 129]) rfl ?_
  refine PF.pr (k := 1) (pc' := 232) (lv' := [(3, .int x3), (2, .ref 129), (1, .ref 0), (0, .ref KB)]) (st' := [.int x3, .ref KB, .ref 129]) rfl ?_
  refine PF.pr (k := 1) (pc' := 233) (lv' := [(3, .int x3), (2, .ref 129), (1, .ref 0), (0, .ref KB)]) (st' := [.int 1, .int x3, .ref KB, .ref 129]) rfl ?_
  refine PF.pr (k := 1) (pc' := 234) (lv' := [(3, .int x3), (2, .ref 129), (1, .ref 0), (0, .ref KB)]) (st' := [.int (x3 + 1), .ref KB, .ref 129]) rfl ?_
  refine PF.scr rfl (fun c1 c2 => ?_)
  have h := h c1 c2
  refine (PF.callI (j := 149) (args := [.ref 129, .int (xl.getD (x3 + 1).toNatClampNeg 0)]) (rest := []) (M := cM149) (ty := .int) rfl rfl rfl rfl rfl (by decide) rfl rfl (by decide) ?_).weak
  refine PF.imp h (fun v2 F2 h r2 hv => ?_)
  have h := h r2 hv
  refine PF.pr (k := 1) (pc' := 239) (lv' := [(3, .int x3), (2, .ref 129), (1, .ref 0), (0, .ref KB)]) (st' := []) rfl ?_
  refine PF.pr (k := 1) (pc' := 1253) (lv' := [(3, .int x3), (2, .ref 129), (1, .ref 0), (0, .ref KB)]) (st' := []) rfl ?_
  exact h

theorem l_242 {xl : List Int32} {n : Nat} {F : MH} {Q : Option Value → MH → Prop} {x3 : Int32} (h : PF (tRo xl) n 13 0 [(0, .ref 0)] [] F (fun v1 F1 => ∀ r1, v1 = some (.int r1) → PF (tRo xl) n 150 0 [(0, .ref 129)] [] F1 (fun v2 F2 => ∀ r2, v2 = some (.int r2) → PF (tRo xl) n 0 1253 [(3, .int x3), (2, .ref 129), (1, .ref 0), (0, .ref KB)] [] F2 Q))) : PF (tRo xl) (n + 1) 0 242 [(3, .int x3), (2, .ref 129), (1, .ref 0), (0, .ref KB)] [] F Q := by
  refine PF.pr1 (k := 0) (pc' := 243) (lv' := [(3, .int x3), (2, .ref 129), (1, .ref 0), (0, .ref KB)]) (st' := [.ref 0]) rfl ?_
  refine (PF.callI (j := 13) (args := [.ref 0]) (rest := []) (M := cM13) (ty := .int) rfl rfl rfl rfl rfl (by decide) rfl rfl (by decide) ?_).weak
  refine PF.imp h (fun v1 F1 h r1 hv => ?_)
  have h := h r1 hv
  refine PF.pr (k := 1) (pc' := 247) (lv' := [(3, .int x3), (2, .ref 129), (1, .ref 0), (0, .ref KB)]) (st' := []) rfl ?_
  refine PF.pr (k := 1) (pc' := 248) (lv' := [(3, .int x3), (2, .ref 129), (1, .ref 0), (0, .ref KB)]) (st' := [.ref 129]) rfl ?_
  refine (PF.callI (j := 150) (args := [.ref 129]) (rest := []) (M := cM150) (ty := .int) rfl rfl rfl rfl rfl (by decide) rfl rfl (by decide) ?_).weak
  refine PF.imp h (fun v2 F2 h r2 hv => ?_)
  have h := h r2 hv
  refine PF.pr (k := 1) (pc' := 252) (lv' := [(3, .int x3), (2, .ref 129), (1, .ref 0), (0, .ref KB)]) (st' := []) rfl ?_
  refine PF.pr (k := 1) (pc' := 1253) (lv' := [(3, .int x3), (2, .ref 129), (1, .ref 0), (0, .ref KB)]) (st' := []) rfl ?_
  exact h

theorem l_255 {xl : List Int32} {n : Nat} {F : MH} {Q : Option Value → MH → Prop} {x3 : Int32} (h : PF (tRo xl) n 55 0 [(0, .ref 0)] [] F (fun v1 F1 => ∀ r1, v1 = some (.int r1) → PF (tRo xl) n 166 0 [(0, .ref 129)] [] F1 (fun v2 F2 => ∀ r2, v2 = some (.int r2) → PF (tRo xl) n 0 1253 [(3, .int x3), (2, .ref 129), (1, .ref 0), (0, .ref KB)] [] F2 Q))) : PF (tRo xl) (n + 1) 0 255 [(3, .int x3), (2, .ref 129), (1, .ref 0), (0, .ref KB)] [] F Q := by
  refine PF.pr1 (k := 0) (pc' := 256) (lv' := [(3, .int x3), (2, .ref 129), (1, .ref 0), (0, .ref KB)]) (st' := [.ref 0]) rfl ?_
  refine (PF.callI (j := 55) (args := [.ref 0]) (rest := []) (M := cM55) (ty := .int) rfl rfl rfl rfl rfl (by decide) rfl rfl (by decide) ?_).weak
  refine PF.imp h (fun v1 F1 h r1 hv => ?_)
  have h := h r1 hv
  refine PF.pr (k := 1) (pc' := 260) (lv' := [(3, .int x3), (2, .ref 129), (1, .ref 0), (0, .ref KB)]) (st' := []) rfl ?_
  refine PF.pr (k := 1) (pc' := 261) (lv' := [(3, .int x3), (2, .ref 129), (1, .ref 0), (0, .ref KB)]) (st' := [.ref 129]) rfl ?_
  refine (PF.callI (j := 166) (args := [.ref 129]) (rest := []) (M := cM166) (ty := .int) rfl rfl rfl rfl rfl (by decide) rfl rfl (by decide) ?_).weak
  refine PF.imp h (fun v2 F2 h r2 hv => ?_)
  have h := h r2 hv
  refine PF.pr (k := 1) (pc' := 265) (lv' := [(3, .int x3), (2, .ref 129), (1, .ref 0), (0, .ref KB)]) (st' := []) rfl ?_
  refine PF.pr (k := 1) (pc' := 1253) (lv' := [(3, .int x3), (2, .ref 129), (1, .ref 0), (0, .ref KB)]) (st' := []) rfl ?_
  exact h

theorem l_268 {xl : List Int32} {n : Nat} {F : MH} {Q : Option Value → MH → Prop} {x3 : Int32} (h : (0 ≤ (x3 + 1).toInt → (x3 + 1).toInt < xl.length → PF (tRo xl) n 56 0 [(0, .ref 0), (1, .int (xl.getD (x3 + 1).toNatClampNeg 0))] [] F (fun v1 F1 => ∀ r1, v1 = some (.int r1) → (0 ≤ (x3 + 1).toInt → (x3 + 1).toInt < xl.length → PF (tRo xl) n 167 0 [(0, .ref 129), (1, .int (xl.getD (x3 + 1).toNatClampNeg 0))] [] F1 (fun v2 F2 => ∀ r2, v2 = some (.int r2) → PF (tRo xl) n 0 1253 [(3, .int x3), (2, .ref 129), (1, .ref 0), (0, .ref KB)] [] F2 Q))))) : PF (tRo xl) (n + 1) 0 268 [(3, .int x3), (2, .ref 129), (1, .ref 0), (0, .ref KB)] [] F Q := by
  refine PF.pr1 (k := 0) (pc' := 269) (lv' := [(3, .int x3), (2, .ref 129), (1, .ref 0), (0, .ref KB)]) (st' := [.ref 0]) rfl ?_
  refine PF.pr (k := 1) (pc' := 270) (lv' := [(3, .int x3), (2, .ref 129), (1, .ref 0), (0, .ref KB)]) (st' := [.ref KB, .ref 0]) rfl ?_
  refine PF.pr (k := 1) (pc' := 271) (lv' := [(3, .int x3), (2, .ref 129), (1, .ref 0), (0, .ref KB)]) (st' := [.int x3, .ref KB, .ref 0]) rfl ?_
  refine PF.pr (k := 1) (pc' := 272) (lv' := [(3, .int x3), (2, .ref 129), (1, .ref 0), (0, .ref KB)]) (st' := [.int 1, .int x3, .ref KB, .ref 0]) rfl ?_
  refine PF.pr (k := 1) (pc' := 273) (lv' := [(3, .int x3), (2, .ref 129), (1, .ref 0), (0, .ref KB)]) (st' := [.int (x3 + 1), .ref KB, .ref 0]) rfl ?_
  refine PF.scr rfl (fun c1 c2 => ?_)
  have h := h c1 c2
  refine (PF.callI (j := 56) (args := [.ref 0, .int (xl.getD (x3 + 1).toNatClampNeg 0)]) (rest := []) (M := cM56) (ty := .int) rfl rfl rfl rfl rfl (by decide) rfl rfl (by decide) ?_).weak
  refine PF.imp h (fun v1 F1 h r1 hv => ?_)
  have h := h r1 hv
  refine PF.pr (k := 1) (pc' := 278) (lv' := [(3, .int x3), (2, .ref 129), (1, .ref 0), (0, .ref KB)]) (st' := []) rfl ?_
  refine PF.pr (k := 1) (pc' := 279) (lv' := [(3, .int x3), (2, .ref 129), (1, .ref 0), (0, .ref KB)]) (st' := [.ref 129]) rfl ?_
  refine PF.pr (k := 1) (pc' := 280) (lv' := [(3, .int x3), (2, .ref 129), (1, .ref 0), (0, .ref KB)]) (st' := [.ref KB, .ref 129]) rfl ?_
  refine PF.pr (k := 1) (pc' := 281) (lv' := [(3, .int x3), (2, .ref 129), (1, .ref 0), (0, .ref KB)]) (st' := [.int x3, .ref KB, .ref 129]) rfl ?_
  refine PF.pr (k := 1) (pc' := 282) (lv' := [(3, .int x3), (2, .ref 129), (1, .ref 0), (0, .ref KB)]) (st' := [.int 1, .int x3, .ref KB, .ref 129]) rfl ?_
  refine PF.pr (k := 1) (pc' := 283) (lv' := [(3, .int x3), (2, .ref 129), (1, .ref 0), (0, .ref KB)]) (st' := [.int (x3 + 1), .ref KB, .ref 129]) rfl ?_
  refine PF.scr rfl (fun c1 c2 => ?_)
  have h := h c1 c2
  refine (PF.callI (j := 167) (args := [.ref 129, .int (xl.getD (x3 + 1).toNatClampNeg 0)]) (rest := []) (M := cM167) (ty := .int) rfl rfl rfl rfl rfl (by decide) rfl rfl (by decide) ?_).weak
  refine PF.imp h (fun v2 F2 h r2 hv => ?_)
  have h := h r2 hv
  refine PF.pr (k := 1) (pc' := 288) (lv' := [(3, .int x3), (2, .ref 129), (1, .ref 0), (0, .ref KB)]) (st' := []) rfl ?_
  refine PF.pr (k := 1) (pc' := 1253) (lv' := [(3, .int x3), (2, .ref 129), (1, .ref 0), (0, .ref KB)]) (st' := []) rfl ?_
  exact h

theorem l_291 {xl : List Int32} {n : Nat} {F : MH} {Q : Option Value → MH → Prop} {x3 : Int32} (h : (0 ≤ (x3 + 1).toInt → (x3 + 1).toInt < xl.length → (0 ≤ (x3 + 2).toInt → (x3 + 2).toInt < xl.length → PF (tRo xl) n 62 0 [(0, .ref 0), (1, .int (xl.getD (x3 + 1).toNatClampNeg 0)), (2, .int (xl.getD (x3 + 2).toNatClampNeg 0))] [] F (fun v1 F1 => ∀ r1, v1 = some (.int r1) → (0 ≤ (x3 + 1).toInt → (x3 + 1).toInt < xl.length → (0 ≤ (x3 + 2).toInt → (x3 + 2).toInt < xl.length → PF (tRo xl) n 176 0 [(0, .ref 129), (1, .int (xl.getD (x3 + 1).toNatClampNeg 0)), (2, .int (xl.getD (x3 + 2).toNatClampNeg 0))] [] F1 (fun v2 F2 => ∀ r2, v2 = some (.int r2) → PF (tRo xl) n 0 1253 [(3, .int x3), (2, .ref 129), (1, .ref 0), (0, .ref KB)] [] F2 Q))))))) : PF (tRo xl) (n + 1) 0 291 [(3, .int x3), (2, .ref 129), (1, .ref 0), (0, .ref KB)] [] F Q := by
  refine PF.pr1 (k := 0) (pc' := 292) (lv' := [(3, .int x3), (2, .ref 129), (1, .ref 0), (0, .ref KB)]) (st' := [.ref 0]) rfl ?_
  refine PF.pr (k := 1) (pc' := 293) (lv' := [(3, .int x3), (2, .ref 129), (1, .ref 0), (0, .ref KB)]) (st' := [.ref KB, .ref 0]) rfl ?_
  refine PF.pr (k := 1) (pc' := 294) (lv' := [(3, .int x3), (2, .ref 129), (1, .ref 0), (0, .ref KB)]) (st' := [.int x3, .ref KB, .ref 0]) rfl ?_
  refine PF.pr (k := 1) (pc' := 295) (lv' := [(3, .int x3), (2, .ref 129), (1, .ref 0), (0, .ref KB)]) (st' := [.int 1, .int x3, .ref KB, .ref 0]) rfl ?_
  refine PF.pr (k := 1) (pc' := 296) (lv' := [(3, .int x3), (2, .ref 129), (1, .ref 0), (0, .ref KB)]) (st' := [.int (x3 + 1), .ref KB, .ref 0]) rfl ?_
  refine PF.scr rfl (fun c1 c2 => ?_)
  have h := h c1 c2
  refine PF.pr (k := 1) (pc' := 298) (lv' := [(3, .int x3), (2, .ref 129), (1, .ref 0), (0, .ref KB)]) (st' := [.ref KB, .int (xl.getD (x3 + 1).toNatClampNeg 0), .ref 0]) rfl ?_
  refine PF.pr (k := 1) (pc' := 299) (lv' := [(3, .int x3), (2, .ref 129), (1, .ref 0), (0, .ref KB)]) (st' := [.int x3, .ref KB, .int (xl.getD (x3 + 1).toNatClampNeg 0), .ref 0]) rfl ?_
  refine PF.pr (k := 1) (pc' := 300) (lv' := [(3, .int x3), (2, .ref 129), (1, .ref 0), (0, .ref KB)]) (st' := [.int 2, .int x3, .ref KB, .int (xl.getD (x3 + 1).toNatClampNeg 0), .ref 0]) rfl ?_
  refine PF.pr (k := 1) (pc' := 301) (lv' := [(3, .int x3), (2, .ref 129), (1, .ref 0), (0, .ref KB)]) (st' := [.int (x3 + 2), .ref KB, .int (xl.getD (x3 + 1).toNatClampNeg 0), .ref 0]) rfl ?_
  refine PF.scr rfl (fun c1 c2 => ?_)
  have h := h c1 c2
  refine (PF.callI (j := 62) (args := [.ref 0, .int (xl.getD (x3 + 1).toNatClampNeg 0), .int (xl.getD (x3 + 2).toNatClampNeg 0)]) (rest := []) (M := cM62) (ty := .int) rfl rfl rfl rfl rfl (by decide) rfl rfl (by decide) ?_).weak
  refine PF.imp h (fun v1 F1 h r1 hv => ?_)
  have h := h r1 hv
  refine PF.pr (k := 1) (pc' := 306) (lv' := [(3, .int x3), (2, .ref 129), (1, .ref 0), (0, .ref KB)]) (st' := []) rfl ?_
  refine PF.pr (k := 1) (pc' := 307) (lv' := [(3, .int x3), (2, .ref 129), (1, .ref 0), (0, .ref KB)]) (st' := [.ref 129]) rfl ?_
  refine PF.pr (k := 1) (pc' := 308) (lv' := [(3, .int x3), (2, .ref 129), (1, .ref 0), (0, .ref KB)]) (st' := [.ref KB, .ref 129]) rfl ?_
  refine PF.pr (k := 1) (pc' := 309) (lv' := [(3, .int x3), (2, .ref 129), (1, .ref 0), (0, .ref KB)]) (st' := [.int x3, .ref KB, .ref 129]) rfl ?_
  refine PF.pr (k := 1) (pc' := 310) (lv' := [(3, .int x3), (2, .ref 129), (1, .ref 0), (0, .ref KB)]) (st' := [.int 1, .int x3, .ref KB, .ref 129]) rfl ?_
  refine PF.pr (k := 1) (pc' := 311) (lv' := [(3, .int x3), (2, .ref 129), (1, .ref 0), (0, .ref KB)]) (st' := [.int (x3 + 1), .ref KB, .ref 129]) rfl ?_
  refine PF.scr rfl (fun c1 c2 => ?_)
  have h := h c1 c2
  refine PF.pr (k := 1) (pc' := 313) (lv' := [(3, .int x3), (2, .ref 129), (1, .ref 0), (0, .ref KB)]) (st' := [.ref KB, .int (xl.getD (x3 + 1).toNatClampNeg 0), .ref 129]) rfl ?_
  refine PF.pr (k := 1) (pc' := 314) (lv' := [(3, .int x3), (2, .ref 129), (1, .ref 0), (0, .ref KB)]) (st' := [.int x3, .ref KB, .int (xl.getD (x3 + 1).toNatClampNeg 0), .ref 129]) rfl ?_
  refine PF.pr (k := 1) (pc' := 315) (lv' := [(3, .int x3), (2, .ref 129), (1, .ref 0), (0, .ref KB)]) (st' := [.int 2, .int x3, .ref KB, .int (xl.getD (x3 + 1).toNatClampNeg 0), .ref 129]) rfl ?_
  refine PF.pr (k := 1) (pc' := 316) (lv' := [(3, .int x3), (2, .ref 129), (1, .ref 0), (0, .ref KB)]) (st' := [.int (x3 + 2), .ref KB, .int (xl.getD (x3 + 1).toNatClampNeg 0), .ref 129]) rfl ?_
  refine PF.scr rfl (fun c1 c2 => ?_)
  have h := h c1 c2
  refine (PF.callI (j := 176) (args := [.ref 129, .int (xl.getD (x3 + 1).toNatClampNeg 0), .int (xl.getD (x3 + 2).toNatClampNeg 0)]) (rest := []) (M := cM176) (ty := .int) rfl rfl rfl rfl rfl (by decide) rfl rfl (by decide) ?_).weak
  refine PF.imp h (fun v2 F2 h r2 hv => ?_)
  have h := h r2 hv
  refine PF.pr (k := 1) (pc' := 321) (lv' := [(3, .int x3), (2, .ref 129), (1, .ref 0), (0, .ref KB)]) (st' := []) rfl ?_
  refine PF.pr (k := 1) (pc' := 1253) (lv' := [(3, .int x3), (2, .ref 129), (1, .ref 0), (0, .ref KB)]) (st' := []) rfl ?_
  exact h

theorem l_324 {xl : List Int32} {n : Nat} {F : MH} {Q : Option Value → MH → Prop} {x3 : Int32} (h : (0 ≤ (x3 + 1).toInt → (x3 + 1).toInt < xl.length → (0 ≤ (x3 + 2).toInt → (x3 + 2).toInt < xl.length → PF (tRo xl) n 64 0 [(0, .ref 0), (1, .int (xl.getD (x3 + 1).toNatClampNeg 0)), (2, .int (xl.getD (x3 + 2).toNatClampNeg 0))] [] F (fun v1 F1 => ∀ r1, v1 = some (.int r1) → (0 ≤ (x3 + 1).toInt → (x3 + 1).toInt < xl.length → (0 ≤ (x3 + 2).toInt → (x3 + 2).toInt < xl.length → PF (tRo xl) n 180 0 [(0, .ref 129), (1, .int (xl.getD (x3 + 1).toNatClampNeg 0)), (2, .int (xl.getD (x3 + 2).toNatClampNeg 0))] [] F1 (fun v2 F2 => ∀ r2, v2 = some (.int r2) → PF (tRo xl) n 0 1253 [(3, .int x3), (2, .ref 129), (1, .ref 0), (0, .ref KB)] [] F2 Q))))))) : PF (tRo xl) (n + 1) 0 324 [(3, .int x3), (2, .ref 129), (1, .ref 0), (0, .ref KB)] [] F Q := by
  refine PF.pr1 (k := 0) (pc' := 325) (lv' := [(3, .int x3), (2, .ref 129), (1, .ref 0), (0, .ref KB)]) (st' := [.ref 0]) rfl ?_
  refine PF.pr (k := 1) (pc' := 326) (lv' := [(3, .int x3), (2, .ref 129), (1, .ref 0), (0, .ref KB)]) (st' := [.ref KB, .ref 0]) rfl ?_
  refine PF.pr (k := 1) (pc' := 327) (lv' := [(3, .int x3), (2, .ref 129), (1, .ref 0), (0, .ref KB)]) (st' := [.int x3, .ref KB, .ref 0]) rfl ?_
  refine PF.pr (k := 1) (pc' := 328) (lv' := [(3, .int x3), (2, .ref 129), (1, .ref 0), (0, .ref KB)]) (st' := [.int 1, .int x3, .ref KB, .ref 0]) rfl ?_
  refine PF.pr (k := 1) (pc' := 329) (lv' := [(3, .int x3), (2, .ref 129), (1, .ref 0), (0, .ref KB)]) (st' := [.int (x3 + 1), .ref KB, .ref 0]) rfl ?_
  refine PF.scr rfl (fun c1 c2 => ?_)
  have h := h c1 c2
  refine PF.pr (k := 1) (pc' := 331) (lv' := [(3, .int x3), (2, .ref 129), (1, .ref 0), (0, .ref KB)]) (st' := [.ref KB, .int (xl.getD (x3 + 1).toNatClampNeg 0), .ref 0]) rfl ?_
  refine PF.pr (k := 1) (pc' := 332) (lv' := [(3, .int x3), (2, .ref 129), (1, .ref 0), (0, .ref KB)]) (st' := [.int x3, .ref KB, .int (xl.getD (x3 + 1).toNatClampNeg 0), .ref 0]) rfl ?_
  refine PF.pr (k := 1) (pc' := 333) (lv' := [(3, .int x3), (2, .ref 129), (1, .ref 0), (0, .ref KB)]) (st' := [.int 2, .int x3, .ref KB, .int (xl.getD (x3 + 1).toNatClampNeg 0), .ref 0]) rfl ?_
  refine PF.pr (k := 1) (pc' := 334) (lv' := [(3, .int x3), (2, .ref 129), (1, .ref 0), (0, .ref KB)]) (st' := [.int (x3 + 2), .ref KB, .int (xl.getD (x3 + 1).toNatClampNeg 0), .ref 0]) rfl ?_
  refine PF.scr rfl (fun c1 c2 => ?_)
  have h := h c1 c2
  refine (PF.callI (j := 64) (args := [.ref 0, .int (xl.getD (x3 + 1).toNatClampNeg 0), .int (xl.getD (x3 + 2).toNatClampNeg 0)]) (rest := []) (M := cM64) (ty := .int) rfl rfl rfl rfl rfl (by decide) rfl rfl (by decide) ?_).weak
  refine PF.imp h (fun v1 F1 h r1 hv => ?_)
  have h := h r1 hv
  refine PF.pr (k := 1) (pc' := 339) (lv' := [(3, .int x3), (2, .ref 129), (1, .ref 0), (0, .ref KB)]) (st' := []) rfl ?_
  refine PF.pr (k := 1) (pc' := 340) (lv' := [(3, .int x3), (2, .ref 129), (1, .ref 0), (0, .ref KB)]) (st' := [.ref 129]) rfl ?_
  refine PF.pr (k := 1) (pc' := 341) (lv' := [(3, .int x3), (2, .ref 129), (1, .ref 0), (0, .ref KB)]) (st' := [.ref KB, .ref 129]) rfl ?_
  refine PF.pr (k := 1) (pc' := 342) (lv' := [(3, .int x3), (2, .ref 129), (1, .ref 0), (0, .ref KB)]) (st' := [.int x3, .ref KB, .ref 129]) rfl ?_
  refine PF.pr (k := 1) (pc' := 343) (lv' := [(3, .int x3), (2, .ref 129), (1, .ref 0), (0, .ref KB)]) (st' := [.int 1, .int x3, .ref KB, .ref 129]) rfl ?_
  refine PF.pr (k := 1) (pc' := 344) (lv' := [(3, .int x3), (2, .ref 129), (1, .ref 0), (0, .ref KB)]) (st' := [.int (x3 + 1), .ref KB, .ref 129]) rfl ?_
  refine PF.scr rfl (fun c1 c2 => ?_)
  have h := h c1 c2
  refine PF.pr (k := 1) (pc' := 346) (lv' := [(3, .int x3), (2, .ref 129), (1, .ref 0), (0, .ref KB)]) (st' := [.ref KB, .int (xl.getD (x3 + 1).toNatClampNeg 0), .ref 129]) rfl ?_
  refine PF.pr (k := 1) (pc' := 347) (lv' := [(3, .int x3), (2, .ref 129), (1, .ref 0), (0, .ref KB)]) (st' := [.int x3, .ref KB, .int (xl.getD (x3 + 1).toNatClampNeg 0), .ref 129]) rfl ?_
  refine PF.pr (k := 1) (pc' := 348) (lv' := [(3, .int x3), (2, .ref 129), (1, .ref 0), (0, .ref KB)]) (st' := [.int 2, .int x3, .ref KB, .int (xl.getD (x3 + 1).toNatClampNeg 0), .ref 129]) rfl ?_
  refine PF.pr (k := 1) (pc' := 349) (lv' := [(3, .int x3), (2, .ref 129), (1, .ref 0), (0, .ref KB)]) (st' := [.int (x3 + 2), .ref KB, .int (xl.getD (x3 + 1).toNatClampNeg 0), .ref 129]) rfl ?_
  refine PF.scr rfl (fun c1 c2 => ?_)
  have h := h c1 c2
  refine (PF.callI (j := 180) (args := [.ref 129, .int (xl.getD (x3 + 1).toNatClampNeg 0), .int (xl.getD (x3 + 2).toNatClampNeg 0)]) (rest := []) (M := cM180) (ty := .int) rfl rfl rfl rfl rfl (by decide) rfl rfl (by decide) ?_).weak
  refine PF.imp h (fun v2 F2 h r2 hv => ?_)
  have h := h r2 hv
  refine PF.pr (k := 1) (pc' := 354) (lv' := [(3, .int x3), (2, .ref 129), (1, .ref 0), (0, .ref KB)]) (st' := []) rfl ?_
  refine PF.pr (k := 1) (pc' := 1253) (lv' := [(3, .int x3), (2, .ref 129), (1, .ref 0), (0, .ref KB)]) (st' := []) rfl ?_
  exact h

theorem l_357 {xl : List Int32} {n : Nat} {F : MH} {Q : Option Value → MH → Prop} {x3 : Int32} (h : (0 ≤ (x3 + 1).toInt → (x3 + 1).toInt < xl.length → PF (tRo xl) n 66 0 [(0, .ref 0), (1, .int (xl.getD (x3 + 1).toNatClampNeg 0))] [] F (fun v1 F1 => ∀ r1, v1 = some (.int r1) → (0 ≤ (x3 + 1).toInt → (x3 + 1).toInt < xl.length → PF (tRo xl) n 182 0 [(0, .ref 129), (1, .int (xl.getD (x3 + 1).toNatClampNeg 0))] [] F1 (fun v2 F2 => ∀ r2, v2 = some (.int r2) → PF (tRo xl) n 0 1253 [(3, .int x3), (2, .ref 129), (1, .ref 0), (0, .ref KB)] [] F2 Q))))) : PF (tRo xl) (n + 1) 0 357 [(3, .int x3), (2, .ref 129), (1, .ref 0), (0, .ref KB)] [] F Q := by
  refine PF.pr1 (k := 0) (pc' := 358) (lv' := [(3, .int x3), (2, .ref 129), (1, .ref 0), (0, .ref KB)]) (st' := [.ref 0]) rfl ?_
  refine PF.pr (k := 1) (pc' := 359) (lv' := [(3, .int x3), (2, .ref 129), (1, .ref 0), (0, .ref KB)]) (st' := [.ref KB, .ref 0]) rfl ?_
  refine PF.pr (k := 1) (pc' := 360) (lv' := [(3, .int x3), (2, .ref 129), (1, .ref 0), (0, .ref KB)]) (st' := [.int x3, .ref KB, .ref 0]) rfl ?_
  refine PF.pr (k := 1) (pc' := 361) (lv' := [(3, .int x3), (2, .ref 129), (1, .ref 0), (0, .ref KB)]) (st' := [.int 1, .int x3, .ref KB, .ref 0]) rfl ?_
  refine PF.pr (k := 1) (pc' := 362) (lv' := [(3, .int x3), (2, .ref 129), (1, .ref 0), (0, .ref KB)]) (st' := [.int (x3 + 1), .ref KB, .ref 0]) rfl ?_
  refine PF.scr rfl (fun c1 c2 => ?_)
  have h := h c1 c2
  refine (PF.callI (j := 66) (args := [.ref 0, .int (xl.getD (x3 + 1).toNatClampNeg 0)]) (rest := []) (M := cM66) (ty := .int) rfl rfl rfl rfl rfl (by decide) rfl rfl (by decide) ?_).weak
  refine PF.imp h (fun v1 F1 h r1 hv => ?_)
  have h := h r1 hv
  refine PF.pr (k := 1) (pc' := 367) (lv' := [(3, .int x3), (2, .ref 129), (1, .ref 0), (0, .ref KB)]) (st' := []) rfl ?_
  refine PF.pr (k := 1) (pc' := 368) (lv' := [(3, .int x3), (2, .ref 129), (1, .ref 0), (0, .ref KB)]) (st' := [.ref 129]) rfl ?_
  refine PF.pr (k := 1) (pc' := 369) (lv' := [(3, .int x3), (2, .ref 129), (1, .ref 0), (0, .ref KB)]) (st' := [.ref KB, .ref 129]) rfl ?_
  refine PF.pr (k := 1) (pc' := 370) (lv' := [(3, .int x3), (2, .ref 129), (1, .ref 0), (0, .ref KB)]) (st' := [.int x3, .ref KB, .ref 129]) rfl ?_
  refine PF.pr (k := 1) (pc' := 371) (lv' := [(3, .int x3), (2, .ref 129), (1, .ref 0), (0, .ref KB)]) (st' := [.int 1, .int x3, .ref KB, .ref 129]) rfl ?_
  refine PF.pr (k := 1) (pc' := 372) (lv' := [(3, .int x3), (2, .ref 129), (1, .ref 0), (0, .ref KB)]) (st' := [.int (x3 + 1), .ref KB, .ref 129]) rfl ?_
  refine PF.scr rfl (fun c1 c2 => ?_)
  have h := h c1 c2
  refine (PF.callI (j := 182) (args := [.ref 129, .int (xl.getD (x3 + 1).toNatClampNeg 0)]) (rest := []) (M := cM182) (ty := .int) rfl rfl rfl rfl rfl (by decide) rfl rfl (by decide) ?_).weak
  refine PF.imp h (fun v2 F2 h r2 hv => ?_)
  have h := h r2 hv
  refine PF.pr (k := 1) (pc' := 377) (lv' := [(3, .int x3), (2, .ref 129), (1, .ref 0), (0, .ref KB)]) (st' := []) rfl ?_
  refine PF.pr (k := 1) (pc' := 1253) (lv' := [(3, .int x3), (2, .ref 129), (1, .ref 0), (0, .ref KB)]) (st' := []) rfl ?_
  exact h

theorem l_380 {xl : List Int32} {n : Nat} {F : MH} {Q : Option Value → MH → Prop} {x3 : Int32} (h : (0 ≤ (x3 + 1).toInt → (x3 + 1).toInt < xl.length → (0 ≤ (x3 + 2).toInt → (x3 + 2).toInt < xl.length → PF (tRo xl) n 67 0 [(0, .ref 0), (1, .int (xl.getD (x3 + 1).toNatClampNeg 0)), (2, .int (xl.getD (x3 + 2).toNatClampNeg 0))] [] F (fun v1 F1 => ∀ r1, v1 = some (.int r1) → (0 ≤ (x3 + 1).toInt → (x3 + 1).toInt < xl.length → (0 ≤ (x3 + 2).toInt → (x3 + 2).toInt < xl.length → PF (tRo xl) n 183 0 [(0, .ref 129), (1, .int (xl.getD (x3 + 1).toNatClampNeg 0)), (2, .int (xl.getD (x3 + 2).toNatClampNeg 0))] [] F1 (fun v2 F2 => ∀ r2, v2 = some (.int r2) → PF (tRo xl) n 0 1253 [(3, .int x3), (2, .ref 129), (1, .ref 0), (0, .ref KB)] [] F2 Q))))))) : PF (tRo xl) (n + 1) 0 380 [(3, .int x3), (2, .ref 129), (1, .ref 0), (0, .ref KB)] [] F Q := by
  refine PF.pr1 (k := 0) (pc' := 381) (lv' := [(3, .int x3), (2, .ref 129), (1, .ref 0), (0, .ref KB)]) (st' := [.ref 0]) rfl ?_
  refine PF.pr (k := 1) (pc' := 382) (lv' := [(3, .int x3), (2, .ref 129), (1, .ref 0), (0, .ref KB)]) (st' := [.ref KB, .ref 0]) rfl ?_
  refine PF.pr (k := 1) (pc' := 383) (lv' := [(3, .int x3), (2, .ref 129), (1, .ref 0), (0, .ref KB)]) (st' := [.int x3, .ref KB, .ref 0]) rfl ?_
  refine PF.pr (k := 1) (pc' := 384) (lv' := [(3, .int x3), (2, .ref 129), (1, .ref 0), (0, .ref KB)]) (st' := [.int 1, .int x3, .ref KB, .ref 0]) rfl ?_
  refine PF.pr (k := 1) (pc' := 385) (lv' := [(3, .int x3), (2, .ref 129), (1, .ref 0), (0, .ref KB)]) (st' := [.int (x3 + 1), .ref KB, .ref 0]) rfl ?_
  refine PF.scr rfl (fun c1 c2 => ?_)
  have h := h c1 c2
  refine PF.pr (k := 1) (pc' := 387) (lv' := [(3, .int x3), (2, .ref 129), (1, .ref 0), (0, .ref KB)]) (st' := [.ref KB, .int (xl.getD (x3 + 1).toNatClampNeg 0), .ref 0]) rfl ?_
  refine PF.pr (k := 1) (pc' := 388) (lv' := [(3, .int x3), (2, .ref 129), (1, .ref 0), (0, .ref KB)]) (st' := [.int x3, .ref KB, .int (xl.getD (x3 + 1).toNatClampNeg 0), .ref 0]) rfl ?_
  refine PF.pr (k := 1) (pc' := 389) (lv' := [(3, .int x3), (2, .ref 129), (1, .ref 0), (0, .ref KB)]) (st' := [.int 2, .int x3, .ref KB, .int (xl.getD (x3 + 1).toNatClampNeg 0), .ref 0]) rfl ?_
  refine PF.pr (k := 1) (pc' := 390) (lv' := [(3, .int x3), (2, .ref 129), (1, .ref 0), (0, .ref KB)]) (st' := [.int (x3 + 2), .ref KB, .int (xl.getD (x3 + 1).toNatClampNeg 0), .ref 0]) rfl ?_
  refine PF.scr rfl (fun c1 c2 => ?_)
  have h := h c1 c2
  refine (PF.callI (j := 67) (args := [.ref 0, .int (xl.getD (x3 + 1).toNatClampNeg 0), .int (xl.getD (x3 + 2).toNatClampNeg 0)]) (rest := []) (M := cM67) (ty := .int) rfl rfl rfl rfl rfl (by decide) rfl rfl (by decide) ?_).weak
  refine PF.imp h (fun v1 F1 h r1 hv => ?_)
  have h := h r1 hv
  refine PF.pr (k := 1) (pc' := 395) (lv' := [(3, .int x3), (2, .ref 129), (1, .ref 0), (0, .ref KB)]) (st' := []) rfl ?_
  refine PF.pr (k := 1) (pc' := 396) (lv' := [(3, .int x3), (2, .ref 129), (1, .ref 0), (0, .ref KB)]) (st' := [.ref 129]) rfl ?_
  refine PF.pr (k := 1) (pc' := 397) (lv' := [(3, .int x3), (2, .ref 129), (1, .ref 0), (0, .ref KB)]) (st' := [.ref KB, .ref 129]) rfl ?_
  refine PF.pr (k := 1) (pc' := 398) (lv' := [(3, .int x3), (2, .ref 129), (1, .ref 0), (0, .ref KB)]) (st' := [.int x3, .ref KB, .ref 129]) rfl ?_
  refine PF.pr (k := 1) (pc' := 399) (lv' := [(3, .int x3), (2, .ref 129), (1, .ref 0), (0, .ref KB)]) (st' := [.int 1, .int x3, .ref KB, .ref 129]) rfl ?_
  refine PF.pr (k := 1) (pc' := 400) (lv' := [(3, .int x3), (2, .ref 129), (1, .ref 0), (0, .ref KB)]) (st' := [.int (x3 + 1), .ref KB, .ref 129]) rfl ?_
  refine PF.scr rfl (fun c1 c2 => ?_)
  have h := h c1 c2
  refine PF.pr (k := 1) (pc' := 402) (lv' := [(3, .int x3), (2, .ref 129), (1, .ref 0), (0, .ref KB)]) (st' := [.ref KB, .int (xl.getD (x3 + 1).toNatClampNeg 0), .ref 129]) rfl ?_
  refine PF.pr (k := 1) (pc' := 403) (lv' := [(3, .int x3), (2, .ref 129), (1, .ref 0), (0, .ref KB)]) (st' := [.int x3, .ref KB, .int (xl.getD (x3 + 1).toNatClampNeg 0), .ref 129]) rfl ?_
  refine PF.pr (k := 1) (pc' := 404) (lv' := [(3, .int x3), (2, .ref 129), (1, .ref 0), (0, .ref KB)]) (st' := [.int 2, .int x3, .ref KB, .int (xl.getD (x3 + 1).toNatClampNeg 0), .ref 129]) rfl ?_
  refine PF.pr (k := 1) (pc' := 405) (lv' := [(3, .int x3), (2, .ref 129), (1, .ref 0), (0, .ref KB)]) (st' := [.int (x3 + 2), .ref KB, .int (xl.getD (x3 + 1).toNatClampNeg 0), .ref 129]) rfl ?_
  refine PF.scr rfl (fun c1 c2 => ?_)
  have h := h c1 c2
  refine (PF.callI (j := 183) (args := [.ref 129, .int (xl.getD (x3 + 1).toNatClampNeg 0), .int (xl.getD (x3 + 2).toNatClampNeg 0)]) (rest := []) (M := cM183) (ty := .int) rfl rfl rfl rfl rfl (by decide) rfl rfl (by decide) ?_).weak
  refine PF.imp h (fun v2 F2 h r2 hv => ?_)
  have h := h r2 hv
  refine PF.pr (k := 1) (pc' := 410) (lv' := [(3, .int x3), (2, .ref 129), (1, .ref 0), (0, .ref KB)]) (st' := []) rfl ?_
  refine PF.pr (k := 1) (pc' := 1253) (lv' := [(3, .int x3), (2, .ref 129), (1, .ref 0), (0, .ref KB)]) (st' := []) rfl ?_
  exact h

theorem l_413 {xl : List Int32} {n : Nat} {F : MH} {Q : Option Value → MH → Prop} {x3 : Int32} (h : (0 ≤ (x3 + 1).toInt → (x3 + 1).toInt < xl.length → (0 ≤ (x3 + 2).toInt → (x3 + 2).toInt < xl.length → PF (tRo xl) n 69 0 [(0, .ref 0), (1, .int (xl.getD (x3 + 1).toNatClampNeg 0)), (2, .int (xl.getD (x3 + 2).toNatClampNeg 0))] [] F (fun v1 F1 => ∀ r1, v1 = some (.int r1) → (0 ≤ (x3 + 1).toInt → (x3 + 1).toInt < xl.length → (0 ≤ (x3 + 2).toInt → (x3 + 2).toInt < xl.length → PF (tRo xl) n 185 0 [(0, .ref 129), (1, .int (xl.getD (x3 + 1).toNatClampNeg 0)), (2, .int (xl.getD (x3 + 2).toNatClampNeg 0))] [] F1 (fun v2 F2 => ∀ r2, v2 = some (.int r2) → PF (tRo xl) n 0 1253 [(3, .int x3), (2, .ref 129), (1, .ref 0), (0, .ref KB)] [] F2 Q))))))) : PF (tRo xl) (n + 1) 0 413 [(3, .int x3), (2, .ref 129), (1, .ref 0), (0, .ref KB)] [] F Q := by
  refine PF.pr1 (k := 0) (pc' := 414) (lv' := [(3, .int x3), (2, .ref 129), (1, .ref 0), (0, .ref KB)]) (st' := [.ref 0]) rfl ?_
  refine PF.pr (k := 1) (pc' := 415) (lv' := [(3, .int x3), (2, .ref 129), (1, .ref 0), (0, .ref KB)]) (st' := [.ref KB, .ref 0]) rfl ?_
  refine PF.pr (k := 1) (pc' := 416) (lv' := [(3, .int x3), (2, .ref 129), (1, .ref 0), (0, .ref KB)]) (st' := [.int x3, .ref KB, .ref 0]) rfl ?_
  refine PF.pr (k := 1) (pc' := 417) (lv' := [(3, .int x3), (2, .ref 129), (1, .ref 0), (0, .ref KB)]) (st' := [.int 1, .int x3, .ref KB, .ref 0]) rfl ?_
  refine PF.pr (k := 1) (pc' := 418) (lv' := [(3, .int x3), (2, .ref 129), (1, .ref 0), (0, .ref KB)]) (st' := [.int (x3 + 1), .ref KB, .ref 0]) rfl ?_
  refine PF.scr rfl (fun c1 c2 => ?_)
  have h := h c1 c2
  refine PF.pr (k := 1) (pc' := 420) (lv' := [(3, .int x3), (2, .ref 129), (1, .ref 0), (0, .ref KB)]) (st' := [.ref KB, .int (xl.getD (x3 + 1).toNatClampNeg 0), .ref 0]) rfl ?_
  refine PF.pr (k := 1) (pc' := 421) (lv' := [(3, .int x3), (2, .ref 129), (1, .ref 0), (0, .ref KB)]) (st' := [.int x3, .ref KB, .int (xl.getD (x3 + 1).toNatClampNeg 0), .ref 0]) rfl ?_
  refine PF.pr (k := 1) (pc' := 422) (lv' := [(3, .int x3), (2, .ref 129), (1, .ref 0), (0, .ref KB)]) (st' := [.int 2, .int x3, .ref KB, .int (xl.getD (x3 + 1).toNatClampNeg 0), .ref 0]) rfl ?_
  refine PF.pr (k := 1) (pc' := 423) (lv' := [(3, .int x3), (2, .ref 129), (1, .ref 0), (0, .ref KB)]) (st' := [.int (x3 + 2), .ref KB, .int (xl.getD (x3 + 1).toNatClampNeg 0), .ref 0]) rfl ?_
  refine PF.scr rfl (fun c1 c2 => ?_)
  have h := h c1 c2
  refine (PF.callI (j := 69) (args := [.ref 0, .int (xl.getD (x3 + 1).toNatClampNeg 0), .int (xl.getD (x3 + 2).toNatClampNeg 0)]) (rest := []) (M := cM69) (ty := .int) rfl rfl rfl rfl rfl (by decide) rfl rfl (by decide) ?_).weak
  refine PF.imp h (fun v1 F1 h r1 hv => ?_)
  have h := h r1 hv
  refine PF.pr (k := 1) (pc' := 428) (lv' := [(3, .int x3), (2, .ref 129), (1, .ref 0), (0, .ref KB)]) (st' := []) rfl ?_
  refine PF.pr (k := 1) (pc' := 429) (lv' := [(3, .int x3), (2, .ref 129), (1, .ref 0), (0, .ref KB)]) (st' := [.ref 129]) rfl ?_
  refine PF.pr (k := 1) (pc' := 430) (lv' := [(3, .int x3), (2, .ref 129), (1, .ref 0), (0, .ref KB)]) (st' := [.ref KB, .ref 129]) rfl ?_
  refine PF.pr (k := 1) (pc' := 431) (lv' := [(3, .int x3), (2, .ref 129), (1, .ref 0), (0, .ref KB)]) (st' := [.int x3, .ref KB, .ref 129]) rfl ?_
  refine PF.pr (k := 1) (pc' := 432) (lv' := [(3, .int x3), (2, .ref 129), (1, .ref 0), (0, .ref KB)]) (st' := [.int 1, .int x3, .ref KB, .ref 129]) rfl ?_
  refine PF.pr (k := 1) (pc' := 433) (lv' := [(3, .int x3), (2, .ref 129), (1, .ref 0), (0, .ref KB)]) (st' := [.int (x3 + 1), .ref KB, .ref 129]) rfl ?_
  refine PF.scr rfl (fun c1 c2 => ?_)
  have h := h c1 c2
  refine PF.pr (k := 1) (pc' := 435) (lv' := [(3, .int x3), (2, .ref 129), (1, .ref 0), (0, .ref KB)]) (st' := [.ref KB, .int (xl.getD (x3 + 1).toNatClampNeg 0), .ref 129]) rfl ?_
  refine PF.pr (k := 1) (pc' := 436) (lv' := [(3, .int x3), (2, .ref 129), (1, .ref 0), (0, .ref KB)]) (st' := [.int x3, .ref KB, .int (xl.getD (x3 + 1).toNatClampNeg 0), .ref 129]) rfl ?_
  refine PF.pr (k := 1) (pc' := 437) (lv' := [(3, .int x3), (2, .ref 129), (1, .ref 0), (0, .ref KB)]) (st' := [.int 2, .int x3, .ref KB, .int (xl.getD (x3 + 1).toNatClampNeg 0), .ref 129]) rfl ?_
  refine PF.pr (k := 1) (pc' := 438) (lv' := [(3, .int x3), (2, .ref 129), (1, .ref 0), (0, .ref KB)]) (st' := [.int (x3 + 2), .ref KB, .int (xl.getD (x3 + 1).toNatClampNeg 0), .ref 129]) rfl ?_
  refine PF.scr rfl (fun c1 c2 => ?_)
  have h := h c1 c2
  refine (PF.callI (j := 185) (args := [.ref 129, .int (xl.getD (x3 + 1).toNatClampNeg 0), .int (xl.getD (x3 + 2).toNatClampNeg 0)]) (rest := []) (M := cM185) (ty := .int) rfl rfl rfl rfl rfl (by decide) rfl rfl (by decide) ?_).weak
  refine PF.imp h (fun v2 F2 h r2 hv => ?_)
  have h := h r2 hv
  refine PF.pr (k := 1) (pc' := 443) (lv' := [(3, .int x3), (2, .ref 129), (1, .ref 0), (0, .ref KB)]) (st' := []) rfl ?_
  refine PF.pr (k := 1) (pc' := 1253) (lv' := [(3, .int x3), (2, .ref 129), (1, .ref 0), (0, .ref KB)]) (st' := []) rfl ?_
  exact h

theorem l_446 {xl : List Int32} {n : Nat} {F : MH} {Q : Option Value → MH → Prop} {x3 : Int32} (h : (0 ≤ (x3 + 1).toInt → (x3 + 1).toInt < xl.length → PF (tRo xl) n 75 0 [(0, .ref 0), (1, .int (xl.getD (x3 + 1).toNatClampNeg 0))] [] F (fun v1 F1 => ∀ r1, v1 = some (.int r1) → (0 ≤ (x3 + 1).toInt → (x3 + 1).toInt < xl.length → PF (tRo xl) n 190 0 [(0, .ref 129), (1, .int (xl.getD (x3 + 1).toNatClampNeg 0))] [] F1 (fun v2 F2 => ∀ r2, v2 = some (.int r2) → PF (tRo xl) n 0 1253 [(3, .int x3), (2, .ref 129), (1, .ref 0), (0, .ref KB)] [] F2 Q))))) : PF (tRo xl) (n + 1) 0 446 [(3, .int x3), (2, .ref 129), (1, .ref 0), (0, .ref KB)] [] F Q := by
  refine PF.pr1 (k := 0) (pc' := 447) (lv' := [(3, .int x3), (2, .ref 129), (1, .ref 0), (0, .ref KB)]) (st' := [.ref 0]) rfl ?_
  refine PF.pr (k := 1) (pc' := 448) (lv' := [(3, .int x3), (2, .ref 129), (1, .ref 0), (0, .ref KB)]) (st' := [.ref KB, .ref 0]) rfl ?_
  refine PF.pr (k := 1) (pc' := 449) (lv' := [(3, .int x3), (2, .ref 129), (1, .ref 0), (0, .ref KB)]) (st' := [.int x3, .ref KB, .ref 0]) rfl ?_
  refine PF.pr (k := 1) (pc' := 450) (lv' := [(3, .int x3), (2, .ref 129), (1, .ref 0), (0, .ref KB)]) (st' := [.int 1, .int x3, .ref KB, .ref 0]) rfl ?_
  refine PF.pr (k := 1) (pc' := 451) (lv' := [(3, .int x3), (2, .ref 129), (1, .ref 0), (0, .ref KB)]) (st' := [.int (x3 + 1), .ref KB, .ref 0]) rfl ?_
  refine PF.scr rfl (fun c1 c2 => ?_)
  have h := h c1 c2
  refine (PF.callI (j := 75) (args := [.ref 0, .int (xl.getD (x3 + 1).toNatClampNeg 0)]) (rest := []) (M := cM75) (ty := .int) rfl rfl rfl rfl rfl (by decide) rfl rfl (by decide) ?_).weak
  refine PF.imp h (fun v1 F1 h r1 hv => ?_)
  have h := h r1 hv
  refine PF.pr (k := 1) (pc' := 456) (lv' := [(3, .int x3), (2, .ref 129), (1, .ref 0), (0, .ref KB)]) (st' := []) rfl ?_
  refine PF.pr (k := 1) (pc' := 457) (lv' := [(3, .int x3), (2, .ref 129), (1, .ref 0), (0, .ref KB)]) (st' := [.ref 129]) rfl ?_
  refine PF.pr (k := 1) (pc' := 458) (lv' := [(3, .int x3), (2, .ref 129), (1, .ref 0), (0, .ref KB)]) (st' := [.ref KB, .ref 129]) rfl ?_
  refine PF.pr (k := 1) (pc' := 459) (lv' := [(3, .int x3), (2, .ref 129), (1, .ref 0), (0, .ref KB)]) (st' := [.int x3, .ref KB, .ref 129]) rfl ?_
  refine PF.pr (k := 1) (pc' := 460) (lv' := [(3, .int x3), (2, .ref 129), (1, .ref 0), (0, .ref KB)]) (st' := [.int 1, .int x3, .ref KB, .ref 129]) rfl ?_
  refine PF.pr (k := 1) (pc' := 461) (lv' := [(3, .int x3), (2, .ref 129), (1, .ref 0), (0, .ref KB)]) (st' := [.int (x3 + 1), .ref KB, .ref 129]) rfl ?_
  refine PF.scr rfl (fun c1 c2 => ?_)
  have h := h c1 c2
  refine (PF.callI (j := 190) (args := [.ref 129, .int (xl.getD (x3 + 1).toNatClampNeg 0)]) (rest := []) (M := cM190) (ty := .int) rfl rfl rfl rfl rfl (by decide) rfl rfl (by decide) ?_).weak
  refine PF.imp h (fun v2 F2 h r2 hv => ?_)
  have h := h r2 hv
  refine PF.pr (k := 1) (pc' := 466) (lv' := [(3, .int x3), (2, .ref 129), (1, .ref 0), (0, .ref KB)]) (st' := []) rfl ?_
  refine PF.pr (k := 1) (pc' := 1253) (lv' := [(3, .int x3), (2, .ref 129), (1, .ref 0), (0, .ref KB)]) (st' := []) rfl ?_
  exact h

theorem l_469 {xl : List Int32} {n : Nat} {F : MH} {Q : Option Value → MH → Prop} {x3 : Int32} (h : (0 ≤ (x3 + 1).toInt → (x3 + 1).toInt < xl.length → PF (tRo xl) n 81 0 [(0, .ref 0), (1, .int (xl.getD (x3 + 1).toNatClampNeg 0))] [] F (fun v1 F1 => ∀ r1, v1 = some (.int r1) → (0 ≤ (x3 + 1).toInt → (x3 + 1).toInt < xl.length → PF (tRo xl) n 194 0 [(0, .ref 129), (1, .int (xl.getD (x3 + 1).toNatClampNeg 0))] [] F1 (fun v2 F2 => ∀ r2, v2 = some (.int r2) → PF (tRo xl) n 0 1253 [(3, .int x3), (2, .ref 129), (1, .ref 0), (0, .ref KB)] [] F2 Q))))) : PF (tRo xl) (n + 1) 0 469 [(3, .int x3), (2, .ref 129), (1, .ref 0), (0, .ref KB)] [] F Q := by
  refine PF.pr1 (k := 0) (pc' := 470) (lv' := [(3, .int x3), (2, .ref 129), (1, .ref 0), (0, .ref KB)]) (st' := [.ref 0]) rfl ?_
  refine PF.pr (k := 1) (pc' := 471) (lv' := [(3, .int x3), (2, .ref 129), (1, .ref 0), (0, .ref KB)]) (st' := [.ref KB, .ref 0]) rfl ?_
  refine PF.pr (k := 1) (pc' := 472) (lv' := [(3, .int x3), (2, .ref 129), (1, .ref 0), (0, .ref KB)]) (st' := [.int x3, .ref KB, .ref 0]) rfl ?_
  refine PF.pr (k := 1) (pc' := 473) (lv' := [(3, .int x3), (2, .ref 129), (1, .ref 0), (0, .ref KB)]) (st' := [.int 1, .int x3, .ref KB, .ref 0]) rfl ?_
  refine PF.pr (k := 1) (pc' := 474) (lv' := [(3, .int x3), (2, .ref 129), (1, .ref 0), (0, .ref KB)]) (st' := [.int (x3 + 1), .ref KB, .ref 0]) rfl ?_
  refine PF.scr rfl (fun c1 c2 => ?_)
  have h := h c1 c2
  refine (PF.callI (j := 81) (args := [.ref 0, .int (xl.getD (x3 + 1).toNatClampNeg 0)]) (rest := []) (M := cM81) (ty := .int) rfl rfl rfl rfl rfl (by decide) rfl rfl (by decide) ?_).weak
  refine PF.imp h (fun v1 F1 h r1 hv => ?_)
  have h := h r1 hv
  refine PF.pr (k := 1) (pc' := 479) (lv' := [(3, .int x3), (2, .ref 129), (1, .ref 0), (0, .ref KB)]) (st' := []) rfl ?_
  refine PF.pr (k := 1) (pc' := 480) (lv' := [(3, .int x3), (2, .ref 129), (1, .ref 0), (0, .ref KB)]) (st' := [.ref 129]) rfl ?_
  refine PF.pr (k := 1) (pc' := 481) (lv' := [(3, .int x3), (2, .ref 129), (1, .ref 0), (0, .ref KB)]) (st' := [.ref KB, .ref 129]) rfl ?_
  refine PF.pr (k := 1) (pc' := 482) (lv' := [(3, .int x3), (2, .ref 129), (1, .ref 0), (0, .ref KB)]) (st' := [.int x3, .ref KB, .ref 129]) rfl ?_
  refine PF.pr (k := 1) (pc' := 483) (lv' := [(3, .int x3), (2, .ref 129), (1, .ref 0), (0, .ref KB)]) (st' := [.int 1, .int x3, .ref KB, .ref 129]) rfl ?_
  refine PF.pr (k := 1) (pc' := 484) (lv' := [(3, .int x3), (2, .ref 129), (1, .ref 0), (0, .ref KB)]) (st' := [.int (x3 + 1), .ref KB, .ref 129]) rfl ?_
  refine PF.scr rfl (fun c1 c2 => ?_)
  have h := h c1 c2
  refine (PF.callI (j := 194) (args := [.ref 129, .int (xl.getD (x3 + 1).toNatClampNeg 0)]) (rest := []) (M := cM194) (ty := .int) rfl rfl rfl rfl rfl (by decide) rfl rfl (by decide) ?_).weak
  refine PF.imp h (fun v2 F2 h r2 hv => ?_)
  have h := h r2 hv
  refine PF.pr (k := 1) (pc' := 489) (lv' := [(3, .int x3), (2, .ref 129), (1, .ref 0), (0, .ref KB)]) (st' := []) rfl ?_
  refine PF.pr (k := 1) (pc' := 1253) (lv' := [(3, .int x3), (2, .ref 129), (1, .ref 0), (0, .ref KB)]) (st' := []) rfl ?_
  exact h

theorem l_492 {xl : List Int32} {n : Nat} {F : MH} {Q : Option Value → MH → Prop} {x3 : Int32} (h : (0 ≤ (x3 + 1).toInt → (x3 + 1).toInt < xl.length → (0 ≤ (x3 + 2).toInt → (x3 + 2).toInt < xl.length → (0 ≤ (x3 + 3).toInt → (x3 + 3).toInt < xl.length → PF (tRo xl) n 82 0 [(0, .ref 0), (1, .int (xl.getD (x3 + 1).toNatClampNeg 0)), (2, .int (xl.getD (x3 + 2).toNatClampNeg 0)), (3, .int (xl.getD (x3 + 3).toNatClampNeg 0))] [] F (fun v1 F1 => ∀ r1, v1 = some (.int r1) → (0 ≤ (x3 + 1).toInt → (x3 + 1).toInt < xl.length → (0 ≤ (x3 + 2).toInt → (x3 + 2).toInt < xl.length → (0 ≤ (x3 + 3).toInt → (x3 + 3).toInt < xl.length → PF (tRo xl) n 195 0 [(0, .ref 129), (1, .int (xl.getD (x3 + 1).toNatClampNeg 0)), (2, .int (xl.getD (x3 + 2).toNatClampNeg 0)), (3, .int (xl.getD (x3 + 3).toNatClampNeg 0))] [] F1 (fun v2 F2 => ∀ r2, v2 = some (.int r2) → PF (tRo xl) n 0 1253 [(3, .int x3), (2, .ref 129), (1, .ref 0), (0, .ref KB)] [] F2 Q))))))))) : PF (tRo xl) (n + 1) 0 492 [(3, .int x3), (2, .ref 129), (1, .ref 0), (0, .ref KB)] [] F Q := by
  refine PF.pr1 (k := 0) (pc' := 493) (lv' := [(3, .int x3), (2, .ref 129), (1, .ref 0), (0, .ref KB)]) (st' := [.ref 0]) rfl ?_
  refine PF.pr (k := 1) (pc' := 494) (lv' := [(3, .int x3), (2, .ref 129), (1, .ref 0), (0, .ref KB)]) (st' := [.ref KB, .ref 0]) rfl ?_
  refine PF.pr (k := 1) (pc' := 495) (lv' := [(3, .int x3), (2, .ref 129), (1, .ref 0), (0, .ref KB)]) (st' := [.int x3, .ref KB, .ref 0]) rfl ?_
  refine PF.pr (k := 1) (pc' := 496) (lv' := [(3, .int x3), (2, .ref 129), (1, .ref 0), (0, .ref KB)]) (st' := [.int 1, .int x3, .ref KB, .ref 0]) rfl ?_
  refine PF.pr (k := 1) (pc' := 497) (lv' := [(3, .int x3), (2, .ref 129), (1, .ref 0), (0, .ref KB)]) (st' := [.int (x3 + 1), .ref KB, .ref 0]) rfl ?_
  refine PF.scr rfl (fun c1 c2 => ?_)
  have h := h c1 c2
  refine PF.pr (k := 1) (pc' := 499) (lv' := [(3, .int x3), (2, .ref 129), (1, .ref 0), (0, .ref KB)]) (st' := [.ref KB, .int (xl.getD (x3 + 1).toNatClampNeg 0), .ref 0]) rfl ?_
  refine PF.pr (k := 1) (pc' := 500) (lv' := [(3, .int x3), (2, .ref 129), (1, .ref 0), (0, .ref KB)]) (st' := [.int x3, .ref KB, .int (xl.getD (x3 + 1).toNatClampNeg 0), .ref 0]) rfl ?_
  refine PF.pr (k := 1) (pc' := 501) (lv' := [(3, .int x3), (2, .ref 129), (1, .ref 0), (0, .ref KB)]) (st' := [.int 2, .int x3, .ref KB, .int (xl.getD (x3 + 1).toNatClampNeg 0), .ref 0]) rfl ?_
  refine PF.pr (k := 1) (pc' := 502) (lv' := [(3, .int x3), (2, .ref 129), (1, .ref 0), (0, .ref KB)]) (st' := [.int (x3 + 2), .ref KB, .int (xl.getD (x3 + 1).toNatClampNeg 0), .ref 0]) rfl ?_
  refine PF.scr rfl (fun c1 c2 => ?_)
  have h := h c1 c2
  refine PF.pr (k := 1) (pc' := 504) (lv' := [(3, .int x3), (2, .ref 129), (1, .ref 0), (0, .ref KB)]) (st' := [.ref KB, .int (xl.getD (x3 + 2).toNatClampNeg 0), .int (xl.getD (x3 + 1).toNatClampNeg 0), .ref 0]) rfl ?_
  refine PF.pr (k := 1) (pc' := 505) (lv' := [(3, .int x3), (2, .ref 129), (1, .ref 0), (0, .ref KB)]) (st' := [.int x3, .ref KB, .int (xl.getD (x3 + 2).toNatClampNeg 0), .int (xl.getD (x3 + 1).toNatClampNeg 0), .ref 0]) rfl ?_
  refine PF.pr (k := 1) (pc' := 506) (lv' := [(3, .int x3), (2, .ref 129), (1, .ref 0), (0, .ref KB)]) (st' := [.int 3, .int x3, .ref KB, .int (xl.getD (x3 + 2).toNatClampNeg 0), .int (xl.getD (x3 + 1).toNatClampNeg 0), .ref 0]) rfl ?_
  refine PF.pr (k := 1) (pc' := 507) (lv' := [(3, .int x3), (2, .ref 129), (1, .ref 0), (0, .ref KB)]) (st' := [.int (x3 + 3), .ref KB, .int (xl.getD (x3 + 2).toNatClampNeg 0), .int (xl.getD (x3 + 1).toNatClampNeg 0), .ref 0]) rfl ?_
  refine PF.scr rfl (fun c1 c2 => ?_)
  have h := h c1 c2
  refine (PF.callI (j := 82) (args := [.ref 0, .int (xl.getD (x3 + 1).toNatClampNeg 0), .int (xl.getD (x3 + 2).toNatClampNeg 0), .int (xl.getD (x3 + 3).toNatClampNeg 0)]) (rest := []) (M := cM82) (ty := .int) rfl rfl rfl rfl rfl (by decide) rfl rfl (by decide) ?_).weak
  refine PF.imp h (fun v1 F1 h r1 hv => ?_)
  have h := h r1 hv
  refine PF.pr (k := 1) (pc' := 512) (lv' := [(3, .int x3), (2, .ref 129), (1, .ref 0), (0, .ref KB)]) (st' := []) rfl ?_
  refine PF.pr (k := 1) (pc' := 513) (lv' := [(3, .int x3), (2, .ref 129), (1, .ref 0), (0, .ref KB)]) (st' := [.ref 129]) rfl ?_
  refine PF.pr (k := 1) (pc' := 514) (lv' := [(3, .int x3), (2, .ref 129), (1, .ref 0), (0, .ref KB)]) (st' := [.ref KB, .ref 129]) rfl ?_
  refine PF.pr (k := 1) (pc' := 515) (lv' := [(3, .int x3), (2, .ref 129), (1, .ref 0), (0, .ref KB)]) (st' := [.int x3, .ref KB, .ref 129]) rfl ?_
  refine PF.pr (k := 1) (pc' := 516) (lv' := [(3, .int x3), (2, .ref 129), (1, .ref 0), (0, .ref KB)]) (st' := [.int 1, .int x3, .ref KB, .ref 129]) rfl ?_
  refine PF.pr (k := 1) (pc' := 517) (lv' := [(3, .int x3), (2, .ref 129), (1, .ref 0), (0, .ref KB)]) (st' := [.int (x3 + 1), .ref KB, .ref 129]) rfl ?_
  refine PF.scr rfl (fun c1 c2 => ?_)
  have h := h c1 c2
  refine PF.pr (k := 1) (pc' := 519) (lv' := [(3, .int x3), (2, .ref 129), (1, .ref 0), (0, .ref KB)]) (st' := [.ref KB, .int (xl.getD (x3 + 1).toNatClampNeg 0), .ref 129]) rfl ?_
  refine PF.pr (k := 1) (pc' := 520) (lv' := [(3, .int x3), (2, .ref 129), (1, .ref 0), (0, .ref KB)]) (st' := [.int x3, .ref KB, .int (xl.getD (x3 + 1).toNatClampNeg 0), .ref 129]) rfl ?_
  refine PF.pr (k := 1) (pc' := 521) (lv' := [(3, .int x3), (2, .ref 129), (1, .ref 0), (0, .ref KB)]) (st' := [.int 2, .int x3, .ref KB, .int (xl.getD (x3 + 1).toNatClampNeg 0), .ref 129]) rfl ?_
  refine PF.pr (k := 1) (pc' := 522) (lv' := [(3, .int x3), (2, .ref 129), (1, .ref 0), (0, .ref KB)]) (st' := [.int (x3 + 2), .ref KB, .int (xl.getD (x3 + 1).toNatClampNeg 0), .ref 129]) rfl ?_
  refine PF.scr rfl (fun c1 c2 => ?_)
  have h := h c1 c2
  refine PF.pr (k := 1) (pc' := 524) (lv' := [(3, .int x3), (2, .ref 129), (1, .ref 0), (0, .ref KB)]) (st' := [.ref KB, .int (xl.getD (x3 + 2).toNatClampNeg 0), .int (xl.getD (x3 + 1).toNatClampNeg 0), .ref 129]) rfl ?_
  refine PF.pr (k := 1) (pc' := 525) (lv' := [(3, .int x3), (2, .ref 129), (1, .ref 0), (0, .ref KB)]) (st' := [.int x3, .ref KB, .int (xl.getD (x3 + 2).toNatClampNeg 0), .int (xl.getD (x3 + 1).toNatClampNeg 0), .ref 129]) rfl ?_
  refine PF.pr (k := 1) (pc' := 526) (lv' := [(3, .int x3), (2, .ref 129), (1, .ref 0), (0, .ref KB)]) (st' := [.int 3, .int x3, .ref KB, .int (xl.getD (x3 + 2).toNatClampNeg 0), .int (xl.getD (x3 + 1).toNatClampNeg 0), .ref 129]) rfl ?_
  refine PF.pr (k := 1) (pc' := 527) (lv' := [(3, .int x3), (2, .ref 129), (1, .ref 0), (0, .ref KB)]) (st' := [.int (x3 + 3), .ref KB, .int (xl.getD (x3 + 2).toNatClampNeg 0), .int (xl.getD (x3 + 1).toNatClampNeg 0), .ref 129]) rfl ?_
  refine PF.scr rfl (fun c1 c2 => ?_)
  have h := h c1 c2
  refine (PF.callI (j := 195) (args := [.ref 129, .int (xl.getD (x3 + 1).toNatClampNeg 0), .int (xl.getD (x3 + 2).toNatClampNeg 0), .int (xl.getD (x3 + 3).toNatClampNeg 0)]) (rest := []) (M := cM195) (ty := .int) rfl rfl rfl rfl rfl (by decide) rfl rfl (by decide) ?_).weak
  refine PF.imp h (fun v2 F2 h r2 hv => ?_)
  have h := h r2 hv
  refine PF.pr (k := 1) (pc' := 532) (lv' := [(3, .int x3), (2, .ref 129), (1, .ref 0), (0, .ref KB)]) (st' := []) rfl ?_
  refine PF.pr (k := 1) (pc' := 1253) (lv' := [(3, .int x3), (2, .ref 129), (1, .ref 0), (0, .ref KB)]) (st' := []) rfl ?_
  exact h

theorem l_535 {xl : List Int32} {n : Nat} {F : MH} {Q : Option Value → MH → Prop} {x3 : Int32} (h : (0 ≤ (x3 + 1).toInt → (x3 + 1).toInt < xl.length → (0 ≤ (x3 + 2).toInt → (x3 + 2).toInt < xl.length → (0 ≤ (x3 + 3).toInt → (x3 + 3).toInt < xl.length → (((xl.getD (x3 + 3).toNatClampNeg 0) = 0 → PF (tRo xl) n 83 0 [(0, .ref 0), (1, .int (xl.getD (x3 + 1).toNatClampNeg 0)), (2, .int (xl.getD (x3 + 2).toNatClampNeg 0)), (3, .int 0)] [] F (fun v1 F1 => ∀ r1, v1 = some (.int r1) → (0 ≤ (x3 + 1).toInt → (x3 + 1).toInt < xl.length → (0 ≤ (x3 + 2).toInt → (x3 + 2).toInt < xl.length → (0 ≤ (x3 + 3).toInt → (x3 + 3).toInt < xl.length → (((xl.getD (x3 + 3).toNatClampNeg 0) = 0 → PF (tRo xl) n 198 0 [(0, .ref 129), (1, .int (xl.getD (x3 + 1).toNatClampNeg 0)), (2, .int (xl.getD (x3 + 2).toNatClampNeg 0)), (3, .int 0)] [] F1 (fun v2 F2 => ∀ r2, v2 = some (.int r2) → PF (tRo xl) n 0 1253 [(3, .int x3), (2, .ref 129), (1, .ref 0), (0, .ref KB)] [] F2 Q)) ∧ (¬ (xl.getD (x3 + 3).toNatClampNeg 0) = 0 → PF (tRo xl) n 198 0 [(0, .ref 129), (1, .int (xl.getD (x3 + 1).toNatClampNeg 0)), (2, .int (xl.getD (x3 + 2).toNatClampNeg 0)), (3, .int 1)] [] F1 (fun v3 F3 => ∀ r3, v3 = some (.int r3) → PF (tRo xl) n 0 1253 [(3, .int x3), (2, .ref 129), (1, .ref 0), (0, .ref KB)] [] F3 Q)))))))) ∧ (¬ (xl.getD (x3 + 3).toNatClampNeg 0) = 0 → PF (tRo xl) n 83 0 [(0, .ref 0), (1, .int (xl.getD (x3 + 1).toNatClampNeg 0)), (2, .int (xl.getD (x3 + 2).toNatClampNeg 0)), (3, .int 1)] [] F (fun v4 F4 => ∀ r4, v4 = some (.int r4) → (0 ≤ (x3 + 1).toInt → (x3 + 1).toInt < xl.length → (0 ≤ (x3 + 2).toInt → (x3 + 2).toInt < xl.length → (0 ≤ (x3 + 3).toInt → (x3 + 3).toInt < xl.length → (((xl.getD (x3 + 3).toNatClampNeg 0) = 0 → PF (tRo xl) n 198 0 [(0, .ref 129), (1, .int (xl.getD (x3 + 1).toNatClampNeg 0)), (2, .int (xl.getD (x3 + 2).toNatClampNeg 0)), (3, .int 0)] [] F4 (fun v5 F5 => ∀ r5, v5 = some (.int r5) → PF (tRo xl) n 0 1253 [(3, .int x3), (2, .ref 129), (1, .ref 0), (0, .ref KB)] [] F5 Q)) ∧ (¬ (xl.getD (x3 + 3).toNatClampNeg 0) = 0 → PF (tRo xl) n 198 0 [(0, .ref 129), (1, .int (xl.getD (x3 + 1).toNatClampNeg 0)), (2, .int (xl.getD (x3 + 2).toNatClampNeg 0)), (3, .int 1)] [] F4 (fun v6 F6 => ∀ r6, v6 = some (.int r6) → PF (tRo xl) n 0 1253 [(3, .int x3), (2, .ref 129), (1, .ref 0), (0, .ref KB)] [] F6 Q))))))))))))) : PF (tRo xl) (n + 1) 0 535 [(3, .int x3), (2, .ref 129), (1, .ref 0), (0, .ref KB)] [] F Q := by
  refine PF.pr1 (k := 0) (pc' := 536) (lv' := [(3, .int x3), (2, .ref 129), (1, .ref 0), (0, .ref KB)]) (st' := [.ref 0]) rfl ?_
  refine PF.pr (k := 1) (pc' := 537) (lv' := [(3, .int x3), (2, .ref 129), (1, .ref 0), (0, .ref KB)]) (st' := [.ref KB, .ref 0]) rfl ?_
  refine PF.pr (k := 1) (pc' := 538) (lv' := [(3, .int x3), (2, .ref 129), (1, .ref 0), (0, .ref KB)]) (st' := [.int x3, .ref KB, .ref 0]) rfl ?_
  refine PF.pr (k := 1) (pc' := 539) (lv' := [(3, .int x3), (2, .ref 129), (1, .ref 0), (0, .ref KB)]) (st' := [.int 1, .int x3, .ref KB, .ref 0]) rfl ?_
  refine PF.pr (k := 1) (pc' := 540) (lv' := [(3, .int x3), (2, .ref 129), (1, .ref 0), (0, .ref KB)]) (st' := [.int (x3 + 1), .ref KB, .ref 0]) rfl ?_
  refine PF.scr rfl (fun c1 c2 => ?_)
  have h := h c1 c2
  refine PF.pr (k := 1) (pc' := 542) (lv' := [(3, .int x3), (2, .ref 129), (1, .ref 0), (0, .ref KB)]) (st' := [.ref KB, .int (xl.getD (x3 + 1).toNatClampNeg 0), .ref 0]) rfl ?_
  refine PF.pr (k := 1) (pc' := 543) (lv' := [(3, .int x3), (2, .ref 129), (1, .ref 0), (0, .ref KB)]) (st' := [.int x3, .ref KB, .int (xl.getD (x3 + 1).toNatClampNeg 0), .ref 0]) rfl ?_
  refine PF.pr (k := 1) (pc' := 544) (lv' := [(3, .int x3), (2, .ref 129), (1, .ref 0), (0, .ref KB)]) (st' := [.int 2, .int x3, .ref KB, .int (xl.getD (x3 + 1).toNatClampNeg 0), .ref 0]) rfl ?_
  refine PF.pr (k := 1) (pc' := 545) (lv' := [(3, .int x3), (2, .ref 129), (1, .ref 0), (0, .ref KB)]) (st' := [.int (x3 + 2), .ref KB, .int (xl.getD (x3 + 1).toNatClampNeg 0), .ref 0]) rfl ?_
  refine PF.scr rfl (fun c1 c2 => ?_)
  have h := h c1 c2
  refine PF.pr (k := 1) (pc' := 547) (lv' := [(3, .int x3), (2, .ref 129), (1, .ref 0), (0, .ref KB)]) (st' := [.ref KB, .int (xl.getD (x3 + 2).toNatClampNeg 0), .int (xl.getD (x3 + 1).toNatClampNeg 0), .ref 0]) rfl ?_
  refine PF.pr (k := 1) (pc' := 548) (lv' := [(3, .int x3), (2, .ref 129), (1, .ref 0), (0, .ref KB)]) (st' := [.int x3, .ref KB, .int (xl.getD (x3 + 2).toNatClampNeg 0), .int (xl.getD (x3 + 1).toNatClampNeg 0), .ref 0]) rfl ?_
  refine PF.pr (k := 1) (pc' := 549) (lv' := [(3, .int x3), (2, .ref 129), (1, .ref 0), (0, .ref KB)]) (st' := [.int 3, .int x3, .ref KB, .int (xl.getD (x3 + 2).toNatClampNeg 0), .int (xl.getD (x3 + 1).toNatClampNeg 0), .ref 0]) rfl ?_
  refine PF.pr (k := 1) (pc' := 550) (lv' := [(3, .int x3), (2, .ref 129), (1, .ref 0), (0, .ref KB)]) (st' := [.int (x3 + 3), .ref KB, .int (xl.getD (x3 + 2).toNatClampNeg 0), .int (xl.getD (x3 + 1).toNatClampNeg 0), .ref 0]) rfl ?_
  refine PF.scr rfl (fun c1 c2 => ?_)
  have h := h c1 c2
  refine PF.if1 (t := 558) rfl rfl (fun c => ?_) (fun c => ?_)
  · have h := h.1 (cmp_eq.1.mp c)
    refine PF.pr (k := 1) (pc' := 559) (lv' := [(3, .int x3), (2, .ref 129), (1, .ref 0), (0, .ref KB)]) (st' := [.int 0, .int (xl.getD (x3 + 2).toNatClampNeg 0), .int (xl.getD (x3 + 1).toNatClampNeg 0), .ref 0]) rfl ?_
    refine (PF.callI (j := 83) (args := [.ref 0, .int (xl.getD (x3 + 1).toNatClampNeg 0), .int (xl.getD (x3 + 2).toNatClampNeg 0), .int 0]) (rest := []) (M := cM83) (ty := .int) rfl rfl rfl rfl rfl (by decide) rfl rfl (by decide) ?_).weak
    refine PF.imp h (fun v1 F1 h r1 hv => ?_)
    have h := h r1 hv
    refine PF.pr (k := 1) (pc' := 563) (lv' := [(3, .int x3), (2, .ref 129), (1, .ref 0), (0, .ref KB)]) (st' := []) rfl ?_
    refine PF.pr (k := 1) (pc' := 564) (lv' := [(3, .int x3), (2, .ref 129), (1, .ref 0), (0, .ref KB)]) (st' := [.ref 129]) rfl ?_
    refine PF.pr (k := 1) (pc' := 565) (lv' := [(3, .int x3), (2, .ref 129), (1, .ref 0), (0, .ref KB)]) (st' := [.ref KB, .ref 129]) rfl ?_
    refine PF.pr (k := 1) (pc' := 566) (lv' := [(3, .int x3), (2, .ref 129), (1, .ref 0), (0, .ref KB)]) (st' := [.int x3, .ref KB, .ref 129]) rfl ?_
    refine PF.pr (k := 1) (pc' := 567) (lv' := [(3, .int x3), (2, .ref 129), (1, .ref 0), (0, .ref KB)]) (st' := [.int 1, .int x3, .ref KB, .ref 129]) rfl ?_
    refine PF.pr (k := 1) (pc' := 568) (lv' := [(3, .int x3), (2, .ref 129), (1, .ref 0), (0, .ref KB)]) (st' := [.int (x3 + 1), .ref KB, .ref 129]) rfl ?_
    refine PF.scr rfl (fun c1 c2 => ?_)
    have h := h c1 c2
    refine PF.pr (k := 1) (pc' := 570) (lv' := [(3, .int x3), (2, .ref 129), (1, .ref 0), (0, .ref KB)]) (st' := [.ref KB, .int (xl.getD (x3 + 1).toNatClampNeg 0), .ref 129]) rfl ?_
    refine PF.pr (k := 1) (pc' := 571) (lv' := [(3, .int x3), (2, .ref 129), (1, .ref 0), (0, .ref KB)]) (st' := [.int x3, .ref KB, .int (xl.getD (x3 + 1).toNatClampNeg 0), .ref 129]) rfl ?_
    refine PF.pr (k := 1) (pc' := 572) (lv' := [(3, .int x3), (2, .ref 129), (1, .ref 0), (0, .ref KB)]) (st' := [.int 2, .int x3, .ref KB, .int (xl.getD (x3 + 1).toNatClampNeg 0), .ref 129]) rfl ?_
    refine PF.pr (k := 1) (pc' := 573) (lv' := [(3, .int x3), (2, .ref 129), (1, .ref 0), (0, .ref KB)]) (st' := [.int (x3 + 2), .ref KB, .int (xl.getD (x3 + 1).toNatClampNeg 0), .ref 129]) rfl ?_
    refine PF.scr rfl (fun c1 c2 => ?_)
    have h := h c1 c2
    refine PF.pr (k := 1) (pc' := 575) (lv' := [(3, .int x3), (2, .ref 129), (1, .ref 0), (0, .ref KB)]) (st' := [.ref KB, .int (xl.getD (x3 + 2).toNatClampNeg 0), .int (xl.getD (x3 + 1).toNatClampNeg 0), .ref 129]) rfl ?_
    refine PF.pr (k := 1) (pc' := 576) (lv' := [(3, .int x3), (2, .ref 129), (1, .ref 0), (0, .ref KB)]) (st' := [.int x3, .ref KB, .int (xl.getD (x3 + 2).toNatClampNeg 0), .int (xl.getD (x3 + 1).toNatClampNeg 0), .ref 129]) rfl ?_
    refine PF.pr (k := 1) (pc' := 577) (lv' := [(3, .int x3), (2, .ref 129), (1, .ref 0), (0, .ref KB)]) (st' := [.int 3, .int x3, .ref KB, .int (xl.getD (x3 + 2).toNatClampNeg 0), .int (xl.getD (x3 + 1).toNatClampNeg 0), .ref 129]) rfl ?_
    refine PF.pr (k := 1) (pc' := 578) (lv' := [(3, .int x3), (2, .ref 129), (1, .ref 0), (0, .ref KB)]) (st' := [.int (x3 + 3), .ref KB, .int (xl.getD (x3 + 2).toNatClampNeg 0), .int (xl.getD (x3 + 1).toNatClampNeg 0), .ref 129]) rfl ?_
    refine PF.scr rfl (fun c1 c2 => ?_)
    have h := h c1 c2
    refine PF.if1 (t := 586) rfl rfl (fun c => ?_) (fun c => ?_)
    · have h := h.1 (cmp_eq.1.mp c)
      refine PF.pr (k := 1) (pc' := 587) (lv' := [(3, .int x3), (2, .ref 129), (1, .ref 0), (0, .ref KB)]) (st' := [.int 0, .int (xl.getD (x3 + 2).toNatClampNeg 0), .int (xl.getD (x3 + 1).toNatClampNeg 0), .ref 129]) rfl ?_
      refine (PF.callI (j := 198) (args := [.ref 129, .int (xl.getD (x3 + 1).toNatClampNeg 0), .int (xl.getD (x3 + 2).toNatClampNeg 0), .int 0]) (rest := []) (M := cM198) (ty := .int) rfl rfl rfl rfl rfl (by decide) rfl rfl (by decide) ?_).weak
      refine PF.imp h (fun v2 F2 h r2 hv => ?_)
      have h := h r2 hv
      refine PF.pr (k := 1) (pc' := 591) (lv' := [(3, .int x3), (2, .ref 129), (1, .ref 0), (0, .ref KB)]) (st' := []) rfl ?_
      refine PF.pr (k := 1) (pc' := 1253) (lv' := [(3, .int x3), (2, .ref 129), (1, .ref 0), (0, .ref KB)]) (st' := []) rfl ?_
      exact h
    · have h := h.2 (cmp_eq.2.mp c)
      refine PF.pr (k := 1) (pc' := 583) (lv' := [(3, .int x3), (2, .ref 129), (1, .ref 0), (0, .ref KB)]) (st' := [.int 1, .int (xl.getD (x3 + 2).toNatClampNeg 0), .int (xl.getD (x3 + 1).toNatClampNeg 0), .ref 129]) rfl ?_
      refine PF.pr (k := 1) (pc' := 587) (lv' := [(3, .int x3), (2, .ref 129), (1, .ref 0), (0, .ref KB)]) (st' := [.int 1, .int (xl.getD (x3 + 2).toNatClampNeg 0), .int (xl.getD (x3 + 1).toNatClampNeg 0), .ref 129]) rfl ?_
      refine (PF.callI (j := 198) (args := [.ref 129, .int (xl.getD (x3 + 1).toNatClampNeg 0), .int (xl.getD (x3 + 2).toNatClampNeg 0), .int 1]) (rest := []) (M := cM198) (ty := .int) rfl rfl rfl rfl rfl (by decide) rfl rfl (by decide) ?_).weak
      refine PF.imp h (fun v3 F3 h r3 hv => ?_)
      have h := h r3 hv
      refine PF.pr (k := 1) (pc' := 591) (lv' := [(3, .int x3), (2, .ref 129), (1, .ref 0), (0, .ref KB)]) (st' := []) rfl ?_
      refine PF.pr (k := 1) (pc' := 1253) (lv' := [(3, .int x3), (2, .ref 129), (1, .ref 0), (0, .ref KB)]) (st' := []) rfl ?_
      exact h
  · have h := h.2 (cmp_eq.2.mp c)
    refine PF.pr (k := 1) (pc' := 555) (lv' := [(3, .int x3), (2, .ref 129), (1, .ref 0), (0, .ref KB)]) (st' := [.int 1, .int (xl.getD (x3 + 2).toNatClampNeg 0), .int (xl.getD (x3 + 1).toNatClampNeg 0), .ref 0]) rfl ?_
    refine PF.pr (k := 1) (pc' := 559) (lv' := [(3, .int x3), (2, .ref 129), (1, .ref 0), (0, .ref KB)]) (st' := [.int 1, .int (xl.getD (x3 + 2).toNatClampNeg 0), .int (xl.getD (x3 + 1).toNatClampNeg 0), .ref 0]) rfl ?_
    refine (PF.callI (j := 83) (args := [.ref 0, .int (xl.getD (x3 + 1).toNatClampNeg 0), .int (xl.getD (x3 + 2).toNatClampNeg 0), .int 1]) (rest := []) (M := cM83) (ty := .int) rfl rfl rfl rfl rfl (by decide) rfl rfl (by decide) ?_).weak
    refine PF.imp h (fun v4 F4 h r4 hv => ?_)
    have h := h r4 hv
    refine PF.pr (k := 1) (pc' := 563) (lv' := [(3, .int x3), (2, .ref 129), (1, .ref 0), (0, .ref KB)]) (st' := []) rfl ?_
    refine PF.pr (k := 1) (pc' := 564) (lv' := [(3, .int x3), (2, .ref 129), (1, .ref 0), (0, .ref KB)]) (st' := [.ref 129]) rfl ?_
    refine PF.pr (k := 1) (pc' := 565) (lv' := [(3, .int x3), (2, .ref 129), (1, .ref 0), (0, .ref KB)]) (st' := [.ref KB, .ref 129]) rfl ?_
    refine PF.pr (k := 1) (pc' := 566) (lv' := [(3, .int x3), (2, .ref 129), (1, .ref 0), (0, .ref KB)]) (st' := [.int x3, .ref KB, .ref 129]) rfl ?_
    refine PF.pr (k := 1) (pc' := 567) (lv' := [(3, .int x3), (2, .ref 129), (1, .ref 0), (0, .ref KB)]) (st' := [.int 1, .int x3, .ref KB, .ref 129]) rfl ?_
    refine PF.pr (k := 1) (pc' := 568) (lv' := [(3, .int x3), (2, .ref 129), (1, .ref 0), (0, .ref KB)]) (st' := [.int (x3 + 1), .ref KB, .ref 129]) rfl ?_
    refine PF.scr rfl (fun c1 c2 => ?_)
    have h := h c1 c2
    refine PF.pr (k := 1) (pc' := 570) (lv' := [(3, .int x3), (2, .ref 129), (1, .ref 0), (0, .ref KB)]) (st' := [.ref KB, .int (xl.getD (x3 + 1).toNatClampNeg 0), .ref 129]) rfl ?_
    refine PF.pr (k := 1) (pc' := 571) (lv' := [(3, .int x3), (2, .ref 129), (1, .ref 0), (0, .ref KB)]) (st' := [.int x3, .ref KB, .int (xl.getD (x3 + 1).toNatClampNeg 0), .ref 129]) rfl ?_
    refine PF.pr (k := 1) (pc' := 572) (lv' := [(3, .int x3), (2, .ref 129), (1, .ref 0), (0, .ref KB)]) (st' := [.int 2, .int x3, .ref KB, .int (xl.getD (x3 + 1).toNatClampNeg 0), .ref 129]) rfl ?_
    refine PF.pr (k := 1) (pc' := 573) (lv' := [(3, .int x3), (2, .ref 129), (1, .ref 0), (0, .ref KB)]) (st' := [.int (x3 + 2), .ref KB, .int (xl.getD (x3 + 1).toNatClampNeg 0), .ref 129]) rfl ?_
    refine PF.scr rfl (fun c1 c2 => ?_)
    have h := h c1 c2
    refine PF.pr (k := 1) (pc' := 575) (lv' := [(3, .int x3), (2, .ref 129), (1, .ref 0), (0, .ref KB)]) (st' := [.ref KB, .int (xl.getD (x3 + 2).toNatClampNeg 0), .int (xl.getD (x3 + 1).toNatClampNeg 0), .ref 129]) rfl ?_
    refine PF.pr (k := 1) (pc' := 576) (lv' := [(3, .int x3), (2, .ref 129), (1, .ref 0), (0, .ref KB)]) (st' := [.int x3, .ref KB, .int (xl.getD (x3 + 2).toNatClampNeg 0), .int (xl.getD (x3 + 1).toNatClampNeg 0), .ref 129]) rfl ?_
    refine PF.pr (k := 1) (pc' := 577) (lv' := [(3, .int x3), (2, .ref 129), (1, .ref 0), (0, .ref KB)]) (st' := [.int 3, .int x3, .ref KB, .int (xl.getD (x3 + 2).toNatClampNeg 0), .int (xl.getD (x3 + 1).toNatClampNeg 0), .ref 129]) rfl ?_
    refine PF.pr (k := 1) (pc' := 578) (lv' := [(3, .int x3), (2, .ref 129), (1, .ref 0), (0, .ref KB)]) (st' := [.int (x3 + 3), .ref KB, .int (xl.getD (x3 + 2).toNatClampNeg 0), .int (xl.getD (x3 + 1).toNatClampNeg 0), .ref 129]) rfl ?_
    refine PF.scr rfl (fun c1 c2 => ?_)
    have h := h c1 c2
    refine PF.if1 (t := 586) rfl rfl (fun c => ?_) (fun c => ?_)
    · have h := h.1 (cmp_eq.1.mp c)
      refine PF.pr (k := 1) (pc' := 587) (lv' := [(3, .int x3), (2, .ref 129), (1, .ref 0), (0, .ref KB)]) (st' := [.int 0, .int (xl.getD (x3 + 2).toNatClampNeg 0), .int (xl.getD (x3 + 1).toNatClampNeg 0), .ref 129]) rfl ?_
      refine (PF.callI (j := 198) (args := [.ref 129, .int (xl.getD (x3 + 1).toNatClampNeg 0), .int (xl.getD (x3 + 2).toNatClampNeg 0), .int 0]) (rest := []) (M := cM198) (ty := .int) rfl rfl rfl rfl rfl (by decide) rfl rfl (by decide) ?_).weak
      refine PF.imp h (fun v5 F5 h r5 hv => ?_)
      have h := h r5 hv
      refine PF.pr (k := 1) (pc' := 591) (lv' := [(3, .int x3), (2, .ref 129), (1, .ref 0), (0, .ref KB)]) (st' := []) rfl ?_
      refine PF.pr (k := 1) (pc' := 1253) (lv' := [(3, .int x3), (2, .ref 129), (1, .ref 0), (0, .ref KB)]) (st' := []) rfl ?_
      exact h
    · have h := h.2 (cmp_eq.2.mp c)
      refine PF.pr (k := 1) (pc' := 583) (lv' := [(3, .int x3), (2, .ref 129), (1, .ref 0), (0, .ref KB)]) (st' := [.int 1, .int (xl.getD (x3 + 2).toNatClampNeg 0), .int (xl.getD (x3 + 1).toNatClampNeg 0), .ref 129]) rfl ?_
      refine PF.pr (k := 1) (pc' := 587) (lv' := [(3, .int x3), (2, .ref 129), (1, .ref 0), (0, .ref KB)]) (st' := [.int 1, .int (xl.getD (x3 + 2).toNatClampNeg 0), .int (xl.getD (x3 + 1).toNatClampNeg 0), .ref 129]) rfl ?_
      refine (PF.callI (j := 198) (args := [.ref 129, .int (xl.getD (x3 + 1).toNatClampNeg 0), .int (xl.getD (x3 + 2).toNatClampNeg 0), .int 1]) (rest := []) (M := cM198) (ty := .int) rfl rfl rfl rfl rfl (by decide) rfl rfl (by decide) ?_).weak
      refine PF.imp h (fun v6 F6 h r6 hv => ?_)
      have h := h r6 hv
      refine PF.pr (k := 1) (pc' := 591) (lv' := [(3, .int x3), (2, .ref 129), (1, .ref 0), (0, .ref KB)]) (st' := []) rfl ?_
      refine PF.pr (k := 1) (pc' := 1253) (lv' := [(3, .int x3), (2, .ref 129), (1, .ref 0), (0, .ref KB)]) (st' := []) rfl ?_
      exact h

theorem l_594 {xl : List Int32} {n : Nat} {F : MH} {Q : Option Value → MH → Prop} {x3 : Int32} (h : (0 ≤ (x3 + 1).toInt → (x3 + 1).toInt < xl.length → PF (tRo xl) n 84 0 [(0, .ref 0), (1, .int (xl.getD (x3 + 1).toNatClampNeg 0))] [] F (fun v1 F1 => ∀ r1, v1 = some (.int r1) → (0 ≤ (x3 + 1).toInt → (x3 + 1).toInt < xl.length → PF (tRo xl) n 199 0 [(0, .ref 129), (1, .int (xl.getD (x3 + 1).toNatClampNeg 0))] [] F1 (fun v2 F2 => ∀ r2, v2 = some (.int r2) → PF (tRo xl) n 0 1253 [(3, .int x3), (2, .ref 129), (1, .ref 0), (0, .ref KB)] [] F2 Q))))) : PF (tRo xl) (n + 1) 0 594 [(3, .int x3), (2, .ref 129), (1, .ref 0), (0, .ref KB)] [] F Q := by
  refine PF.pr1 (k := 0) (pc' := 595) (lv' := [(3, .int x3), (2, .ref 129), (1, .ref 0), (0, .ref KB)]) (st' := [.ref 0]) rfl ?_
  refine PF.pr (k := 1) (pc' := 596) (lv' := [(3, .int x3), (2, .ref 129), (1, .ref 0), (0, .ref KB)]) (st' := [.ref KB, .ref 0]) rfl ?_
  refine PF.pr (k := 1) (pc' := 597) (lv' := [(3, .int x3), (2, .ref 129), (1, .ref 0), (0, .ref KB)]) (st' := [.int x3, .ref KB, .ref 0]) rfl ?_
  refine PF.pr (k := 1) (pc' := 598) (lv' := [(3, .int x3), (2, .ref 129), (1, .ref 0), (0, .ref KB)]) (st' := [.int 1, .int x3, .ref KB, .ref 0]) rfl ?_
  refine PF.pr (k := 1) (pc' := 599) (lv' := [(3, .int x3), (2, .ref 129), (1, .ref 0), (0, .ref KB)]) (st' := [.int (x3 + 1), .ref KB, .ref 0]) rfl ?_
  refine PF.scr rfl (fun c1 c2 => ?_)
  have h := h c1 c2
  refine (PF.callI (j := 84) (args := [.ref 0, .int (xl.getD (x3 + 1).toNatClampNeg 0)]) (rest := []) (M := cM84) (ty := .int) rfl rfl rfl rfl rfl (by decide) rfl rfl (by decide) ?_).weak
  refine PF.imp h (fun v1 F1 h r1 hv => ?_)
  have h := h r1 hv
  refine PF.pr (k := 1) (pc' := 604) (lv' := [(3, .int x3), (2, .ref 129), (1, .ref 0), (0, .ref KB)]) (st' := []) rfl ?_
  refine PF.pr (k := 1) (pc' := 605) (lv' := [(3, .int x3), (2, .ref 129), (1, .ref 0), (0, .ref KB)]) (st' := [.ref 129]) rfl ?_
  refine PF.pr (k := 1) (pc' := 606) (lv' := [(3, .int x3), (2, .ref 129), (1, .ref 0), (0, .ref KB)]) (st' := [.ref KB, .ref 129]) rfl ?_
  refine PF.pr (k := 1) (pc' := 607) (lv' := [(3, .int x3), (2, .ref 129), (1, .ref 0), (0, .ref KB)]) (st' := [.int x3, .ref KB, .ref 129]) rfl ?_
  refine PF.pr (k := 1) (pc' := 608) (lv' := [(3, .int x3), (2, .ref 129), (1, .ref 0), (0, .ref KB)]) (st' := [.int 1, .int x3, .ref KB, .ref 129]) rfl ?_
  refine PF.pr (k := 1) (pc' := 609) (lv' := [(3, .int x3), (2, .ref 129), (1, .ref 0), (0, .ref KB)]) (st' := [.int (x3 + 1), .ref KB, .ref 129]) rfl ?_
  refine PF.scr rfl (fun c1 c2 => ?_)
  have h := h c1 c2
  refine (PF.callI (j := 199) (args := [.ref 129, .int (xl.getD (x3 + 1).toNatClampNeg 0)]) (rest := []) (M := cM199) (ty := .int) rfl rfl rfl rfl rfl (by decide) rfl rfl (by decide) ?_).weak
  refine PF.imp h (fun v2 F2 h r2 hv => ?_)
  have h := h r2 hv
  refine PF.pr (k := 1) (pc' := 614) (lv' := [(3, .int x3), (2, .ref 129), (1, .ref 0), (0, .ref KB)]) (st' := []) rfl ?_
  refine PF.pr (k := 1) (pc' := 1253) (lv' := [(3, .int x3), (2, .ref 129), (1, .ref 0), (0, .ref KB)]) (st' := []) rfl ?_
  exact h

theorem l_617 {xl : List Int32} {n : Nat} {F : MH} {Q : Option Value → MH → Prop} {x3 : Int32} (h : (0 ≤ (x3 + 1).toInt → (x3 + 1).toInt < xl.length → PF (tRo xl) n 85 0 [(0, .ref 0), (1, .int (xl.getD (x3 + 1).toNatClampNeg 0))] [] F (fun v1 F1 => ∀ r1, v1 = some (.int r1) → (0 ≤ (x3 + 1).toInt → (x3 + 1).toInt < xl.length → PF (tRo xl) n 201 0 [(0, .ref 129), (1, .int (xl.getD (x3 + 1).toNatClampNeg 0))] [] F1 (fun v2 F2 => ∀ r2, v2 = some (.int r2) → PF (tRo xl) n 0 1253 [(3, .int x3), (2, .ref 129), (1, .ref 0), (0, .ref KB)] [] F2 Q))))) : PF (tRo xl) (n + 1) 0 617 [(3, .int x3), (2, .ref 129), (1, .ref 0), (0, .ref KB)] [] F Q := by
  refine PF.pr1 (k := 0) (pc' := 618) (lv' := [(3, .int x3), (2, .ref 129), (1, .ref 0), (0, .ref KB)]) (st' := [.ref 0]) rfl ?_
  refine PF.pr (k := 1) (pc' := 619) (lv' := [(3, .int x3), (2, .ref 129), (1, .ref 0), (0, .ref KB)]) (st' := [.ref KB, .ref 0]) rfl ?_
  refine PF.pr (k := 1) (pc' := 620) (lv' := [(3, .int x3), (2, .ref 129), (1, .ref 0), (0, .ref KB)]) (st' := [.int x3, .ref KB, .ref 0]) rfl ?_
  refine PF.pr (k := 1) (pc' := 621) (lv' := [(3, .int x3), (2, .ref 129), (1, .ref 0), (0, .ref KB)]) (st' := [.int 1, .int x3, .ref KB, .ref 0]) rfl ?_
  refine PF.pr (k := 1) (pc' := 622) (lv' := [(3, .int x3), (2, .ref 129), (1, .ref 0), (0, .ref KB)]) (st' := [.int (x3 + 1), .ref KB, .ref 0]) rfl ?_
  refine PF.scr rfl (fun c1 c2 => ?_)
  have h := h c1 c2
  refine (PF.callI (j := 85) (args := [.ref 0, .int (xl.getD (x3 + 1).toNatClampNeg 0)]) (rest := []) (M := cM85) (ty := .int) rfl rfl rfl rfl rfl (by decide) rfl rfl (by decide) ?_).weak
  refine PF.imp h (fun v1 F1 h r1 hv => ?_)
  have h := h r1 hv
  refine PF.pr (k := 1) (pc' := 627) (lv' := [(3, .int x3), (2, .ref 129), (1, .ref 0), (0, .ref KB)]) (st' := []) rfl ?_
  refine PF.pr (k := 1) (pc' := 628) (lv' := [(3, .int x3), (2, .ref 129), (1, .ref 0), (0, .ref KB)]) (st' := [.ref 129]) rfl ?_
  refine PF.pr (k := 1) (pc' := 629) (lv' := [(3, .int x3), (2, .ref 129), (1, .ref 0), (0, .ref KB)]) (st' := [.ref KB, .ref 129]) rfl ?_
  refine PF.pr (k := 1) (pc' := 630) (lv' := [(3, .int x3), (2, .ref 129), (1, .ref 0), (0, .ref KB)]) (st' := [.int x3, .ref KB, .ref 129]) rfl ?_
  refine PF.pr (k := 1) (pc' := 631) (lv' := [(3, .int x3), (2, .ref 129), (1, .ref 0), (0, .ref KB)]) (st' := [.int 1, .int x3, .ref KB, .ref 129]) rfl ?_
  refine PF.pr (k := 1) (pc' := 632) (lv' := [(3, .int x3), (2, .ref 129), (1, .ref 0), (0, .ref KB)]) (st' := [.int (x3 + 1), .ref KB, .ref 129]) rfl ?_
  refine PF.scr rfl (fun c1 c2 => ?_)
  have h := h c1 c2
  refine (PF.callI (j := 201) (args := [.ref 129, .int (xl.getD (x3 + 1).toNatClampNeg 0)]) (rest := []) (M := cM201) (ty := .int) rfl rfl rfl rfl rfl (by decide) rfl rfl (by decide) ?_).weak
  refine PF.imp h (fun v2 F2 h r2 hv => ?_)
  have h := h r2 hv
  refine PF.pr (k := 1) (pc' := 637) (lv' := [(3, .int x3), (2, .ref 129), (1, .ref 0), (0, .ref KB)]) (st' := []) rfl ?_
  refine PF.pr (k := 1) (pc' := 1253) (lv' := [(3, .int x3), (2, .ref 129), (1, .ref 0), (0, .ref KB)]) (st' := []) rfl ?_
  exact h

theorem l_640 {xl : List Int32} {n : Nat} {F : MH} {Q : Option Value → MH → Prop} {x3 : Int32} (h : (0 ≤ (x3 + 1).toInt → (x3 + 1).toInt < xl.length → PF (tRo xl) n 86 0 [(0, .ref 0), (1, .int (xl.getD (x3 + 1).toNatClampNeg 0))] [] F (fun v1 F1 => ∀ r1, v1 = some (.int r1) → (0 ≤ (x3 + 1).toInt → (x3 + 1).toInt < xl.length → PF (tRo xl) n 202 0 [(0, .ref 129), (1, .int (xl.getD (x3 + 1).toNatClampNeg 0))] [] F1 (fun v2 F2 => ∀ r2, v2 = some (.int r2) → PF (tRo xl) n 0 1253 [(3, .int x3), (2, .ref 129), (1, .ref 0), (0, .ref KB)] [] F2 Q))))) : PF (tRo xl) (n + 1) 0 640 [(3, .int x3), (2, .ref 129), (1, .ref 0), (0, .ref KB)] [] F Q := by
  refine PF.pr1 (k := 0) (pc' := 641) (lv' := [(3, .int x3), (2, .ref 129), (1, .ref 0), (0, .ref KB)]) (st' := [.ref 0]) rfl ?_
  refine PF.pr (k := 1) (pc' := 642) (lv' := [(3, .int x3), (2, .ref 129), (1, .ref 0), (0, .ref KB)]) (st' := [.ref KB, .ref 0]) rfl ?_
  refine PF.pr (k := 1) (pc' := 643) (lv' := [(3, .int x3), (2, .ref 129), (1, .ref 0), (0, .ref KB)]) (st' := [.int x3, .ref KB, .ref 0]) rfl ?_
  refine PF.pr (k := 1) (pc' := 644) (lv' := [(3, .int x3), (2, .ref 129), (1, .ref 0), (0, .ref KB)]) (st' := [.int 1, .int x3, .ref KB, .ref 0]) rfl ?_
  refine PF.pr (k := 1) (pc' := 645) (lv' := [(3, .int x3), (2, .ref 129), (1, .ref 0), (0, .ref KB)]) (st' := [.int (x3 + 1), .ref KB, .ref 0]) rfl ?_
  refine PF.scr rfl (fun c1 c2 => ?_)
  have h := h c1 c2
  refine (PF.callI (j := 86) (args := [.ref 0, .int (xl.getD (x3 + 1).toNatClampNeg 0)]) (rest := []) (M := cM86) (ty := .int) rfl rfl rfl rfl rfl (by decide) rfl rfl (by decide) ?_).weak
  refine PF.imp h (fun v1 F1 h r1 hv => ?_)
  have h := h r1 hv
  refine PF.pr (k := 1) (pc' := 650) (lv' := [(3, .int x3), (2, .ref 129), (1, .ref 0), (0, .ref KB)]) (st' := []) rfl ?_
  refine PF.pr (k := 1) (pc' := 651) (lv' := [(3, .int x3), (2, .ref 129), (1, .ref 0), (0, .ref KB)]) (st' := [.ref 129]) rfl ?_
  refine PF.pr (k := 1) (pc' := 652) (lv' := [(3, .int x3), (2, .ref 129), (1, .ref 0), (0, .ref KB)]) (st' := [.ref KB, .ref 129]) rfl ?_
  refine PF.pr (k := 1) (pc' := 653) (lv' := [(3, .int x3), (2, .ref 129), (1, .ref 0), (0, .ref KB)]) (st' := [.int x3, .ref KB, .ref 129]) rfl ?_
  refine PF.pr (k := 1) (pc' := 654) (lv' := [(3, .int x3), (2, .ref 129), (1, .ref 0), (0, .ref KB)]) (st' := [.int 1, .int x3, .ref KB, .ref 129]) rfl ?_
  refine PF.pr (k := 1) (pc' := 655) (lv' := [(3, .int x3), (2, .ref 129), (1, .ref 0), (0, .ref KB)]) (st' := [.int (x3 + 1), .ref KB, .ref 129]) rfl ?_
  refine PF.scr rfl (fun c1 c2 => ?_)
  have h := h c1 c2
  refine (PF.callI (j := 202) (args := [.ref 129, .int (xl.getD (x3 + 1).toNatClampNeg 0)]) (rest := []) (M := cM202) (ty := .int) rfl rfl rfl rfl rfl (by decide) rfl rfl (by decide) ?_).weak
  refine PF.imp h (fun v2 F2 h r2 hv => ?_)
  have h := h r2 hv
  refine PF.pr (k := 1) (pc' := 660) (lv' := [(3, .int x3), (2, .ref 129), (1, .ref 0), (0, .ref KB)]) (st' := []) rfl ?_
  refine PF.pr (k := 1) (pc' := 1253) (lv' := [(3, .int x3), (2, .ref 129), (1, .ref 0), (0, .ref KB)]) (st' := []) rfl ?_
  exact h

theorem l_663 {xl : List Int32} {n : Nat} {F : MH} {Q : Option Value → MH → Prop} {x3 : Int32} (h : (0 ≤ (x3 + 1).toInt → (x3 + 1).toInt < xl.length → PF (tRo xl) n 93 0 [(0, .ref 0), (1, .int (xl.getD (x3 + 1).toNatClampNeg 0))] [] F (fun v1 F1 => ∀ r1, v1 = some (.int r1) → (0 ≤ (x3 + 1).toInt → (x3 + 1).toInt < xl.length → PF (tRo xl) n 204 0 [(0, .ref 129), (1, .int (xl.getD (x3 + 1).toNatClampNeg 0))] [] F1 (fun v2 F2 => ∀ r2, v2 = some (.int r2) → PF (tRo xl) n 0 1253 [(3, .int x3), (2, .ref 129), (1, .ref 0), (0, .ref KB)] [] F2 Q))))) : PF (tRo xl) (n + 1) 0 663 [(3, .int x3), (2, .ref 129), (1, .ref 0), (0, .ref KB)] [] F Q := by
  refine PF.pr1 (k := 0) (pc' := 664) (lv' := [(3, .int x3), (2, .ref 129), (1, .ref 0), (0, .ref KB)]) (st' := [.ref 0]) rfl ?_
  refine PF.pr (k := 1) (pc' := 665) (lv' := [(3, .int x3), (2, .ref 129), (1, .ref 0), (0, .ref KB)]) (st' := [.ref KB, .ref 0]) rfl ?_
  refine PF.pr (k := 1) (pc' := 666) (lv' := [(3, .int x3), (2, .ref 129), (1, .ref 0), (0, .ref KB)]) (st' := [.int x3, .ref KB, .ref 0]) rfl ?_
  refine PF.pr (k := 1) (pc' := 667) (lv' := [(3, .int x3), (2, .ref 129), (1, .ref 0), (0, .ref KB)]) (st' := [.int 1, .int x3, .ref KB, .ref 0]) rfl ?_
  refine PF.pr (k := 1) (pc' := 668) (lv' := [(3, .int x3), (2, .ref 129), (1, .ref 0), (0, .ref KB)]) (st' := [.int (x3 + 1), .ref KB, .ref 0]) rfl ?_
  refine PF.scr rfl (fun c1 c2 => ?_)
  have h := h c1 c2
  refine (PF.callI (j := 93) (args := [.ref 0, .int (xl.getD (x3 + 1).toNatClampNeg 0)]) (rest := []) (M := cM93) (ty := .int) rfl rfl rfl rfl rfl (by decide) rfl rfl (by decide) ?_).weak
  refine PF.imp h (fun v1 F1 h r1 hv => ?_)
  have h := h r1 hv
  refine PF.pr (k := 1) (pc' := 673) (lv' := [(3, .int x3), (2, .ref 129), (1, .ref 0), (0, .ref KB)]) (st' := []) rfl ?_
  refine PF.pr (k := 1) (pc' := 674) (lv' := [(3, .int x3), (2, .ref 129), (1, .ref 0), (0, .ref KB)]) (st' := [.ref 129]) rfl ?_
  refine PF.pr (k := 1) (pc' := 675) (lv' := [(3, .int x3), (2, .ref 129), (1, .ref 0), (0, .ref KB)]) (st' := [.ref KB, .ref 129]) rfl ?_
  refine PF.pr (k := 1) (pc' := 676) (lv' := [(3, .int x3), (2, .ref 129), (1, .ref 0), (0, .ref KB)]) (st' := [.int x3, .ref KB, .ref 129]) rfl ?_
  refine PF.pr (k := 1) (pc' := 677) (lv' := [(3, .int x3), (2, .ref 129), (1, .ref 0), (0, .ref KB)]) (st' := [.int 1, .int x3, .ref KB, .ref 129]) rfl ?_
  refine PF.pr (k := 1) (pc' := 678) (lv' := [(3, .int x3), (2, .ref 129), (1, .ref 0), (0, .ref KB)]) (st' := [.int (x3 + 1), .ref KB, .ref 129]) rfl ?_
  refine PF.scr rfl (fun c1 c2 => ?_)
  have h := h c1 c2
  refine (PF.callI (j := 204) (args := [.ref 129, .int (xl.getD (x3 + 1).toNatClampNeg 0)]) (rest := []) (M := cM204) (ty := .int) rfl rfl rfl rfl rfl (by decide) rfl rfl (by decide) ?_).weak
  refine PF.imp h (fun v2 F2 h r2 hv => ?_)
  have h := h r2 hv
  refine PF.pr (k := 1) (pc' := 683) (lv' := [(3, .int x3), (2, .ref 129), (1, .ref 0), (0, .ref KB)]) (st' := []) rfl ?_
  refine PF.pr (k := 1) (pc' := 1253) (lv' := [(3, .int x3), (2, .ref 129), (1, .ref 0), (0, .ref KB)]) (st' := []) rfl ?_
  exact h

theorem l_686 {xl : List Int32} {n : Nat} {F : MH} {Q : Option Value → MH → Prop} {x3 : Int32} (h : (0 ≤ (x3 + 1).toInt → (x3 + 1).toInt < xl.length → PF (tRo xl) n 94 0 [(0, .ref 0), (1, .int (xl.getD (x3 + 1).toNatClampNeg 0))] [] F (fun v1 F1 => ∀ r1, v1 = some (.int r1) → (0 ≤ (x3 + 1).toInt → (x3 + 1).toInt < xl.length → PF (tRo xl) n 206 0 [(0, .ref 129), (1, .int (xl.getD (x3 + 1).toNatClampNeg 0))] [] F1 (fun v2 F2 => ∀ r2, v2 = some (.int r2) → PF (tRo xl) n 0 1253 [(3, .int x3), (2, .ref 129), (1, .ref 0), (0, .ref KB)] [] F2 Q))))) : PF (tRo xl) (n + 1) 0 686 [(3, .int x3), (2, .ref 129), (1, .ref 0), (0, .ref KB)] [] F Q := by
  refine PF.pr1 (k := 0) (pc' := 687) (lv' := [(3, .int x3), (2, .ref 129), (1, .ref 0), (0, .ref KB)]) (st' := [.ref 0]) rfl ?_
  refine PF.pr (k := 1) (pc' := 688) (lv' := [(3, .int x3), (2, .ref 129), (1, .ref 0), (0, .ref KB)]) (st' := [.ref KB, .ref 0]) rfl ?_
  refine PF.pr (k := 1) (pc' := 689) (lv' := [(3, .int x3), (2, .ref 129), (1, .ref 0), (0, .ref KB)]) (st' := [.int x3, .ref KB, .ref 0]) rfl ?_
  refine PF.pr (k := 1) (pc' := 690) (lv' := [(3, .int x3), (2, .ref 129), (1, .ref 0), (0, .ref KB)]) (st' := [.int 1, .int x3, .ref KB, .ref 0]) rfl ?_
  refine PF.pr (k := 1) (pc' := 691) (lv' := [(3, .int x3), (2, .ref 129), (1, .ref 0), (0, .ref KB)]) (st' := [.int (x3 + 1), .ref KB, .ref 0]) rfl ?_
  refine PF.scr rfl (fun c1 c2 => ?_)
  have h := h c1 c2
  refine (PF.callI (j := 94) (args := [.ref 0, .int (xl.getD (x3 + 1).toNatClampNeg 0)]) (rest := []) (M := cM94) (ty := .int) rfl rfl rfl rfl rfl (by decide) rfl rfl (by decide) ?_).weak
  refine PF.imp h (fun v1 F1 h r1 hv => ?_)
  have h := h r1 hv
  refine PF.pr (k := 1) (pc' := 696) (lv' := [(3, .int x3), (2, .ref 129), (1, .ref 0), (0, .ref KB)]) (st' := []) rfl ?_
  refine PF.pr (k := 1) (pc' := 697) (lv' := [(3, .int x3), (2, .ref 129), (1, .ref 0), (0, .ref KB)]) (st' := [.ref 129]) rfl ?_
  refine PF.pr (k := 1) (pc' := 698) (lv' := [(3, .int x3), (2, .ref 129), (1, .ref 0), (0, .ref KB)]) (st' := [.ref KB, .ref 129]) rfl ?_
  refine PF.pr (k := 1) (pc' := 699) (lv' := [(3, .int x3), (2, .ref 129), (1, .ref 0), (0, .ref KB)]) (st' := [.int x3, .ref KB, .ref 129]) rfl ?_
  refine PF.pr (k := 1) (pc' := 700) (lv' := [(3, .int x3), (2, .ref 129), (1, .ref 0), (0, .ref KB)]) (st' := [.int 1, .int x3, .ref KB, .ref 129]) rfl ?_
  refine PF.pr (k := 1) (pc' := 701) (lv' := [(3, .int x3), (2, .ref 129), (1, .ref 0), (0, .ref KB)]) (st' := [.int (x3 + 1), .ref KB, .ref 129]) rfl ?_
  refine PF.scr rfl (fun c1 c2 => ?_)
  have h := h c1 c2
  refine (PF.callI (j := 206) (args := [.ref 129, .int (xl.getD (x3 + 1).toNatClampNeg 0)]) (rest := []) (M := cM206) (ty := .int) rfl rfl rfl rfl rfl (by decide) rfl rfl (by decide) ?_).weak
  refine PF.imp h (fun v2 F2 h r2 hv => ?_)
  have h := h r2 hv
  refine PF.pr (k := 1) (pc' := 706) (lv' := [(3, .int x3), (2, .ref 129), (1, .ref 0), (0, .ref KB)]) (st' := []) rfl ?_
  refine PF.pr (k := 1) (pc' := 1253) (lv' := [(3, .int x3), (2, .ref 129), (1, .ref 0), (0, .ref KB)]) (st' := []) rfl ?_
  exact h

theorem l_709 {xl : List Int32} {n : Nat} {F : MH} {Q : Option Value → MH → Prop} {x3 : Int32} (h : (0 ≤ (x3 + 1).toInt → (x3 + 1).toInt < xl.length → (0 ≤ (x3 + 2).toInt → (x3 + 2).toInt < xl.length → PF (tRo xl) n 95 0 [(0, .ref 0), (1, .int (xl.getD (x3 + 1).toNatClampNeg 0)), (2, .int (xl.getD (x3 + 2).toNatClampNeg 0))] [] F (fun v1 F1 => ∀ r1, v1 = some (.int r1) → (0 ≤ (x3 + 1).toInt → (x3 + 1).toInt < xl.length → (0 ≤ (x3 + 2).toInt → (x3 + 2).toInt < xl.length → PF (tRo xl) n 207 0 [(0, .ref 129), (1, .int (xl.getD (x3 + 1).toNatClampNeg 0)), (2, .int (xl.getD (x3 + 2).toNatClampNeg 0))] [] F1 (fun v2 F2 => ∀ r2, v2 = some (.int r2) → PF (tRo xl) n 0 1253 [(3, .int x3), (2, .ref 129), (1, .ref 0), (0, .ref KB)] [] F2 Q))))))) : PF (tRo xl) (n + 1) 0 709 [(3, .int x3), (2, .ref 129), (1, .ref 0), (0, .ref KB)] [] F Q := by
  refine PF.pr1 (k := 0) (pc' := 710) (lv' := [(3, .int x3), (2, .ref 129), (1, .ref 0), (0, .ref KB)]) (st' := [.ref 0]) rfl ?_
  refine PF.pr (k := 1) (pc' := 711) (lv' := [(3, .int x3), (2, .ref 129), (1, .ref 0), (0, .ref KB)]) (st' := [.ref KB, .ref 0]) rfl ?_
  refine PF.pr (k := 1) (pc' := 712) (lv' := [(3, .int x3), (2, .ref 129), (1, .ref 0), (0, .ref KB)]) (st' := [.int x3, .ref KB, .ref 0]) rfl ?_
  refine PF.pr (k := 1) (pc' := 713) (lv' := [(3, .int x3), (2, .ref 129), (1, .ref 0), (0, .ref KB)]) (st' := [.int 1, .int x3, .ref KB, .ref 0]) rfl ?_
  refine PF.pr (k := 1) (pc' := 714) (lv' := [(3, .int x3), (2, .ref 129), (1, .ref 0), (0, .ref KB)]) (st' := [.int (x3 + 1), .ref KB, .ref 0]) rfl ?_
  refine PF.scr rfl (fun c1 c2 => ?_)
  have h := h c1 c2
  refine PF.pr (k := 1) (pc' := 716) (lv' := [(3, .int x3), (2, .ref 129), (1, .ref 0), (0, .ref KB)]) (st' := [.ref KB, .int (xl.getD (x3 + 1).toNatClampNeg 0), .ref 0]) rfl ?_
  refine PF.pr (k := 1) (pc' := 717) (lv' := [(3, .int x3), (2, .ref 129), (1, .ref 0), (0, .ref KB)]) (st' := [.int x3, .ref KB, .int (xl.getD (x3 + 1).toNatClampNeg 0), .ref 0]) rfl ?_
  refine PF.pr (k := 1) (pc' := 718) (lv' := [(3, .int x3), (2, .ref 129), (1, .ref 0), (0, .ref KB)]) (st' := [.int 2, .int x3, .ref KB, .int (xl.getD (x3 + 1).toNatClampNeg 0), .ref 0]) rfl ?_
  refine PF.pr (k := 1) (pc' := 719) (lv' := [(3, .int x3), (2, .ref 129), (1, .ref 0), (0, .ref KB)]) (st' := [.int (x3 + 2), .ref KB, .int (xl.getD (x3 + 1).toNatClampNeg 0), .ref 0]) rfl ?_
  refine PF.scr rfl (fun c1 c2 => ?_)
  have h := h c1 c2
  refine (PF.callI (j := 95) (args := [.ref 0, .int (xl.getD (x3 + 1).toNatClampNeg 0), .int (xl.getD (x3 + 2).toNatClampNeg 0)]) (rest := []) (M := cM95) (ty := .int) rfl rfl rfl rfl rfl (by decide) rfl rfl (by decide) ?_).weak
  refine PF.imp h (fun v1 F1 h r1 hv => ?_)
  have h := h r1 hv
  refine PF.pr (k := 1) (pc' := 724) (lv' := [(3, .int x3), (2, .ref 129), (1, .ref 0), (0, .ref KB)]) (st' := []) rfl ?_
  refine PF.pr (k := 1) (pc' := 725) (lv' := [(3, .int x3), (2, .ref 129), (1, .ref 0), (0, .ref KB)]) (st' := [.ref 129]) rfl ?_
  refine PF.pr (k := 1) (pc' := 726) (lv' := [(3, .int x3), (2, .ref 129), (1, .ref 0), (0, .ref KB)]) (st' := [.ref KB, .ref 129]) rfl ?_
  refine PF.pr (k := 1) (pc' := 727) (lv' := [(3, .int x3), (2, .ref 129), (1, .ref 0), (0, .ref KB)]) (st' := [.int x3, .ref KB, .ref 129]) rfl ?_
  refine PF.pr (k := 1) (pc' := 728) (lv' := [(3, .int x3), (2, .ref 129), (1, .ref 0), (0, .ref KB)]) (st' := [.int 1, .int x3, .ref KB, .ref 129]) rfl ?_
  refine PF.pr (k := 1) (pc' := 729) (lv' := [(3, .int x3), (2, .ref 129), (1, .ref 0), (0, .ref KB)]) (st' := [.int (x3 + 1), .ref KB, .ref 129]) rfl ?_
  refine PF.scr rfl (fun c1 c2 => ?_)
  have h := h c1 c2
  refine PF.pr (k := 1) (pc' := 731) (lv' := [(3, .int x3), (2, .ref 129), (1, .ref 0), (0, .ref KB)]) (st' := [.ref KB, .int (xl.getD (x3 + 1).toNatClampNeg 0), .ref 129]) rfl ?_
  refine PF.pr (k := 1) (pc' := 732) (lv' := [(3, .int x3), (2, .ref 129), (1, .ref 0), (0, .ref KB)]) (st' := [.int x3, .ref KB, .int (xl.getD (x3 + 1).toNatClampNeg 0), .ref 129]) rfl ?_
  refine PF.pr (k := 1) (pc' := 733) (lv' := [(3, .int x3), (2, .ref 129), (1, .ref 0), (0, .ref KB)]) (st' := [.int 2, .int x3, .ref KB, .int (xl.getD (x3 + 1).toNatClampNeg 0), .ref 129]) rfl ?_
  refine PF.pr (k := 1) (pc' := 734) (lv' := [(3, .int x3), (2, .ref 129), (1, .ref 0), (0, .ref KB)]) (st' := [.int (x3 + 2), .ref KB, .int (xl.getD (x3 + 1).toNatClampNeg 0), .ref 129]) rfl ?_
  refine PF.scr rfl (fun c1 c2 => ?_)
  have h := h c1 c2
  refine (PF.callI (j := 207) (args := [.ref 129, .int (xl.getD (x3 + 1).toNatClampNeg 0), .int (xl.getD (x3 + 2).toNatClampNeg 0)]) (rest := []) (M := cM207) (ty := .int) rfl rfl rfl rfl rfl (by decide) rfl rfl (by decide) ?_).weak
  refine PF.imp h (fun v2 F2 h r2 hv => ?_)
  have h := h r2 hv
  refine PF.pr (k := 1) (pc' := 739) (lv' := [(3, .int x3), (2, .ref 129), (1, .ref 0), (0, .ref KB)]) (st' := []) rfl ?_
  refine PF.pr (k := 1) (pc' := 1253) (lv' := [(3, .int x3), (2, .ref 129), (1, .ref 0), (0, .ref KB)]) (st' := []) rfl ?_
  exact h

theorem l_742 {xl : List Int32} {n : Nat} {F : MH} {Q : Option Value → MH → Prop} {x3 : Int32} (h : (0 ≤ (x3 + 1).toInt → (x3 + 1).toInt < xl.length → PF (tRo xl) n 107 0 [(0, .ref 0), (1, .int (xl.getD (x3 + 1).toNatClampNeg 0))] [] F (fun v1 F1 => ∀ r1, v1 = some (.int r1) → (0 ≤ (x3 + 1).toInt → (x3 + 1).toInt < xl.length → PF (tRo xl) n 215 0 [(0, .ref 129), (1, .int (xl.getD (x3 + 1).toNatClampNeg 0))] [] F1 (fun v2 F2 => ∀ r2, v2 = some (.int r2) → PF (tRo xl) n 0 1253 [(3, .int x3), (2, .ref 129), (1, .ref 0), (0, .ref KB)] [] F2 Q))))) : PF (tRo xl) (n + 1) 0 742 [(3, .int x3), (2, .ref 129), (1, .ref 0), (0, .ref KB)] [] F Q := by
  refine PF.pr1 (k := 0) (pc' := 743) (lv' := [(3, .int x3), (2, .ref 129), (1, .ref 0), (0, .ref KB)]) (st' := [.ref 0]) rfl ?_
  refine PF.pr (k := 1) (pc' := 744) (lv' := [(3, .int x3), (2, .ref 129), (1, .ref 0), (0, .ref KB)]) (st' := [.ref KB, .ref 0]) rfl ?_
  refine PF.pr (k := 1) (pc' := 745) (lv' := [(3, .int x3), (2, .ref 129), (1, .ref 0), (0, .ref KB)]) (st' := [.int x3, .ref KB, .ref 0]) rfl ?_
  refine PF.pr (k := 1) (pc' := 746) (lv' := [(3, .int x3), (2, .ref 129), (1, .ref 0), (0, .ref KB)]) (st' := [.int 1, .int x3, .ref KB, .ref 0]) rfl ?_
  refine PF.pr (k := 1) (pc' := 747) (lv' := [(3, .int x3), (2, .ref 129), (1, .ref 0), (0, .ref KB)]) (st' := [.int (x3 + 1), .ref KB, .ref 0]) rfl ?_
  refine PF.scr rfl (fun c1 c2 => ?_)
  have h := h c1 c2
  refine (PF.callI (j := 107) (args := [.ref 0, .int (xl.getD (x3 + 1).toNatClampNeg 0)]) (rest := []) (M := cM107) (ty := .int) rfl rfl rfl rfl rfl (by decide) rfl rfl (by decide) ?_).weak
  refine PF.imp h (fun v1 F1 h r1 hv => ?_)
  have h := h r1 hv
  refine PF.pr (k := 1) (pc' := 752) (lv' := [(3, .int x3), (2, .ref 129), (1, .ref 0), (0, .ref KB)]) (st' := []) rfl ?_
  refine PF.pr (k := 1) (pc' := 753) (lv' := [(3, .int x3), (2, .ref 129), (1, .ref 0), (0, .ref KB)]) (st' := [.ref 129]) rfl ?_
  refine PF.pr (k := 1) (pc' := 754) (lv' := [(3, .int x3), (2, .ref 129), (1, .ref 0), (0, .ref KB)]) (st' := [.ref KB, .ref 129]) rfl ?_
  refine PF.pr (k := 1) (pc' := 755) (lv' := [(3, .int x3), (2, .ref 129), (1, .ref 0), (0, .ref KB)]) (st' := [.int x3, .ref KB, .ref 129]) rfl ?_
  refine PF.pr (k := 1) (pc' := 756) (lv' := [(3, .int x3), (2, .ref 129), (1, .ref 0), (0, .ref KB)]) (st' := [.int 1, .int x3, .ref KB, .ref 129]) rfl ?_
  refine PF.pr (k := 1) (pc' := 757) (lv' := [(3, .int x3), (2, .ref 129), (1, .ref 0), (0, .ref KB)]) (st' := [.int (x3 + 1), .ref KB, .ref 129]) rfl ?_
  refine PF.scr rfl (fun c1 c2 => ?_)
  have h := h c1 c2
  refine (PF.callI (j := 215) (args := [.ref 129, .int (xl.getD (x3 + 1).toNatClampNeg 0)]) (rest := []) (M := cM215) (ty := .int) rfl rfl rfl rfl rfl (by decide) rfl rfl (by decide) ?_).weak
  refine PF.imp h (fun v2 F2 h r2 hv => ?_)
  have h := h r2 hv
  refine PF.pr (k := 1) (pc' := 762) (lv' := [(3, .int x3), (2, .ref 129), (1, .ref 0), (0, .ref KB)]) (st' := []) rfl ?_
  refine PF.pr (k := 1) (pc' := 1253) (lv' := [(3, .int x3), (2, .ref 129), (1, .ref 0), (0, .ref KB)]) (st' := []) rfl ?_
  exact h

theorem l_765 {xl : List Int32} {n : Nat} {F : MH} {Q : Option Value → MH → Prop} {x3 : Int32} (h : (0 ≤ (x3 + 1).toInt → (x3 + 1).toInt < xl.length → PF (tRo xl) n 109 0 [(0, .ref 0), (1, .int (xl.getD (x3 + 1).toNatClampNeg 0))] [] F (fun v1 F1 => ∀ r1, v1 = some (.int r1) → (0 ≤ (x3 + 1).toInt → (x3 + 1).toInt < xl.length → PF (tRo xl) n 216 0 [(0, .ref 129), (1, .int (xl.getD (x3 + 1).toNatClampNeg 0))] [] F1 (fun v2 F2 => ∀ r2, v2 = some (.int r2) → PF (tRo xl) n 0 1253 [(3, .int x3), (2, .ref 129), (1, .ref 0), (0, .ref KB)] [] F2 Q))))) : PF (tRo xl) (n + 1) 0 765 [(3, .int x3), (2, .ref 129), (1, .ref 0), (0, .ref KB)] [] F Q := by
  refine PF.pr1 (k := 0) (pc' := 766) (lv' := [(3, .int x3), (2, .ref 129), (1, .ref 0), (0, .ref KB)]) (st' := [.ref 0]) rfl ?_
  refine PF.pr (k := 1) (pc' := 767) (lv' := [(3, .int x3), (2, .ref 129), (1, .ref 0), (0, .ref KB)]) (st' := [.ref KB, .ref 0]) rfl ?_
  refine PF.pr (k := 1) (pc' := 768) (lv' := [(3, .int x3), (2, .ref 129), (1, .ref 0), (0, .ref KB)]) (st' := [.int x3, .ref KB, .ref 0]) rfl ?_
  refine PF.pr (k := 1) (pc' := 769) (lv' := [(3, .int x3), (2, .ref 129), (1, .ref 0), (0, .ref KB)]) (st' := [.int 1, .int x3, .ref KB, .ref 0]) rfl ?_
  refine PF.pr (k := 1) (pc' := 770) (lv' := [(3, .int x3), (2, .ref 129), (1, .ref 0), (0, .ref KB)]) (st' := [.int (x3 + 1), .ref KB, .ref 0]) rfl ?_
  refine PF.scr rfl (fun c1 c2 => ?_)
  have h := h c1 c2
  refine (PF.callI (j := 109) (args := [.ref 0, .int (xl.getD (x3 + 1).toNatClampNeg 0)]) (rest := []) (M := cM109) (ty := .int) rfl rfl rfl rfl rfl (by decide) rfl rfl (by decide) ?_).weak
  refine PF.imp h (fun v1 F1 h r1 hv => ?_)
  have h := h r1 hv
  refine PF.pr (k := 1) (pc' := 775) (lv' := [(3, .int x3), (2, .ref 129), (1, .ref 0), (0, .ref KB)]) (st' := []) rfl ?_
  refine PF.pr (k := 1) (pc' := 776) (lv' := [(3, .int x3), (2, .ref 129), (1, .ref 0), (0, .ref KB)]) (st' := [.ref 129]) rfl ?_
  refine PF.pr (k := 1) (pc' := 777) (lv' := [(3, .int x3), (2, .ref 129), (1, .ref 0), (0, .ref KB)]) (st' := [.ref KB, .ref 129]) rfl ?_
  refine PF.pr (k := 1) (pc' := 778) (lv' := [(3, .int x3), (2, .ref 129), (1, .ref 0), (0, .ref KB)]) (st' := [.int x3, .ref KB, .ref 129]) rfl ?_
  refine PF.pr (k := 1) (pc' := 779) (lv' := [(3, .int x3), (2, .ref 129), (1, .ref 0), (0, .ref KB)]) (st' := [.int 1, .int x3, .ref KB, .ref 129]) rfl ?_
  refine PF.pr (k := 1) (pc' := 780) (lv' := [(3, .int x3), (2, .ref 129), (1, .ref 0), (0, .ref KB)]) (st' := [.int (x3 + 1), .ref KB, .ref 129]) rfl ?_
  refine PF.scr rfl (fun c1 c2 => ?_)
  have h := h c1 c2
  refine (PF.callI (j := 216) (args := [.ref 129, .int (xl.getD (x3 + 1).toNatClampNeg 0)]) (rest := []) (M := cM216) (ty := .int) rfl rfl rfl rfl rfl (by decide) rfl rfl (by decide) ?_).weak
  refine PF.imp h (fun v2 F2 h r2 hv => ?_)
  have h := h r2 hv
  refine PF.pr (k := 1) (pc' := 785) (lv' := [(3, .int x3), (2, .ref 129), (1, .ref 0), (0, .ref KB)]) (st' := []) rfl ?_
  refine PF.pr (k := 1) (pc' := 1253) (lv' := [(3, .int x3), (2, .ref 129), (1, .ref 0), (0, .ref KB)]) (st' := []) rfl ?_
  exact h

theorem l_788 {xl : List Int32} {n : Nat} {F : MH} {Q : Option Value → MH → Prop} {x3 : Int32} (h : (0 ≤ (x3 + 1).toInt → (x3 + 1).toInt < xl.length → (0 ≤ (x3 + 2).toInt → (x3 + 2).toInt < xl.length → (0 ≤ (x3 + 3).toInt → (x3 + 3).toInt < xl.length → PF (tRo xl) n 111 0 [(0, .ref 0), (1, .int (xl.getD (x3 + 1).toNatClampNeg 0)), (2, .int (xl.getD (x3 + 2).toNatClampNeg 0)), (3, .int (xl.getD (x3 + 3).toNatClampNeg 0))] [] F (fun v1 F1 => ∀ r1, v1 = some (.int r1) → (0 ≤ (x3 + 1).toInt → (x3 + 1).toInt < xl.length → (0 ≤ (x3 + 2).toInt → (x3 + 2).toInt < xl.length → (0 ≤ (x3 + 3).toInt → (x3 + 3).toInt < xl.length → PF (tRo xl) n 217 0 [(0, .ref 129), (1, .int (xl.getD (x3 + 1).toNatClampNeg 0)), (2, .int (xl.getD (x3 + 2).toNatClampNeg 0)), (3, .int (xl.getD (x3 + 3).toNatClampNeg 0))] [] F1 (fun v2 F2 => ∀ r2, v2 = some (.int r2) → PF (tRo xl) n 0 1253 [(3, .int x3), (2, .ref 129), (1, .ref 0), (0, .ref KB)] [] F2 Q))))))))) : PF (tRo xl) (n + 1) 0 788 [(3, .int x3), (2, .ref 129), (1, .ref 0), (0, .ref KB)] [] F Q := by
  refine PF.pr1 (k := 0) (pc' := 789) (lv' := [(3, .int x3), (2, .ref 129), (1, .ref 0), (0, .ref KB)]) (st' := [.ref 0]) rfl ?_
  refine PF.pr (k := 1) (pc' := 790) (lv' := [(3, .int x3), (2, .ref 129), (1, .ref 0), (0, .ref KB)]) (st' := [.ref KB, .ref 0]) rfl ?_
  refine PF.pr (k := 1) (pc' := 791) (lv' := [(3, .int x3), (2, .ref 129), (1, .ref 0), (0, .ref KB)]) (st' := [.int x3, .ref KB, .ref 0]) rfl ?_
  refine PF.pr (k := 1) (pc' := 792) (lv' := [(3, .int x3), (2, .ref 129), (1, .ref 0), (0, .ref KB)]) (st' := [.int 1, .int x3, .ref KB, .ref 0]) rfl ?_
  refine PF.pr (k := 1) (pc' := 793) (lv' := [(3, .int x3), (2, .ref 129), (1, .ref 0), (0, .ref KB)]) (st' := [.int (x3 + 1), .ref KB, .ref 0]) rfl ?_
  refine PF.scr rfl (fun c1 c2 => ?_)
  have h := h c1 c2
  refine PF.pr (k := 1) (pc' := 795) (lv' := [(3, .int x3), (2, .ref 129), (1, .ref 0), (0, .ref KB)]) (st' := [.ref KB, .int (xl.getD (x3 + 1).toNatClampNeg 0), .ref 0]) rfl ?_
  refine PF.pr (k := 1) (pc' := 796) (lv' := [(3, .int x3), (2, .ref 129), (1, .ref 0), (0, .ref KB)]) (st' := [.int x3, .ref KB, .int (xl.getD (x3 + 1).toNatClampNeg 0), .ref 0]) rfl ?_
  refine PF.pr (k := 1) (pc' := 797) (lv' := [(3, .int x3), (2, .ref 129), (1, .ref 0), (0, .ref KB)]) (st' := [.int 2, .int x3, .ref KB, .int (xl.getD (x3 + 1).toNatClampNeg 0), .ref 0]) rfl ?_
  refine PF.pr (k := 1) (pc' := 798) (lv' := [(3, .int x3), (2, .ref 129), (1, .ref 0), (0, .ref KB)]) (st' := [.int (x3 + 2), .ref KB, .int (xl.getD (x3 + 1).toNatClampNeg 0), .ref 0]) rfl ?_
  refine PF.scr rfl (fun c1 c2 => ?_)
  have h := h c1 c2
  refine PF.pr (k := 1) (pc' := 800) (lv' := [(3, .int x3), (2, .ref 129), (1, .ref 0), (0, .ref KB)]) (st' := [.ref KB, .int (xl.getD (x3 + 2).toNatClampNeg 0), .int (xl.getD (x3 + 1).toNatClampNeg 0), .ref 0]) rfl ?_
  refine PF.pr (k := 1) (pc' := 801) (lv' := [(3, .int x3), (2, .ref 129), (1, .ref 0), (0, .ref KB)]) (st' := [.int x3, .ref KB, .int (xl.getD (x3 + 2).toNatClampNeg 0), .int (xl.getD (x3 + 1).toNatClampNeg 0), .ref 0]) rfl ?_
  refine PF.pr (k := 1) (pc' := 802) (lv' := [(3, .int x3), (2, .ref 129), (1, .ref 0), (0, .ref KB)]) (st' := [.int 3, .int x3, .ref KB, .int (xl.getD (x3 + 2).toNatClampNeg 0), .int (xl.getD (x3 + 1).toNatClampNeg 0), .ref 0]) rfl ?_
  refine PF.pr (k := 1) (pc' := 803) (lv' := [(3, .int x3), (2, .ref 129), (1, .ref 0), (0, .ref KB)]) (st' := [.int (x3 + 3), .ref KB, .int (xl.getD (x3 + 2).toNatClampNeg 0), .int (xl.getD (x3 + 1).toNatClampNeg 0), .ref 0]) rfl ?_
  refine PF.scr rfl (fun c1 c2 => ?_)
  have h := h c1 c2
  refine (PF.callI (j := 111) (args := [.ref 0, .int (xl.getD (x3 + 1).toNatClampNeg 0), .int (xl.getD (x3 + 2).toNatClampNeg 0), .int (xl.getD (x3 + 3).toNatClampNeg 0)]) (rest := []) (M := cM111) (ty := .int) rfl rfl rfl rfl rfl (by decide) rfl rfl (by decide) ?_).weak
  refine PF.imp h (fun v1 F1 h r1 hv => ?_)
  have h := h r1 hv
  refine PF.pr (k := 1) (pc' := 808) (lv' := [(3, .int x3), (2, .ref 129), (1, .ref 0), (0, .ref KB)]) (st' := []) rfl ?_
  refine PF.pr (k := 1) (pc' := 809) (lv' := [(3, .int x3), (2, .ref 129), (1, .ref 0), (0, .ref KB)]) (st' := [.ref 129]) rfl ?_
  refine PF.pr (k := 1) (pc' := 810) (lv' := [(3, .int x3), (2, .ref 129), (1, .ref 0), (0, .ref KB)]) (st' := [.ref KB, .ref 129]) rfl ?_
  refine PF.pr (k := 1) (pc' := 811) (lv' := [(3, .int x3), (2, .ref 129), (1, .ref 0), (0, .ref KB)]) (st' := [.int x3, .ref KB, .ref 129]) rfl ?_
  refine PF.pr (k := 1) (pc' := 812) (lv' := [(3, .int x3), (2, .ref 129), (1, .ref 0), (0, .ref KB)]) (st' := [.int 1, .int x3, .ref KB, .ref 129]) rfl ?_
  refine PF.pr (k := 1) (pc' := 813) (lv' := [(3, .int x3), (2, .ref 129), (1, .ref 0), (0, .ref KB)]) (st' := [.int (x3 + 1), .ref KB, .ref 129]) rfl ?_
  refine PF.scr rfl (fun c1 c2 => ?_)
  have h := h c1 c2
  refine PF.pr (k := 1) (pc' := 815) (lv' := [(3, .int x3), (2, .ref 129), (1, .ref 0), (0, .ref KB)]) (st' := [.ref KB, .int (xl.getD (x3 + 1).toNatClampNeg 0), .ref 129]) rfl ?_
  refine PF.pr (k := 1) (pc' := 816) (lv' := [(3, .int x3), (2, .ref 129), (1, .ref 0), (0, .ref KB)]) (st' := [.int x3, .ref KB, .int (xl.getD (x3 + 1).toNatClampNeg 0), .ref 129]) rfl ?_
  refine PF.pr (k := 1) (pc' := 817) (lv' := [(3, .int x3), (2, .ref 129), (1, .ref 0), (0, .ref KB)]) (st' := [.int 2, .int x3, .ref KB, .int (xl.getD (x3 + 1).toNatClampNeg 0), .ref 129]) rfl ?_
  refine PF.pr (k := 1) (pc' := 818) (lv' := [(3, .int x3), (2, .ref 129), (1, .ref 0), (0, .ref KB)]) (st' := [.int (x3 + 2), .ref KB, .int (xl.getD (x3 + 1).toNatClampNeg 0), .ref 129]) rfl ?_
  refine PF.scr rfl (fun c1 c2 => ?_)
  have h := h c1 c2
  refine PF.pr (k := 1) (pc' := 820) (lv' := [(3, .int x3), (2, .ref 129), (1, .ref 0), (0, .ref KB)]) (st' := [.ref KB, .int (xl.getD (x3 + 2).toNatClampNeg 0), .int (xl.getD (x3 + 1).toNatClampNeg 0), .ref 129]) rfl ?_
  refine PF.pr (k := 1) (pc' := 821) (lv' := [(3, .int x3), (2, .ref 129), (1, .ref 0), (0, .ref KB)]) (st' := [.int x3, .ref KB, .int (xl.getD (x3 + 2).toNatClampNeg 0), .int (xl.getD (x3 + 1).toNatClampNeg 0), .ref 129]) rfl ?_
  refine PF.pr (k := 1) (pc' := 822) (lv' := [(3, .int x3), (2, .ref 129), (1, .ref 0), (0, .ref KB)]) (st' := [.int 3, .int x3, .ref KB, .int (xl.getD (x3 + 2).toNatClampNeg 0), .int (xl.getD (x3 + 1).toNatClampNeg 0), .ref 129]) rfl ?_
  refine PF.pr (k := 1) (pc' := 823) (lv' := [(3, .int x3), (2, .ref 129), (1, .ref 0), (0, .ref KB)]) (st' := [.int (x3 + 3), .ref KB, .int (xl.getD (x3 + 2).toNatClampNeg 0), .int (xl.getD (x3 + 1).toNatClampNeg 0), .ref 129]) rfl ?_
  refine PF.scr rfl (fun c1 c2 => ?_)
  have h := h c1 c2
  refine (PF.callI (j := 217) (args := [.ref 129, .int (xl.getD (x3 + 1).toNatClampNeg 0), .int (xl.getD (x3 + 2).toNatClampNeg 0), .int (xl.getD (x3 + 3).toNatClampNeg 0)]) (rest := []) (M := cM217) (ty := .int) rfl rfl rfl rfl rfl (by decide) rfl rfl (by decide) ?_).weak
  refine PF.imp h (fun v2 F2 h r2 hv => ?_)
  have h := h r2 hv
  refine PF.pr (k := 1) (pc' := 828) (lv' := [(3, .int x3), (2, .ref 129), (1, .ref 0), (0, .ref KB)]) (st' := []) rfl ?_
  refine PF.pr (k := 1) (pc' := 1253) (lv' := [(3, .int x3), (2, .ref 129), (1, .ref 0), (0, .ref KB)]) (st' := []) rfl ?_
  exact h

theorem l_831 {xl : List Int32} {n : Nat} {F : MH} {Q : Option Value → MH → Prop} {x3 : Int32} (h : (0 ≤ (x3 + 1).toInt → (x3 + 1).toInt < xl.length → PF (tRo xl) n 113 0 [(0, .ref 0), (1, .int (xl.getD (x3 + 1).toNatClampNeg 0))] [] F (fun v1 F1 => ∀ r1, v1 = some (.int r1) → (0 ≤ (x3 + 1).toInt → (x3 + 1).toInt < xl.length → PF (tRo xl) n 218 0 [(0, .ref 129), (1, .int (xl.getD (x3 + 1).toNatClampNeg 0))] [] F1 (fun v2 F2 => ∀ r2, v2 = some (.int r2) → PF (tRo xl) n 0 1253 [(3, .int x3), (2, .ref 129), (1, .ref 0), (0, .ref KB)] [] F2 Q))))) : PF (tRo xl) (n + 1) 0 831 [(3, .int x3), (2, .ref 129), (1, .ref 0), (0, .ref KB)] [] F Q := by
  refine PF.pr1 (k := 0) (pc' := 832) (lv' := [(3, .int x3), (2, .ref 129), (1, .ref 0), (0, .ref KB)]) (st' := [.ref 0]) rfl ?_
  refine PF.pr (k := 1) (pc' := 833) (lv' := [(3, .int x3), (2, .ref 129), (1, .ref 0), (0, .ref KB)]) (st' := [.ref KB, .ref 0]) rfl ?_
  refine PF.pr (k := 1) (pc' := 834) (lv' := [(3, .int x3), (2, .ref 129), (1, .ref 0), (0, .ref KB)]) (st' := [.int x3, .ref KB, .ref 0]) rfl ?_
  refine PF.pr (k := 1) (pc' := 835) (lv' := [(3, .int x3), (2, .ref 129), (1, .ref 0), (0, .ref KB)]) (st' := [.int 1, .int x3, .ref KB, .ref 0]) rfl ?_
  refine PF.pr (k := 1) (pc' := 836) (lv' := [(3, .int x3), (2, .ref 129), (1, .ref 0), (0, .ref KB)]) (st' := [.int (x3 + 1), .ref KB, .ref 0]) rfl ?_
  refine PF.scr rfl (fun c1 c2 => ?_)
  have h := h c1 c2
  refine (PF.callI (j := 113) (args := [.ref 0, .int (xl.getD (x3 + 1).toNatClampNeg 0)]) (rest := []) (M := cM113) (ty := .int) rfl rfl rfl rfl rfl (by decide) rfl rfl (by decide) ?_).weak
  refine PF.imp h (fun v1 F1 h r1 hv => ?_)
  have h := h r1 hv
  refine PF.pr (k := 1) (pc' := 841) (lv' := [(3, .int x3), (2, .ref 129), (1, .ref 0), (0, .ref KB)]) (st' := []) rfl ?_
  refine PF.pr (k := 1) (pc' := 842) (lv' := [(3, .int x3), (2, .ref 129), (1, .ref 0), (0, .ref KB)]) (st' := [.ref 129]) rfl ?_
  refine PF.pr (k := 1) (pc' := 843) (lv' := [(3, .int x3), (2, .ref 129), (1, .ref 0), (0, .ref KB)]) (st' := [.ref KB, .ref 129]) rfl ?_
  refine PF.pr (k := 1) (pc' := 844) (lv' := [(3, .int x3), (2, .ref 129), (1, .ref 0), (0, .ref KB)]) (st' := [.int x3, .ref KB, .ref 129]) rfl ?_
  refine PF.pr (k := 1) (pc' := 845) (lv' := [(3, .int x3), (2, .ref 129), (1, .ref 0), (0, .ref KB)]) (st' := [.int 1, .int x3, .ref KB, .ref 129]) rfl ?_
  refine PF.pr (k := 1) (pc' := 846) (lv' := [(3, .int x3), (2, .ref 129), (1, .ref 0), (0, .ref KB)]) (st' := [.int (x3 + 1), .ref KB, .ref 129]) rfl ?_
  refine PF.scr rfl (fun c1 c2 => ?_)
  have h := h c1 c2
  refine (PF.callI (j := 218) (args := [.ref 129, .int (xl.getD (x3 + 1).toNatClampNeg 0)]) (rest := []) (M := cM218) (ty := .int) rfl rfl rfl rfl rfl (by decide) rfl rfl (by decide) ?_).weak
  refine PF.imp h (fun v2 F2 h r2 hv => ?_)
  have h := h r2 hv
  refine PF.pr (k := 1) (pc' := 851) (lv' := [(3, .int x3), (2, .ref 129), (1, .ref 0), (0, .ref KB)]) (st' := []) rfl ?_
  refine PF.pr (k := 1) (pc' := 1253) (lv' := [(3, .int x3), (2, .ref 129), (1, .ref 0), (0, .ref KB)]) (st' := []) rfl ?_
  exact h

theorem l_854 {xl : List Int32} {n : Nat} {F : MH} {Q : Option Value → MH → Prop} {x3 : Int32} (h : (0 ≤ (x3 + 1).toInt → (x3 + 1).toInt < xl.length → PF (tRo xl) n 114 0 [(0, .ref 0), (1, .int (xl.getD (x3 + 1).toNatClampNeg 0))] [] F (fun v1 F1 => ∀ r1, v1 = some (.int r1) → (0 ≤ (x3 + 1).toInt → (x3 + 1).toInt < xl.length → PF (tRo xl) n 219 0 [(0, .ref 129), (1, .int (xl.getD (x3 + 1).toNatClampNeg 0))] [] F1 (fun v2 F2 => ∀ r2, v2 = some (.int r2) → PF (tRo xl) n 0 1253 [(3, .int x3), (2, .ref 129), (1, .ref 0), (0, .ref KB)] [] F2 Q))))) : PF (tRo xl) (n + 1) 0 854 [(3, .int x3), (2, .ref 129), (1, .ref 0), (0, .ref KB)] [] F Q := by
  refine PF.pr1 (k := 0) (pc' := 855) (lv' := [(3, .int x3), (2, .ref 129), (1, .ref 0), (0, .ref KB)]) (st' := [.ref 0]) rfl ?_
  refine PF.pr (k := 1) (pc' := 856) (lv' := [(3, .int x3), (2, .ref 129), (1, .ref 0), (0, .ref KB)]) (st' := [.ref KB, .ref 0]) rfl ?_
  refine PF.pr (k := 1) (pc' := 857) (lv' := [(3, .int x3), (2, .ref 129), (1, .ref 0), (0, .ref KB)]) (st' := [.int x3, .ref KB, .ref 0]) rfl ?_
  refine PF.pr (k := 1) (pc' := 858) (lv' := [(3, .int x3), (2, .ref 129), (1, .ref 0), (0, .ref KB)]) (st' := [.int 1, .int x3, .ref KB, .ref 0]) rfl ?_
  refine PF.pr (k := 1) (pc' := 859) (lv' := [(3, .int x3), (2, .ref 129), (1, .ref 0), (0, .ref KB)]) (st' := [.int (x3 + 1), .ref KB, .ref 0]) rfl ?_
  refine PF.scr rfl (fun c1 c2 => ?_)
  have h := h c1 c2
  refine (PF.callI (j := 114) (args := [.ref 0, .int (xl.getD (x3 + 1).toNatClampNeg 0)]) (rest := []) (M := cM114) (ty := .int) rfl rfl rfl rfl rfl (by decide) rfl rfl (by decide) ?_).weak
  refine PF.imp h (fun v1 F1 h r1 hv => ?_)
  have h := h r1 hv
  refine PF.pr (k := 1) (pc' := 864) (lv' := [(3, .int x3), (2, .ref 129), (1, .ref 0), (0, .ref KB)]) (st' := []) rfl ?_
  refine PF.pr (k := 1) (pc' := 865) (lv' := [(3, .int x3), (2, .ref 129), (1, .ref 0), (0, .ref KB)]) (st' := [.ref 129]) rfl ?_
  refine PF.pr (k := 1) (pc' := 866) (lv' := [(3, .int x3), (2, .ref 129), (1, .ref 0), (0, .ref KB)]) (st' := [.ref KB, .ref 129]) rfl ?_
  refine PF.pr (k := 1) (pc' := 867) (lv' := [(3, .int x3), (2, .ref 129), (1, .ref 0), (0, .ref KB)]) (st' := [.int x3, .ref KB, .ref 129]) rfl ?_
  refine PF.pr (k := 1) (pc' := 868) (lv' := [(3, .int x3), (2, .ref 129), (1, .ref 0), (0, .ref KB)]) (st' := [.int 1, .int x3, .ref KB, .ref 129]) rfl ?_
  refine PF.pr (k := 1) (pc' := 869) (lv' := [(3, .int x3), (2, .ref 129), (1, .ref 0), (0, .ref KB)]) (st' := [.int (x3 + 1), .ref KB, .ref 129]) rfl ?_
  refine PF.scr rfl (fun c1 c2 => ?_)
  have h := h c1 c2
  refine (PF.callI (j := 219) (args := [.ref 129, .int (xl.getD (x3 + 1).toNatClampNeg 0)]) (rest := []) (M := cM219) (ty := .int) rfl rfl rfl rfl rfl (by decide) rfl rfl (by decide) ?_).weak
  refine PF.imp h (fun v2 F2 h r2 hv => ?_)
  have h := h r2 hv
  refine PF.pr (k := 1) (pc' := 874) (lv' := [(3, .int x3), (2, .ref 129), (1, .ref 0), (0, .ref KB)]) (st' := []) rfl ?_
  refine PF.pr (k := 1) (pc' := 1253) (lv' := [(3, .int x3), (2, .ref 129), (1, .ref 0), (0, .ref KB)]) (st' := []) rfl ?_
  exact h

theorem l_877 {xl : List Int32} {n : Nat} {F : MH} {Q : Option Value → MH → Prop} {x3 : Int32} (h : PF (tRo xl) n 117 0 [(0, .ref 0)] [] F (fun v1 F1 => ∀ r1, v1 = some (.int r1) → PF (tRo xl) n 221 0 [(0, .ref 129)] [] F1 (fun v2 F2 => ∀ r2, v2 = some (.int r2) → PF (tRo xl) n 0 1253 [(3, .int x3), (2, .ref 129), (1, .ref 0), (0, .ref KB)] [] F2 Q))) : PF (tRo xl) (n + 1) 0 877 [(3, .int x3), (2, .ref 129), (1, .ref 0), (0, .ref KB)] [] F Q := by
  refine PF.pr1 (k := 0) (pc' := 878) (lv' := [(3, .int x3), (2, .ref 129), (1, .ref 0), (0, .ref KB)]) (st' := [.ref 0]) rfl ?_
  refine (PF.callI (j := 117) (args := [.ref 0]) (rest := []) (M := cM117) (ty := .int) rfl rfl rfl rfl rfl (by decide) rfl rfl (by decide) ?_).weak
  refine PF.imp h (fun v1 F1 h r1 hv => ?_)
  have h := h r1 hv
  refine PF.pr (k := 1) (pc' := 882) (lv' := [(3, .int x3), (2, .ref 129), (1, .ref 0), (0, .ref KB)]) (st' := []) rfl ?_
  refine PF.pr (k := 1) (pc' := 883) (lv' := [(3, .int x3), (2, .ref 129), (1, .ref 0), (0, .ref KB)]) (st' := [.ref 129]) rfl ?_
  refine (PF.callI (j := 221) (args := [.ref 129]) (rest := []) (M := cM221) (ty := .int) rfl rfl rfl rfl rfl (by decide) rfl rfl (by decide) ?_).weak
  refine PF.imp h (fun v2 F2 h r2 hv => ?_)
  have h := h r2 hv
  refine PF.pr (k := 1) (pc' := 887) (lv' := [(3, .int x3), (2, .ref 129), (1, .ref 0), (0, .ref KB)]) (st' := []) rfl ?_
  refine PF.pr (k := 1) (pc' := 1253) (lv' := [(3, .int x3), (2, .ref 129), (1, .ref 0), (0, .ref KB)]) (st' := []) rfl ?_
  exact h

theorem l_890 {xl : List Int32} {n : Nat} {F : MH} {Q : Option Value → MH → Prop} {x3 : Int32} (h : (0 ≤ (x3 + 1).toInt → (x3 + 1).toInt < xl.length → PF (tRo xl) n 118 0 [(0, .ref 0), (1, .int (xl.getD (x3 + 1).toNatClampNeg 0))] [] F (fun v1 F1 => ∀ r1, v1 = some (.int r1) → (0 ≤ (x3 + 1).toInt → (x3 + 1).toInt < xl.length → PF (tRo xl) n 222 0 [(0, .ref 129), (1, .int (xl.getD (x3 + 1).toNatClampNeg 0))] [] F1 (fun v2 F2 => ∀ r2, v2 = some (.int r2) → PF (tRo xl) n 0 1253 [(3, .int x3), (2, .ref 129), (1, .ref 0), (0, .ref KB)] [] F2 Q))))) : PF (tRo xl) (n + 1) 0 890 [(3, .int x3), (2, .ref 129), (1, .ref 0), (0, .ref KB)] [] F Q := by
  refine PF.pr1 (k := 0) (pc' := 891) (lv' := [(3, .int x3), (2, .ref 129), (1, .ref 0), (0, .ref KB)]) (st' := [.ref 0]) rfl ?_
  refine PF.pr (k := 1) (pc' := 892) (lv' := [(3, .int x3), (2, .ref 129), (1, .ref 0), (0, .ref KB)]) (st' := [.ref KB, .ref 0]) rfl ?_
  refine PF.pr (k := 1) (pc' := 893) (lv' := [(3, .int x3), (2, .ref 129), (1, .ref 0), (0, .ref KB)]) (st' := [.int x3, .ref KB, .ref 0]) rfl ?_
  refine PF.pr (k := 1) (pc' := 894) (lv' := [(3, .int x3), (2, .ref 129), (1, .ref 0), (0, .ref KB)]) (st' := [.int 1, .int x3, .ref KB, .ref 0]) rfl ?_
  refine PF.pr (k := 1) (pc' := 895) (lv' := [(3, .int x3), (2, .ref 129), (1, .ref 0), (0, .ref KB)]) (st' := [.int (x3 + 1), .ref KB, .ref 0]) rfl ?_
  refine PF.scr rfl (fun c1 c2 => ?_)
  have h := h c1 c2
  refine (PF.callI (j := 118) (args := [.ref 0, .int (xl.getD (x3 + 1).toNatClampNeg 0)]) (rest := []) (M := cM118) (ty := .int) rfl rfl rfl rfl rfl (by decide) rfl rfl (by decide) ?_).weak
  refine PF.imp h (fun v1 F1 h r1 hv => ?_)
  have h := h r1 hv
  refine PF.pr (k := 1) (pc' := 900) (lv' := [(3, .int x3), (2, .ref 129), (1, .ref 0), (0, .ref KB)]) (st' := []) rfl ?_
  refine PF.pr (k := 1) (pc' := 901) (lv' := [(3, .int x3), (2, .ref 129), (1, .ref 0), (0, .ref KB)]) (st' := [.ref 129]) rfl ?_
  refine PF.pr (k := 1) (pc' := 902) (lv' := [(3, .int x3), (2, .ref 129), (1, .ref 0), (0, .ref KB)]) (st' := [.ref KB, .ref 129]) rfl ?_
  refine PF.pr (k := 1) (pc' := 903) (lv' := [(3, .int x3), (2, .ref 129), (1, .ref 0), (0, .ref KB)]) (st' := [.int x3, .ref KB, .ref 129]) rfl ?_
  refine PF.pr (k := 1) (pc' := 904) (lv' := [(3, .int x3), (2, .ref 129), (1, .ref 0), (0, .ref KB)]) (st' := [.int 1, .int x3, .ref KB, .ref 129]) rfl ?_
  refine PF.pr (k := 1) (pc' := 905) (lv' := [(3, .int x3), (2, .ref 129), (1, .ref 0), (0, .ref KB)]) (st' := [.int (x3 + 1), .ref KB, .ref 129]) rfl ?_
  refine PF.scr rfl (fun c1 c2 => ?_)
  have h := h c1 c2
  refine (PF.callI (j := 222) (args := [.ref 129, .int (xl.getD (x3 + 1).toNatClampNeg 0)]) (rest := []) (M := cM222) (ty := .int) rfl rfl rfl rfl rfl (by decide) rfl rfl (by decide) ?_).weak
  refine PF.imp h (fun v2 F2 h r2 hv => ?_)
  have h := h r2 hv
  refine PF.pr (k := 1) (pc' := 910) (lv' := [(3, .int x3), (2, .ref 129), (1, .ref 0), (0, .ref KB)]) (st' := []) rfl ?_
  refine PF.pr (k := 1) (pc' := 1253) (lv' := [(3, .int x3), (2, .ref 129), (1, .ref 0), (0, .ref KB)]) (st' := []) rfl ?_
  exact h

theorem l_913 {xl : List Int32} {n : Nat} {F : MH} {Q : Option Value → MH → Prop} {x3 : Int32} (h : (0 ≤ (x3 + 1).toInt → (x3 + 1).toInt < xl.length → (0 ≤ (x3 + 2).toInt → (x3 + 2).toInt < xl.length → (0 ≤ (x3 + 3).toInt → (x3 + 3).toInt < xl.length → PF (tRo xl) n 121 0 [(0, .ref 0), (1, .int (xl.getD (x3 + 1).toNatClampNeg 0)), (2, .int (xl.getD (x3 + 2).toNatClampNeg 0)), (3, .int (xl.getD (x3 + 3).toNatClampNeg 0))] [] F (fun v1 F1 => ∀ r1, v1 = some (.long r1) → (0 ≤ (x3 + 1).toInt → (x3 + 1).toInt < xl.length → (0 ≤ (x3 + 2).toInt → (x3 + 2).toInt < xl.length → (0 ≤ (x3 + 3).toInt → (x3 + 3).toInt < xl.length → PF (tRo xl) n 224 0 [(0, .ref 129), (1, .int (xl.getD (x3 + 1).toNatClampNeg 0)), (2, .int (xl.getD (x3 + 2).toNatClampNeg 0)), (3, .int (xl.getD (x3 + 3).toNatClampNeg 0))] [] F1 (fun v2 F2 => ∀ r2, v2 = some (.long r2) → PF (tRo xl) n 0 1253 [(3, .int x3), (2, .ref 129), (1, .ref 0), (0, .ref KB)] [] F2 Q))))))))) : PF (tRo xl) (n + 1) 0 913 [(3, .int x3), (2, .ref 129), (1, .ref 0), (0, .ref KB)] [] F Q := by
  refine PF.pr1 (k := 0) (pc' := 914) (lv' := [(3, .int x3), (2, .ref 129), (1, .ref 0), (0, .ref KB)]) (st' := [.ref 0]) rfl ?_
  refine PF.pr (k := 1) (pc' := 915) (lv' := [(3, .int x3), (2, .ref 129), (1, .ref 0), (0, .ref KB)]) (st' := [.ref KB, .ref 0]) rfl ?_
  refine PF.pr (k := 1) (pc' := 916) (lv' := [(3, .int x3), (2, .ref 129), (1, .ref 0), (0, .ref KB)]) (st' := [.int x3, .ref KB, .ref 0]) rfl ?_
  refine PF.pr (k := 1) (pc' := 917) (lv' := [(3, .int x3), (2, .ref 129), (1, .ref 0), (0, .ref KB)]) (st' := [.int 1, .int x3, .ref KB, .ref 0]) rfl ?_
  refine PF.pr (k := 1) (pc' := 918) (lv' := [(3, .int x3), (2, .ref 129), (1, .ref 0), (0, .ref KB)]) (st' := [.int (x3 + 1), .ref KB, .ref 0]) rfl ?_
  refine PF.scr rfl (fun c1 c2 => ?_)
  have h := h c1 c2
  refine PF.pr (k := 1) (pc' := 920) (lv' := [(3, .int x3), (2, .ref 129), (1, .ref 0), (0, .ref KB)]) (st' := [.ref KB, .int (xl.getD (x3 + 1).toNatClampNeg 0), .ref 0]) rfl ?_
  refine PF.pr (k := 1) (pc' := 921) (lv' := [(3, .int x3), (2, .ref 129), (1, .ref 0), (0, .ref KB)]) (st' := [.int x3, .ref KB, .int (xl.getD (x3 + 1).toNatClampNeg 0), .ref 0]) rfl ?_
  refine PF.pr (k := 1) (pc' := 922) (lv' := [(3, .int x3), (2, .ref 129), (1, .ref 0), (0, .ref KB)]) (st' := [.int 2, .int x3, .ref KB, .int (xl.getD (x3 + 1).toNatClampNeg 0), .ref 0]) rfl ?_
  refine PF.pr (k := 1) (pc' := 923) (lv' := [(3, .int x3), (2, .ref 129), (1, .ref 0), (0, .ref KB)]) (st' := [.int (x3 + 2), .ref KB, .int (xl.getD (x3 + 1).toNatClampNeg 0), .ref 0]) rfl ?_
  refine PF.scr rfl (fun c1 c2 => ?_)
  have h := h c1 c2
  refine PF.pr (k := 1) (pc' := 925) (lv' := [(3, .int x3), (2, .ref 129), (1, .ref 0), (0, .ref KB)]) (st' := [.ref KB, .int (xl.getD (x3 + 2).toNatClampNeg 0), .int (xl.getD (x3 + 1).toNatClampNeg 0), .ref 0]) rfl ?_
  refine PF.pr (k := 1) (pc' := 926) (lv' := [(3, .int x3), (2, .ref 129), (1, .ref 0), (0, .ref KB)]) (st' := [.int x3, .ref KB, .int (xl.getD (x3 + 2).toNatClampNeg 0), .int (xl.getD (x3 + 1).toNatClampNeg 0), .ref 0]) rfl ?_
  refine PF.pr (k := 1) (pc' := 927) (lv' := [(3, .int x3), (2, .ref 129), (1, .ref 0), (0, .ref KB)]) (st' := [.int 3, .int x3, .ref KB, .int (xl.getD (x3 + 2).toNatClampNeg 0), .int (xl.getD (x3 + 1).toNatClampNeg 0), .ref 0]) rfl ?_
  refine PF.pr (k := 1) (pc' := 928) (lv' := [(3, .int x3), (2, .ref 129), (1, .ref 0), (0, .ref KB)]) (st' := [.int (x3 + 3), .ref KB, .int (xl.getD (x3 + 2).toNatClampNeg 0), .int (xl.getD (x3 + 1).toNatClampNeg 0), .ref 0]) rfl ?_
  refine PF.scr rfl (fun c1 c2 => ?_)
  have h := h c1 c2
  refine (PF.callJ (j := 121) (args := [.ref 0, .int (xl.getD (x3 + 1).toNatClampNeg 0), .int (xl.getD (x3 + 2).toNatClampNeg 0), .int (xl.getD (x3 + 3).toNatClampNeg 0)]) (rest := []) (M := cM121) rfl rfl rfl rfl rfl (by decide) rfl rfl rfl ?_).weak
  refine PF.imp h (fun v1 F1 h r1 hv => ?_)
  have h := h r1 hv
  refine PF.pr (k := 1) (pc' := 933) (lv' := [(3, .int x3), (2, .ref 129), (1, .ref 0), (0, .ref KB)]) (st' := []) rfl ?_
  refine PF.pr (k := 1) (pc' := 934) (lv' := [(3, .int x3), (2, .ref 129), (1, .ref 0), (0, .ref KB)]) (st' := [.ref 129]) rfl ?_
  refine PF.pr (k := 1) (pc' := 935) (lv' := [(3, .int x3), (2, .ref 129), (1, .ref 0), (0, .ref KB)]) (st' := [.ref KB, .ref 129]) rfl ?_
  refine PF.pr (k := 1) (pc' := 936) (lv' := [(3, .int x3), (2, .ref 129), (1, .ref 0), (0, .ref KB)]) (st' := [.int x3, .ref KB, .ref 129]) rfl ?_
  refine PF.pr (k := 1) (pc' := 937) (lv' := [(3, .int x3), (2, .ref 129), (1, .ref 0), (0, .ref KB)]) (st' := [.int 1, .int x3, .ref KB, .ref 129]) rfl ?_
  refine PF.pr (k := 1) (pc' := 938) (lv' := [(3, .int x3), (2, .ref 129), (1, .ref 0), (0, .ref KB)]) (st' := [.int (x3 + 1), .ref KB, .ref 129]) rfl ?_
  refine PF.scr rfl (fun c1 c2 => ?_)
  have h := h c1 c2
  refine PF.pr (k := 1) (pc' := 940) (lv' := [(3, .int x3), (2, .ref 129), (1, .ref 0), (0, .ref KB)]) (st' := [.ref KB, .int (xl.getD (x3 + 1).toNatClampNeg 0), .ref 129]) rfl ?_
  refine PF.pr (k := 1) (pc' := 941) (lv' := [(3, .int x3), (2, .ref 129), (1, .ref 0), (0, .ref KB)]) (st' := [.int x3, .ref KB, .int (xl.getD (x3 + 1).toNatClampNeg 0), .ref 129]) rfl ?_
  refine PF.pr (k := 1) (pc' := 942) (lv' := [(3, .int x3), (2, .ref 129), (1, .ref 0), (0, .ref KB)]) (st' := [.int 2, .int x3, .ref KB, .int (xl.getD (x3 + 1).toNatClampNeg 0), .ref 129]) rfl ?_
  refine PF.pr (k := 1) (pc' := 943) (lv' := [(3, .int x3), (2, .ref 129), (1, .ref 0), (0, .ref KB)]) (st' := [.int (x3 + 2), .ref KB, .int (xl.getD (x3 + 1).toNatClampNeg 0), .ref 129]) rfl ?_
  refine PF.scr rfl (fun c1 c2 => ?_)
  have h := h c1 c2
  refine PF.pr (k := 1) (pc' := 945) (lv' := [(3, .int x3), (2, .ref 129), (1, .ref 0), (0, .ref KB)]) (st' := [.ref KB, .int (xl.getD (x3 + 2).toNatClampNeg 0), .int (xl.getD (x3 + 1).toNatClampNeg 0), .ref 129]) rfl ?_
  refine PF.pr (k := 1) (pc' := 946) (lv' := [(3, .int x3), (2, .ref 129), (1, .ref 0), (0, .ref KB)]) (st' := [.int x3, .ref KB, .int (xl.getD (x3 + 2).toNatClampNeg 0), .int (xl.getD (x3 + 1).toNatClampNeg 0), .ref 129]) rfl ?_
  refine PF.pr (k := 1) (pc' := 947) (lv' := [(3, .int x3), (2, .ref 129), (1, .ref 0), (0, .ref KB)]) (st' := [.int 3, .int x3, .ref KB, .int (xl.getD (x3 + 2).toNatClampNeg 0), .int (xl.getD (x3 + 1).toNatClampNeg 0), .ref 129]) rfl ?_
  refine PF.pr (k := 1) (pc' := 948) (lv' := [(3, .int x3), (2, .ref 129), (1, .ref 0), (0, .ref KB)]) (st' := [.int (x3 + 3), .ref KB, .int (xl.getD (x3 + 2).toNatClampNeg 0), .int (xl.getD (x3 + 1).toNatClampNeg 0), .ref 129]) rfl ?_
  refine PF.scr rfl (fun c1 c2 => ?_)
  have h := h c1 c2
  refine (PF.callJ (j := 224) (args := [.ref 129, .int (xl.getD (x3 + 1).toNatClampNeg 0), .int (xl.getD (x3 + 2).toNatClampNeg 0), .int (xl.getD (x3 + 3).toNatClampNeg 0)]) (rest := []) (M := cM224) rfl rfl rfl rfl rfl (by decide) rfl rfl rfl ?_).weak
  refine PF.imp h (fun v2 F2 h r2 hv => ?_)
  have h := h r2 hv
  refine PF.pr (k := 1) (pc' := 953) (lv' := [(3, .int x3), (2, .ref 129), (1, .ref 0), (0, .ref KB)]) (st' := []) rfl ?_
  refine PF.pr (k := 1) (pc' := 1253) (lv' := [(3, .int x3), (2, .ref 129), (1, .ref 0), (0, .ref KB)]) (st' := []) rfl ?_
  exact h

theorem l_956 {xl : List Int32} {n : Nat} {F : MH} {Q : Option Value → MH → Prop} {x3 : Int32} (h : (0 ≤ (x3 + 1).toInt → (x3 + 1).toInt < xl.length → (0 ≤ (x3 + 2).toInt → (x3 + 2).toInt < xl.length → PF (tRo xl) n 127 0 [(0, .ref 0), (1, .int (xl.getD (x3 + 1).toNatClampNeg 0)), (2, .int (xl.getD (x3 + 2).toNatClampNeg 0))] [] F (fun v1 F1 => ∀ r1, v1 = some (.long r1) → (0 ≤ (x3 + 1).toInt → (x3 + 1).toInt < xl.length → (0 ≤ (x3 + 2).toInt → (x3 + 2).toInt < xl.length → PF (tRo xl) n 228 0 [(0, .ref 129), (1, .int (xl.getD (x3 + 1).toNatClampNeg 0)), (2, .int (xl.getD (x3 + 2).toNatClampNeg 0))] [] F1 (fun v2 F2 => ∀ r2, v2 = some (.long r2) → PF (tRo xl) n 0 1253 [(3, .int x3), (2, .ref 129), (1, .ref 0), (0, .ref KB)] [] F2 Q))))))) : PF (tRo xl) (n + 1) 0 956 [(3, .int x3), (2, .ref 129), (1, .ref 0), (0, .ref KB)] [] F Q := by
  refine PF.pr1 (k := 0) (pc' := 957) (lv' := [(3, .int x3), (2, .ref 129), (1, .ref 0), (0, .ref KB)]) (st' := [.ref 0]) rfl ?_
  refine PF.pr (k := 1) (pc' := 958) (lv' := [(3, .int x3), (2, .ref 129), (1, .ref 0), (0, .ref KB)]) (st' := [.ref KB, .ref 0]) rfl ?_
  refine PF.pr (k := 1) (pc' := 959) (lv' := [(3, .int x3), (2, .ref 129), (1, .ref 0), (0, .ref KB)]) (st' := [.int x3, .ref KB, .ref 0]) rfl ?_
  refine PF.pr (k := 1) (pc' := 960) (lv' := [(3, .int x3), (2, .ref 129), (1, .ref 0), (0, .ref KB)]) (st' := [.int 1, .int x3, .ref KB, .ref 0]) rfl ?_
  refine PF.pr (k := 1) (pc' := 961) (lv' := [(3, .int x3), (2, .ref 129), (1, .ref 0), (0, .ref KB)]) (st' := [.int (x3 + 1), .ref KB, .ref 0]) rfl ?_
  refine PF.scr rfl (fun c1 c2 => ?_)
  have h := h c1 c2
  refine PF.pr (k := 1) (pc' := 963) (lv' := [(3, .int x3), (2, .ref 129), (1, .ref 0), (0, .ref KB)]) (st' := [.ref KB, .int (xl.getD (x3 + 1).toNatClampNeg 0), .ref 0]) rfl ?_
  refine PF.pr (k := 1) (pc' := 964) (lv' := [(3, .int x3), (2, .ref 129), (1, .ref 0), (0, .ref KB)]) (st' := [.int x3, .ref KB, .int (xl.getD (x3 + 1).toNatClampNeg 0), .ref 0]) rfl ?_
  refine PF.pr (k := 1) (pc' := 965) (lv' := [(3, .int x3), (2, .ref 129), (1, .ref 0), (0, .ref KB)]) (st' := [.int 2, .int x3, .ref KB, .int (xl.getD (x3 + 1).toNatClampNeg 0), .ref 0]) rfl ?_
  refine PF.pr (k := 1) (pc' := 966) (lv' := [(3, .int x3), (2, .ref 129), (1, .ref 0), (0, .ref KB)]) (st' := [.int (x3 + 2), .ref KB, .int (xl.getD (x3 + 1).toNatClampNeg 0), .ref 0]) rfl ?_
  refine PF.scr rfl (fun c1 c2 => ?_)
  have h := h c1 c2
  refine (PF.callJ (j := 127) (args := [.ref 0, .int (xl.getD (x3 + 1).toNatClampNeg 0), .int (xl.getD (x3 + 2).toNatClampNeg 0)]) (rest := []) (M := cM127) rfl rfl rfl rfl rfl (by decide) rfl rfl rfl ?_).weak
  refine PF.imp h (fun v1 F1 h r1 hv => ?_)
  have h := h r1 hv
  refine PF.pr (k := 1) (pc' := 971) (lv' := [(3, .int x3), (2, .ref 129), (1, .ref 0), (0, .ref KB)]) (st' := []) rfl ?_
  refine PF.pr (k := 1) (pc' := 972) (lv' := [(3, .int x3), (2, .ref 129), (1, .ref 0), (0, .ref KB)]) (st' := [.ref 129]) rfl ?_
  refine PF.pr (k := 1) (pc' := 973) (lv' := [(3, .int x3), (2, .ref 129), (1, .ref 0), (0, .ref KB)]) (st' := [.ref KB, .ref 129]) rfl ?_
  refine PF.pr (k := 1) (pc' := 974) (lv' := [(3, .int x3), (2, .ref 129), (1, .ref 0), (0, .ref KB)]) (st' := [.int x3, .ref KB, .ref 129]) rfl ?_
  refine PF.pr (k := 1) (pc' := 975) (lv' := [(3, .int x3), (2, .ref 129), (1, .ref 0), (0, .ref KB)]) (st' := [.int 1, .int x3, .ref KB, .ref 129]) rfl ?_
  refine PF.pr (k := 1) (pc' := 976) (lv' := [(3, .int x3), (2, .ref 129), (1, .ref 0), (0, .ref KB)]) (st' := [.int (x3 + 1), .ref KB, .ref 129]) rfl ?_
  refine PF.scr rfl (fun c1 c2 => ?_)
  have h := h c1 c2
  refine PF.pr (k := 1) (pc' := 978) (lv' := [(3, .int x3), (2, .ref 129), (1, .ref 0), (0, .ref KB)]) (st' := [.ref KB, .int (xl.getD (x3 + 1).toNatClampNeg 0), .ref 129]) rfl ?_
  refine PF.pr (k := 1) (pc' := 979) (lv' := [(3, .int x3), (2, .ref 129), (1, .ref 0), (0, .ref KB)]) (st' := [.int x3, .ref KB, .int (xl.getD (x3 + 1).toNatClampNeg 0), .ref 129]) rfl ?_
  refine PF.pr (k := 1) (pc' := 980) (lv' := [(3, .int x3), (2, .ref 129), (1, .ref 0), (0, .ref KB)]) (st' := [.int 2, .int x3, .ref KB, .int (xl.getD (x3 + 1).toNatClampNeg 0), .ref 129]) rfl ?_
  refine PF.pr (k := 1) (pc' := 981) (lv' := [(3, .int x3), (2, .ref 129), (1, .ref 0), (0, .ref KB)]) (st' := [.int (x3 + 2), .ref KB, .int (xl.getD (x3 + 1).toNatClampNeg 0), .ref 129]) rfl ?_
  refine PF.scr rfl (fun c1 c2 => ?_)
  have h := h c1 c2
  refine (PF.callJ (j := 228) (args := [.ref 129, .int (xl.getD (x3 + 1).toNatClampNeg 0), .int (xl.getD (x3 + 2).toNatClampNeg 0)]) (rest := []) (M := cM228) rfl rfl rfl rfl rfl (by decide) rfl rfl rfl ?_).weak
  refine PF.imp h (fun v2 F2 h r2 hv => ?_)
  have h := h r2 hv
  refine PF.pr (k := 1) (pc' := 986) (lv' := [(3, .int x3), (2, .ref 129), (1, .ref 0), (0, .ref KB)]) (st' := []) rfl ?_
  refine PF.pr (k := 1) (pc' := 1253) (lv' := [(3, .int x3), (2, .ref 129), (1, .ref 0), (0, .ref KB)]) (st' := []) rfl ?_
  exact h

theorem l_989 {xl : List Int32} {n : Nat} {F : MH} {Q : Option Value → MH → Prop} {x3 : Int32} (h : (0 ≤ (x3 + 1).toInt → (x3 + 1).toInt < xl.length → (0 ≤ (x3 + 2).toInt → (x3 + 2).toInt < xl.length → (0 ≤ (x3 + 3).toInt → (x3 + 3).toInt < xl.length → PF (tRo xl) n 128 0 [(0, .ref 0), (1, .int (xl.getD (x3 + 1).toNatClampNeg 0)), (2, .int (xl.getD (x3 + 2).toNatClampNeg 0)), (3, .int (xl.getD (x3 + 3).toNatClampNeg 0))] [] F (fun v1 F1 => ∀ r1, v1 = some (.int r1) → (0 ≤ (x3 + 1).toInt → (x3 + 1).toInt < xl.length → (0 ≤ (x3 + 2).toInt → (x3 + 2).toInt < xl.length → (0 ≤ (x3 + 3).toInt → (x3 + 3).toInt < xl.length → PF (tRo xl) n 229 0 [(0, .ref 129), (1, .int (xl.getD (x3 + 1).toNatClampNeg 0)), (2, .int (xl.getD (x3 + 2).toNatClampNeg 0)), (3, .int (xl.getD (x3 + 3).toNatClampNeg 0))] [] F1 (fun v2 F2 => ∀ r2, v2 = some (.int r2) → PF (tRo xl) n 0 1253 [(3, .int x3), (2, .ref 129), (1, .ref 0), (0, .ref KB)] [] F2 Q))))))))) : PF (tRo xl) (n + 1) 0 989 [(3, .int x3), (2, .ref 129), (1, .ref 0), (0, .ref KB)] [] F Q := by
  refine PF.pr1 (k := 0) (pc' := 990) (lv' := [(3, .int x3), (2, .ref 129), (1, .ref 0), (0, .ref KB)]) (st' := [.ref 0]) rfl ?_
  refine PF.pr (k := 1) (pc' := 991) (lv' := [(3, .int x3), (2, .ref 129), (1, .ref 0), (0, .ref KB)]) (st' := [.ref KB, .ref 0]) rfl ?_
  refine PF.pr (k := 1) (pc' := 992) (lv' := [(3, .int x3), (2, .ref 129), (1, .ref 0), (0, .ref KB)]) (st' := [.int x3, .ref KB, .ref 0]) rfl ?_
  refine PF.pr (k := 1) (pc' := 993) (lv' := [(3, .int x3), (2, .ref 129), (1, .ref 0), (0, .ref KB)]) (st' := [.int 1, .int x3, .ref KB, .ref 0]) rfl ?_
  refine PF.pr (k := 1) (pc' := 994) (lv' := [(3, .int x3), (2, .ref 129), (1, .ref 0), (0, .ref KB)]) (st' := [.int (x3 + 1), .ref KB, .ref 0]) rfl ?_
  refine PF.scr rfl (fun c1 c2 => ?_)
  have h := h c1 c2
  refine PF.pr (k := 1) (pc' := 996) (lv' := [(3, .int x3), (2, .ref 129), (1, .ref 0), (0, .ref KB)]) (st' := [.ref KB, .int (xl.getD (x3 + 1).toNatClampNeg 0), .ref 0]) rfl ?_
  refine PF.pr (k := 1) (pc' := 997) (lv' := [(3, .int x3), (2, .ref 129), (1, .ref 0), (0, .ref KB)]) (st' := [.int x3, .ref KB, .int (xl.getD (x3 + 1).toNatClampNeg 0), .ref 0]) rfl ?_
  refine PF.pr (k := 1) (pc' := 998) (lv' := [(3, .int x3), (2, .ref 129), (1, .ref 0), (0, .ref KB)]) (st' := [.int 2, .int x3, .ref KB, .int (xl.getD (x3 + 1).toNatClampNeg 0), .ref 0]) rfl ?_
  refine PF.pr (k := 1) (pc' := 999) (lv' := [(3, .int x3), (2, .ref 129), (1, .ref 0), (0, .ref KB)]) (st' := [.int (x3 + 2), .ref KB, .int (xl.getD (x3 + 1).toNatClampNeg 0), .ref 0]) rfl ?_
  refine PF.scr rfl (fun c1 c2 => ?_)
  have h := h c1 c2
  refine PF.pr (k := 1) (pc' := 1001) (lv' := [(3, .int x3), (2, .ref 129), (1, .ref 0), (0, .ref KB)]) (st' := [.ref KB, .int (xl.getD (x3 + 2).toNatClampNeg 0), .int (xl.getD (x3 + 1).toNatClampNeg 0), .ref 0]) rfl ?_
  refine PF.pr (k := 1) (pc' := 1002) (lv' := [(3, .int x3), (2, .ref 129), (1, .ref 0), (0, .ref KB)]) (st' := [.int x3, .ref KB, .int (xl.getD (x3 + 2).toNatClampNeg 0), .int (xl.getD (x3 + 1).toNatClampNeg 0), .ref 0]) rfl ?_
  refine PF.pr (k := 1) (pc' := 1003) (lv' := [(3, .int x3), (2, .ref 129), (1, .ref 0), (0, .ref KB)]) (st' := [.int 3, .int x3, .ref KB, .int (xl.getD (x3 + 2).toNatClampNeg 0), .int (xl.getD (x3 + 1).toNatClampNeg 0), .ref 0]) rfl ?_
  refine PF.pr (k := 1) (pc' := 1004) (lv' := [(3, .int x3), (2, .ref 129), (1, .ref 0), (0, .ref KB)]) (st' := [.int (x3 + 3), .ref KB, .int (xl.getD (x3 + 2).toNatClampNeg 0), .int (xl.getD (x3 + 1).toNatClampNeg 0), .ref 0]) rfl ?_
  refine PF.scr rfl (fun c1 c2 => ?_)
  have h := h c1 c2
  refine (PF.callI (j := 128) (args := [.ref 0, .int (xl.getD (x3 + 1).toNatClampNeg 0), .int (xl.getD (x3 + 2).toNatClampNeg 0), .int (xl.getD (x3 + 3).toNatClampNeg 0)]) (rest := []) (M := cM128) (ty := .int) rfl rfl rfl rfl rfl (by decide) rfl rfl (by decide) ?_).weak
  refine PF.imp h (fun v1 F1 h r1 hv => ?_)
  have h := h r1 hv
  refine PF.pr (k := 1) (pc' := 1009) (lv' := [(3, .int x3), (2, .ref 129), (1, .ref 0), (0, .ref KB)]) (st' := []) rfl ?_
  refine PF.pr (k := 1) (pc' := 1010) (lv' := [(3, .int x3), (2, .ref 129), (1, .ref 0), (0, .ref KB)]) (st' := [.ref 129]) rfl ?_
  refine PF.pr (k := 1) (pc' := 1011) (lv' := [(3, .int x3), (2, .ref 129), (1, .ref 0), (0, .ref KB)]) (st' := [.ref KB, .ref 129]) rfl ?_
  refine PF.pr (k := 1) (pc' := 1012) (lv' := [(3, .int x3), (2, .ref 129), (1, .ref 0), (0, .ref KB)]) (st' := [.int x3, .ref KB, .ref 129]) rfl ?_
  refine PF.pr (k := 1) (pc' := 1013) (lv' := [(3, .int x3), (2, .ref 129), (1, .ref 0), (0, .ref KB)]) (st' := [.int 1, .int x3, .ref KB, .ref 129]) rfl ?_
  refine PF.pr (k := 1) (pc' := 1014) (lv' := [(3, .int x3), (2, .ref 129), (1, .ref 0), (0, .ref KB)]) (st' := [.int (x3 + 1), .ref KB, .ref 129]) rfl ?_
  refine PF.scr rfl (fun c1 c2 => ?_)
  have h := h c1 c2
  refine PF.pr (k := 1) (pc' := 1016) (lv' := [(3, .int x3), (2, .ref 129), (1, .ref 0), (0, .ref KB)]) (st' := [.ref KB, .int (xl.getD (x3 + 1).toNatClampNeg 0), .ref 129]) rfl ?_
  refine PF.pr (k := 1) (pc' := 1017) (lv' := [(3, .int x3), (2, .ref 129), (1, .ref 0), (0, .ref KB)]) (st' := [.int x3, .ref KB, .int (xl.getD (x3 + 1).toNatClampNeg 0), .ref 129]) rfl ?_
  refine PF.pr (k := 1) (pc' := 1018) (lv' := [(3, .int x3), (2, .ref 129), (1, .ref 0), (0, .ref KB)]) (st' := [.int 2, .int x3, .ref KB, .int (xl.getD (x3 + 1).toNatClampNeg 0), .ref 129]) rfl ?_
  refine PF.pr (k := 1) (pc' := 1019) (lv' := [(3, .int x3), (2, .ref 129), (1, .ref 0), (0, .ref KB)]) (st' := [.int (x3 + 2), .ref KB, .int (xl.getD (x3 + 1).toNatClampNeg 0), .ref 129]) rfl ?_
  refine PF.scr rfl (fun c1 c2 => ?_)
  have h := h c1 c2
  refine PF.pr (k := 1) (pc' := 1021) (lv' := [(3, .int x3), (2, .ref 129), (1, .ref 0), (0, .ref KB)]) (st' := [.ref KB, .int (xl.getD (x3 + 2).toNatClampNeg 0), .int (xl.getD (x3 + 1).toNatClampNeg 0), .ref 129]) rfl ?_
  refine PF.pr (k := 1) (pc' := 1022) (lv' := [(3, .int x3), (2, .ref 129), (1, .ref 0), (0, .ref KB)]) (st' := [.int x3, .ref KB, .int (xl.getD (x3 + 2).toNatClampNeg 0), .int (xl.getD (x3 + 1).toNatClampNeg 0), .ref 129]) rfl ?_
  refine PF.pr (k := 1) (pc' := 1023) (lv' := [(3, .int x3), (2, .ref 129), (1, .ref 0), (0, .ref KB)]) (st' := [.int 3, .int x3, .ref KB, .int (xl.getD (x3 + 2).toNatClampNeg 0), .int (xl.getD (x3 + 1).toNatClampNeg 0), .ref 129]) rfl ?_
  refine PF.pr (k := 1) (pc' := 1024) (lv' := [(3, .int x3), (2, .ref 129), (1, .ref 0), (0, .ref KB)]) (st' := [.int (x3 + 3), .ref KB, .int (xl.getD (x3 + 2).toNatClampNeg 0), .int (xl.getD (x3 + 1).toNatClampNeg 0), .ref 129]) rfl ?_
  refine PF.scr rfl (fun c1 c2 => ?_)
  have h := h c1 c2
  refine (PF.callI (j := 229) (args := [.ref 129, .int (xl.getD (x3 + 1).toNatClampNeg 0), .int (xl.getD (x3 + 2).toNatClampNeg 0), .int (xl.getD (x3 + 3).toNatClampNeg 0)]) (rest := []) (M := cM229) (ty := .int) rfl rfl rfl rfl rfl (by decide) rfl rfl (by decide) ?_).weak
  refine PF.imp h (fun v2 F2 h r2 hv => ?_)
  have h := h r2 hv
  refine PF.pr (k := 1) (pc' := 1029) (lv' := [(3, .int x3), (2, .ref 129), (1, .ref 0), (0, .ref KB)]) (st' := []) rfl ?_
  refine PF.pr (k := 1) (pc' := 1253) (lv' := [(3, .int x3), (2, .ref 129), (1, .ref 0), (0, .ref KB)]) (st' := []) rfl ?_
  exact h

theorem l_1032 {xl : List Int32} {n : Nat} {F : MH} {Q : Option Value → MH → Prop} {x3 : Int32} (h : (0 ≤ (x3 + 1).toInt → (x3 + 1).toInt < xl.length → PF (tRo xl) n 130 0 [(0, .ref 0), (1, .int (xl.getD (x3 + 1).toNatClampNeg 0))] [] F (fun v1 F1 => ∀ r1, v1 = some (.int r1) → (0 ≤ (x3 + 1).toInt → (x3 + 1).toInt < xl.length → PF (tRo xl) n 230 0 [(0, .ref 129), (1, .int (xl.getD (x3 + 1).toNatClampNeg 0))] [] F1 (fun v2 F2 => ∀ r2, v2 = some (.int r2) → PF (tRo xl) n 0 1253 [(3, .int x3), (2, .ref 129), (1, .ref 0), (0, .ref KB)] [] F2 Q))))) : PF (tRo xl) (n + 1) 0 1032 [(3, .int x3), (2, .ref 129), (1, .ref 0), (0, .ref KB)] [] F Q := by
  refine PF.pr1 (k := 0) (pc' := 1033) (lv' := [(3, .int x3), (2, .ref 129), (1, .ref 0), (0, .ref KB)]) (st' := [.ref 0]) rfl ?_
  refine PF.pr (k := 1) (pc' := 1034) (lv' := [(3, .int x3), (2, .ref 129), (1, .ref 0), (0, .ref KB)]) (st' := [.ref KB, .ref 0]) rfl ?_
  refine PF.pr (k := 1) (pc' := 1035) (lv' := [(3, .int x3), (2, .ref 129), (1, .ref 0), (0, .ref KB)]) (st' := [.int x3, .ref KB, .ref 0]) rfl ?_
  refine PF.pr (k := 1) (pc' := 1036) (lv' := [(3, .int x3), (2, .ref 129), (1, .ref 0), (0, .ref KB)]) (st' := [.int 1, .int x3, .ref KB, .ref 0]) rfl ?_
  refine PF.pr (k := 1) (pc' := 1037) (lv' := [(3, .int x3), (2, .ref 129), (1, .ref 0), (0, .ref KB)]) (st' := [.int (x3 + 1), .ref KB, .ref 0]) rfl ?_
  refine PF.scr rfl (fun c1 c2 => ?_)
  have h := h c1 c2
  refine (PF.callI (j := 130) (args := [.ref 0, .int (xl.getD (x3 + 1).toNatClampNeg 0)]) (rest := []) (M := cM130) (ty := .int) rfl rfl rfl rfl rfl (by decide) rfl rfl (by decide) ?_).weak
  refine PF.imp h (fun v1 F1 h r1 hv => ?_)
  have h := h r1 hv
  refine PF.pr (k := 1) (pc' := 1042) (lv' := [(3, .int x3), (2, .ref 129), (1, .ref 0), (0, .ref KB)]) (st' := []) rfl ?_
  refine PF.pr (k := 1) (pc' := 1043) (lv' := [(3, .int x3), (2, .ref 129), (1, .ref 0), (0, .ref KB)]) (st' := [.ref 129]) rfl ?_
  refine PF.pr (k := 1) (pc' := 1044) (lv' := [(3, .int x3), (2, .ref 129), (1, .ref 0), (0, .ref KB)]) (st' := [.ref KB, .ref 129]) rfl ?_
  refine PF.pr (k := 1) (pc' := 1045) (lv' := [(3, .int x3), (2, .ref 129), (1, .ref 0), (0, .ref KB)]) (st' := [.int x3, .ref KB, .ref 129]) rfl ?_
  refine PF.pr (k := 1) (pc' := 1046) (lv' := [(3, .int x3), (2, .ref 129), (1, .ref 0), (0, .ref KB)]) (st' := [.int 1, .int x3, .ref KB, .ref 129]) rfl ?_
  refine PF.pr (k := 1) (pc' := 1047) (lv' := [(3, .int x3), (2, .ref 129), (1, .ref 0), (0, .ref KB)]) (st' := [.int (x3 + 1), .ref KB, .ref 129]) rfl ?_
  refine PF.scr rfl (fun c1 c2 => ?_)
  have h := h c1 c2
  refine (PF.callI (j := 230) (args := [.ref 129, .int (xl.getD (x3 + 1).toNatClampNeg 0)]) (rest := []) (M := cM230) (ty := .int) rfl rfl rfl rfl rfl (by decide) rfl rfl (by decide) ?_).weak
  refine PF.imp h (fun v2 F2 h r2 hv => ?_)
  have h := h r2 hv
  refine PF.pr (k := 1) (pc' := 1052) (lv' := [(3, .int x3), (2, .ref 129), (1, .ref 0), (0, .ref KB)]) (st' := []) rfl ?_
  refine PF.pr (k := 1) (pc' := 1253) (lv' := [(3, .int x3), (2, .ref 129), (1, .ref 0), (0, .ref KB)]) (st' := []) rfl ?_
  exact h

theorem l_1055 {xl : List Int32} {n : Nat} {F : MH} {Q : Option Value → MH → Prop} {x3 : Int32} (h : (0 ≤ (x3 + 1).toInt → (x3 + 1).toInt < xl.length → PF (tRo xl) n 131 0 [(0, .ref 0), (1, .int (xl.getD (x3 + 1).toNatClampNeg 0))] [] F (fun v1 F1 => ∀ r1, v1 = some (.int r1) → (0 ≤ (x3 + 1).toInt → (x3 + 1).toInt < xl.length → PF (tRo xl) n 232 0 [(0, .ref 129), (1, .int (xl.getD (x3 + 1).toNatClampNeg 0))] [] F1 (fun v2 F2 => ∀ r2, v2 = some (.int r2) → PF (tRo xl) n 0 1253 [(3, .int x3), (2, .ref 129), (1, .ref 0), (0, .ref KB)] [] F2 Q))))) : PF (tRo xl) (n + 1) 0 1055 [(3, .int x3), (2, .ref 129), (1, .ref 0), (0, .ref KB)] [] F Q := by
  refine PF.pr1 (k := 0) (pc' := 1056) (lv' := [(3, .int x3), (2, .ref 129), (1, .ref 0), (0, .ref KB)]) (st' := [.ref 0]) rfl ?_
  refine PF.pr (k := 1) (pc' := 1057) (lv' := [(3, .int x3), (2, .ref 129), (1, .ref 0), (0, .ref KB)]) (st' := [.ref KB, .ref 0]) rfl ?_
  refine PF.pr (k := 1) (pc' := 1058) (lv' := [(3, .int x3), (2, .ref 129), (1, .ref 0), (0, .ref KB)]) (st' := [.int x3, .ref KB, .ref 0]) rfl ?_
  refine PF.pr (k := 1) (pc' := 1059) (lv' := [(3, .int x3), (2, .ref 129), (1, .ref 0), (0, .ref KB)]) (st' := [.int 1, .int x3, .ref KB, .ref 0]) rfl ?_
  refine PF.pr (k := 1) (pc' := 1060) (lv' := [(3, .int x3), (2, .ref 129), (1, .ref 0), (0, .ref KB)]) (st' := [.int (x3 + 1), .ref KB, .ref 0]) rfl ?_
  refine PF.scr rfl (fun c1 c2 => ?_)
  have h := h c1 c2
  refine (PF.callI (j := 131) (args := [.ref 0, .int (xl.getD (x3 + 1).toNatClampNeg 0)]) (rest := []) (M := cM131) (ty := .int) rfl rfl rfl rfl rfl (by decide) rfl rfl (by decide) ?_).weak
  refine PF.imp h (fun v1 F1 h r1 hv => ?_)
  have h := h r1 hv
  refine PF.pr (k := 1) (pc' := 1065) (lv' := [(3, .int x3), (2, .ref 129), (1, .ref 0), (0, .ref KB)]) (st' := []) rfl ?_
  refine PF.pr (k := 1) (pc' := 1066) (lv' := [(3, .int x3), (2, .ref 129), (1, .ref 0), (0, .ref KB)]) (st' := [.ref 129]) rfl ?_
  refine PF.pr (k := 1) (pc' := 1067) (lv' := [(3, .int x3), (2, .ref 129), (1, .ref 0), (0, .ref KB)]) (st' := [.ref KB, .ref 129]) rfl ?_
  refine PF.pr (k := 1) (pc' := 1068) (lv' := [(3, .int x3), (2, .ref 129), (1, .ref 0), (0, .ref KB)]) (st' := [.int x3, .ref KB, .ref 129]) rfl ?_
  refine PF.pr (k := 1) (pc' := 1069) (lv' := [(3, .int x3), (2, .ref 129), (1, .ref 0), (0, .ref KB)]) (st' := [.int 1, .int x3, .ref KB, .ref 129]) rfl ?_
  refine PF.pr (k := 1) (pc' := 1070) (lv' := [(3, .int x3), (2, .ref 129), (1, .ref 0), (0, .ref KB)]) (st' := [.int (x3 + 1), .ref KB, .ref 129]) rfl ?_
  refine PF.scr rfl (fun c1 c2 => ?_)
  have h := h c1 c2
  refine (PF.callI (j := 232) (args := [.ref 129, .int (xl.getD (x3 + 1).toNatClampNeg 0)]) (rest := []) (M := cM232) (ty := .int) rfl rfl rfl rfl rfl (by decide) rfl rfl (by decide) ?_).weak
  refine PF.imp h (fun v2 F2 h r2 hv => ?_)
  have h := h r2 hv
  refine PF.pr (k := 1) (pc' := 1075) (lv' := [(3, .int x3), (2, .ref 129), (1, .ref 0), (0, .ref KB)]) (st' := []) rfl ?_
  refine PF.pr (k := 1) (pc' := 1253) (lv' := [(3, .int x3), (2, .ref 129), (1, .ref 0), (0, .ref KB)]) (st' := []) rfl ?_
  exact h

theorem l_1078 {xl : List Int32} {n : Nat} {F : MH} {Q : Option Value → MH → Prop} {x3 : Int32} (h : (0 ≤ (x3 + 1).toInt → (x3 + 1).toInt < xl.length → (0 ≤ (x3 + 2).toInt → (x3 + 2).toInt < xl.length → (0 ≤ (x3 + 3).toInt → (x3 + 3).toInt < xl.length → PF (tRo xl) n 132 0 [(0, .ref 0), (1, .int (xl.getD (x3 + 1).toNatClampNeg 0)), (2, .int (xl.getD (x3 + 2).toNatClampNeg 0)), (3, .int (xl.getD (x3 + 3).toNatClampNeg 0))] [] F (fun v1 F1 => ∀ r1, v1 = some (.int r1) → (0 ≤ (x3 + 1).toInt → (x3 + 1).toInt < xl.length → (0 ≤ (x3 + 2).toInt → (x3 + 2).toInt < xl.length → (0 ≤ (x3 + 3).toInt → (x3 + 3).toInt < xl.length → PF (tRo xl) n 233 0 [(0, .ref 129), (1, .int (xl.getD (x3 + 1).toNatClampNeg 0)), (2, .int (xl.getD (x3 + 2).toNatClampNeg 0)), (3, .int (xl.getD (x3 + 3).toNatClampNeg 0))] [] F1 (fun v2 F2 => ∀ r2, v2 = some (.int r2) → PF (tRo xl) n 0 1253 [(3, .int x3), (2, .ref 129), (1, .ref 0), (0, .ref KB)] [] F2 Q))))))))) : PF (tRo xl) (n + 1) 0 1078 [(3, .int x3), (2, .ref 129), (1, .ref 0), (0, .ref KB)] [] F Q := by
  refine PF.pr1 (k := 0) (pc' := 1079) (lv' := [(3, .int x3), (2, .ref 129), (1, .ref 0), (0, .ref KB)]) (st' := [.ref 0]) rfl ?_
  refine PF.pr (k := 1) (pc' := 1080) (lv' := [(3, .int x3), (2, .ref 129), (1, .ref 0), (0, .ref KB)]) (st' := [.ref KB, .ref 0]) rfl ?_
  refine PF.pr (k := 1) (pc' := 1081) (lv' := [(3, .int x3), (2, .ref 129), (1, .ref 0), (0, .ref KB)]) (st' := [.int x3, .ref KB, .ref 0]) rfl ?_
  refine PF.pr (k := 1) (pc' := 1082) (lv' := [(3, .int x3), (2, .ref 129), (1, .ref 0), (0, .ref KB)]) (st' := [.int 1, .int x3, .ref KB, .ref 0]) rfl ?_
  refine PF.pr (k := 1) (pc' := 1083) (lv' := [(3, .int x3), (2, .ref 129), (1, .ref 0), (0, .ref KB)]) (st' := [.int (x3 + 1), .ref KB, .ref 0]) rfl ?_
  refine PF.scr rfl (fun c1 c2 => ?_)
  have h := h c1 c2
  refine PF.pr (k := 1) (pc' := 1085) (lv' := [(3, .int x3), (2, .ref 129), (1, .ref 0), (0, .ref KB)]) (st' := [.ref KB, .int (xl.getD (x3 + 1).toNatClampNeg 0), .ref 0]) rfl ?_
  refine PF.pr (k := 1) (pc' := 1086) (lv' := [(3, .int x3), (2, .ref 129), (1, .ref 0), (0, .ref KB)]) (st' := [.int x3, .ref KB, .int (xl.getD (x3 + 1).toNatClampNeg 0), .ref 0]) rfl ?_
  refine PF.pr (k := 1) (pc' := 1087) (lv' := [(3, .int x3), (2, .ref 129), (1, .ref 0), (0, .ref KB)]) (st' := [.int 2, .int x3, .ref KB, .int (xl.getD (x3 + 1).toNatClampNeg 0), .ref 0]) rfl ?_
  refine PF.pr (k := 1) (pc' := 1088) (lv' := [(3, .int x3), (2, .ref 129), (1, .ref 0), (0, .ref KB)]) (st' := [.int (x3 + 2), .ref KB, .int (xl.getD (x3 + 1).toNatClampNeg 0), .ref 0]) rfl ?_
  refine PF.scr rfl (fun c1 c2 => ?_)
  have h := h c1 c2
  refine PF.pr (k := 1) (pc' := 1090) (lv' := [(3, .int x3), (2, .ref 129), (1, .ref 0), (0, .ref KB)]) (st' := [.ref KB, .int (xl.getD (x3 + 2).toNatClampNeg 0), .int (xl.getD (x3 + 1).toNatClampNeg 0), .ref 0]) rfl ?_
  refine PF.pr (k := 1) (pc' := 1091) (lv' := [(3, .int x3), (2, .ref 129), (1, .ref 0), (0, .ref KB)]) (st' := [.int x3, .ref KB, .int (xl.getD (x3 + 2).toNatClampNeg 0), .int (xl.getD (x3 + 1).toNatClampNeg 0), .ref 0]) rfl ?_
  refine PF.pr (k := 1) (pc' := 1092) (lv' := [(3, .int x3), (2, .ref 129), (1, .ref 0), (0, .ref KB)]) (st' := [.int 3, .int x3, .ref KB, .int (xl.getD (x3 + 2).toNatClampNeg 0), .int (xl.getD (x3 + 1).toNatClampNeg 0), .ref 0]) rfl ?_
  refine PF.pr (k := 1) (pc' := 1093) (lv' := [(3, .int x3), (2, .ref 129), (1, .ref 0), (0, .ref KB)]) (st' := [.int (x3 + 3), .ref KB, .int (xl.getD (x3 + 2).toNatClampNeg 0), .int (xl.getD (x3 + 1).toNatClampNeg 0), .ref 0]) rfl ?_
  refine PF.scr rfl (fun c1 c2 => ?_)
  have h := h c1 c2
  refine (PF.callI (j := 132) (args := [.ref 0, .int (xl.getD (x3 + 1).toNatClampNeg 0), .int (xl.getD (x3 + 2).toNatClampNeg 0), .int (xl.getD (x3 + 3).toNatClampNeg 0)]) (rest := []) (M := cM132) (ty := .int) rfl rfl rfl rfl rfl (by decide) rfl rfl (by decide) ?_).weak
  refine PF.imp h (fun v1 F1 h r1 hv => ?_)
  have h := h r1 hv
  refine PF.pr (k := 1) (pc' := 1098) (lv' := [(3, .int x3), (2, .ref 129), (1, .ref 0), (0, .ref KB)]) (st' := []) rfl ?_
  refine PF.pr (k := 1) (pc' := 1099) (lv' := [(3, .int x3), (2, .ref 129), (1, .ref 0), (0, .ref KB)]) (st' := [.ref 129]) rfl ?_
  refine PF.pr (k := 1) (pc' := 1100) (lv' := [(3, .int x3), (2, .ref 129), (1, .ref 0), (0, .ref KB)]) (st' := [.ref KB, .ref 129]) rfl ?_
  refine PF.pr (k := 1) (pc' := 1101) (lv' := [(3, .int x3), (2, .ref 129), (1, .ref 0), (0, .ref KB)]) (st' := [.int x3, .ref KB, .ref 129]) rfl ?_
  refine PF.pr (k := 1) (pc' := 1102) (lv' := [(3, .int x3), (2, .ref 129), (1, .ref 0), (0, .ref KB)]) (st' := [.int 1, .int x3, .ref KB, .ref 129]) rfl ?_
  refine PF.pr (k := 1) (pc' := 1103) (lv' := [(3, .int x3), (2, .ref 129), (1, .ref 0), (0, .ref KB)]) (st' := [.int (x3 + 1), .ref KB, .ref 129]) rfl ?_
  refine PF.scr rfl (fun c1 c2 => ?_)
  have h := h c1 c2
  refine PF.pr (k := 1) (pc' := 1105) (lv' := [(3, .int x3), (2, .ref 129), (1, .ref 0), (0, .ref KB)]) (st' := [.ref KB, .int (xl.getD (x3 + 1).toNatClampNeg 0), .ref 129]) rfl ?_
  refine PF.pr (k := 1) (pc' := 1106) (lv' := [(3, .int x3), (2, .ref 129), (1, .ref 0), (0, .ref KB)]) (st' := [.int x3, .ref KB, .int (xl.getD (x3 + 1).toNatClampNeg 0), .ref 129]) rfl ?_
  refine PF.pr (k := 1) (pc' := 1107) (lv' := [(3, .int x3), (2, .ref 129), (1, .ref 0), (0, .ref KB)]) (st' := [.int 2, .int x3, .ref KB, .int (xl.getD (x3 + 1).toNatClampNeg 0), .ref 129]) rfl ?_
  refine PF.pr (k := 1) (pc' := 1108) (lv' := [(3, .int x3), (2, .ref 129), (1, .ref 0), (0, .ref KB)]) (st' := [.int (x3 + 2), .ref KB, .int (xl.getD (x3 + 1).toNatClampNeg 0), .ref 129]) rfl ?_
  refine PF.scr rfl (fun c1 c2 => ?_)
  have h := h c1 c2
  refine PF.pr (k := 1) (pc' := 1110) (lv' := [(3, .int x3), (2, .ref 129), (1, .ref 0), (0, .ref KB)]) (st' := [.ref KB, .int (xl.getD (x3 + 2).toNatClampNeg 0), .int (xl.getD (x3 + 1).toNatClampNeg 0), .ref 129]) rfl ?_
  refine PF.pr (k := 1) (pc' := 1111) (lv' := [(3, .int x3), (2, .ref 129), (1, .ref 0), (0, .ref KB)]) (st' := [.int x3, .ref KB, .int (xl.getD (x3 + 2).toNatClampNeg 0), .int (xl.getD (x3 + 1).toNatClampNeg 0), .ref 129]) rfl ?_
  refine PF.pr (k := 1) (pc' := 1112) (lv' := [(3, .int x3), (2, .ref 129), (1, .ref 0), (0, .ref KB)]) (st' := [.int 3, .int x3, .ref KB, .int (xl.getD (x3 + 2).toNatClampNeg 0), .int (xl.getD (x3 + 1).toNatClampNeg 0), .ref 129]) rfl ?_
  refine PF.pr (k := 1) (pc' := 1113) (lv' := [(3, .int x3), (2, .ref 129), (1, .ref 0), (0, .ref KB)]) (st' := [.int (x3 + 3), .ref KB, .int (xl.getD (x3 + 2).toNatClampNeg 0), .int (xl.getD (x3 + 1).toNatClampNeg 0), .ref 129]) rfl ?_
  refine PF.scr rfl (fun c1 c2 => ?_)
  have h := h c1 c2
  refine (PF.callI (j := 233) (args := [.ref 129, .int (xl.getD (x3 + 1).toNatClampNeg 0), .int (xl.getD (x3 + 2).toNatClampNeg 0), .int (xl.getD (x3 + 3).toNatClampNeg 0)]) (rest := []) (M := cM233) (ty := .int) rfl rfl rfl rfl rfl (by decide) rfl rfl (by decide) ?_).weak
  refine PF.imp h (fun v2 F2 h r2 hv => ?_)
  have h := h r2 hv
  refine PF.pr (k := 1) (pc' := 1118) (lv' := [(3, .int x3), (2, .ref 129), (1, .ref 0), (0, .ref KB)]) (st' := []) rfl ?_
  refine PF.pr (k := 1) (pc' := 1253) (lv' := [(3, .int x3), (2, .ref 129), (1, .ref 0), (0, .ref KB)]) (st' := []) rfl ?_
  exact h

theorem l_1121 {xl : List Int32} {n : Nat} {F : MH} {Q : Option Value → MH → Prop} {x3 : Int32} (h : (0 ≤ (x3 + 1).toInt → (x3 + 1).toInt < xl.length → (0 ≤ (x3 + 2).toInt → (x3 + 2).toInt < xl.length → (0 ≤ (x3 + 3).toInt → (x3 + 3).toInt < xl.length → PF (tRo xl) n 136 0 [(0, .ref 0), (1, .int (xl.getD (x3 + 1).toNatClampNeg 0)), (2, .int (xl.getD (x3 + 2).toNatClampNeg 0)), (3, .int (xl.getD (x3 + 3).toNatClampNeg 0))] [] F (fun v1 F1 => ∀ r1, v1 = some (.int r1) → (0 ≤ (x3 + 1).toInt → (x3 + 1).toInt < xl.length → (0 ≤ (x3 + 2).toInt → (x3 + 2).toInt < xl.length → (0 ≤ (x3 + 3).toInt → (x3 + 3).toInt < xl.length → PF (tRo xl) n 235 0 [(0, .ref 129), (1, .int (xl.getD (x3 + 1).toNatClampNeg 0)), (2, .int (xl.getD (x3 + 2).toNatClampNeg 0)), (3, .int (xl.getD (x3 + 3).toNatClampNeg 0))] [] F1 (fun v2 F2 => ∀ r2, v2 = some (.int r2) → PF (tRo xl) n 0 1253 [(3, .int x3), (2, .ref 129), (1, .ref 0), (0, .ref KB)] [] F2 Q))))))))) : PF (tRo xl) (n + 1) 0 1121 [(3, .int x3), (2, .ref 129), (1, .ref 0), (0, .ref KB)] [] F Q := by
  refine PF.pr1 (k := 0) (pc' := 1122) (lv' := [(3, .int x3), (2, .ref 129), (1, .ref 0), (0, .ref KB)]) (st' := [.ref 0]) rfl ?_
  refine PF.pr (k := 1) (pc' := 1123) (lv' := [(3, .int x3), (2, .ref 129), (1, .ref 0), (0, .ref KB)]) (st' := [.ref KB, .ref 0]) rfl ?_
  refine PF.pr (k := 1) (pc' := 1124) (lv' := [(3, .int x3), (2, .ref 129), (1, .ref 0), (0, .ref KB)]) (st' := [.int x3, .ref KB, .ref 0]) rfl ?_
  refine PF.pr (k := 1) (pc' := 1125) (lv' := [(3, .int x3), (2, .ref 129), (1, .ref 0), (0, .ref KB)]) (st' := [.int 1, .int x3, .ref KB, .ref 0]) rfl ?_
  refine PF.pr (k := 1) (pc' := 1126) (lv' := [(3, .int x3), (2, .ref 129), (1, .ref 0), (0, .ref KB)]) (st' := [.int (x3 + 1), .ref KB, .ref 0]) rfl ?_
  refine PF.scr rfl (fun c1 c2 => ?_)
  have h := h c1 c2
  refine PF.pr (k := 1) (pc' := 1128) (lv' := [(3, .int x3), (2, .ref 129), (1, .ref 0), (0, .ref KB)]) (st' := [.ref KB, .int (xl.getD (x3 + 1).toNatClampNeg 0), .ref 0]) rfl ?_
  refine PF.pr (k := 1) (pc' := 1129) (lv' := [(3, .int x3), (2, .ref 129), (1, .ref 0), (0, .ref KB)]) (st' := [.int x3, .ref KB, .int (xl.getD (x3 + 1).toNatClampNeg 0), .ref 0]) rfl ?_
  refine PF.pr (k := 1) (pc' := 1130) (lv' := [(3, .int x3), (2, .ref 129), (1, .ref 0), (0, .ref KB)]) (st' := [.int 2, .int x3, .ref KB, .int (xl.getD (x3 + 1).toNatClampNeg 0), .ref 0]) rfl ?_
  refine PF.pr (k := 1) (pc' := 1131) (lv' := [(3, .int x3), (2, .ref 129), (1, .ref 0), (0, .ref KB)]) (st' := [.int (x3 + 2), .ref KB, .int (xl.getD (x3 + 1).toNatClampNeg 0), .ref 0]) rfl ?_
  refine PF.scr rfl (fun c1 c2 => ?_)
  have h := h c1 c2
  refine PF.pr (k := 1) (pc' := 1133) (lv' := [(3, .int x3), (2, .ref 129), (1, .ref 0), (0, .ref KB)]) (st' := [.ref KB, .int (xl.getD (x3 + 2).toNatClampNeg 0), .int (xl.getD (x3 + 1).toNatClampNeg 0), .ref 0]) rfl ?_
  refine PF.pr (k := 1) (pc' := 1134) (lv' := [(3, .int x3), (2, .ref 129), (1, .ref 0), (0, .ref KB)]) (st' := [.int x3, .ref KB, .int (xl.getD (x3 + 2).toNatClampNeg 0), .int (xl.getD (x3 + 1).toNatClampNeg 0), .ref 0]) rfl ?_
  refine PF.pr (k := 1) (pc' := 1135) (lv' := [(3, .int x3), (2, .ref 129), (1, .ref 0), (0, .ref KB)]) (st' := [.int 3, .int x3, .ref KB, .int (xl.getD (x3 + 2).toNatClampNeg 0), .int (xl.getD (x3 + 1).toNatClampNeg 0), .ref 0]) rfl ?_
  refine PF.pr (k := 1) (pc' := 1136) (lv' := [(3, .int x3), (2, .ref 129), (1, .ref 0), (0, .ref KB)]) (st' := [.int (x3 + 3), .ref KB, .int (xl.getD (x3 + 2).toNatClampNeg 0), .int (xl.getD (x3 + 1).toNatClampNeg 0), .ref 0]) rfl ?_
  refine PF.scr rfl (fun c1 c2 => ?_)
  have h := h c1 c2
  refine (PF.callI (j := 136) (args := [.ref 0, .int (xl.getD (x3 + 1).toNatClampNeg 0), .int (xl.getD (x3 + 2).toNatClampNeg 0), .int (xl.getD (x3 + 3).toNatClampNeg 0)]) (rest := []) (M := cM136) (ty := .int) rfl rfl rfl rfl rfl (by decide) rfl rfl (by decide) ?_).weak
  refine PF.imp h (fun v1 F1 h r1 hv => ?_)
  have h := h r1 hv
  refine PF.pr (k := 1) (pc' := 1141) (lv' := [(3, .int x3), (2, .ref 129), (1, .ref 0), (0, .ref KB)]) (st' := []) rfl ?_
  refine PF.pr (k := 1) (pc' := 1142) (lv' := [(3, .int x3), (2, .ref 129), (1, .ref 0), (0, .ref KB)]) (st' := [.ref 129]) rfl ?_
  refine PF.pr (k := 1) (pc' := 1143) (lv' := [(3, .int x3), (2, .ref 129), (1, .ref 0), (0, .ref KB)]) (st' := [.ref KB, .ref 129]) rfl ?_
  refine PF.pr (k := 1) (pc' := 1144) (lv' := [(3, .int x3), (2, .ref 129), (1, .ref 0), (0, .ref KB)]) (st' := [.int x3, .ref KB, .ref 129]) rfl ?_
  refine PF.pr (k := 1) (pc' := 1145) (lv' := [(3, .int x3), (2, .ref 129), (1, .ref 0), (0, .ref KB)]) (st' := [.int 1, .int x3, .ref KB, .ref 129]) rfl ?_
  refine PF.pr (k := 1) (pc' := 1146) (lv' := [(3, .int x3), (2, .ref 129), (1, .ref 0), (0, .ref KB)]) (st' := [.int (x3 + 1), .ref KB, .ref 129]) rfl ?_
  refine PF.scr rfl (fun c1 c2 => ?_)
  have h := h c1 c2
  refine PF.pr (k := 1) (pc' := 1148) (lv' := [(3, .int x3), (2, .ref 129), (1, .ref 0), (0, .ref KB)]) (st' := [.ref KB, .int (xl.getD (x3 + 1).toNatClampNeg 0), .ref 129]) rfl ?_
  refine PF.pr (k := 1) (pc' := 1149) (lv' := [(3, .int x3), (2, .ref 129), (1, .ref 0), (0, .ref KB)]) (st' := [.int x3, .ref KB, .int (xl.getD (x3 + 1).toNatClampNeg 0), .ref 129]) rfl ?_
  refine PF.pr (k := 1) (pc' := 1150) (lv' := [(3, .int x3), (2, .ref 129), (1, .ref 0), (0, .ref KB)]) (st' := [.int 2, .int x3, .ref KB, .int (xl.getD (x3 + 1).toNatClampNeg 0), .ref 129]) rfl ?_
  refine PF.pr (k := 1) (pc' := 1151) (lv' := [(3, .int x3), (2, .ref 129), (1, .ref 0), (0, .ref KB)]) (st' := [.int (x3 + 2), .ref KB, .int (xl.getD (x3 + 1).toNatClampNeg 0), .ref 129]) rfl ?_
  refine PF.scr rfl (fun c1 c2 => ?_)
  have h := h c1 c2
  refine PF.pr (k := 1) (pc' := 1153) (lv' := [(3, .int x3), (2, .ref 129), (1, .ref 0), (0, .ref KB)]) (st' := [.ref KB, .int (xl.getD (x3 + 2).toNatClampNeg 0), .int (xl.getD (x3 + 1).toNatClampNeg 0), .ref 129]) rfl ?_
  refine PF.pr (k := 1) (pc' := 1154) (lv' := [(3, .int x3), (2, .ref 129), (1, .ref 0), (0, .ref KB)]) (st' := [.int x3, .ref KB, .int (xl.getD (x3 + 2).toNatClampNeg 0), .int (xl.getD (x3 + 1).toNatClampNeg 0), .ref 129]) rfl ?_
  refine PF.pr (k := 1) (pc' := 1155) (lv' := [(3, .int x3), (2, .ref 129), (1, .ref 0), (0, .ref KB)]) (st' := [.int 3, .int x3, .ref KB, .int (xl.getD (x3 + 2).toNatClampNeg 0), .int (xl.getD (x3 + 1).toNatClampNeg 0), .ref 129]) rfl ?_
  refine PF.pr (k := 1) (pc' := 1156) (lv' := [(3, .int x3), (2, .ref 129), (1, .ref 0), (0, .ref KB)]) (st' := [.int (x3 + 3), .ref KB, .int (xl.getD (x3 + 2).toNatClampNeg 0), .int (xl.getD (x3 + 1).toNatClampNeg 0), .ref 129]) rfl ?_
  refine PF.scr rfl (fun c1 c2 => ?_)
  have h := h c1 c2
  refine (PF.callI (j := 235) (args := [.ref 129, .int (xl.getD (x3 + 1).toNatClampNeg 0), .int (xl.getD (x3 + 2).toNatClampNeg 0), .int (xl.getD (x3 + 3).toNatClampNeg 0)]) (rest := []) (M := cM235) (ty := .int) rfl rfl rfl rfl rfl (by decide) rfl rfl (by decide) ?_).weak
  refine PF.imp h (fun v2 F2 h r2 hv => ?_)
  have h := h r2 hv
  refine PF.pr (k := 1) (pc' := 1161) (lv' := [(3, .int x3), (2, .ref 129), (1, .ref 0), (0, .ref KB)]) (st' := []) rfl ?_
  refine PF.pr (k := 1) (pc' := 1253) (lv' := [(3, .int x3), (2, .ref 129), (1, .ref 0), (0, .ref KB)]) (st' := []) rfl ?_
  exact h

theorem l_1164 {xl : List Int32} {n : Nat} {F : MH} {Q : Option Value → MH → Prop} {x3 : Int32} (h : (0 ≤ (x3 + 1).toInt → (x3 + 1).toInt < xl.length → (0 ≤ (x3 + 2).toInt → (x3 + 2).toInt < xl.length → (0 ≤ (x3 + 3).toInt → (x3 + 3).toInt < xl.length → (0 ≤ (x3 + 4).toInt → (x3 + 4).toInt < xl.length → PF (tRo xl) n 139 0 [(0, .ref 0), (1, .int (xl.getD (x3 + 1).toNatClampNeg 0)), (2, .int (xl.getD (x3 + 2).toNatClampNeg 0)), (3, .int (xl.getD (x3 + 3).toNatClampNeg 0)), (4, .int (xl.getD (x3 + 4).toNatClampNeg 0))] [] F (fun v1 F1 => ∀ r1, v1 = some (.int r1) → (0 ≤ (x3 + 1).toInt → (x3 + 1).toInt < xl.length → (0 ≤ (x3 + 2).toInt → (x3 + 2).toInt < xl.length → (0 ≤ (x3 + 3).toInt → (x3 + 3).toInt < xl.length → (0 ≤ (x3 + 4).toInt → (x3 + 4).toInt < xl.length → PF (tRo xl) n 236 0 [(0, .ref 129), (1, .int (xl.getD (x3 + 1).toNatClampNeg 0)), (2, .int (xl.getD (x3 + 2).toNatClampNeg 0)), (3, .int (xl.getD (x3 + 3).toNatClampNeg 0)), (4, .int (xl.getD (x3 + 4).toNatClampNeg 0))] [] F1 (fun v2 F2 => ∀ r2, v2 = some (.int r2) → PF (tRo xl) n 0 1253 [(3, .int x3), (2, .ref 129), (1, .ref 0), (0, .ref KB)] [] F2 Q))))))))))) : PF (tRo xl) (n + 1) 0 1164 [(3, .int x3), (2, .ref 129), (1, .ref 0), (0, .ref KB)] [] F Q := by
  refine PF.pr1 (k := 0) (pc' := 1165) (lv' := [(3, .int x3), (2, .ref 129), (1, .ref 0), (0, .ref KB)]) (st' := [.ref 0]) rfl ?_
  refine PF.pr (k := 1) (pc' := 1166) (lv' := [(3, .int x3), (2, .ref 129), (1, .ref 0), (0, .ref KB)]) (st' := [.ref KB, .ref 0]) rfl ?_
  refine PF.pr (k := 1) (pc' := 1167) (lv' := [(3, .int x3), (2, .ref 129), (1, .ref 0), (0, .ref KB)]) (st' := [.int x3, .ref KB, .ref 0]) rfl ?_
  refine PF.pr (k := 1) (pc' := 1168) (lv' := [(3, .int x3), (2, .ref 129), (1, .ref 0), (0, .ref KB)]) (st' := [.int 1, .int x3, .ref KB, .ref 0]) rfl ?_
  refine PF.pr (k := 1) (pc' := 1169) (lv' := [(3, .int x3), (2, .ref 129), (1, .ref 0), (0, .ref KB)]) (st' := [.int (x3 + 1), .ref KB, .ref 0]) rfl ?_
  refine PF.scr rfl (fun c1 c2 => ?_)
  have h := h c1 c2
  refine PF.pr (k := 1) (pc' := 1171) (lv' := [(3, .int x3), (2, .ref 129), (1, .ref 0), (0, .ref KB)]) (st' := [.ref KB, .int (xl.getD (x3 + 1).toNatClampNeg 0), .ref 0]) rfl ?_
  refine PF.pr (k := 1) (pc' := 1172) (lv' := [(3, .int x3), (2, .ref 129), (1, .ref 0), (0, .ref KB)]) (st' := [.int x3, .ref KB, .int (xl.getD (x3 + 1).toNatClampNeg 0), .ref 0]) rfl ?_
  refine PF.pr (k := 1) (pc' := 1173) (lv' := [(3, .int x3), (2, .ref 129), (1, .ref 0), (0, .ref KB)]) (st' := [.int 2, .int x3, .ref KB, .int (xl.getD (x3 + 1).toNatClampNeg 0), .ref 0]) rfl ?_
  refine PF.pr (k := 1) (pc' := 1174) (lv' := [(3, .int x3), (2, .ref 129), (1, .ref 0), (0, .ref KB)]) (st' := [.int (x3 + 2), .ref KB, .int (xl.getD (x3 + 1).toNatClampNeg 0), .ref 0]) rfl ?_
  refine PF.scr rfl (fun c1 c2 => ?_)
  have h := h c1 c2
  refine PF.pr (k := 1) (pc' := 1176) (lv' := [(3, .int x3), (2, .ref 129), (1, .ref 0), (0, .ref KB)]) (st' := [.ref KB, .int (xl.getD (x3 + 2).toNatClampNeg 0), .int (xl.getD (x3 + 1).toNatClampNeg 0), .ref 0]) rfl ?_
  refine PF.pr (k := 1) (pc' := 1177) (lv' := [(3, .int x3), (2, .ref 129), (1, .ref 0), (0, .ref KB)]) (st' := [.int x3, .ref KB, .int (xl.getD (x3 + 2).toNatClampNeg 0), .int (xl.getD (x3 + 1).toNatClampNeg 0), .ref 0]) rfl ?_
  refine PF.pr (k := 1) (pc' := 1178) (lv' := [(3, .int x3), (2, .ref 129), (1, .ref 0), (0, .ref KB)]) (st' := [.int 3, .int x3, .ref KB, .int (xl.getD (x3 + 2).toNatClampNeg 0), .int (xl.getD (x3 + 1).toNatClampNeg 0), .ref 0]) rfl ?_
  refine PF.pr (k := 1) (pc' := 1179) (lv' := [(3, .int x3), (2, .ref 129), (1, .ref 0), (0, .ref KB)]) (st' := [.int (x3 + 3), .ref KB, .int (xl.getD (x3 + 2).toNatClampNeg 0), .int (xl.getD (x3 + 1).toNatClampNeg 0), .ref 0]) rfl ?_
  refine PF.scr rfl (fun c1 c2 => ?_)
  have h := h c1 c2
  refine PF.pr (k := 1) (pc' := 1181) (lv' := [(3, .int x3), (2, .ref 129), (1, .ref 0), (0, .ref KB)]) (st' := [.ref KB, .int (xl.getD (x3 + 3).toNatClampNeg 0), .int (xl.getD (x3 + 2).toNatClampNeg 0), .int (xl.getD (x3 + 1).toNatClampNeg 0), .ref 0]) rfl ?_
  refine PF.pr (k := 1) (pc' := 1182) (lv' := [(3, .int x3), (2, .ref 129), (1, .ref 0), (0, .ref KB)]) (st' := [.int x3, .ref KB, .int (xl.getD (x3 + 3).toNatClampNeg 0), .int (xl.getD (x3 + 2).toNatClampNeg 0), .int (xl.getD (x3 + 1).toNatClampNeg 0), .ref 0]) rfl ?_
  refine PF.pr (k := 1) (pc' := 1183) (lv' := [(3, .int x3), (2, .ref 129), (1, .ref 0), (0, .ref KB)]) (st' := [.int 4, .int x3, .ref KB, .int (xl.getD (x3 + 3).toNatClampNeg 0), .int (xl.getD (x3 + 2).toNatClampNeg 0), .int (xl.getD (x3 + 1).toNatClampNeg 0), .ref 0]) rfl ?_
  refine PF.pr (k := 1) (pc' := 1184) (lv' := [(3, .int x3), (2, .ref 129), (1, .ref 0), (0, .ref KB)]) (st' := [.int (x3 + 4), .ref KB, .int (xl.getD (x3 + 3).toNatClampNeg 0), .int (xl.getD (x3 + 2).toNatClampNeg 0), .int (xl.getD (x3 + 1).toNatClampNeg 0), .ref 0]) rfl ?_
  refine PF.scr rfl (fun c1 c2 => ?_)
  have h := h c1 c2
  refine (PF.callI (j := 139) (args := [.ref 0, .int (xl.getD (x3 + 1).toNatClampNeg 0), .int (xl.getD (x3 + 2).toNatClampNeg 0), .int (xl.getD (x3 + 3).toNatClampNeg 0), .int (xl.getD (x3 + 4).toNatClampNeg 0)]) (rest := []) (M := cM139) (ty := .int) rfl rfl rfl rfl rfl (by decide) rfl rfl (by decide) ?_).weak
  refine PF.imp h (fun v1 F1 h r1 hv => ?_)
  have h := h r1 hv
  refine PF.pr (k := 1) (pc' := 1189) (lv' := [(3, .int x3), (2, .ref 129), (1, .ref 0), (0, .ref KB)]) (st' := []) rfl ?_
  refine PF.pr (k := 1) (pc' := 1190) (lv' := [(3, .int x3), (2, .ref 129), (1, .ref 0), (0, .ref KB)]) (st' := [.ref 129]) rfl ?_
  refine PF.pr (k := 1) (pc' := 1191) (lv' := [(3, .int x3), (2, .ref 129), (1, .ref 0), (0, .ref KB)]) (st' := [.ref KB, .ref 129]) rfl ?_
  refine PF.pr (k := 1) (pc' := 1192) (lv' := [(3, .int x3), (2, .ref 129), (1, .ref 0), (0, .ref KB)]) (st' := [.int x3, .ref KB, .ref 129]) rfl ?_
  refine PF.pr (k := 1) (pc' := 1193) (lv' := [(3, .int x3), (2, .ref 129), (1, .ref 0), (0, .ref KB)]) (st' := [.int 1, .int x3, .ref KB, .ref 129]) rfl ?_
  refine PF.pr (k := 1) (pc' := 1194) (lv' := [(3, .int x3), (2, .ref 129), (1, .ref 0), (0, .ref KB)]) (st' := [.int (x3 + 1), .ref KB, .ref 129]) rfl ?_
  refine PF.scr rfl (fun c1 c2 => ?_)
  have h := h c1 c2
  refine PF.pr (k := 1) (pc' := 1196) (lv' := [(3, .int x3), (2, .ref 129), (1, .ref 0), (0, .ref KB)]) (st' := [.ref KB, .int (xl.getD (x3 + 1).toNatClampNeg 0), .ref 129]) rfl ?_
  refine PF.pr (k := 1) (pc' := 1197) (lv' := [(3, .int x3), (2, .ref 129), (1, .ref 0), (0, .ref KB)]) (st' := [.int x3, .ref KB, .int (xl.getD (x3 + 1).toNatClampNeg 0), .ref 129]) rfl ?_
  refine PF.pr (k := 1) (pc' := 1198) (lv' := [(3, .int x3), (2, .ref 129), (1, .ref 0), (0, .ref KB)]) (st' := [.int 2, .int x3, .ref KB, .int (xl.getD (x3 + 1).toNatClampNeg 0), .ref 129]) rfl ?_
  refine PF.pr (k := 1) (pc' := 1199) (lv' := [(3, .int x3), (2, .ref 129), (1, .ref 0), (0, .ref KB)]) (st' := [.int (x3 + 2), .ref KB, .int (xl.getD (x3 + 1).toNatClampNeg 0), .ref 129]) rfl ?_
  refine PF.scr rfl (fun c1 c2 => ?_)
  have h := h c1 c2
  refine PF.pr (k := 1) (pc' := 1201) (lv' := [(3, .int x3), (2, .ref 129), (1, .ref 0), (0, .ref KB)]) (st' := [.ref KB, .int (xl.getD (x3 + 2).toNatClampNeg 0), .int (xl.getD (x3 + 1).toNatClampNeg 0), .ref 129]) rfl ?_
  refine PF.pr (k := 1) (pc' := 1202) (lv' := [(3, .int x3), (2, .ref 129), (1, .ref 0), (0, .ref KB)]) (st' := [.int x3, .ref KB, .int (xl.getD (x3 + 2).toNatClampNeg 0), .int (xl.getD (x3 + 1).toNatClampNeg 0), .ref 129]) rfl ?_
  refine PF.pr (k := 1) (pc' := 1203) (lv' := [(3, .int x3), (2, .ref 129), (1, .ref 0), (0, .ref KB)]) (st' := [.int 3, .int x3, .ref KB, .int (xl.getD (x3 + 2).toNatClampNeg 0), .int (xl.getD (x3 + 1).toNatClampNeg 0), .ref 129]) rfl ?_
  refine PF.pr (k := 1) (pc' := 1204) (lv' := [(3, .int x3), (2, .ref 129), (1, .ref 0), (0, .ref KB)]) (st' := [.int (x3 + 3), .ref KB, .int (xl.getD (x3 + 2).toNatClampNeg 0), .int (xl.getD (x3 + 1).toNatClampNeg 0), .ref 129]) rfl ?_
  refine PF.scr rfl (fun c1 c2 => ?_)
  have h := h c1 c2
  refine PF.pr (k := 1) (pc' := 1206) (lv' := [(3, .int x3), (2, .ref 129), (1, .ref 0), (0, .ref KB)]) (st' := [.ref KB, .int (xl.getD (x3 + 3).toNatClampNeg 0), .int (xl.getD (x3 + 2).toNatClampNeg 0), .int (xl.getD (x3 + 1).toNatClampNeg 0), .ref 129]) rfl ?_
  refine PF.pr (k := 1) (pc' := 1207) (lv' := [(3, .int x3), (2, .ref 129), (1, .ref 0), (0, .ref KB)]) (st' := [.int x3, .ref KB, .int (xl.getD (x3 + 3).toNatClampNeg 0), .int (xl.getD (x3 + 2).toNatClampNeg 0), .int (xl.getD (x3 + 1).toNatClampNeg 0), .ref 129]) rfl ?_
  refine PF.pr (k := 1) (pc' := 1208) (lv' := [(3, .int x3), (2, .ref 129), (1, .ref 0), (0, .ref KB)]) (st' := [.int 4, .int x3, .ref KB, .int (xl.getD (x3 + 3).toNatClampNeg 0), .int (xl.getD (x3 + 2).toNatClampNeg 0), .int (xl.getD (x3 + 1).toNatClampNeg 0), .ref 129]) rfl ?_
  refine PF.pr (k := 1) (pc' := 1209) (lv' := [(3, .int x3), (2, .ref 129), (1, .ref 0), (0, .ref KB)]) (st' := [.int (x3 + 4), .ref KB, .int (xl.getD (x3 + 3).toNatClampNeg 0), .int (xl.getD (x3 + 2).toNatClampNeg 0), .int (xl.getD (x3 + 1).toNatClampNeg 0), .ref 129]) rfl ?_
  refine PF.scr rfl (fun c1 c2 => ?_)
  have h := h c1 c2
  refine (PF.callI (j := 236) (args := [.ref 129, .int (xl.getD (x3 + 1).toNatClampNeg 0), .int (xl.getD (x3 + 2).toNatClampNeg 0), .int (xl.getD (x3 + 3).toNatClampNeg 0), .int (xl.getD (x3 + 4).toNatClampNeg 0)]) (rest := []) (M := cM236) (ty := .int) rfl rfl rfl rfl rfl (by decide) rfl rfl (by decide) ?_).weak
  refine PF.imp h (fun v2 F2 h r2 hv => ?_)
  have h := h r2 hv
  refine PF.pr (k := 1) (pc' := 1214) (lv' := [(3, .int x3), (2, .ref 129), (1, .ref 0), (0, .ref KB)]) (st' := []) rfl ?_
  refine PF.pr (k := 1) (pc' := 1253) (lv' := [(3, .int x3), (2, .ref 129), (1, .ref 0), (0, .ref KB)]) (st' := []) rfl ?_
  exact h

theorem l_1217 {xl : List Int32} {n : Nat} {F : MH} {Q : Option Value → MH → Prop} {x3 : Int32} (h : PF (tRo xl) n 142 0 [(0, .ref 0)] [] F (fun v1 F1 => ∀ r1, v1 = some (.int r1) → PF (tRo xl) n 237 0 [(0, .ref 129)] [] F1 (fun v2 F2 => ∀ r2, v2 = some (.int r2) → PF (tRo xl) n 0 1253 [(3, .int x3), (2, .ref 129), (1, .ref 0), (0, .ref KB)] [] F2 Q))) : PF (tRo xl) (n + 1) 0 1217 [(3, .int x3), (2, .ref 129), (1, .ref 0), (0, .ref KB)] [] F Q := by
  refine PF.pr1 (k := 0) (pc' := 1218) (lv' := [(3, .int x3), (2, .ref 129), (1, .ref 0), (0, .ref KB)]) (st' := [.ref 0]) rfl ?_
  refine (PF.callI (j := 142) (args := [.ref 0]) (rest := []) (M := cM142) (ty := .int) rfl rfl rfl rfl rfl (by decide) rfl rfl (by decide) ?_).weak
  refine PF.imp h (fun v1 F1 h r1 hv => ?_)
  have h := h r1 hv
  refine PF.pr (k := 1) (pc' := 1222) (lv' := [(3, .int x3), (2, .ref 129), (1, .ref 0), (0, .ref KB)]) (st' := []) rfl ?_
  refine PF.pr (k := 1) (pc' := 1223) (lv' := [(3, .int x3), (2, .ref 129), (1, .ref 0), (0, .ref KB)]) (st' := [.ref 129]) rfl ?_
  refine (PF.callI (j := 237) (args := [.ref 129]) (rest := []) (M := cM237) (ty := .int) rfl rfl rfl rfl rfl (by decide) rfl rfl (by decide) ?_).weak
  refine PF.imp h (fun v2 F2 h r2 hv => ?_)
  have h := h r2 hv
  refine PF.pr (k := 1) (pc' := 1227) (lv' := [(3, .int x3), (2, .ref 129), (1, .ref 0), (0, .ref KB)]) (st' := []) rfl ?_
  refine PF.pr (k := 1) (pc' := 1253) (lv' := [(3, .int x3), (2, .ref 129), (1, .ref 0), (0, .ref KB)]) (st' := []) rfl ?_
  exact h

theorem l_1230 {xl : List Int32} {n : Nat} {F : MH} {Q : Option Value → MH → Prop} {x3 : Int32} (h : (0 ≤ (x3 + 1).toInt → (x3 + 1).toInt < xl.length → PF (tRo xl) n 143 0 [(0, .ref 0), (1, .int (xl.getD (x3 + 1).toNatClampNeg 0))] [] F (fun v1 F1 => ∀ r1, v1 = some (.int r1) → (0 ≤ (x3 + 1).toInt → (x3 + 1).toInt < xl.length → PF (tRo xl) n 238 0 [(0, .ref 129), (1, .int (xl.getD (x3 + 1).toNatClampNeg 0))] [] F1 (fun v2 F2 => ∀ r2, v2 = some (.int r2) → ((r1 = r2 → PF (tRo xl) n 0 1253 [(3, .int x3), (2, .ref 129), (1, .ref 0), (0, .ref KB)] [] F2 Q) ∧ (¬ r1 = r2 → Q (some (.int 0)) F2))))))) : PF (tRo xl) (n + 1) 0 1230 [(3, .int x3), (2, .ref 129), (1, .ref 0), (0, .ref KB)] [] F Q := by
  refine PF.pr1 (k := 0) (pc' := 1231) (lv' := [(3, .int x3), (2, .ref 129), (1, .ref 0), (0, .ref KB)]) (st' := [.ref 0]) rfl ?_
  refine PF.pr (k := 1) (pc' := 1232) (lv' := [(3, .int x3), (2, .ref 129), (1, .ref 0), (0, .ref KB)]) (st' := [.ref KB, .ref 0]) rfl ?_
  refine PF.pr (k := 1) (pc' := 1233) (lv' := [(3, .int x3), (2, .ref 129), (1, .ref 0), (0, .ref KB)]) (st' := [.int x3, .ref KB, .ref 0]) rfl ?_
  refine PF.pr (k := 1) (pc' := 1234) (lv' := [(3, .int x3), (2, .ref 129), (1, .ref 0), (0, .ref KB)]) (st' := [.int 1, .int x3, .ref KB, .ref 0]) rfl ?_
  refine PF.pr (k := 1) (pc' := 1235) (lv' := [(3, .int x3), (2, .ref 129), (1, .ref 0), (0, .ref KB)]) (st' := [.int (x3 + 1), .ref KB, .ref 0]) rfl ?_
  refine PF.scr rfl (fun c1 c2 => ?_)
  have h := h c1 c2
  refine (PF.callI (j := 143) (args := [.ref 0, .int (xl.getD (x3 + 1).toNatClampNeg 0)]) (rest := []) (M := cM143) (ty := .int) rfl rfl rfl rfl rfl (by decide) rfl rfl (by decide) ?_).weak
  refine PF.imp h (fun v1 F1 h r1 hv => ?_)
  have h := h r1 hv
  refine PF.pr (k := 1) (pc' := 1240) (lv' := [(3, .int x3), (2, .ref 129), (1, .ref 0), (0, .ref KB)]) (st' := [.ref 129, .int r1]) rfl ?_
  refine PF.pr (k := 1) (pc' := 1241) (lv' := [(3, .int x3), (2, .ref 129), (1, .ref 0), (0, .ref KB)]) (st' := [.ref KB, .ref 129, .int r1]) rfl ?_
  refine PF.pr (k := 1) (pc' := 1242) (lv' := [(3, .int x3), (2, .ref 129), (1, .ref 0), (0, .ref KB)]) (st' := [.int x3, .ref KB, .ref 129, .int r1]) rfl ?_
  refine PF.pr (k := 1) (pc' := 1243) (lv' := [(3, .int x3), (2, .ref 129), (1, .ref 0), (0, .ref KB)]) (st' := [.int 1, .int x3, .ref KB, .ref 129, .int r1]) rfl ?_
  refine PF.pr (k := 1) (pc' := 1244) (lv' := [(3, .int x3), (2, .ref 129), (1, .ref 0), (0, .ref KB)]) (st' := [.int (x3 + 1), .ref KB, .ref 129, .int r1]) rfl ?_
  refine PF.scr rfl (fun c1 c2 => ?_)
  have h := h c1 c2
  refine (PF.callI (j := 238) (args := [.ref 129, .int (xl.getD (x3 + 1).toNatClampNeg 0)]) (rest := [.int r1]) (M := cM238) (ty := .int) rfl rfl rfl rfl rfl (by decide) rfl rfl (by decide) ?_).weak
  refine PF.imp h (fun v2 F2 h r2 hv => ?_)
  have h := h r2 hv
  refine PF.if2 (t := 1253) rfl rfl (fun c => ?_) (fun c => ?_)
  · have h := h.1 (cmp_eq.1.mp c)
    exact h
  · have h := h.2 (cmp_eq.2.mp c)
    refine PF.pr (k := 1) (pc' := 1252) (lv' := [(3, .int x3), (2, .ref 129), (1, .ref 0), (0, .ref KB)]) (st' := [.int 0]) rfl ?_
    exact PF.retI rfl h

theorem l_1253 {xl : List Int32} {n : Nat} {F : MH} {Q : Option Value → MH → Prop} {x3 : Int32} (h : PF (tRo xl) n 0 18 [(3, .int (x3 + 5)), (2, .ref 129), (1, .ref 0), (0, .ref KB)] [] F Q) : PF (tRo xl) (n + 1) 0 1253 [(3, .int x3), (2, .ref 129), (1, .ref 0), (0, .ref KB)] [] F Q := by
  refine PF.pr1 (k := 0) (pc' := 1256) (lv' := [(3, .int (x3 + 5)), (2, .ref 129), (1, .ref 0), (0, .ref KB)]) (st' := []) rfl ?_
  refine PF.pr (k := 1) (pc' := 18) (lv' := [(3, .int (x3 + 5)), (2, .ref 129), (1, .ref 0), (0, .ref KB)]) (st' := []) rfl ?_
  exact h
end
section
/-! THE LAW'S RUN, V: calls of both, over the cells -/
noncomputable def sCl (a : Nat) : Bool := decide (a ≤ 128)
noncomputable def sMo (a : Nat) : Bool := decide (129 ≤ a ∧ a ≤ 140)
noncomputable def pMo (k : Nat) : Bool := decide (145 ≤ k ∧ k ≤ 238)
set_option maxRecDepth 100000 in
theorem cloCl : sClo sCl [] = true := by decide +kernel
set_option maxRecDepth 100000 in
theorem cloMo : sClo sMo [] = true := by decide +kernel
set_option maxRecDepth 100000 in
theorem chkMo : sChk pMo [] [] = true := by decide +kernel
noncomputable def J6 (ro : Nat → Option MC) (F : MH) : Prop := WT tGam tSets tRoles ro F ∧ F.map zc = sh0 ∧ RRel (iv F) (iv F)
/-- bounds by a role -/
noncomputable def chB (es : List (Nat × Int × Int)) (j : Nat) (lo hi : Int) : Bool := match es[j]? with
  | some e => (e.1 == 0 || decide (10 ≤ e.1)) && decide (lo ≤ e.2.1 ∧ e.2.2 ≤ hi)
  | none => false
noncomputable def esSt : List (Nat × Int × Int) := match tGam 130 with
  | some r => (match tRoles[r]? with | some rd => if rd.1 = 1 then rd.2.2 else [] | none => [])
  | none => []
noncomputable def wwB : Bool := (List.range 3).all (fun o => (List.range 4).all (fun d => chB esSt (80 * o + (16 + 9 * d)) 0 6 && (chB esSt (80 * o + (17 + 9 * d)) 0 1 && ((List.range 6).all (fun i => chB esSt (80 * o + (19 + 9 * d + i)) 0 5) && chB esSt (80 * o + (4 * d + 1)) 0 5))))
set_option maxRecDepth 100000 in
theorem wwB_ok : wwB = true := by decide +kernel
section Lift
variable {xl : List Int32} {n kx km : Nat} {lvx lvm : LVs} {ι ι1 κ κ1 : IS} {F F1 : MH} {E : Option Value → Option Value → Prop} {ro : Nat → Option MC}
theorem ch_b {j : Nat} {lo hi : Int} (hW : WT tGam tSets tRoles ro F) (hs : F.map zc = sh0) (hc : chB esSt j lo hi = true) : lo ≤ (iv F 130 j).toInt ∧ (iv F 130 j).toInt ≤ hi := by
  unfold chB esSt at hc
  split at hc
  · rename_i e he
    split at he
    · rename_i r hr
      split at he
      · rename_i rd hrd
        split at he
        · rename_i h1r
          obtain ⟨c, h1, h2⟩ := hW 130 r rd hr hrd
          have hF : F[130]? = some c := by unfold m_cell at h1; rw [if_pos (by decide)] at h1; exact h1
          rw [iv_cont hF]
          simp only [Bool.and_eq_true, Bool.or_eq_true, beq_iff_eq, decide_eq_true_eq] at hc
          have hL : okL tGam tSets rd.2.2 (cont c) := by
            rcases h2 with h2 | h2 | h2 | h2
            · exact h2.2.2
            · exact h2.2.2
            · exact h2.2.2
            · rw [h1r] at h2; exact absurd h2.1 (by decide)
          obtain ⟨v, hv, hE⟩ := hL.2 j e he
          rw [hv]
          unfold okE at hE
          rcases hc.1 with h0 | h0
          · rw [if_pos h0] at hE
            obtain ⟨⟨x, rfl⟩, hE1, hE2⟩ := hE
            have q1 : e.2.1 ≤ x.toInt := hE1
            have q2 : x.toInt ≤ e.2.2 := hE2
            show lo ≤ x.toInt ∧ x.toInt ≤ hi
            omega
          · rw [if_neg (by omega), if_neg (by omega), if_neg (by omega), if_pos h0] at hE
            obtain ⟨⟨x, rfl⟩, hE1, hE2, -⟩ := hE
            have q1 : e.2.1 ≤ x.toInt := hE1
            have q2 : x.toInt ≤ e.2.2 := hE2
            show lo ≤ x.toInt ∧ x.toInt ≤ hi
            omega
        · cases he
      · cases he
    · cases he
  · cases hc
theorem ww_of (hW : WT tGam tSets tRoles ro F) (hs : F.map zc = sh0) : WW (iv F) := by
  have key : ∀ o, o < 3 → WF (rO (80 * o) (iv F 130)) := by
    intro o ho
    have h1 := List.all_eq_true.mp wwB_ok o (List.mem_range.mpr ho)
    have h2 : ∀ d, d < 4 → _ := fun d hd => List.all_eq_true.mp h1 d (List.mem_range.mpr hd)
    have g : ∀ k, k < 80 → rO (80 * o) (iv F 130) k = iv F 130 (80 * o + k) := fun k hk => by unfold rO; rw [if_pos hk]
    refine ⟨fun d hd => ?_, fun v hv => ?_⟩
    · have h3 := h2 d hd
      simp only [Bool.and_eq_true] at h3
      refine ⟨?_, ?_, fun i hi => ?_⟩
      · rw [g _ (by omega)]; exact ch_b hW hs h3.1
      · have := ch_b hW hs h3.2.1
        rw [g _ (by omega), i_eq, i_eq, n0, n1]; omega
      · have h4 := List.all_eq_true.mp h3.2.2.1 i (List.mem_range.mpr hi)
        rw [g _ (by omega)]; exact ch_b hW hs h4
    · have h3 := h2 v hv
      simp only [Bool.and_eq_true] at h3
      rw [g _ (by omega)]; exact ch_b hW hs h3.2.2.2
  exact ⟨key 0 (by omega), key 1 (by omega), key 2 (by omega)⟩
theorem RRel.cm (h : RRel ι κ) (e : ∀ a, 129 ≤ a → κ1 a = κ a) : RRel ι κ1 := by
  obtain ⟨nv, nd, h⟩ := h
  refine ⟨nv, nd, ?_⟩
  unfold RN RI RS RB BM at h ⊢
  simp only [e 129 (by omega), e 130 (by omega), e 132 (by omega), e 135 (by omega), e 137 (by omega), e 138 (by omega), e 139 (by omega)]
  exact h
theorem RRel.cx (h : RRel ι κ) (e : ∀ a j, a ≤ 128 → ι1 a j = ι a j) : RRel ι1 κ := by
  obtain ⟨nv, nd, a, b, ⟨c1, c2⟩, d, f, g⟩ := h
  exact ⟨nv, nd, a, b, ⟨c1.keep (fun a j _ g2 => e a j (by omega)), by rw [e 25 4 (by omega)]; exact c2⟩, d.keep (fun a j _ g2 => e a j (by omega)) rfl (fun _ _ => rfl), f.keep (fun a j _ g2 => e a j (by omega)) (e 0 10 (by omega)) ⟨rfl, rfl, rfl⟩ rfl, g.keep (fun a j _ g2 => e a j (by omega)) rfl rfl⟩
theorem sdX (hp : pCl kx = true) (hl : lvx.all (fun q => svB sCl q.2) = true) (hs : F.map zc = sh0) : PF (tRo xl) n kx 0 lvx [] F (fun _ F1 => ∀ a, 129 ≤ a → iv F1 a = iv F a) :=
  (PF.side cloCl chkTr hp hs (sLvB hl) sL_nil).imp (fun _ F1 h a ha => funext (fun j => h a j (Or.inl (by simp [sCl]; omega))))
theorem sdM (hp : pMo km = true) (hl : lvm.all (fun q => svB sMo q.2) = true) (hs : F.map zc = sh0) : PF (tRo xl) n km 0 lvm [] F (fun _ F1 => ∀ a j, a ≤ 128 → iv F1 a j = iv F a j) :=
  (PF.side cloMo chkMo hp hs (sLvB hl) sL_nil).imp (fun _ F1 h a j ha => h a j (Or.inl (by simp [sMo]; omega)))
/-- a call of both -/
theorem lift (hC : ∀ ι κ, RRel ι κ → WW κ → CALL xl n n kx km lvx lvm E ι κ) (px : pCl kx = true) (lx : lvx.all (fun q => svB sCl q.2) = true) (pm : pMo km = true) (lm : lvm.all (fun q => svB sMo q.2) = true) (ox : ∀ F, WT tGam tSets tRoles (tRo xl) F → PF (tRo xl) n kx 0 lvx [] F (fun _ F1 => WT tGam tSets tRoles (tRo xl) F1)) (om : ∀ F, WT tGam tSets tRoles (tRo xl) F → PF (tRo xl) n km 0 lvm [] F (fun _ F1 => WT tGam tSets tRoles (tRo xl) F1)) (sx : sP kx = true) (sm : sP km = true) (hJ : J6 (tRo xl) F) : PF (tRo xl) n kx 0 lvx [] F (fun v1 F1 => PF (tRo xl) n km 0 lvm [] F1 (fun v2 F2 => E v1 v2 ∧ J6 (tRo xl) F2)) := by
  obtain ⟨hW, hs, hR⟩ := hJ
  intro d z hx
  have o1 := ox F hW d z hx
  have s1 : z.2.map zc = sh0 := ex_sh _ _ _ _ _ _ _ _ sx hs hx
  have c1 := sdX (xl := xl) (n := n) px lx hs d z hx
  have T := hC (iv F) (iv z.2) (hR.cm c1) (ww_of o1 s1) F hs rfl d z hx z.2 s1 rfl
  refine (((T.and (om z.2 o1)).and (PF.sh (n := n) sm s1)).and (sdM pm lm s1)).imp (fun v2 F2 hh => ?_)
  obtain ⟨⟨⟨⟨t1, t2⟩, w2⟩, s2⟩, d2⟩ := hh
  exact ⟨t1, w2, s2, t2.cx d2⟩
/-- what a call of the model that tries alone leaves -/
noncomputable def MF (κ κ1 : IS) : Prop := (κ1 130 = κ 130 ∧ κ1 132 = κ 132 ∧ κ1 135 = κ 135) ∧ (κ1 137 = κ 137 ∧ κ1 138 = κ 138 ∧ κ1 139 = κ 139) ∧ κ1 129 3 = κ 129 3 ∧ κ1 129 4 = κ 129 4 ∧ κ1 129 13 = κ 129 13 ∧ κ1 129 31 = κ 129 31
noncomputable def mfB (ms : Mods) : Bool := ms.all (fun q => [130, 132, 135, 137, 138, 139].all (fun a => match tGam a with | some r => !(q.1 == r) | none => false) && (match tGam 129 with | some r => !(q.1 == r) || [3, 4, 13, 31].all (fun j => !(decide (q.2.1 ≤ j) && decide (j ≤ q.2.2))) | none => false))
theorem inM_no {ms : Mods} {r : Nat} (h : ms.all (fun q => !(q.1 == r)) = true) (j : Nat) : inM ms r j = false := by
  unfold inM
  rw [List.any_eq_false]
  intro q hq
  have := List.all_eq_true.mp h q hq
  simp only [Bool.not_eq_true', beq_eq_false_iff_ne] at this
  simp [this]
theorem mf_of {ms : Mods} (hb : mfB ms = true) (h : FRm tGam ro ms F F1) (hs : F.map zc = sh0) (hs1 : F1.map zc = sh0) : MF (iv F) (iv F1) := by
  have row : ∀ a, a ∈ [130, 132, 135, 137, 138, 139] → iv F1 a = iv F a := by
    intro a ha
    cases hg : tGam a with
    | none =>
      simp only [List.mem_cons, List.not_mem_nil, or_false] at ha
      rcases ha with rfl | rfl | rfl | rfl | rfl | rfl <;> exact absurd hg (by decide)
    | some r =>
      funext j
      refine fr_iv h hg (inM_no (List.all_eq_true.mpr (fun q hq => ?_)) j) ?_ hs hs1
      · have h1 := List.all_eq_true.mp hb q hq
        rw [Bool.and_eq_true] at h1
        have h2 := List.all_eq_true.mp h1.1 a ha
        rw [hg] at h2
        exact h2
      · simp only [List.mem_cons, List.not_mem_nil, or_false] at ha
        omega
  have fld : ∀ j, j ∈ [3, 4, 13, 31] → iv F1 129 j = iv F 129 j := by
    intro j hj
    cases hg : tGam 129 with
    | none => exact absurd hg (by decide)
    | some r =>
      refine fr_iv h hg ?_ (by decide) hs hs1
      unfold inM
      rw [List.any_eq_false]
      intro q hq
      have h1 := List.all_eq_true.mp hb q hq
      rw [Bool.and_eq_true] at h1
      have h2 := h1.2
      rw [hg] at h2
      simp only [Bool.or_eq_true, Bool.not_eq_true', beq_eq_false_iff_ne] at h2
      rcases h2 with h2 | h2
      · simp [h2]
      · have h3 := List.all_eq_true.mp h2 j hj
        simp only [Bool.not_eq_true', Bool.and_eq_false_iff, decide_eq_false_iff_not] at h3
        simp only [Bool.and_eq_true, beq_iff_eq, decide_eq_true_eq, not_and]
        omega
  exact ⟨⟨row 130 (by simp), row 132 (by simp), row 135 (by simp)⟩, ⟨row 137 (by simp), row 138 (by simp), row 139 (by simp)⟩, fld 3 (by simp), fld 4 (by simp), fld 13 (by simp), fld 31 (by simp)⟩
theorem RRel.mf (h : RRel ι κ) (m : MF κ κ1) : RRel ι κ1 := by
  obtain ⟨nv, nd, h⟩ := h
  refine ⟨nv, nd, ?_⟩
  obtain ⟨⟨m1, m2, m3⟩, ⟨m4, m5, m6⟩, m7, m8, m9, m10⟩ := m
  unfold RN RI RS RB BM at h ⊢
  simp only [m1, m2, m3, m4, m5, m6, m7, m8, m9, m10]
  exact h
theorem RRel.cf (h : RRel ι κ) (e : CFr ι ι1) : RRel ι1 κ := by
  obtain ⟨nv, nd, a, b, ⟨c1, c2⟩, d, f, g⟩ := h
  exact ⟨nv, nd, a, b, ⟨c1.keep (fun a j _ g2 => e a j (by omega) (by omega)), by rw [e 25 4 (by omega) (by omega)]; exact c2⟩, d.keep (fun a j _ g2 => e a j (by omega) (by omega)) rfl (fun _ _ => rfl), f.keep (fun a j _ g2 => e a j (by omega) (by omega)) (e 0 10 (by omega) (by omega)) ⟨rfl, rfl, rfl⟩ rfl, g.keep (fun a j _ g2 => e a j (by omega) (by omega)) rfl rfl⟩
/-- a call of both that tries alone -/
theorem liftF {ms1 ms2 : Mods} (hC : ∀ ι, PC xl n kx 0 lvx [] ι (fun _ ι1 => CFr ι ι1)) (px : pCl kx = true) (lx : lvx.all (fun q => svB sCl q.2) = true) (pm : pMo km = true) (lm : lvm.all (fun q => svB sMo q.2) = true) (ox : ∀ F, WT tGam tSets tRoles (tRo xl) F → PF (tRo xl) n kx 0 lvx [] F (fun _ F1 => WT tGam tSets tRoles (tRo xl) F1 ∧ FRm tGam (tRo xl) ms1 F F1)) (om : ∀ F, WT tGam tSets tRoles (tRo xl) F → PF (tRo xl) n km 0 lvm [] F (fun _ F1 => WT tGam tSets tRoles (tRo xl) F1 ∧ FRm tGam (tRo xl) ms2 F F1)) (hb : mfB ms2 = true) (sx : sP kx = true) (sm : sP km = true) (hJ : J6 (tRo xl) F) : PF (tRo xl) n kx 0 lvx [] F (fun _ F1 => PF (tRo xl) n km 0 lvm [] F1 (fun _ F2 => J6 (tRo xl) F2)) := by
  obtain ⟨hW, hs, hR⟩ := hJ
  intro d z hx
  have o1 := (ox F hW d z hx).1
  have s1 : z.2.map zc = sh0 := ex_sh _ _ _ _ _ _ _ _ sx hs hx
  have c1 := sdX (xl := xl) (n := n) px lx hs d z hx
  have T := hC (iv F) F hs rfl d z hx
  have R1 : RRel (iv z.2) (iv z.2) := (hR.cf T).cm c1
  refine (((om z.2 o1).and (PF.sh (n := n) sm s1)).and (sdM pm lm s1)).imp (fun v2 F2 hh => ?_)
  obtain ⟨⟨⟨w2, f2⟩, s2⟩, d2⟩ := hh
  exact ⟨w2, s2, (R1.mf (mf_of hb f2 s1 s2)).cx d2⟩
end Lift
section Calls
variable {xl : List Int32} {n : Nat} {F : MH} {x1 x2 x3 x4 : Int32}
theorem RN.hp {nv nd : Nat} {ι κ : IS} (h : RN nv nd ι κ) : HP κ := ⟨h.2.2.1.1.2.1.2.1, h.2.2.1.1.2.2.2.1⟩
theorem call_tr {n2 kx km : Nat} {lvx lvm : LVs} {ι κ : IS} {nv nd : Nat} {f : Nat → Int32} {r r2 : Int32} (h : RN nv nd ι κ) (hx : PC xl n kx 0 lvx [] ι (XR nv nd f r ι)) (hm : PC xl n2 km 0 lvm [] κ (MR f r2 κ)) : CALL xl n n2 kx km lvx lvm (fun _ _ => True) ι κ :=
  PC.imp hx (fun v1 ι1 g1 => PC.imp hm (fun v2 κ1 g2 => ⟨trivial, nv, nd, h.town g1.2.1 g2.2.1 g1.2.2.1 (by rw [g2.2.2]; exact g1.2.2.2)⟩))
theorem L_10 (hJ : J6 (tRo xl) F) : PF (tRo xl) n 10 0 [(0, .ref 0), (1, .int x1)] [] F (fun v1 F1 => PF (tRo xl) n 147 0 [(0, .ref 129), (1, .int x1)] [] F1 (fun v2 F2 => (fun _ _ => True) v1 v2 ∧ J6 (tRo xl) F2)) :=
  lift (E := (fun _ _ => True)) (fun ι κ ⟨_, _, h⟩ w => feed_call h) rfl rfl rfl rfl (fun F hW => (op_10 rfl hW).imp (fun _ _ q => q.1)) (fun F hW => (op_147 rfl hW).imp (fun _ _ q => q.1)) rfl rfl hJ
theorem L_12 (hJ : J6 (tRo xl) F) : PF (tRo xl) n 12 0 [(0, .ref 0), (1, .int x1)] [] F (fun v1 F1 => PF (tRo xl) n 149 0 [(0, .ref 129), (1, .int x1)] [] F1 (fun v2 F2 => (fun _ _ => True) v1 v2 ∧ J6 (tRo xl) F2)) :=
  lift (E := (fun _ _ => True)) (fun ι κ ⟨_, _, h⟩ w => end_call h) rfl rfl rfl rfl (fun F hW => (op_12 rfl hW).imp (fun _ _ q => q.1)) (fun F hW => (op_149 rfl hW).imp (fun _ _ q => q.1)) rfl rfl hJ
theorem L_55 (hJ : J6 (tRo xl) F) : PF (tRo xl) n 55 0 [(0, .ref 0)] [] F (fun v1 F1 => PF (tRo xl) n 166 0 [(0, .ref 129)] [] F1 (fun v2 F2 => (fun _ _ => True) v1 v2 ∧ J6 (tRo xl) F2)) :=
  lift (E := (fun _ _ => True)) (fun ι κ ⟨_, _, h⟩ w => fault_call h) rfl rfl rfl rfl (fun F hW => (op_55 rfl hW).imp (fun _ _ q => q.1)) (fun F hW => (op_166 rfl hW).imp (fun _ _ q => q.1)) rfl rfl hJ
theorem L_56 (hJ : J6 (tRo xl) F) : PF (tRo xl) n 56 0 [(0, .ref 0), (1, .int x1)] [] F (fun v1 F1 => PF (tRo xl) n 167 0 [(0, .ref 129), (1, .int x1)] [] F1 (fun v2 F2 => (fun v1 v2 => v1 = v2) v1 v2 ∧ J6 (tRo xl) F2)) :=
  lift (E := (fun v1 v2 => v1 = v2)) (fun ι κ ⟨_, _, h⟩ w => call_of h (ruleX (h.hx w)) (ruleM (h.hm w))) rfl rfl rfl rfl (fun F hW => (op_56 rfl hW).imp (fun _ _ q => q.1)) (fun F hW => (op_167 rfl hW).imp (fun _ _ q => q.1)) rfl rfl hJ
theorem L_62 (hJ : J6 (tRo xl) F) : PF (tRo xl) n 62 0 [(0, .ref 0), (1, .int x1), (2, .int x2)] [] F (fun v1 F1 => PF (tRo xl) n 176 0 [(0, .ref 129), (1, .int x1), (2, .int x2)] [] F1 (fun v2 F2 => (fun v1 v2 => v1 = v2) v1 v2 ∧ J6 (tRo xl) F2)) :=
  lift (E := (fun v1 v2 => v1 = v2)) (fun ι κ ⟨_, _, h⟩ w => call_of h (visitorX (h.hx w)) (visitorM (h.hm w))) rfl rfl rfl rfl (fun F hW => (op_62 rfl hW).imp (fun _ _ q => q.1)) (fun F hW => (op_176 rfl hW).imp (fun _ _ q => q.1)) rfl rfl hJ
theorem L_64 (hJ : J6 (tRo xl) F) : PF (tRo xl) n 64 0 [(0, .ref 0), (1, .int x1), (2, .int x2)] [] F (fun v1 F1 => PF (tRo xl) n 180 0 [(0, .ref 129), (1, .int x1), (2, .int x2)] [] F1 (fun v2 F2 => (fun v1 v2 => v1 = v2) v1 v2 ∧ J6 (tRo xl) F2)) :=
  lift (E := (fun v1 v2 => v1 = v2)) (fun ι κ ⟨_, _, h⟩ w => call_of h (doorX (h.hx w)) (doorM (h.hm w))) rfl rfl rfl rfl (fun F hW => (op_64 rfl hW).imp (fun _ _ q => q.1)) (fun F hW => (op_180 rfl hW).imp (fun _ _ q => q.1)) rfl rfl hJ
theorem L_66 (hJ : J6 (tRo xl) F) : PF (tRo xl) n 66 0 [(0, .ref 0), (1, .int x1)] [] F (fun v1 F1 => PF (tRo xl) n 182 0 [(0, .ref 129), (1, .int x1)] [] F1 (fun v2 F2 => (fun v1 v2 => v1 = v2) v1 v2 ∧ J6 (tRo xl) F2)) :=
  lift (E := (fun v1 v2 => v1 = v2)) (fun ι κ ⟨_, _, h⟩ w => call_of h (planX (h.hx w)) (planM (h.hm w) h.hp.1)) rfl rfl rfl rfl (fun F hW => (op_66 rfl hW).imp (fun _ _ q => q.1)) (fun F hW => (op_182 rfl hW).imp (fun _ _ q => q.1)) rfl rfl hJ
theorem L_67 (hJ : J6 (tRo xl) F) : PF (tRo xl) n 67 0 [(0, .ref 0), (1, .int x1), (2, .int x2)] [] F (fun v1 F1 => PF (tRo xl) n 183 0 [(0, .ref 129), (1, .int x1), (2, .int x2)] [] F1 (fun v2 F2 => (fun v1 v2 => v1 = v2) v1 v2 ∧ J6 (tRo xl) F2)) :=
  lift (E := (fun v1 v2 => v1 = v2)) (fun ι κ ⟨_, _, h⟩ w => call_of h (usesX (h.hx w)) (usesM (h.hm w))) rfl rfl rfl rfl (fun F hW => (op_67 rfl hW).imp (fun _ _ q => q.1)) (fun F hW => (op_183 rfl hW).imp (fun _ _ q => q.1)) rfl rfl hJ
theorem L_69 (hJ : J6 (tRo xl) F) : PF (tRo xl) n 69 0 [(0, .ref 0), (1, .int x1), (2, .int x2)] [] F (fun v1 F1 => PF (tRo xl) n 185 0 [(0, .ref 129), (1, .int x1), (2, .int x2)] [] F1 (fun v2 F2 => (fun v1 v2 => v1 = v2) v1 v2 ∧ J6 (tRo xl) F2)) :=
  lift (E := (fun v1 v2 => v1 = v2)) (fun ι κ ⟨_, _, h⟩ w => call_of h (visitX (h.hx w)) (visitM (h.hm w))) rfl rfl rfl rfl (fun F hW => (op_69 rfl hW).imp (fun _ _ q => q.1)) (fun F hW => (op_185 rfl hW).imp (fun _ _ q => q.1)) rfl rfl hJ
theorem L_75 (hJ : J6 (tRo xl) F) : PF (tRo xl) n 75 0 [(0, .ref 0), (1, .int x1)] [] F (fun v1 F1 => PF (tRo xl) n 190 0 [(0, .ref 129), (1, .int x1)] [] F1 (fun v2 F2 => (fun v1 v2 => v1 = v2) v1 v2 ∧ J6 (tRo xl) F2)) :=
  lift (E := (fun v1 v2 => v1 = v2)) (fun ι κ ⟨_, _, h⟩ w => call_of h (skyX (h.hx w)) (skyM (h.hm w))) rfl rfl rfl rfl (fun F hW => (op_75 rfl hW).imp (fun _ _ q => q.1)) (fun F hW => (op_190 rfl hW).imp (fun _ _ q => q.1)) rfl rfl hJ
theorem L_81 (hJ : J6 (tRo xl) F) : PF (tRo xl) n 81 0 [(0, .ref 0), (1, .int x1)] [] F (fun v1 F1 => PF (tRo xl) n 194 0 [(0, .ref 129), (1, .int x1)] [] F1 (fun v2 F2 => (fun v1 v2 => v1 = v2) v1 v2 ∧ J6 (tRo xl) F2)) :=
  lift (E := (fun v1 v2 => v1 = v2)) (fun ι κ ⟨_, _, h⟩ w => call_of h (scrapeX (h.hx w)) (scrapeM (h.hm w))) rfl rfl rfl rfl (fun F hW => (op_81 rfl hW).imp (fun _ _ q => q.1)) (fun F hW => (op_194 rfl hW).imp (fun _ _ q => q.1)) rfl rfl hJ
theorem L_82 (hJ : J6 (tRo xl) F) : PF (tRo xl) n 82 0 [(0, .ref 0), (1, .int x1), (2, .int x2), (3, .int x3)] [] F (fun v1 F1 => PF (tRo xl) n 195 0 [(0, .ref 129), (1, .int x1), (2, .int x2), (3, .int x3)] [] F1 (fun v2 F2 => (fun v1 v2 => v1 = v2) v1 v2 ∧ J6 (tRo xl) F2)) :=
  lift (E := (fun v1 v2 => v1 = v2)) (fun ι κ ⟨_, _, h⟩ w => call_of h (alterX (h.hx w)) (alterM (h.hm w))) rfl rfl rfl rfl (fun F hW => (op_82 rfl hW).imp (fun _ _ q => q.1)) (fun F hW => (op_195 rfl hW).imp (fun _ _ q => q.1)) rfl rfl hJ
theorem L_83 (hb : x3 = 0 ∨ x3 = 1) (hJ : J6 (tRo xl) F) : PF (tRo xl) n 83 0 [(0, .ref 0), (1, .int x1), (2, .int x2), (3, .int x3)] [] F (fun v1 F1 => PF (tRo xl) n 198 0 [(0, .ref 129), (1, .int x1), (2, .int x2), (3, .int x3)] [] F1 (fun v2 F2 => (fun _ _ => True) v1 v2 ∧ J6 (tRo xl) F2)) :=
  lift (E := (fun _ _ => True)) (fun ι κ ⟨_, _, h⟩ w => call_tr h (oughtX (h.hx w)) (oughtM (h.hm w))) rfl rfl rfl rfl (fun F hW => (op_83 hb rfl hW).imp (fun _ _ q => q.1)) (fun F hW => (op_198 hb rfl hW).imp (fun _ _ q => q.1)) rfl rfl hJ
theorem L_84 (hJ : J6 (tRo xl) F) : PF (tRo xl) n 84 0 [(0, .ref 0), (1, .int x1)] [] F (fun v1 F1 => PF (tRo xl) n 199 0 [(0, .ref 129), (1, .int x1)] [] F1 (fun v2 F2 => (fun v1 v2 => v1 = v2) v1 v2 ∧ J6 (tRo xl) F2)) :=
  lift (E := (fun v1 v2 => v1 = v2)) (fun ι κ ⟨_, _, h⟩ w => call_of h (plansX (h.hx w)) (plansM (h.hm w) h.hp)) rfl rfl rfl rfl (fun F hW => (op_84 rfl hW).imp (fun _ _ q => q.1)) (fun F hW => (op_199 rfl hW).imp (fun _ _ q => q.1)) rfl rfl hJ
theorem L_85 (hJ : J6 (tRo xl) F) : PF (tRo xl) n 85 0 [(0, .ref 0), (1, .int x1)] [] F (fun v1 F1 => PF (tRo xl) n 201 0 [(0, .ref 129), (1, .int x1)] [] F1 (fun v2 F2 => (fun v1 v2 => v1 = v2) v1 v2 ∧ J6 (tRo xl) F2)) :=
  lift (E := (fun v1 v2 => v1 = v2)) (fun ι κ ⟨_, _, h⟩ w => call_of h (cutX (h.hx w)) (cutM)) rfl rfl rfl rfl (fun F hW => (op_85 rfl hW).imp (fun _ _ q => q.1)) (fun F hW => (op_201 rfl hW).imp (fun _ _ q => q.1)) rfl rfl hJ
theorem L_109 (hJ : J6 (tRo xl) F) : PF (tRo xl) n 109 0 [(0, .ref 0), (1, .int x1)] [] F (fun v1 F1 => PF (tRo xl) n 216 0 [(0, .ref 129), (1, .int x1)] [] F1 (fun v2 F2 => (fun v1 v2 => v1 = v2) v1 v2 ∧ J6 (tRo xl) F2)) :=
  lift (E := (fun v1 v2 => v1 = v2)) (fun ι κ ⟨_, _, h⟩ w => call_of h (readsX (h.hx w)) (readsM (h.hm w))) rfl rfl rfl rfl (fun F hW => (op_109 rfl hW).imp (fun _ _ q => q.1)) (fun F hW => (op_216 rfl hW).imp (fun _ _ q => q.1)) rfl rfl hJ
theorem L_111 (hJ : J6 (tRo xl) F) : PF (tRo xl) n 111 0 [(0, .ref 0), (1, .int x1), (2, .int x2), (3, .int x3)] [] F (fun v1 F1 => PF (tRo xl) n 217 0 [(0, .ref 129), (1, .int x1), (2, .int x2), (3, .int x3)] [] F1 (fun v2 F2 => (fun v1 v2 => v1 = v2) v1 v2 ∧ J6 (tRo xl) F2)) :=
  lift (E := (fun v1 v2 => v1 = v2)) (fun ι κ ⟨_, _, h⟩ w => call_of h (seeX (h.hx w)) (seeM (h.hm w) h.hp)) rfl rfl rfl rfl (fun F hW => (op_111 rfl hW).imp (fun _ _ q => q.1)) (fun F hW => (op_217 rfl hW).imp (fun _ _ q => q.1)) rfl rfl hJ
theorem L_113 (hJ : J6 (tRo xl) F) : PF (tRo xl) n 113 0 [(0, .ref 0), (1, .int x1)] [] F (fun v1 F1 => PF (tRo xl) n 218 0 [(0, .ref 129), (1, .int x1)] [] F1 (fun v2 F2 => (fun v1 v2 => v1 = v2) v1 v2 ∧ J6 (tRo xl) F2)) :=
  lift (E := (fun v1 v2 => v1 = v2)) (fun ι κ ⟨_, _, h⟩ w => call_of h (forgetX (h.hx w)) (forgetM)) rfl rfl rfl rfl (fun F hW => (op_113 rfl hW).imp (fun _ _ q => q.1)) (fun F hW => (op_218 rfl hW).imp (fun _ _ q => q.1)) rfl rfl hJ
theorem L_130 (hJ : J6 (tRo xl) F) : PF (tRo xl) n 130 0 [(0, .ref 0), (1, .int x1)] [] F (fun v1 F1 => PF (tRo xl) n 230 0 [(0, .ref 129), (1, .int x1)] [] F1 (fun v2 F2 => (fun v1 v2 => v1 = v2) v1 v2 ∧ J6 (tRo xl) F2)) :=
  lift (E := (fun v1 v2 => v1 = v2)) (fun ι κ ⟨_, _, h⟩ w => keep_call h w) rfl rfl rfl rfl (fun F hW => (op_130 rfl hW).imp (fun _ _ q => q.1)) (fun F hW => (op_230 rfl hW).imp (fun _ _ q => q.1)) rfl rfl hJ
theorem L_131 (hJ : J6 (tRo xl) F) : PF (tRo xl) n 131 0 [(0, .ref 0), (1, .int x1)] [] F (fun v1 F1 => PF (tRo xl) n 232 0 [(0, .ref 129), (1, .int x1)] [] F1 (fun v2 F2 => (fun v1 v2 => v1 = v2) v1 v2 ∧ J6 (tRo xl) F2)) :=
  lift (E := (fun v1 v2 => v1 = v2)) (fun ι κ ⟨_, _, h⟩ w => back_call h w) rfl rfl rfl rfl (fun F hW => (op_131 rfl hW).imp (fun _ _ q => q.1)) (fun F hW => (op_232 rfl hW).imp (fun _ _ q => q.1)) rfl rfl hJ
theorem L_132 (hJ : J6 (tRo xl) F) : PF (tRo xl) n 132 0 [(0, .ref 0), (1, .int x1), (2, .int x2), (3, .int x3)] [] F (fun v1 F1 => PF (tRo xl) n 233 0 [(0, .ref 129), (1, .int x1), (2, .int x2), (3, .int x3)] [] F1 (fun v2 F2 => (fun v1 v2 => v1 = v2) v1 v2 ∧ J6 (tRo xl) F2)) :=
  lift (E := (fun v1 v2 => v1 = v2)) (fun ι κ ⟨_, _, h⟩ w => sheet_call h) rfl rfl rfl rfl (fun F hW => (op_132 rfl hW).imp (fun _ _ q => q.1)) (fun F hW => (op_233 rfl hW).imp (fun _ _ q => q.1)) rfl rfl hJ
theorem L_136 (hJ : J6 (tRo xl) F) : PF (tRo xl) n 136 0 [(0, .ref 0), (1, .int x1), (2, .int x2), (3, .int x3)] [] F (fun v1 F1 => PF (tRo xl) n 235 0 [(0, .ref 129), (1, .int x1), (2, .int x2), (3, .int x3)] [] F1 (fun v2 F2 => (fun v1 v2 => v1 = v2) v1 v2 ∧ J6 (tRo xl) F2)) :=
  lift (E := (fun v1 v2 => v1 = v2)) (fun ι κ ⟨_, _, h⟩ w => lay_call h) rfl rfl rfl rfl (fun F hW => (op_136 rfl hW).imp (fun _ _ q => q.1)) (fun F hW => (op_235 rfl hW).imp (fun _ _ q => q.1)) rfl rfl hJ
theorem L_139 (hJ : J6 (tRo xl) F) : PF (tRo xl) n 139 0 [(0, .ref 0), (1, .int x1), (2, .int x2), (3, .int x3), (4, .int x4)] [] F (fun v1 F1 => PF (tRo xl) n 236 0 [(0, .ref 129), (1, .int x1), (2, .int x2), (3, .int x3), (4, .int x4)] [] F1 (fun v2 F2 => (fun v1 v2 => v1 = v2) v1 v2 ∧ J6 (tRo xl) F2)) :=
  lift (E := (fun v1 v2 => v1 = v2)) (fun ι κ ⟨_, _, h⟩ w => read_call h w) rfl rfl rfl rfl (fun F hW => (op_139 rfl hW).imp (fun _ _ q => q.1)) (fun F hW => (op_236 rfl hW).imp (fun _ _ q => q.1)) rfl rfl hJ
theorem L_142 (hJ : J6 (tRo xl) F) : PF (tRo xl) n 142 0 [(0, .ref 0)] [] F (fun v1 F1 => PF (tRo xl) n 237 0 [(0, .ref 129)] [] F1 (fun v2 F2 => (fun v1 v2 => v1 = v2) v1 v2 ∧ J6 (tRo xl) F2)) :=
  lift (E := (fun v1 v2 => v1 = v2)) (fun ι κ ⟨_, _, h⟩ w => torn_call h) rfl rfl rfl rfl (fun F hW => (op_142 rfl hW).imp (fun _ _ q => q.1)) (fun F hW => (op_237 rfl hW).imp (fun _ _ q => q.1)) rfl rfl hJ
theorem L_143 (hJ : J6 (tRo xl) F) : PF (tRo xl) n 143 0 [(0, .ref 0), (1, .int x1)] [] F (fun v1 F1 => PF (tRo xl) n 238 0 [(0, .ref 129), (1, .int x1)] [] F1 (fun v2 F2 => (fun v1 v2 => v1 = v2) v1 v2 ∧ J6 (tRo xl) F2)) :=
  lift (E := (fun v1 v2 => v1 = v2)) (fun ι κ ⟨_, _, h⟩ w => count_call h w) rfl rfl rfl rfl (fun F hW => (op_143 rfl hW).imp (fun _ _ q => q.1)) (fun F hW => (op_238 rfl hW).imp (fun _ _ q => q.1)) rfl rfl hJ
theorem L_86 (hJ : J6 (tRo xl) F) : PF (tRo xl) n 86 0 [(0, .ref 0), (1, .int x1)] [] F (fun _ F1 => PF (tRo xl) n 202 0 [(0, .ref 129), (1, .int x1)] [] F1 (fun _ F2 => J6 (tRo xl) F2)) :=
  liftF (ms1 := nd130.ms) (ms2 := nd195.ms) (fun ι => runsF) rfl rfl rfl rfl (fun F hW => op_86 rfl hW) (fun F hW => op_202 rfl hW) (by decide +kernel) rfl rfl hJ
theorem L_93 (hJ : J6 (tRo xl) F) : PF (tRo xl) n 93 0 [(0, .ref 0), (1, .int x1)] [] F (fun _ F1 => PF (tRo xl) n 204 0 [(0, .ref 129), (1, .int x1)] [] F1 (fun _ F2 => J6 (tRo xl) F2)) :=
  liftF (ms1 := nd129.ms) (ms2 := nd194.ms) (fun ι => aheadF) rfl rfl rfl rfl (fun F hW => op_93 rfl hW) (fun F hW => op_204 rfl hW) (by decide +kernel) rfl rfl hJ
theorem L_94 (hJ : J6 (tRo xl) F) : PF (tRo xl) n 94 0 [(0, .ref 0), (1, .int x1)] [] F (fun _ F1 => PF (tRo xl) n 206 0 [(0, .ref 129), (1, .int x1)] [] F1 (fun _ F2 => J6 (tRo xl) F2)) :=
  liftF (ms1 := nd128.ms) (ms2 := nd193.ms) (fun ι => clearsF) rfl rfl rfl rfl (fun F hW => op_94 rfl hW) (fun F hW => op_206 rfl hW) (by decide +kernel) rfl rfl hJ
theorem L_95 (hJ : J6 (tRo xl) F) : PF (tRo xl) n 95 0 [(0, .ref 0), (1, .int x1), (2, .int x2)] [] F (fun _ F1 => PF (tRo xl) n 207 0 [(0, .ref 129), (1, .int x1), (2, .int x2)] [] F1 (fun _ F2 => J6 (tRo xl) F2)) :=
  liftF (ms1 := nd127.ms) (ms2 := nd192.ms) (fun ι => bestF) rfl rfl rfl rfl (fun F hW => op_95 rfl hW) (fun F hW => op_207 rfl hW) (by decide +kernel) rfl rfl hJ
theorem L_107 (hJ : J6 (tRo xl) F) : PF (tRo xl) n 107 0 [(0, .ref 0), (1, .int x1)] [] F (fun _ F1 => PF (tRo xl) n 215 0 [(0, .ref 129), (1, .int x1)] [] F1 (fun _ F2 => J6 (tRo xl) F2)) :=
  liftF (ms1 := nd126.ms) (ms2 := nd191.ms) (fun ι => fewF) rfl rfl rfl rfl (fun F hW => op_107 rfl hW) (fun F hW => op_215 rfl hW) (by decide +kernel) rfl rfl hJ
theorem L_114 (hJ : J6 (tRo xl) F) : PF (tRo xl) n 114 0 [(0, .ref 0), (1, .int x1)] [] F (fun _ F1 => PF (tRo xl) n 219 0 [(0, .ref 129), (1, .int x1)] [] F1 (fun _ F2 => J6 (tRo xl) F2)) :=
  liftF (ms1 := nd122.ms) (ms2 := nd187.ms) (fun ι => potsF) rfl rfl rfl rfl (fun F hW => op_114 rfl hW) (fun F hW => op_219 rfl hW) (by decide +kernel) rfl rfl hJ
theorem L_117 (hJ : J6 (tRo xl) F) : PF (tRo xl) n 117 0 [(0, .ref 0)] [] F (fun _ F1 => PF (tRo xl) n 221 0 [(0, .ref 129)] [] F1 (fun _ F2 => J6 (tRo xl) F2)) :=
  liftF (ms1 := nd121.ms) (ms2 := nd283.ms) (fun ι => rainedF) rfl rfl rfl rfl (fun F hW => op_117 rfl hW) (fun F hW => op_221 rfl hW) (by decide +kernel) rfl rfl hJ
theorem L_118 (hJ : J6 (tRo xl) F) : PF (tRo xl) n 118 0 [(0, .ref 0), (1, .int x1)] [] F (fun _ F1 => PF (tRo xl) n 222 0 [(0, .ref 129), (1, .int x1)] [] F1 (fun _ F2 => J6 (tRo xl) F2)) :=
  liftF (ms1 := nd120.ms) (ms2 := nd186.ms) (fun ι => ordersF) rfl rfl rfl rfl (fun F hW => op_118 rfl hW) (fun F hW => op_222 rfl hW) (by decide +kernel) rfl rfl hJ
theorem L_121 (hJ : J6 (tRo xl) F) : PF (tRo xl) n 121 0 [(0, .ref 0), (1, .int x1), (2, .int x2), (3, .int x3)] [] F (fun _ F1 => PF (tRo xl) n 224 0 [(0, .ref 129), (1, .int x1), (2, .int x2), (3, .int x3)] [] F1 (fun _ F2 => J6 (tRo xl) F2)) :=
  liftF (ms1 := nd119.ms) (ms2 := nd185.ms) (fun ι => luckF) rfl rfl rfl rfl (fun F hW => op_121 rfl hW) (fun F hW => op_224 rfl hW) (by decide +kernel) rfl rfl hJ
theorem L_127 (hJ : J6 (tRo xl) F) : PF (tRo xl) n 127 0 [(0, .ref 0), (1, .int x1), (2, .int x2)] [] F (fun _ F1 => PF (tRo xl) n 228 0 [(0, .ref 129), (1, .int x1), (2, .int x2)] [] F1 (fun _ F2 => J6 (tRo xl) F2)) :=
  liftF (ms1 := nd118.ms) (ms2 := nd184.ms) (fun ι => meanF) rfl rfl rfl rfl (fun F hW => op_127 rfl hW) (fun F hW => op_228 rfl hW) (by decide +kernel) rfl rfl hJ
theorem L_128 (hJ : J6 (tRo xl) F) : PF (tRo xl) n 128 0 [(0, .ref 0), (1, .int x1), (2, .int x2), (3, .int x3)] [] F (fun _ F1 => PF (tRo xl) n 229 0 [(0, .ref 129), (1, .int x1), (2, .int x2), (3, .int x3)] [] F1 (fun _ F2 => J6 (tRo xl) F2)) :=
  liftF (ms1 := nd117.ms) (ms2 := nd183.ms) (fun ι => driftF) rfl rfl rfl rfl (fun F hW => op_128 rfl hW) (fun F hW => op_229 rfl hW) (by decide +kernel) rfl rfl hJ
theorem text6 (hJ : J6 (tRo xl) F) : PF (tRo xl) n 13 0 [(0, .ref 0)] [] F (fun v1 F1 => PF (tRo xl) n 150 0 [(0, .ref 129)] [] F1 (fun v2 F2 => v1 = v2 ∧ J6 (tRo xl) F2)) := by
  obtain ⟨hW, hs, hR⟩ := hJ
  intro d z hx
  have o1 := op_13 (n := n) rfl hW d z hx
  have s1 : z.2.map zc = sh0 := ex_sh _ _ _ _ _ _ _ _ (show sP 13 = true from rfl) hs hx
  have k3 : ∀ q, iv z.2 23 q = iv F 23 q := fun q => fr_iv o1.2 (r := 14) rfl rfl (by decide) hs s1
  have c1 := sdX (xl := xl) (n := n) (kx := 13) (lvx := [(0, .ref 0)]) rfl rfl hs d z hx
  obtain ⟨nv, nd, h⟩ := hR.cm c1
  obtain ⟨b, L, hX, hM⟩ := h.2.2.2.2.2
  have T := text_rel (xl := xl) (n := n) (n2 := n) h F hs rfl d z hx z.2 s1 rfl
  refine (((T.and (op_150 (n := n) rfl o1.1)).and (PF.sh (n := n) rfl s1)).and (sdM (n := n) (km := 150) (lvm := [(0, .ref 129)]) rfl rfl s1)).imp (fun v2 F2 hh => ?_)
  obtain ⟨⟨⟨⟨t1, t2, t3, nv2, nd2, u1, u2, u3, u4, u5⟩, w2, f2⟩, s2⟩, d2⟩ := hh
  refine ⟨t1, w2, s2, RRel.cx (ι := iv z.2) ⟨nv2, nd2, u1, u2, u3, u4, u5, b, 0, ⟨by omega, by rw [t2]; rfl, fun q => ?_⟩, ⟨by omega, by rw [t3]; rfl, fun q => ?_, hM.2.2.2⟩⟩ d2⟩
  · rw [k3]; exact hX.2.2 q
  · rw [fr_iv f2 (r := 30) (a := 135) (j := q) rfl rfl (by decide) s1 s2]; exact hM.2.2.1 q
theorem c6_196 {x3 : Int32} (hJ : J6 (tRo xl) F) (e : ∀ F2, J6 (tRo xl) F2 → PF (tRo xl) n 0 1253 [(3, .int x3), (2, .ref 129), (1, .ref 0), (0, .ref KB)] [] F2 (fun v _ => v = some (.int 1))) : PF (tRo xl) n 0 196 [(3, .int x3), (2, .ref 129), (1, .ref 0), (0, .ref KB)] [] F (fun v _ => v = some (.int 1)) := by
  refine (l_196 ?_).weak
  intros
  refine PF.imp (L_10 hJ) (fun v1 F1 j1 => ?_)
  intros
  exact PF.imp j1 (fun v2 F2 j2 _ _ => e F2 j2.2)
theorem c6_219 {x3 : Int32} (hJ : J6 (tRo xl) F) (e : ∀ F2, J6 (tRo xl) F2 → PF (tRo xl) n 0 1253 [(3, .int x3), (2, .ref 129), (1, .ref 0), (0, .ref KB)] [] F2 (fun v _ => v = some (.int 1))) : PF (tRo xl) n 0 219 [(3, .int x3), (2, .ref 129), (1, .ref 0), (0, .ref KB)] [] F (fun v _ => v = some (.int 1)) := by
  refine (l_219 ?_).weak
  intros
  refine PF.imp (L_12 hJ) (fun v1 F1 j1 => ?_)
  intros
  exact PF.imp j1 (fun v2 F2 j2 _ _ => e F2 j2.2)
theorem c6_242 {x3 : Int32} (hJ : J6 (tRo xl) F) (e : ∀ F2, J6 (tRo xl) F2 → PF (tRo xl) n 0 1253 [(3, .int x3), (2, .ref 129), (1, .ref 0), (0, .ref KB)] [] F2 (fun v _ => v = some (.int 1))) : PF (tRo xl) n 0 242 [(3, .int x3), (2, .ref 129), (1, .ref 0), (0, .ref KB)] [] F (fun v _ => v = some (.int 1)) := by
  refine (l_242 ?_).weak
  intros
  refine PF.imp (text6 hJ) (fun v1 F1 j1 => ?_)
  intros
  exact PF.imp j1 (fun v2 F2 j2 _ _ => e F2 j2.2)
theorem c6_255 {x3 : Int32} (hJ : J6 (tRo xl) F) (e : ∀ F2, J6 (tRo xl) F2 → PF (tRo xl) n 0 1253 [(3, .int x3), (2, .ref 129), (1, .ref 0), (0, .ref KB)] [] F2 (fun v _ => v = some (.int 1))) : PF (tRo xl) n 0 255 [(3, .int x3), (2, .ref 129), (1, .ref 0), (0, .ref KB)] [] F (fun v _ => v = some (.int 1)) := by
  refine (l_255 ?_).weak
  intros
  refine PF.imp (L_55 hJ) (fun v1 F1 j1 => ?_)
  intros
  exact PF.imp j1 (fun v2 F2 j2 _ _ => e F2 j2.2)
theorem c6_268 {x3 : Int32} (hJ : J6 (tRo xl) F) (e : ∀ F2, J6 (tRo xl) F2 → PF (tRo xl) n 0 1253 [(3, .int x3), (2, .ref 129), (1, .ref 0), (0, .ref KB)] [] F2 (fun v _ => v = some (.int 1))) : PF (tRo xl) n 0 268 [(3, .int x3), (2, .ref 129), (1, .ref 0), (0, .ref KB)] [] F (fun v _ => v = some (.int 1)) := by
  refine (l_268 ?_).weak
  intros
  refine PF.imp (L_56 hJ) (fun v1 F1 j1 => ?_)
  intros
  exact PF.imp j1 (fun v2 F2 j2 _ _ => e F2 j2.2)
theorem c6_291 {x3 : Int32} (hJ : J6 (tRo xl) F) (e : ∀ F2, J6 (tRo xl) F2 → PF (tRo xl) n 0 1253 [(3, .int x3), (2, .ref 129), (1, .ref 0), (0, .ref KB)] [] F2 (fun v _ => v = some (.int 1))) : PF (tRo xl) n 0 291 [(3, .int x3), (2, .ref 129), (1, .ref 0), (0, .ref KB)] [] F (fun v _ => v = some (.int 1)) := by
  refine (l_291 ?_).weak
  intros
  refine PF.imp (L_62 hJ) (fun v1 F1 j1 => ?_)
  intros
  exact PF.imp j1 (fun v2 F2 j2 _ _ => e F2 j2.2)
theorem c6_324 {x3 : Int32} (hJ : J6 (tRo xl) F) (e : ∀ F2, J6 (tRo xl) F2 → PF (tRo xl) n 0 1253 [(3, .int x3), (2, .ref 129), (1, .ref 0), (0, .ref KB)] [] F2 (fun v _ => v = some (.int 1))) : PF (tRo xl) n 0 324 [(3, .int x3), (2, .ref 129), (1, .ref 0), (0, .ref KB)] [] F (fun v _ => v = some (.int 1)) := by
  refine (l_324 ?_).weak
  intros
  refine PF.imp (L_64 hJ) (fun v1 F1 j1 => ?_)
  intros
  exact PF.imp j1 (fun v2 F2 j2 _ _ => e F2 j2.2)
theorem c6_357 {x3 : Int32} (hJ : J6 (tRo xl) F) (e : ∀ F2, J6 (tRo xl) F2 → PF (tRo xl) n 0 1253 [(3, .int x3), (2, .ref 129), (1, .ref 0), (0, .ref KB)] [] F2 (fun v _ => v = some (.int 1))) : PF (tRo xl) n 0 357 [(3, .int x3), (2, .ref 129), (1, .ref 0), (0, .ref KB)] [] F (fun v _ => v = some (.int 1)) := by
  refine (l_357 ?_).weak
  intros
  refine PF.imp (L_66 hJ) (fun v1 F1 j1 => ?_)
  intros
  exact PF.imp j1 (fun v2 F2 j2 _ _ => e F2 j2.2)
theorem c6_380 {x3 : Int32} (hJ : J6 (tRo xl) F) (e : ∀ F2, J6 (tRo xl) F2 → PF (tRo xl) n 0 1253 [(3, .int x3), (2, .ref 129), (1, .ref 0), (0, .ref KB)] [] F2 (fun v _ => v = some (.int 1))) : PF (tRo xl) n 0 380 [(3, .int x3), (2, .ref 129), (1, .ref 0), (0, .ref KB)] [] F (fun v _ => v = some (.int 1)) := by
  refine (l_380 ?_).weak
  intros
  refine PF.imp (L_67 hJ) (fun v1 F1 j1 => ?_)
  intros
  exact PF.imp j1 (fun v2 F2 j2 _ _ => e F2 j2.2)
theorem c6_413 {x3 : Int32} (hJ : J6 (tRo xl) F) (e : ∀ F2, J6 (tRo xl) F2 → PF (tRo xl) n 0 1253 [(3, .int x3), (2, .ref 129), (1, .ref 0), (0, .ref KB)] [] F2 (fun v _ => v = some (.int 1))) : PF (tRo xl) n 0 413 [(3, .int x3), (2, .ref 129), (1, .ref 0), (0, .ref KB)] [] F (fun v _ => v = some (.int 1)) := by
  refine (l_413 ?_).weak
  intros
  refine PF.imp (L_69 hJ) (fun v1 F1 j1 => ?_)
  intros
  exact PF.imp j1 (fun v2 F2 j2 _ _ => e F2 j2.2)
theorem c6_446 {x3 : Int32} (hJ : J6 (tRo xl) F) (e : ∀ F2, J6 (tRo xl) F2 → PF (tRo xl) n 0 1253 [(3, .int x3), (2, .ref 129), (1, .ref 0), (0, .ref KB)] [] F2 (fun v _ => v = some (.int 1))) : PF (tRo xl) n 0 446 [(3, .int x3), (2, .ref 129), (1, .ref 0), (0, .ref KB)] [] F (fun v _ => v = some (.int 1)) := by
  refine (l_446 ?_).weak
  intros
  refine PF.imp (L_75 hJ) (fun v1 F1 j1 => ?_)
  intros
  exact PF.imp j1 (fun v2 F2 j2 _ _ => e F2 j2.2)
theorem c6_469 {x3 : Int32} (hJ : J6 (tRo xl) F) (e : ∀ F2, J6 (tRo xl) F2 → PF (tRo xl) n 0 1253 [(3, .int x3), (2, .ref 129), (1, .ref 0), (0, .ref KB)] [] F2 (fun v _ => v = some (.int 1))) : PF (tRo xl) n 0 469 [(3, .int x3), (2, .ref 129), (1, .ref 0), (0, .ref KB)] [] F (fun v _ => v = some (.int 1)) := by
  refine (l_469 ?_).weak
  intros
  refine PF.imp (L_81 hJ) (fun v1 F1 j1 => ?_)
  intros
  exact PF.imp j1 (fun v2 F2 j2 _ _ => e F2 j2.2)
theorem c6_492 {x3 : Int32} (hJ : J6 (tRo xl) F) (e : ∀ F2, J6 (tRo xl) F2 → PF (tRo xl) n 0 1253 [(3, .int x3), (2, .ref 129), (1, .ref 0), (0, .ref KB)] [] F2 (fun v _ => v = some (.int 1))) : PF (tRo xl) n 0 492 [(3, .int x3), (2, .ref 129), (1, .ref 0), (0, .ref KB)] [] F (fun v _ => v = some (.int 1)) := by
  refine (l_492 ?_).weak
  intros
  refine PF.imp (L_82 hJ) (fun v1 F1 j1 => ?_)
  intros
  exact PF.imp j1 (fun v2 F2 j2 _ _ => e F2 j2.2)
theorem c6_535 {x3 : Int32} (hJ : J6 (tRo xl) F) (e : ∀ F2, J6 (tRo xl) F2 → PF (tRo xl) n 0 1253 [(3, .int x3), (2, .ref 129), (1, .ref 0), (0, .ref KB)] [] F2 (fun v _ => v = some (.int 1))) : PF (tRo xl) n 0 535 [(3, .int x3), (2, .ref 129), (1, .ref 0), (0, .ref KB)] [] F (fun v _ => v = some (.int 1)) := by
  refine (l_535 ?_).weak
  intros
  refine ⟨fun c => ?_, fun c => ?_⟩
  · refine PF.imp (L_83 (x3 := 0) (Or.inl rfl) hJ) (fun v1 F1 j1 => ?_)
    intros
    exact ⟨fun _ => PF.imp j1 (fun v2 F2 j2 _ _ => e F2 j2.2), fun c2 => absurd c c2⟩
  · refine PF.imp (L_83 (x3 := 1) (Or.inr rfl) hJ) (fun v1 F1 j1 => ?_)
    intros
    exact ⟨fun c2 => absurd c2 c, fun _ => PF.imp j1 (fun v2 F2 j2 _ _ => e F2 j2.2)⟩
theorem c6_594 {x3 : Int32} (hJ : J6 (tRo xl) F) (e : ∀ F2, J6 (tRo xl) F2 → PF (tRo xl) n 0 1253 [(3, .int x3), (2, .ref 129), (1, .ref 0), (0, .ref KB)] [] F2 (fun v _ => v = some (.int 1))) : PF (tRo xl) n 0 594 [(3, .int x3), (2, .ref 129), (1, .ref 0), (0, .ref KB)] [] F (fun v _ => v = some (.int 1)) := by
  refine (l_594 ?_).weak
  intros
  refine PF.imp (L_84 hJ) (fun v1 F1 j1 => ?_)
  intros
  exact PF.imp j1 (fun v2 F2 j2 _ _ => e F2 j2.2)
theorem c6_617 {x3 : Int32} (hJ : J6 (tRo xl) F) (e : ∀ F2, J6 (tRo xl) F2 → PF (tRo xl) n 0 1253 [(3, .int x3), (2, .ref 129), (1, .ref 0), (0, .ref KB)] [] F2 (fun v _ => v = some (.int 1))) : PF (tRo xl) n 0 617 [(3, .int x3), (2, .ref 129), (1, .ref 0), (0, .ref KB)] [] F (fun v _ => v = some (.int 1)) := by
  refine (l_617 ?_).weak
  intros
  refine PF.imp (L_85 hJ) (fun v1 F1 j1 => ?_)
  intros
  exact PF.imp j1 (fun v2 F2 j2 _ _ => e F2 j2.2)
theorem c6_640 {x3 : Int32} (hJ : J6 (tRo xl) F) (e : ∀ F2, J6 (tRo xl) F2 → PF (tRo xl) n 0 1253 [(3, .int x3), (2, .ref 129), (1, .ref 0), (0, .ref KB)] [] F2 (fun v _ => v = some (.int 1))) : PF (tRo xl) n 0 640 [(3, .int x3), (2, .ref 129), (1, .ref 0), (0, .ref KB)] [] F (fun v _ => v = some (.int 1)) := by
  refine (l_640 ?_).weak
  intros
  refine PF.imp (L_86 hJ) (fun v1 F1 j1 => ?_)
  intros
  exact PF.imp j1 (fun v2 F2 j2 _ _ => e F2 j2)
theorem c6_663 {x3 : Int32} (hJ : J6 (tRo xl) F) (e : ∀ F2, J6 (tRo xl) F2 → PF (tRo xl) n 0 1253 [(3, .int x3), (2, .ref 129), (1, .ref 0), (0, .ref KB)] [] F2 (fun v _ => v = some (.int 1))) : PF (tRo xl) n 0 663 [(3, .int x3), (2, .ref 129), (1, .ref 0), (0, .ref KB)] [] F (fun v _ => v = some (.int 1)) := by
  refine (l_663 ?_).weak
  intros
  refine PF.imp (L_93 hJ) (fun v1 F1 j1 => ?_)
  intros
  exact PF.imp j1 (fun v2 F2 j2 _ _ => e F2 j2)
theorem c6_686 {x3 : Int32} (hJ : J6 (tRo xl) F) (e : ∀ F2, J6 (tRo xl) F2 → PF (tRo xl) n 0 1253 [(3, .int x3), (2, .ref 129), (1, .ref 0), (0, .ref KB)] [] F2 (fun v _ => v = some (.int 1))) : PF (tRo xl) n 0 686 [(3, .int x3), (2, .ref 129), (1, .ref 0), (0, .ref KB)] [] F (fun v _ => v = some (.int 1)) := by
  refine (l_686 ?_).weak
  intros
  refine PF.imp (L_94 hJ) (fun v1 F1 j1 => ?_)
  intros
  exact PF.imp j1 (fun v2 F2 j2 _ _ => e F2 j2)
theorem c6_709 {x3 : Int32} (hJ : J6 (tRo xl) F) (e : ∀ F2, J6 (tRo xl) F2 → PF (tRo xl) n 0 1253 [(3, .int x3), (2, .ref 129), (1, .ref 0), (0, .ref KB)] [] F2 (fun v _ => v = some (.int 1))) : PF (tRo xl) n 0 709 [(3, .int x3), (2, .ref 129), (1, .ref 0), (0, .ref KB)] [] F (fun v _ => v = some (.int 1)) := by
  refine (l_709 ?_).weak
  intros
  refine PF.imp (L_95 hJ) (fun v1 F1 j1 => ?_)
  intros
  exact PF.imp j1 (fun v2 F2 j2 _ _ => e F2 j2)
theorem c6_742 {x3 : Int32} (hJ : J6 (tRo xl) F) (e : ∀ F2, J6 (tRo xl) F2 → PF (tRo xl) n 0 1253 [(3, .int x3), (2, .ref 129), (1, .ref 0), (0, .ref KB)] [] F2 (fun v _ => v = some (.int 1))) : PF (tRo xl) n 0 742 [(3, .int x3), (2, .ref 129), (1, .ref 0), (0, .ref KB)] [] F (fun v _ => v = some (.int 1)) := by
  refine (l_742 ?_).weak
  intros
  refine PF.imp (L_107 hJ) (fun v1 F1 j1 => ?_)
  intros
  exact PF.imp j1 (fun v2 F2 j2 _ _ => e F2 j2)
theorem c6_765 {x3 : Int32} (hJ : J6 (tRo xl) F) (e : ∀ F2, J6 (tRo xl) F2 → PF (tRo xl) n 0 1253 [(3, .int x3), (2, .ref 129), (1, .ref 0), (0, .ref KB)] [] F2 (fun v _ => v = some (.int 1))) : PF (tRo xl) n 0 765 [(3, .int x3), (2, .ref 129), (1, .ref 0), (0, .ref KB)] [] F (fun v _ => v = some (.int 1)) := by
  refine (l_765 ?_).weak
  intros
  refine PF.imp (L_109 hJ) (fun v1 F1 j1 => ?_)
  intros
  exact PF.imp j1 (fun v2 F2 j2 _ _ => e F2 j2.2)
theorem c6_788 {x3 : Int32} (hJ : J6 (tRo xl) F) (e : ∀ F2, J6 (tRo xl) F2 → PF (tRo xl) n 0 1253 [(3, .int x3), (2, .ref 129), (1, .ref 0), (0, .ref KB)] [] F2 (fun v _ => v = some (.int 1))) : PF (tRo xl) n 0 788 [(3, .int x3), (2, .ref 129), (1, .ref 0), (0, .ref KB)] [] F (fun v _ => v = some (.int 1)) := by
  refine (l_788 ?_).weak
  intros
  refine PF.imp (L_111 hJ) (fun v1 F1 j1 => ?_)
  intros
  exact PF.imp j1 (fun v2 F2 j2 _ _ => e F2 j2.2)
theorem c6_831 {x3 : Int32} (hJ : J6 (tRo xl) F) (e : ∀ F2, J6 (tRo xl) F2 → PF (tRo xl) n 0 1253 [(3, .int x3), (2, .ref 129), (1, .ref 0), (0, .ref KB)] [] F2 (fun v _ => v = some (.int 1))) : PF (tRo xl) n 0 831 [(3, .int x3), (2, .ref 129), (1, .ref 0), (0, .ref KB)] [] F (fun v _ => v = some (.int 1)) := by
  refine (l_831 ?_).weak
  intros
  refine PF.imp (L_113 hJ) (fun v1 F1 j1 => ?_)
  intros
  exact PF.imp j1 (fun v2 F2 j2 _ _ => e F2 j2.2)
theorem c6_854 {x3 : Int32} (hJ : J6 (tRo xl) F) (e : ∀ F2, J6 (tRo xl) F2 → PF (tRo xl) n 0 1253 [(3, .int x3), (2, .ref 129), (1, .ref 0), (0, .ref KB)] [] F2 (fun v _ => v = some (.int 1))) : PF (tRo xl) n 0 854 [(3, .int x3), (2, .ref 129), (1, .ref 0), (0, .ref KB)] [] F (fun v _ => v = some (.int 1)) := by
  refine (l_854 ?_).weak
  intros
  refine PF.imp (L_114 hJ) (fun v1 F1 j1 => ?_)
  intros
  exact PF.imp j1 (fun v2 F2 j2 _ _ => e F2 j2)
theorem c6_877 {x3 : Int32} (hJ : J6 (tRo xl) F) (e : ∀ F2, J6 (tRo xl) F2 → PF (tRo xl) n 0 1253 [(3, .int x3), (2, .ref 129), (1, .ref 0), (0, .ref KB)] [] F2 (fun v _ => v = some (.int 1))) : PF (tRo xl) n 0 877 [(3, .int x3), (2, .ref 129), (1, .ref 0), (0, .ref KB)] [] F (fun v _ => v = some (.int 1)) := by
  refine (l_877 ?_).weak
  intros
  refine PF.imp (L_117 hJ) (fun v1 F1 j1 => ?_)
  intros
  exact PF.imp j1 (fun v2 F2 j2 _ _ => e F2 j2)
theorem c6_890 {x3 : Int32} (hJ : J6 (tRo xl) F) (e : ∀ F2, J6 (tRo xl) F2 → PF (tRo xl) n 0 1253 [(3, .int x3), (2, .ref 129), (1, .ref 0), (0, .ref KB)] [] F2 (fun v _ => v = some (.int 1))) : PF (tRo xl) n 0 890 [(3, .int x3), (2, .ref 129), (1, .ref 0), (0, .ref KB)] [] F (fun v _ => v = some (.int 1)) := by
  refine (l_890 ?_).weak
  intros
  refine PF.imp (L_118 hJ) (fun v1 F1 j1 => ?_)
  intros
  exact PF.imp j1 (fun v2 F2 j2 _ _ => e F2 j2)
theorem c6_913 {x3 : Int32} (hJ : J6 (tRo xl) F) (e : ∀ F2, J6 (tRo xl) F2 → PF (tRo xl) n 0 1253 [(3, .int x3), (2, .ref 129), (1, .ref 0), (0, .ref KB)] [] F2 (fun v _ => v = some (.int 1))) : PF (tRo xl) n 0 913 [(3, .int x3), (2, .ref 129), (1, .ref 0), (0, .ref KB)] [] F (fun v _ => v = some (.int 1)) := by
  refine (l_913 ?_).weak
  intros
  refine PF.imp (L_121 hJ) (fun v1 F1 j1 => ?_)
  intros
  exact PF.imp j1 (fun v2 F2 j2 _ _ => e F2 j2)
theorem c6_956 {x3 : Int32} (hJ : J6 (tRo xl) F) (e : ∀ F2, J6 (tRo xl) F2 → PF (tRo xl) n 0 1253 [(3, .int x3), (2, .ref 129), (1, .ref 0), (0, .ref KB)] [] F2 (fun v _ => v = some (.int 1))) : PF (tRo xl) n 0 956 [(3, .int x3), (2, .ref 129), (1, .ref 0), (0, .ref KB)] [] F (fun v _ => v = some (.int 1)) := by
  refine (l_956 ?_).weak
  intros
  refine PF.imp (L_127 hJ) (fun v1 F1 j1 => ?_)
  intros
  exact PF.imp j1 (fun v2 F2 j2 _ _ => e F2 j2)
theorem c6_989 {x3 : Int32} (hJ : J6 (tRo xl) F) (e : ∀ F2, J6 (tRo xl) F2 → PF (tRo xl) n 0 1253 [(3, .int x3), (2, .ref 129), (1, .ref 0), (0, .ref KB)] [] F2 (fun v _ => v = some (.int 1))) : PF (tRo xl) n 0 989 [(3, .int x3), (2, .ref 129), (1, .ref 0), (0, .ref KB)] [] F (fun v _ => v = some (.int 1)) := by
  refine (l_989 ?_).weak
  intros
  refine PF.imp (L_128 hJ) (fun v1 F1 j1 => ?_)
  intros
  exact PF.imp j1 (fun v2 F2 j2 _ _ => e F2 j2)
theorem c6_1032 {x3 : Int32} (hJ : J6 (tRo xl) F) (e : ∀ F2, J6 (tRo xl) F2 → PF (tRo xl) n 0 1253 [(3, .int x3), (2, .ref 129), (1, .ref 0), (0, .ref KB)] [] F2 (fun v _ => v = some (.int 1))) : PF (tRo xl) n 0 1032 [(3, .int x3), (2, .ref 129), (1, .ref 0), (0, .ref KB)] [] F (fun v _ => v = some (.int 1)) := by
  refine (l_1032 ?_).weak
  intros
  refine PF.imp (L_130 hJ) (fun v1 F1 j1 => ?_)
  intros
  exact PF.imp j1 (fun v2 F2 j2 _ _ => e F2 j2.2)
theorem c6_1055 {x3 : Int32} (hJ : J6 (tRo xl) F) (e : ∀ F2, J6 (tRo xl) F2 → PF (tRo xl) n 0 1253 [(3, .int x3), (2, .ref 129), (1, .ref 0), (0, .ref KB)] [] F2 (fun v _ => v = some (.int 1))) : PF (tRo xl) n 0 1055 [(3, .int x3), (2, .ref 129), (1, .ref 0), (0, .ref KB)] [] F (fun v _ => v = some (.int 1)) := by
  refine (l_1055 ?_).weak
  intros
  refine PF.imp (L_131 hJ) (fun v1 F1 j1 => ?_)
  intros
  exact PF.imp j1 (fun v2 F2 j2 _ _ => e F2 j2.2)
theorem c6_1078 {x3 : Int32} (hJ : J6 (tRo xl) F) (e : ∀ F2, J6 (tRo xl) F2 → PF (tRo xl) n 0 1253 [(3, .int x3), (2, .ref 129), (1, .ref 0), (0, .ref KB)] [] F2 (fun v _ => v = some (.int 1))) : PF (tRo xl) n 0 1078 [(3, .int x3), (2, .ref 129), (1, .ref 0), (0, .ref KB)] [] F (fun v _ => v = some (.int 1)) := by
  refine (l_1078 ?_).weak
  intros
  refine PF.imp (L_132 hJ) (fun v1 F1 j1 => ?_)
  intros
  exact PF.imp j1 (fun v2 F2 j2 _ _ => e F2 j2.2)
theorem c6_1121 {x3 : Int32} (hJ : J6 (tRo xl) F) (e : ∀ F2, J6 (tRo xl) F2 → PF (tRo xl) n 0 1253 [(3, .int x3), (2, .ref 129), (1, .ref 0), (0, .ref KB)] [] F2 (fun v _ => v = some (.int 1))) : PF (tRo xl) n 0 1121 [(3, .int x3), (2, .ref 129), (1, .ref 0), (0, .ref KB)] [] F (fun v _ => v = some (.int 1)) := by
  refine (l_1121 ?_).weak
  intros
  refine PF.imp (L_136 hJ) (fun v1 F1 j1 => ?_)
  intros
  exact PF.imp j1 (fun v2 F2 j2 _ _ => e F2 j2.2)
theorem c6_1164 {x3 : Int32} (hJ : J6 (tRo xl) F) (e : ∀ F2, J6 (tRo xl) F2 → PF (tRo xl) n 0 1253 [(3, .int x3), (2, .ref 129), (1, .ref 0), (0, .ref KB)] [] F2 (fun v _ => v = some (.int 1))) : PF (tRo xl) n 0 1164 [(3, .int x3), (2, .ref 129), (1, .ref 0), (0, .ref KB)] [] F (fun v _ => v = some (.int 1)) := by
  refine (l_1164 ?_).weak
  intros
  refine PF.imp (L_139 hJ) (fun v1 F1 j1 => ?_)
  intros
  exact PF.imp j1 (fun v2 F2 j2 _ _ => e F2 j2.2)
theorem c6_1217 {x3 : Int32} (hJ : J6 (tRo xl) F) (e : ∀ F2, J6 (tRo xl) F2 → PF (tRo xl) n 0 1253 [(3, .int x3), (2, .ref 129), (1, .ref 0), (0, .ref KB)] [] F2 (fun v _ => v = some (.int 1))) : PF (tRo xl) n 0 1217 [(3, .int x3), (2, .ref 129), (1, .ref 0), (0, .ref KB)] [] F (fun v _ => v = some (.int 1)) := by
  refine (l_1217 ?_).weak
  intros
  refine PF.imp (L_142 hJ) (fun v1 F1 j1 => ?_)
  intros
  exact PF.imp j1 (fun v2 F2 j2 _ _ => e F2 j2.2)
theorem c6_1230 {x3 : Int32} (hJ : J6 (tRo xl) F) (e : ∀ F2, J6 (tRo xl) F2 → PF (tRo xl) n 0 1253 [(3, .int x3), (2, .ref 129), (1, .ref 0), (0, .ref KB)] [] F2 (fun v _ => v = some (.int 1))) : PF (tRo xl) n 0 1230 [(3, .int x3), (2, .ref 129), (1, .ref 0), (0, .ref KB)] [] F (fun v _ => v = some (.int 1)) := by
  refine (l_1230 ?_).weak
  intros
  refine PF.imp (L_143 hJ) (fun v1 F1 j1 => ?_)
  intro r1 e1
  intros
  refine PF.imp j1 (fun v2 F2 j2 => ?_)
  intro r2 e2
  have er : r1 = r2 := by
    have t : v1 = v2 := j2.1
    rw [e1, e2] at t
    cases t; rfl
  exact ⟨fun _ => e F2 j2.2, fun hn => absurd er hn⟩
theorem law_PF6 : ∀ (n : Nat) (F : MH) (x3 : Int32), J6 (tRo xl) F → PF (tRo xl) n 0 18 [(3, .int x3), (2, .ref 129), (1, .ref 0), (0, .ref KB)] [] F (fun v _ => v = some (.int 1)) := by
  intro n
  induction n with
  | zero => intro F x3 _; exact PF.zero
  | succ n ih =>
    intro F x3 hJ
    have e : ∀ F2, J6 (tRo xl) F2 → PF (tRo xl) n 0 1253 [(3, .int x3), (2, .ref 129), (1, .ref 0), (0, .ref KB)] [] F2 (fun v _ => v = some (.int 1)) := fun F2 h2 => (l_1253 (ih F2 _ h2)).weak
    exact l_18 ⟨fun _ => rfl, fun _ _ _ => ⟨fun _ => c6_196 hJ (fun F2 h2 => e F2 h2), fun _ => c6_219 hJ (fun F2 h2 => e F2 h2), fun _ => c6_242 hJ (fun F2 h2 => e F2 h2), fun _ => c6_255 hJ (fun F2 h2 => e F2 h2), fun _ => c6_268 hJ (fun F2 h2 => e F2 h2), fun _ => c6_291 hJ (fun F2 h2 => e F2 h2), fun _ => c6_324 hJ (fun F2 h2 => e F2 h2), fun _ => c6_357 hJ (fun F2 h2 => e F2 h2), fun _ => c6_380 hJ (fun F2 h2 => e F2 h2), fun _ => c6_413 hJ (fun F2 h2 => e F2 h2), fun _ => c6_446 hJ (fun F2 h2 => e F2 h2), fun _ => c6_469 hJ (fun F2 h2 => e F2 h2), fun _ => c6_492 hJ (fun F2 h2 => e F2 h2), fun _ => c6_535 hJ (fun F2 h2 => e F2 h2), fun _ => c6_594 hJ (fun F2 h2 => e F2 h2), fun _ => c6_617 hJ (fun F2 h2 => e F2 h2), fun _ => c6_640 hJ (fun F2 h2 => e F2 h2), fun _ => c6_663 hJ (fun F2 h2 => e F2 h2), fun _ => c6_686 hJ (fun F2 h2 => e F2 h2), fun _ => c6_709 hJ (fun F2 h2 => e F2 h2), fun _ => c6_742 hJ (fun F2 h2 => e F2 h2), fun _ => c6_765 hJ (fun F2 h2 => e F2 h2), fun _ => c6_788 hJ (fun F2 h2 => e F2 h2), fun _ => c6_831 hJ (fun F2 h2 => e F2 h2), fun _ => c6_854 hJ (fun F2 h2 => e F2 h2), fun _ => c6_877 hJ (fun F2 h2 => e F2 h2), fun _ => c6_890 hJ (fun F2 h2 => e F2 h2), fun _ => c6_913 hJ (fun F2 h2 => e F2 h2), fun _ => c6_956 hJ (fun F2 h2 => e F2 h2), fun _ => c6_989 hJ (fun F2 h2 => e F2 h2), fun _ => c6_1032 hJ (fun F2 h2 => e F2 h2), fun _ => c6_1055 hJ (fun F2 h2 => e F2 h2), fun _ => c6_1078 hJ (fun F2 h2 => e F2 h2), fun _ => c6_1121 hJ (fun F2 h2 => e F2 h2), fun _ => c6_1164 hJ (fun F2 h2 => e F2 h2), fun _ => c6_1217 hJ (fun F2 h2 => e F2 h2), fun _ => c6_1230 hJ (fun F2 h2 => e F2 h2), fun _ => e F hJ⟩⟩
end Calls
end
