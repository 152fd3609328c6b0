/-! THE LAW, place by place (written by a program) -/
theorem l_18 {xl : List Int32} {n : Nat} {F : MH} {Q : Option Value → MH → Prop} {x3 : Int32} (h : ((((Int32.ofNat xl.length) - 5) < x3 → Q (some (.int 1)) F) ∧ (¬ ((Int32.ofNat xl.length) - 5) < x3 → (0 ≤ x3.toInt → x3.toInt < xl.length → ((((xl.getD x3.toNatClampNeg 0) &&& 63).toInt = 0 → PF (tRo xl) n 0 196 [(3, .int x3), (2, .ref 129), (1, .ref 0), (0, .ref KB)] [] F Q) ∧ (((xl.getD x3.toNatClampNeg 0) &&& 63).toInt = 1 → PF (tRo xl) n 0 219 [(3, .int x3), (2, .ref 129), (1, .ref 0), (0, .ref KB)] [] F Q) ∧ (((xl.getD x3.toNatClampNeg 0) &&& 63).toInt = 2 → PF (tRo xl) n 0 242 [(3, .int x3), (2, .ref 129), (1, .ref 0), (0, .ref KB)] [] F Q) ∧ (((xl.getD x3.toNatClampNeg 0) &&& 63).toInt = 3 → PF (tRo xl) n 0 255 [(3, .int x3), (2, .ref 129), (1, .ref 0), (0, .ref KB)] [] F Q) ∧ (((xl.getD x3.toNatClampNeg 0) &&& 63).toInt = 4 → PF (tRo xl) n 0 268 [(3, .int x3), (2, .ref 129), (1, .ref 0), (0, .ref KB)] [] F Q) ∧ (((xl.getD x3.toNatClampNeg 0) &&& 63).toInt = 5 → PF (tRo xl) n 0 291 [(3, .int x3), (2, .ref 129), (1, .ref 0), (0, .ref KB)] [] F Q) ∧ (((xl.getD x3.toNatClampNeg 0) &&& 63).toInt = 6 → PF (tRo xl) n 0 324 [(3, .int x3), (2, .ref 129), (1, .ref 0), (0, .ref KB)] [] F Q) ∧ (((xl.getD x3.toNatClampNeg 0) &&& 63).toInt = 7 → PF (tRo xl) n 0 357 [(3, .int x3), (2, .ref 129), (1, .ref 0), (0, .ref KB)] [] F Q) ∧ (((xl.getD x3.toNatClampNeg 0) &&& 63).toInt = 8 → PF (tRo xl) n 0 380 [(3, .int x3), (2, .ref 129), (1, .ref 0), (0, .ref KB)] [] F Q) ∧ (((xl.getD x3.toNatClampNeg 0) &&& 63).toInt = 9 → PF (tRo xl) n 0 413 [(3, .int x3), (2, .ref 129), (1, .ref 0), (0, .ref KB)] [] F Q) ∧ (((xl.getD x3.toNatClampNeg 0) &&& 63).toInt = 10 → PF (tRo xl) n 0 446 [(3, .int x3), (2, .ref 129), (1, .ref 0), (0, .ref KB)] [] F Q) ∧ (((xl.getD x3.toNatClampNeg 0) &&& 63).toInt = 11 → PF (tRo xl) n 0 469 [(3, .int x3), (2, .ref 129), (1, .ref 0), (0, .ref KB)] [] F Q) ∧ (((xl.getD x3.toNatClampNeg 0) &&& 63).toInt = 12 → PF (tRo xl) n 0 492 [(3, .int x3), (2, .ref 129), (1, .ref 0), (0, .ref KB)] [] F Q) ∧ (((xl.getD x3.toNatClampNeg 0) &&& 63).toInt = 13 → PF (tRo xl) n 0 535 [(3, .int x3), (2, .ref 129), (1, .ref 0), (0, .ref KB)] [] F Q) ∧ (((xl.getD x3.toNatClampNeg 0) &&& 63).toInt = 14 → PF (tRo xl) n 0 594 [(3, .int x3), (2, .ref 129), (1, .ref 0), (0, .ref KB)] [] F Q) ∧ (((xl.getD x3.toNatClampNeg 0) &&& 63).toInt = 15 → PF (tRo xl) n 0 617 [(3, .int x3), (2, .ref 129), (1, .ref 0), (0, .ref KB)] [] F Q) ∧ (((xl.getD x3.toNatClampNeg 0) &&& 63).toInt = 16 → PF (tRo xl) n 0 640 [(3, .int x3), (2, .ref 129), (1, .ref 0), (0, .ref KB)] [] F Q) ∧ (((xl.getD x3.toNatClampNeg 0) &&& 63).toInt = 17 → PF (tRo xl) n 0 663 [(3, .int x3), (2, .ref 129), (1, .ref 0), (0, .ref KB)] [] F Q) ∧ (((xl.getD x3.toNatClampNeg 0) &&& 63).toInt = 18 → PF (tRo xl) n 0 686 [(3, .int x3), (2, .ref 129), (1, .ref 0), (0, .ref KB)] [] F Q) ∧ (((xl.getD x3.toNatClampNeg 0) &&& 63).toInt = 19 → PF (tRo xl) n 0 709 [(3, .int x3), (2, .ref 129), (1, .ref 0), (0, .ref KB)] [] F Q) ∧ (((xl.getD x3.toNatClampNeg 0) &&& 63).toInt = 20 → PF (tRo xl) n 0 742 [(3, .int x3), (2, .ref 129), (1, .ref 0), (0, .ref KB)] [] F Q) ∧ (((xl.getD x3.toNatClampNeg 0) &&& 63).toInt = 21 → PF (tRo xl) n 0 765 [(3, .int x3), (2, .ref 129), (1, .ref 0), (0, .ref KB)] [] F Q) ∧ (((xl.getD x3.toNatClampNeg 0) &&& 63).toInt = 22 → PF (tRo xl) n 0 788 [(3, .int x3), (2, .ref 129), (1, .ref 0), (0, .ref KB)] [] F Q) ∧ (((xl.getD x3.toNatClampNeg 0) &&& 63).toInt = 23 → PF (tRo xl) n 0 831 [(3, .int x3), (2, .ref 129), (1, .ref 0), (0, .ref KB)] [] F Q) ∧ (((xl.getD x3.toNatClampNeg 0) &&& 63).toInt = 24 → PF (tRo xl) n 0 854 [(3, .int x3), (2, .ref 129), (1, .ref 0), (0, .ref KB)] [] F Q) ∧ (((xl.getD x3.toNatClampNeg 0) &&& 63).toInt = 25 → PF (tRo xl) n 0 877 [(3, .int x3), (2, .ref 129), (1, .ref 0), (0, .ref KB)] [] F Q) ∧ (((xl.getD x3.toNatClampNeg 0) &&& 63).toInt = 26 → PF (tRo xl) n 0 890 [(3, .int x3), (2, .ref 129), (1, .ref 0), (0, .ref KB)] [] F Q) ∧ (((xl.getD x3.toNatClampNeg 0) &&& 63).toInt = 27 → PF (tRo xl) n 0 913 [(3, .int x3), (2, .ref 129), (1, .ref 0), (0, .ref KB)] [] F Q) ∧ (((xl.getD x3.toNatClampNeg 0) &&& 63).toInt = 28 → PF (tRo xl) n 0 956 [(3, .int x3), (2, .ref 129), (1, .ref 0), (0, .ref KB)] [] F Q) ∧ (((xl.getD x3.toNatClampNeg 0) &&& 63).toInt = 29 → PF (tRo xl) n 0 989 [(3, .int x3), (2, .ref 129), (1, .ref 0), (0, .ref KB)] [] F Q) ∧ (((xl.getD x3.toNatClampNeg 0) &&& 63).toInt = 30 → PF (tRo xl) n 0 1032 [(3, .int x3), (2, .ref 129), (1, .ref 0), (0, .ref KB)] [] F Q) ∧ (((xl.getD x3.toNatClampNeg 0) &&& 63).toInt = 31 → PF (tRo xl) n 0 1055 [(3, .int x3), (2, .ref 129), (1, .ref 0), (0, .ref KB)] [] F Q) ∧ (((xl.getD x3.toNatClampNeg 0) &&& 63).toInt = 32 → PF (tRo xl) n 0 1078 [(3, .int x3), (2, .ref 129), (1, .ref 0), (0, .ref KB)] [] F Q) ∧ (((xl.getD x3.toNatClampNeg 0) &&& 63).toInt = 33 → PF (tRo xl) n 0 1121 [(3, .int x3), (2, .ref 129), (1, .ref 0), (0, .ref KB)] [] F Q) ∧ (((xl.getD x3.toNatClampNeg 0) &&& 63).toInt = 34 → PF (tRo xl) n 0 1164 [(3, .int x3), (2, .ref 129), (1, .ref 0), (0, .ref KB)] [] F Q) ∧ (((xl.getD x3.toNatClampNeg 0) &&& 63).toInt = 35 → PF (tRo xl) n 0 1217 [(3, .int x3), (2, .ref 129), (1, .ref 0), (0, .ref KB)] [] F Q) ∧ (((xl.getD x3.toNatClampNeg 0) &&& 63).toInt = 36 → PF (tRo xl) n 0 1230 [(3, .int x3), (2, .ref 129), (1, .ref 0), (0, .ref KB)] [] F Q) ∧ ((((xl.getD x3.toNatClampNeg 0) &&& 63).toInt < 0 ∨ 36 < ((xl.getD x3.toNatClampNeg 0) &&& 63).toInt) → PF (tRo xl) n 0 1253 [(3, .int x3), (2, .ref 129), (1, .ref 0), (0, .ref KB)] [] F Q)))))) : PF (tRo xl) (n + 1) 0 18 [(3, .int x3), (2, .ref 129), (1, .ref 0), (0, .ref KB)] [] F Q := by
  refine PF.pr1 (k := 0) (pc' := 19) (lv' := [(3, .int x3), (2, .ref 129), (1, .ref 0), (0, .ref KB)]) (st' := [.int x3]) rfl ?_
  refine PF.pr (k := 1) (pc' := 20) (lv' := [(3, .int x3), (2, .ref 129), (1, .ref 0), (0, .ref KB)]) (st' := [.ref KB, .int x3]) rfl ?_
  refine PF.sln rfl ?_
  refine PF.pr (k := 1) (pc' := 22) (lv' := [(3, .int x3), (2, .ref 129), (1, .ref 0), (0, .ref KB)]) (st' := [.int 5, .int (Int32.ofNat xl.length), .int x3]) rfl ?_
  refine PF.pr (k := 1) (pc' := 23) (lv' := [(3, .int x3), (2, .ref 129), (1, .ref 0), (0, .ref KB)]) (st' := [.int ((Int32.ofNat xl.length) - 5), .int x3]) rfl ?_
  refine PF.if2 (t := 1259) rfl rfl (fun c => ?_) (fun c => ?_)
  · have h := h.1 (cmp_gt.1.mp c)
    refine PF.pr (k := 1) (pc' := 1260) (lv' := [(3, .int x3), (2, .ref 129), (1, .ref 0), (0, .ref KB)]) (st' := [.int 1]) rfl ?_
    exact PF.retI rfl h
  · have h := h.2 (cmp_gt.2.mp c)
    refine PF.pr (k := 1) (pc' := 27) (lv' := [(3, .int x3), (2, .ref 129), (1, .ref 0), (0, .ref KB)]) (st' := [.ref KB]) rfl ?_
    refine PF.pr (k := 1) (pc' := 28) (lv' := [(3, .int x3), (2, .ref 129), (1, .ref 0), (0, .ref KB)]) (st' := [.int x3, .ref KB]) rfl ?_
    refine PF.scr rfl (fun c1 c2 => ?_)
    have h := h c1 c2
    refine PF.pr (k := 1) (pc' := 31) (lv' := [(3, .int x3), (2, .ref 129), (1, .ref 0), (0, .ref KB)]) (st' := [.int 63, .int (xl.getD x3.toNatClampNeg 0)]) rfl ?_
    refine PF.pr (k := 1) (pc' := 32) (lv' := [(3, .int x3), (2, .ref 129), (1, .ref 0), (0, .ref KB)]) (st' := [.int ((xl.getD x3.toNatClampNeg 0) &&& 63)]) rfl ?_
    refine PF.tsw rfl (fun i off t ho ht hx => ?_) (fun t ht hx => ?_)
    · match i, ho, hx with
      | 0, ho, hx =>
        obtain rfl : (164 : Int) = off := Option.some.inj ho
        obtain rfl : 196 = t := Option.some.inj ht
        have h := h.1 (by simpa using hx)
        exact h
      | 1, ho, hx =>
        obtain rfl : (187 : Int) = off := Option.some.inj ho
        obtain rfl : 219 = t := Option.some.inj ht
        have h := h.2.1 (by simpa using hx)
        exact h
      | 2, ho, hx =>
        obtain rfl : (210 : Int) = off := Option.some.inj ho
        obtain rfl : 242 = t := Option.some.inj ht
        have h := h.2.2.1 (by simpa using hx)
        exact h
      | 3, ho, hx =>
        obtain rfl : (223 : Int) = off := Option.some.inj ho
        obtain rfl : 255 = t := Option.some.inj ht
        have h := h.2.2.2.1 (by simpa using hx)
        exact h
      | 4, ho, hx =>
        obtain rfl : (236 : Int) = off := Option.some.inj ho
        obtain rfl : 268 = t := Option.some.inj ht
        have h := h.2.2.2.2.1 (by simpa using hx)
        exact h
      | 5, ho, hx =>
        obtain rfl : (259 : Int) = off := Option.some.inj ho
        obtain rfl : 291 = t := Option.some.inj ht
        have h := h.2.2.2.2.2.1 (by simpa using hx)
        exact h
      | 6, ho, hx =>
        obtain rfl : (292 : Int) = off := Option.some.inj ho
        obtain rfl : 324 = t := Option.some.inj ht
        have h := h.2.2.2.2.2.2.1 (by simpa using hx)
        exact h
      | 7, ho, hx =>
        obtain rfl : (325 : Int) = off := Option.some.inj ho
        obtain rfl : 357 = t := Option.some.inj ht
        have h := h.2.2.2.2.2.2.2.1 (by simpa using hx)
        exact h
      | 8, ho, hx =>
        obtain rfl : (348 : Int) = off := Option.some.inj ho
        obtain rfl : 380 = t := Option.some.inj ht
        have h := h.2.2.2.2.2.2.2.2.1 (by simpa using hx)
        exact h
      | 9, ho, hx =>
        obtain rfl : (381 : Int) = off := Option.some.inj ho
        obtain rfl : 413 = t := Option.some.inj ht
        have h := h.2.2.2.2.2.2.2.2.2.1 (by simpa using hx)
        exact h
      | 10, ho, hx =>
        obtain rfl : (414 : Int) = off := Option.some.inj ho
        obtain rfl : 446 = t := Option.some.inj ht
        have h := h.2.2.2.2.2.2.2.2.2.2.1 (by simpa using hx)
        exact h
      | 11, ho, hx =>
        obtain rfl : (437 : Int) = off := Option.some.inj ho
        obtain rfl : 469 = t := Option.some.inj ht
        have h := h.2.2.2.2.2.2.2.2.2.2.2.1 (by simpa using hx)
        exact h
      | 12, ho, hx =>
        obtain rfl : (460 : Int) = off := Option.some.inj ho
        obtain rfl : 492 = t := Option.some.inj ht
        have h := h.2.2.2.2.2.2.2.2.2.2.2.2.1 (by simpa using hx)
        exact h
      | 13, ho, hx =>
        obtain rfl : (503 : Int) = off := Option.some.inj ho
        obtain rfl : 535 = t := Option.some.inj ht
        have h := h.2.2.2.2.2.2.2.2.2.2.2.2.2.1 (by simpa using hx)
        exact h
      | 14, ho, hx =>
        obtain rfl : (562 : Int) = off := Option.some.inj ho
        obtain rfl : 594 = t := Option.some.inj ht
        have h := h.2.2.2.2.2.2.2.2.2.2.2.2.2.2.1 (by simpa using hx)
        exact h
      | 15, ho, hx =>
        obtain rfl : (585 : Int) = off := Option.some.inj ho
        obtain rfl : 617 = t := Option.some.inj ht
        have h := h.2.2.2.2.2.2.2.2.2.2.2.2.2.2.2.1 (by simpa using hx)
        exact h
      | 16, ho, hx =>
        obtain rfl : (608 : Int) = off := Option.some.inj ho
        obtain rfl : 640 = t := Option.some.inj ht
        have h := h.2.2.2.2.2.2.2.2.2.2.2.2.2.2.2.2.1 (by simpa using hx)
        exact h
      | 17, ho, hx =>
        obtain rfl : (631 : Int) = off := Option.some.inj ho
        obtain rfl : 663 = t := Option.some.inj ht
        have h := h.2.2.2.2.2.2.2.2.2.2.2.2.2.2.2.2.2.1 (by simpa using hx)
        exact h
      | 18, ho, hx =>
        obtain rfl : (654 : Int) = off := Option.some.inj ho
        obtain rfl : 686 = t := Option.some.inj ht
        have h := h.2.2.2.2.2.2.2.2.2.2.2.2.2.2.2.2.2.2.1 (by simpa using hx)
        exact h
      | 19, ho, hx =>
        obtain rfl : (677 : Int) = off := Option.some.inj ho
        obtain rfl : 709 = t := Option.some.inj ht
        have h := h.2.2.2.2.2.2.2.2.2.2.2.2.2.2.2.2.2.2.2.1 (by simpa using hx)
        exact h
      | 20, ho, hx =>
        obtain rfl : (710 : Int) = off := Option.some.inj ho
        obtain rfl : 742 = t := Option.some.inj ht
        have h := h.2.2.2.2.2.2.2.2.2.2.2.2.2.2.2.2.2.2.2.2.1 (by simpa using hx)
        exact h
      | 21, ho, hx =>
        obtain rfl : (733 : Int) = off := Option.some.inj ho
        obtain rfl : 765 = t := Option.some.inj ht
        have h := h.2.2.2.2.2.2.2.2.2.2.2.2.2.2.2.2.2.2.2.2.2.1 (by simpa using hx)
        exact h
      | 22, ho, hx =>
        obtain rfl : (756 : Int) = off := Option.some.inj ho
        obtain rfl : 788 = t := Option.some.inj ht
        have h := h.2.2.2.2.2.2.2.2.2.2.2.2.2.2.2.2.2.2.2.2.2.2.1 (by simpa using hx)
        exact h
      | 23, ho, hx =>
        obtain rfl : (799 : Int) = off := Option.some.inj ho
        obtain rfl : 831 = t := Option.some.inj ht
        have h := h.2.2.2.2.2.2.2.2.2.2.2.2.2.2.2.2.2.2.2.2.2.2.2.1 (by simpa using hx)
        exact h
      | 24, ho, hx =>
        obtain rfl : (822 : Int) = off := Option.some.inj ho
        obtain rfl : 854 = t := Option.some.inj ht
        have h := h.2.2.2.2.2.2.2.2.2.2.2.2.2.2.2.2.2.2.2.2.2.2.2.2.1 (by simpa using hx)
        exact h
      | 25, ho, hx =>
        obtain rfl : (845 : Int) = off := Option.some.inj ho
        obtain rfl : 877 = t := Option.some.inj ht
        have h := h.2.2.2.2.2.2.2.2.2.2.2.2.2.2.2.2.2.2.2.2.2.2.2.2.2.1 (by simpa using hx)
        exact h
      | 26, ho, hx =>
        obtain rfl : (858 : Int) = off := Option.some.inj ho
        obtain rfl : 890 = t := Option.some.inj ht
        have h := h.2.2.2.2.2.2.2.2.2.2.2.2.2.2.2.2.2.2.2.2.2.2.2.2.2.2.1 (by simpa using hx)
        exact h
      | 27, ho, hx =>
        obtain rfl : (881 : Int) = off := Option.some.inj ho
        obtain rfl : 913 = t := Option.some.inj ht
        have h := h.2.2.2.2.2.2.2.2.2.2.2.2.2.2.2.2.2.2.2.2.2.2.2.2.2.2.2.1 (by simpa using hx)
        exact h
      | 28, ho, hx =>
        obtain rfl : (924 : Int) = off := Option.some.inj ho
        obtain rfl : 956 = t := Option.some.inj ht
        have h := h.2.2.2.2.2.2.2.2.2.2.2.2.2.2.2.2.2.2.2.2.2.2.2.2.2.2.2.2.1 (by simpa using hx)
        exact h
      | 29, ho, hx =>
        obtain rfl : (957 : Int) = off := Option.some.inj ho
        obtain rfl : 989 = t := Option.some.inj ht
        have h := h.2.2.2.2.2.2.2.2.2.2.2.2.2.2.2.2.2.2.2.2.2.2.2.2.2.2.2.2.2.1 (by simpa using hx)
        exact h
      | 30, ho, hx =>
        obtain rfl : (1000 : Int) = off := Option.some.inj ho
        obtain rfl : 1032 = t := Option.some.inj ht
        have h := h.2.2.2.2.2.2.2.2.2.2.2.2.2.2.2.2.2.2.2.2.2.2.2.2.2.2.2.2.2.2.1 (by simpa using hx)
        exact h
      | 31, ho, hx =>
        obtain rfl : (1023 : Int) = off := Option.some.inj ho
        obtain rfl : 1055 = t := Option.some.inj ht
        have h := h.2.2.2.2.2.2.2.2.2.2.2.2.2.2.2.2.2.2.2.2.2.2.2.2.2.2.2.2.2.2.2.1 (by simpa using hx)
        exact h
      | 32, ho, hx =>
        obtain rfl : (1046 : Int) = off := Option.some.inj ho
        obtain rfl : 1078 = t := Option.some.inj ht
        have h := h.2.2.2.2.2.2.2.2.2.2.2.2.2.2.2.2.2.2.2.2.2.2.2.2.2.2.2.2.2.2.2.2.1 (by simpa using hx)
        exact h
      | 33, ho, hx =>
        obtain rfl : (1089 : Int) = off := Option.some.inj ho
        obtain rfl : 1121 = t := Option.some.inj ht
        have h := h.2.2.2.2.2.2.2.2.2.2.2.2.2.2.2.2.2.2.2.2.2.2.2.2.2.2.2.2.2.2.2.2.2.1 (by simpa using hx)
        exact h
      | 34, ho, hx =>
        obtain rfl : (1132 : Int) = off := Option.some.inj ho
        obtain rfl : 1164 = t := Option.some.inj ht
        have h := h.2.2.2.2.2.2.2.2.2.2.2.2.2.2.2.2.2.2.2.2.2.2.2.2.2.2.2.2.2.2.2.2.2.2.1 (by simpa using hx)
        exact h
      | 35, ho, hx =>
        obtain rfl : (1185 : Int) = off := Option.some.inj ho
        obtain rfl : 1217 = t := Option.some.inj ht
        have h := h.2.2.2.2.2.2.2.2.2.2.2.2.2.2.2.2.2.2.2.2.2.2.2.2.2.2.2.2.2.2.2.2.2.2.2.1 (by simpa using hx)
        exact h
      | 36, ho, hx =>
        obtain rfl : (1198 : Int) = off := Option.some.inj ho
        obtain rfl : 1230 = t := Option.some.inj ht
        have h := h.2.2.2.2.2.2.2.2.2.2.2.2.2.2.2.2.2.2.2.2.2.2.2.2.2.2.2.2.2.2.2.2.2.2.2.2.1 (by simpa using hx)
        exact h
      | i + 37, ho, hx => cases ho
    · obtain rfl : 1253 = t := Option.some.inj ht
      have h := h.2.2.2.2.2.2.2.2.2.2.2.2.2.2.2.2.2.2.2.2.2.2.2.2.2.2.2.2.2.2.2.2.2.2.2.2.2 hx
      exact h

theorem l_196 {xl : List Int32} {n : Nat} {F : MH} {Q : Option Value → MH → Prop} {x3 : Int32} (h : (0 ≤ (x3 + 1).toInt → (x3 + 1).toInt < xl.length → PF (tRo xl) n 10 0 [(0, .ref 0), (1, .int (xl.getD (x3 + 1).toNatClampNeg 0))] [] F (fun v1 F1 => ∀ r1, v1 = some (.int r1) → (0 ≤ (x3 + 1).toInt → (x3 + 1).toInt < xl.length → PF (tRo xl) n 147 0 [(0, .ref 129), (1, .int (xl.getD (x3 + 1).toNatClampNeg 0))] [] F1 (fun v2 F2 => ∀ r2, v2 = some (.int r2) → PF (tRo xl) n 0 1253 [(3, .int x3), (2, .ref 129), (1, .ref 0), (0, .ref KB)] [] F2 Q))))) : PF (tRo xl) (n + 1) 0 196 [(3, .int x3), (2, .ref 129), (1, .ref 0), (0, .ref KB)] [] F Q := by
  refine PF.pr1 (k := 0) (pc' := 197) (lv' := [(3, .int x3), (2, .ref 129), (1, .ref 0), (0, .ref KB)]) (st' := [.ref 0]) rfl ?_
  refine PF.pr (k := 1) (pc' := 198) (lv' := [(3, .int x3), (2, .ref 129), (1, .ref 0), (0, .ref KB)]) (st' := [.ref KB, .ref 0]) rfl ?_
  refine PF.pr (k := 1) (pc' := 199) (lv' := [(3, .int x3), (2, .ref 129), (1, .ref 0), (0, .ref KB)]) (st' := [.int x3, .ref KB, .ref 0]) rfl ?_
  refine PF.pr (k := 1) (pc' := 200) (lv' := [(3, .int x3), (2, .ref 129), (1, .ref 0), (0, .ref KB)]) (st' := [.int 1, .int x3, .ref KB, .ref 0]) rfl ?_
  refine PF.pr (k := 1) (pc' := 201) (lv' := [(3, .int x3), (2, .ref 129), (1, .ref 0), (0, .ref KB)]) (st' := [.int (x3 + 1), .ref KB, .ref 0]) rfl ?_
  refine PF.scr rfl (fun c1 c2 => ?_)
  have h := h c1 c2
  refine (PF.callI (j := 10) (args := [.ref 0, .int (xl.getD (x3 + 1).toNatClampNeg 0)]) (rest := []) (M := cM10) (ty := .int) rfl rfl rfl rfl rfl (by decide) rfl rfl (by decide) ?_).weak
  refine PF.imp h (fun v1 F1 h r1 hv => ?_)
  have h := h r1 hv
  refine PF.pr (k := 1) (pc' := 206) (lv' := [(3, .int x3), (2, .ref 129), (1, .ref 0), (0, .ref KB)]) (st' := []) rfl ?_
  refine PF.pr (k := 1) (pc' := 207) (lv' := [(3, .int x3), (2, .ref 129), (1, .ref 0), (0, .ref KB)]) (st' := [.ref 129]) rfl ?_
  refine PF.pr (k := 1) (pc' := 208) (lv' := [(3, .int x3), (2, .ref 129), (1, .ref 0), (0, .ref KB)]) (st' := [.ref KB, .ref 129]) rfl ?_
  refine PF.pr (k := 1) (pc' := 209) (lv' := [(3, .int x3), (2, .ref 129), (1, .ref 0), (0, .ref KB)]) (st' := [.int x3, .ref KB, .ref 129]) rfl ?_
  refine PF.pr (k := 1) (pc' := 210) (lv' := [(3, .int x3), (2, .ref 129), (1, .ref 0), (0, .ref KB)]) (st' := [.int 1, .int x3, .ref KB, .ref 129]) rfl ?_
  refine PF.pr (k := 1) (pc' := 211) (lv' := [(3, .int x3), (2, .ref 129), (1, .ref 0), (0, .ref KB)]) (st' := [.int (x3 + 1), .ref KB, .ref 129]) rfl ?_
  refine PF.scr rfl (fun c1 c2 => ?_)
  have h := h c1 c2
  refine (PF.callI (j := 147) (args := [.ref 129, .int (xl.getD (x3 + 1).toNatClampNeg 0)]) (rest := []) (M := cM147) (ty := .int) rfl rfl rfl rfl rfl (by decide) rfl rfl (by decide) ?_).weak
  refine PF.imp h (fun v2 F2 h r2 hv => ?_)
  have h := h r2 hv
  refine PF.pr (k := 1) (pc' := 216) (lv' := [(3, .int x3), (2, .ref 129), (1, .ref 0), (0, .ref KB)]) (st' := []) rfl ?_
  refine PF.pr (k := 1) (pc' := 1253) (lv' := [(3, .int x3), (2, .ref 129), (1, .ref 0), (0, .ref KB)]) (st' := []) rfl ?_
  exact h

theorem l_219 {xl : List Int32} {n : Nat} {F : MH} {Q : Option Value → MH → Prop} {x3 : Int32} (h : (0 ≤ (x3 + 1).toInt → (x3 + 1).toInt < xl.length → PF (tRo xl) n 12 0 [(0, .ref 0), (1, .int (xl.getD (x3 + 1).toNatClampNeg 0))] [] F (fun v1 F1 => ∀ r1, v1 = some (.int r1) → (0 ≤ (x3 + 1).toInt → (x3 + 1).toInt < xl.length → PF (tRo xl) n 149 0 [(0, .ref 129), (1, .int (xl.getD (x3 + 1).toNatClampNeg 0))] [] F1 (fun v2 F2 => ∀ r2, v2 = some (.int r2) → PF (tRo xl) n 0 1253 [(3, .int x3), (2, .ref 129), (1, .ref 0), (0, .ref KB)] [] F2 Q))))) : PF (tRo xl) (n + 1) 0 219 [(3, .int x3), (2, .ref 129), (1, .ref 0), (0, .ref KB)] [] F Q := by
  refine PF.pr1 (k := 0) (pc' := 220) (lv' := [(3, .int x3), (2, .ref 129), (1, .ref 0), (0, .ref KB)]) (st' := [.ref 0]) rfl ?_
  refine PF.pr (k := 1) (pc' := 221) (lv' := [(3, .int x3), (2, .ref 129), (1, .ref 0), (0, .ref KB)]) (st' := [.ref KB, .ref 0]) rfl ?_
  refine PF.pr (k := 1) (pc' := 222) (lv' := [(3, .int x3), (2, .ref 129), (1, .ref 0), (0, .ref KB)]) (st' := [.int x3, .ref KB, .ref 0]) rfl ?_
  refine PF.pr (k := 1) (pc' := 223) (lv' := [(3, .int x3), (2, .ref 129), (1, .ref 0), (0, .ref KB)]) (st' := [.int 1, .int x3, .ref KB, .ref 0]) rfl ?_
  refine PF.pr (k := 1) (pc' := 224) (lv' := [(3, .int x3), (2, .ref 129), (1, .ref 0), (0, .ref KB)]) (st' := [.int (x3 + 1), .ref KB, .ref 0]) rfl ?_
  refine PF.scr rfl (fun c1 c2 => ?_)
  have h := h c1 c2
  refine (PF.callI (j := 12) (args := [.ref 0, .int (xl.getD (x3 + 1).toNatClampNeg 0)]) (rest := []) (M := cM12) (ty := .int) rfl rfl rfl rfl rfl (by decide) rfl rfl (by decide) ?_).weak
  refine PF.imp h (fun v1 F1 h r1 hv => ?_)
  have h := h r1 hv
  refine PF.pr (k := 1) (pc' := 229) (lv' := [(3, .int x3), (2, .ref 129), (1, .ref 0), (0, .ref KB)]) (st' := []) rfl ?_
  refine PF.pr (k := 1) (pc' := 230) (lv' := [(3, .int x3), (2, .ref 129), (1, .ref 0), (0, .ref KB)]) (st' := [.ref 129]) rfl ?_
  refine PF.pr (k := 1) (pc' := 231) (lv' := [(3, .int x3), (2, .ref 129), (1, .ref 0), (0, .ref KB)]) (st' := [.ref KB, .ref 129]) rfl ?_
  refine PF.pr (k := 1) (pc' := 232) (lv' := [(3, .int x3), (2, .ref 129), (1, .ref 0), (0, .ref KB)]) (st' := [.int x3, .ref KB, .ref 129]) rfl ?_
  refine PF.pr (k := 1) (pc' := 233) (lv' := [(3, .int x3), (2, .ref 129), (1, .ref 0), (0, .ref KB)]) (st' := [.int 1, .int x3, .ref KB, .ref 129]) rfl ?_
  refine PF.pr (k := 1) (pc' := 234) (lv' := [(3, .int x3), (2, .ref 129), (1, .ref 0), (0, .ref KB)]) (st' := [.int (x3 + 1), .ref KB, .ref 129]) rfl ?_
  refine PF.scr rfl (fun c1 c2 => ?_)
  have h := h c1 c2
  refine (PF.callI (j := 149) (args := [.ref 129, .int (xl.getD (x3 + 1).toNatClampNeg 0)]) (rest := []) (M := cM149) (ty := .int) rfl rfl rfl rfl rfl (by decide) rfl rfl (by decide) ?_).weak
  refine PF.imp h (fun v2 F2 h r2 hv => ?_)
  have h := h r2 hv
  refine PF.pr (k := 1) (pc' := 239) (lv' := [(3, .int x3), (2, .ref 129), (1, .ref 0), (0, .ref KB)]) (st' := []) rfl ?_
  refine PF.pr (k := 1) (pc' := 1253) (lv' := [(3, .int x3), (2, .ref 129), (1, .ref 0), (0, .ref KB)]) (st' := []) rfl ?_
  exact h

theorem l_242 {xl : List Int32} {n : Nat} {F : MH} {Q : Option Value → MH → Prop} {x3 : Int32} (h : PF (tRo xl) n 13 0 [(0, .ref 0)] [] F (fun v1 F1 => ∀ r1, v1 = some (.int r1) → PF (tRo xl) n 150 0 [(0, .ref 129)] [] F1 (fun v2 F2 => ∀ r2, v2 = some (.int r2) → PF (tRo xl) n 0 1253 [(3, .int x3), (2, .ref 129), (1, .ref 0), (0, .ref KB)] [] F2 Q))) : PF (tRo xl) (n + 1) 0 242 [(3, .int x3), (2, .ref 129), (1, .ref 0), (0, .ref KB)] [] F Q := by
  refine PF.pr1 (k := 0) (pc' := 243) (lv' := [(3, .int x3), (2, .ref 129), (1, .ref 0), (0, .ref KB)]) (st' := [.ref 0]) rfl ?_
  refine (PF.callI (j := 13) (args := [.ref 0]) (rest := []) (M := cM13) (ty := .int) rfl rfl rfl rfl rfl (by decide) rfl rfl (by decide) ?_).weak
  refine PF.imp h (fun v1 F1 h r1 hv => ?_)
  have h := h r1 hv
  refine PF.pr (k := 1) (pc' := 247) (lv' := [(3, .int x3), (2, .ref 129), (1, .ref 0), (0, .ref KB)]) (st' := []) rfl ?_
  refine PF.pr (k := 1) (pc' := 248) (lv' := [(3, .int x3), (2, .ref 129), (1, .ref 0), (0, .ref KB)]) (st' := [.ref 129]) rfl ?_
  refine (PF.callI (j := 150) (args := [.ref 129]) (rest := []) (M := cM150) (ty := .int) rfl rfl rfl rfl rfl (by decide) rfl rfl (by decide) ?_).weak
  refine PF.imp h (fun v2 F2 h r2 hv => ?_)
  have h := h r2 hv
  refine PF.pr (k := 1) (pc' := 252) (lv' := [(3, .int x3), (2, .ref 129), (1, .ref 0), (0, .ref KB)]) (st' := []) rfl ?_
  refine PF.pr (k := 1) (pc' := 1253) (lv' := [(3, .int x3), (2, .ref 129), (1, .ref 0), (0, .ref KB)]) (st' := []) rfl ?_
  exact h

theorem l_255 {xl : List Int32} {n : Nat} {F : MH} {Q : Option Value → MH → Prop} {x3 : Int32} (h : PF (tRo xl) n 55 0 [(0, .ref 0)] [] F (fun v1 F1 => ∀ r1, v1 = some (.int r1) → PF (tRo xl) n 166 0 [(0, .ref 129)] [] F1 (fun v2 F2 => ∀ r2, v2 = some (.int r2) → PF (tRo xl) n 0 1253 [(3, .int x3), (2, .ref 129), (1, .ref 0), (0, .ref KB)] [] F2 Q))) : PF (tRo xl) (n + 1) 0 255 [(3, .int x3), (2, .ref 129), (1, .ref 0), (0, .ref KB)] [] F Q := by
  refine PF.pr1 (k := 0) (pc' := 256) (lv' := [(3, .int x3), (2, .ref 129), (1, .ref 0), (0, .ref KB)]) (st' := [.ref 0]) rfl ?_
  refine (PF.callI (j := 55) (args := [.ref 0]) (rest := []) (M := cM55) (ty := .int) rfl rfl rfl rfl rfl (by decide) rfl rfl (by decide) ?_).weak
  refine PF.imp h (fun v1 F1 h r1 hv => ?_)
  have h := h r1 hv
  refine PF.pr (k := 1) (pc' := 260) (lv' := [(3, .int x3), (2, .ref 129), (1, .ref 0), (0, .ref KB)]) (st' := []) rfl ?_
  refine PF.pr (k := 1) (pc' := 261) (lv' := [(3, .int x3), (2, .ref 129), (1, .ref 0), (0, .ref KB)]) (st' := [.ref 129]) rfl ?_
  refine (PF.callI (j := 166) (args := [.ref 129]) (rest := []) (M := cM166) (ty := .int) rfl rfl rfl rfl rfl (by decide) rfl rfl (by decide) ?_).weak
  refine PF.imp h (fun v2 F2 h r2 hv => ?_)
  have h := h r2 hv
  refine PF.pr (k := 1) (pc' := 265) (lv' := [(3, .int x3), (2, .ref 129), (1, .ref 0), (0, .ref KB)]) (st' := []) rfl ?_
  refine PF.pr (k := 1) (pc' := 1253) (lv' := [(3, .int x3), (2, .ref 129), (1, .ref 0), (0, .ref KB)]) (st' := []) rfl ?_
  exact h

theorem l_268 {xl : List Int32} {n : Nat} {F : MH} {Q : Option Value → MH → Prop} {x3 : Int32} (h : (0 ≤ (x3 + 1).toInt → (x3 + 1).toInt < xl.length → PF (tRo xl) n 56 0 [(0, .ref 0), (1, .int (xl.getD (x3 + 1).toNatClampNeg 0))] [] F (fun v1 F1 => ∀ r1, v1 = some (.int r1) → (0 ≤ (x3 + 1).toInt → (x3 + 1).toInt < xl.length → PF (tRo xl) n 167 0 [(0, .ref 129), (1, .int (xl.getD (x3 + 1).toNatClampNeg 0))] [] F1 (fun v2 F2 => ∀ r2, v2 = some (.int r2) → ((r1 = r2 → PF (tRo xl) n 0 1253 [(3, .int x3), (2, .ref 129), (1, .ref 0), (0, .ref KB)] [] F2 Q) ∧ (¬ r1 = r2 → Q (some (.int 0)) F2))))))) : PF (tRo xl) (n + 1) 0 268 [(3, .int x3), (2, .ref 129), (1, .ref 0), (0, .ref KB)] [] F Q := by
  refine PF.pr1 (k := 0) (pc' := 269) (lv' := [(3, .int x3), (2, .ref 129), (1, .ref 0), (0, .ref KB)]) (st' := [.ref 0]) rfl ?_
  refine PF.pr (k := 1) (pc' := 270) (lv' := [(3, .int x3), (2, .ref 129), (1, .ref 0), (0, .ref KB)]) (st' := [.ref KB, .ref 0]) rfl ?_
  refine PF.pr (k := 1) (pc' := 271) (lv' := [(3, .int x3), (2, .ref 129), (1, .ref 0), (0, .ref KB)]) (st' := [.int x3, .ref KB, .ref 0]) rfl ?_
  refine PF.pr (k := 1) (pc' := 272) (lv' := [(3, .int x3), (2, .ref 129), (1, .ref 0), (0, .ref KB)]) (st' := [.int 1, .int x3, .ref KB, .ref 0]) rfl ?_
  refine PF.pr (k := 1) (pc' := 273) (lv' := [(3, .int x3), (2, .ref 129), (1, .ref 0), (0, .ref KB)]) (st' := [.int (x3 + 1), .ref KB, .ref 0]) rfl ?_
  refine PF.scr rfl (fun c1 c2 => ?_)
  have h := h c1 c2
  refine (PF.callI (j := 56) (args := [.ref 0, .int (xl.getD (x3 + 1).toNatClampNeg 0)]) (rest := []) (M := cM56) (ty := .int) rfl rfl rfl rfl rfl (by decide) rfl rfl (by decide) ?_).weak
  refine PF.imp h (fun v1 F1 h r1 hv => ?_)
  have h := h r1 hv
  refine PF.pr (k := 1) (pc' := 278) (lv' := [(3, .int x3), (2, .ref 129), (1, .ref 0), (0, .ref KB)]) (st' := [.ref 129, .int r1]) rfl ?_
  refine PF.pr (k := 1) (pc' := 279) (lv' := [(3, .int x3), (2, .ref 129), (1, .ref 0), (0, .ref KB)]) (st' := [.ref KB, .ref 129, .int r1]) rfl ?_
  refine PF.pr (k := 1) (pc' := 280) (lv' := [(3, .int x3), (2, .ref 129), (1, .ref 0), (0, .ref KB)]) (st' := [.int x3, .ref KB, .ref 129, .int r1]) rfl ?_
  refine PF.pr (k := 1) (pc' := 281) (lv' := [(3, .int x3), (2, .ref 129), (1, .ref 0), (0, .ref KB)]) (st' := [.int 1, .int x3, .ref KB, .ref 129, .int r1]) rfl ?_
  refine PF.pr (k := 1) (pc' := 282) (lv' := [(3, .int x3), (2, .ref 129), (1, .ref 0), (0, .ref KB)]) (st' := [.int (x3 + 1), .ref KB, .ref 129, .int r1]) rfl ?_
  refine PF.scr rfl (fun c1 c2 => ?_)
  have h := h c1 c2
  refine (PF.callI (j := 167) (args := [.ref 129, .int (xl.getD (x3 + 1).toNatClampNeg 0)]) (rest := [.int r1]) (M := cM167) (ty := .int) rfl rfl rfl rfl rfl (by decide) rfl rfl (by decide) ?_).weak
  refine PF.imp h (fun v2 F2 h r2 hv => ?_)
  have h := h r2 hv
  refine PF.if2 (t := 1253) rfl rfl (fun c => ?_) (fun c => ?_)
  · have h := h.1 (cmp_eq.1.mp c)
    exact h
  · have h := h.2 (cmp_eq.2.mp c)
    refine PF.pr (k := 1) (pc' := 290) (lv' := [(3, .int x3), (2, .ref 129), (1, .ref 0), (0, .ref KB)]) (st' := [.int 0]) rfl ?_
    exact PF.retI rfl h

theorem l_291 {xl : List Int32} {n : Nat} {F : MH} {Q : Option Value → MH → Prop} {x3 : Int32} (h : (0 ≤ (x3 + 1).toInt → (x3 + 1).toInt < xl.length → (0 ≤ (x3 + 2).toInt → (x3 + 2).toInt < xl.length → PF (tRo xl) n 62 0 [(0, .ref 0), (1, .int (xl.getD (x3 + 1).toNatClampNeg 0)), (2, .int (xl.getD (x3 + 2).toNatClampNeg 0))] [] F (fun v1 F1 => ∀ r1, v1 = some (.int r1) → (0 ≤ (x3 + 1).toInt → (x3 + 1).toInt < xl.length → (0 ≤ (x3 + 2).toInt → (x3 + 2).toInt < xl.length → PF (tRo xl) n 176 0 [(0, .ref 129), (1, .int (xl.getD (x3 + 1).toNatClampNeg 0)), (2, .int (xl.getD (x3 + 2).toNatClampNeg 0))] [] F1 (fun v2 F2 => ∀ r2, v2 = some (.int r2) → PF (tRo xl) n 0 1253 [(3, .int x3), (2, .ref 129), (1, .ref 0), (0, .ref KB)] [] F2 Q))))))) : PF (tRo xl) (n + 1) 0 291 [(3, .int x3), (2, .ref 129), (1, .ref 0), (0, .ref KB)] [] F Q := by
  refine PF.pr1 (k := 0) (pc' := 292) (lv' := [(3, .int x3), (2, .ref 129), (1, .ref 0), (0, .ref KB)]) (st' := [.ref 0]) rfl ?_
  refine PF.pr (k := 1) (pc' := 293) (lv' := [(3, .int x3), (2, .ref 129), (1, .ref 0), (0, .ref KB)]) (st' := [.ref KB, .ref 0]) rfl ?_
  refine PF.pr (k := 1) (pc' := 294) (lv' := [(3, .int x3), (2, .ref 129), (1, .ref 0), (0, .ref KB)]) (st' := [.int x3, .ref KB, .ref 0]) rfl ?_
  refine PF.pr (k := 1) (pc' := 295) (lv' := [(3, .int x3), (2, .ref 129), (1, .ref 0), (0, .ref KB)]) (st' := [.int 1, .int x3, .ref KB, .ref 0]) rfl ?_
  refine PF.pr (k := 1) (pc' := 296) (lv' := [(3, .int x3), (2, .ref 129), (1, .ref 0), (0, .ref KB)]) (st' := [.int (x3 + 1), .ref KB, .ref 0]) rfl ?_
  refine PF.scr rfl (fun c1 c2 => ?_)
  have h := h c1 c2
  refine PF.pr (k := 1) (pc' := 298) (lv' := [(3, .int x3), (2, .ref 129), (1, .ref 0), (0, .ref KB)]) (st' := [.ref KB, .int (xl.getD (x3 + 1).toNatClampNeg 0), .ref 0]) rfl ?_
  refine PF.pr (k := 1) (pc' := 299) (lv' := [(3, .int x3), (2, .ref 129), (1, .ref 0), (0, .ref KB)]) (st' := [.int x3, .ref KB, .int (xl.getD (x3 + 1).toNatClampNeg 0), .ref 0]) rfl ?_
  refine PF.pr (k := 1) (pc' := 300) (lv' := [(3, .int x3), (2, .ref 129), (1, .ref 0), (0, .ref KB)]) (st' := [.int 2, .int x3, .ref KB, .int (xl.getD (x3 + 1).toNatClampNeg 0), .ref 0]) rfl ?_
  refine PF.pr (k := 1) (pc' := 301) (lv' := [(3, .int x3), (2, .ref 129), (1, .ref 0), (0, .ref KB)]) (st' := [.int (x3 + 2), .ref KB, .int (xl.getD (x3 + 1).toNatClampNeg 0), .ref 0]) rfl ?_
  refine PF.scr rfl (fun c1 c2 => ?_)
  have h := h c1 c2
  refine (PF.callI (j := 62) (args := [.ref 0, .int (xl.getD (x3 + 1).toNatClampNeg 0), .int (xl.getD (x3 + 2).toNatClampNeg 0)]) (rest := []) (M := cM62) (ty := .int) rfl rfl rfl rfl rfl (by decide) rfl rfl (by decide) ?_).weak
  refine PF.imp h (fun v1 F1 h r1 hv => ?_)
  have h := h r1 hv
  refine PF.pr (k := 1) (pc' := 306) (lv' := [(3, .int x3), (2, .ref 129), (1, .ref 0), (0, .ref KB)]) (st' := []) rfl ?_
  refine PF.pr (k := 1) (pc' := 307) (lv' := [(3, .int x3), (2, .ref 129), (1, .ref 0), (0, .ref KB)]) (st' := [.ref 129]) rfl ?_
  refine PF.pr (k := 1) (pc' := 308) (lv' := [(3, .int x3), (2, .ref 129), (1, .ref 0), (0, .ref KB)]) (st' := [.ref KB, .ref 129]) rfl ?_
  refine PF.pr (k := 1) (pc' := 309) (lv' := [(3, .int x3), (2, .ref 129), (1, .ref 0), (0, .ref KB)]) (st' := [.int x3, .ref KB, .ref 129]) rfl ?_
  refine PF.pr (k := 1) (pc' := 310) (lv' := [(3, .int x3), (2, .ref 129), (1, .ref 0), (0, .ref KB)]) (st' := [.int 1, .int x3, .ref KB, .ref 129]) rfl ?_
  refine PF.pr (k := 1) (pc' := 311) (lv' := [(3, .int x3), (2, .ref 129), (1, .ref 0), (0, .ref KB)]) (st' := [.int (x3 + 1), .ref KB, .ref 129]) rfl ?_
  refine PF.scr rfl (fun c1 c2 => ?_)
  have h := h c1 c2
  refine PF.pr (k := 1) (pc' := 313) (lv' := [(3, .int x3), (2, .ref 129), (1, .ref 0), (0, .ref KB)]) (st' := [.ref KB, .int (xl.getD (x3 + 1).toNatClampNeg 0), .ref 129]) rfl ?_
  refine PF.pr (k := 1) (pc' := 314) (lv' := [(3, .int x3), (2, .ref 129), (1, .ref 0), (0, .ref KB)]) (st' := [.int x3, .ref KB, .int (xl.getD (x3 + 1).toNatClampNeg 0), .ref 129]) rfl ?_
  refine PF.pr (k := 1) (pc' := 315) (lv' := [(3, .int x3), (2, .ref 129), (1, .ref 0), (0, .ref KB)]) (st' := [.int 2, .int x3, .ref KB, .int (xl.getD (x3 + 1).toNatClampNeg 0), .ref 129]) rfl ?_
  refine PF.pr (k := 1) (pc' := 316) (lv' := [(3, .int x3), (2, .ref 129), (1, .ref 0), (0, .ref KB)]) (st' := [.int (x3 + 2), .ref KB, .int (xl.getD (x3 + 1).toNatClampNeg 0), .ref 129]) rfl ?_
  refine PF.scr rfl (fun c1 c2 => ?_)
  have h := h c1 c2
  refine (PF.callI (j := 176) (args := [.ref 129, .int (xl.getD (x3 + 1).toNatClampNeg 0), .int (xl.getD (x3 + 2).toNatClampNeg 0)]) (rest := []) (M := cM176) (ty := .int) rfl rfl rfl rfl rfl (by decide) rfl rfl (by decide) ?_).weak
  refine PF.imp h (fun v2 F2 h r2 hv => ?_)
  have h := h r2 hv
  refine PF.pr (k := 1) (pc' := 321) (lv' := [(3, .int x3), (2, .ref 129), (1, .ref 0), (0, .ref KB)]) (st' := []) rfl ?_
  refine PF.pr (k := 1) (pc' := 1253) (lv' := [(3, .int x3), (2, .ref 129), (1, .ref 0), (0, .ref KB)]) (st' := []) rfl ?_
  exact h

theorem l_324 {xl : List Int32} {n : Nat} {F : MH} {Q : Option Value → MH → Prop} {x3 : Int32} (h : (0 ≤ (x3 + 1).toInt → (x3 + 1).toInt < xl.length → (0 ≤ (x3 + 2).toInt → (x3 + 2).toInt < xl.length → PF (tRo xl) n 64 0 [(0, .ref 0), (1, .int (xl.getD (x3 + 1).toNatClampNeg 0)), (2, .int (xl.getD (x3 + 2).toNatClampNeg 0))] [] F (fun v1 F1 => ∀ r1, v1 = some (.int r1) → (0 ≤ (x3 + 1).toInt → (x3 + 1).toInt < xl.length → (0 ≤ (x3 + 2).toInt → (x3 + 2).toInt < xl.length → PF (tRo xl) n 180 0 [(0, .ref 129), (1, .int (xl.getD (x3 + 1).toNatClampNeg 0)), (2, .int (xl.getD (x3 + 2).toNatClampNeg 0))] [] F1 (fun v2 F2 => ∀ r2, v2 = some (.int r2) → PF (tRo xl) n 0 1253 [(3, .int x3), (2, .ref 129), (1, .ref 0), (0, .ref KB)] [] F2 Q))))))) : PF (tRo xl) (n + 1) 0 324 [(3, .int x3), (2, .ref 129), (1, .ref 0), (0, .ref KB)] [] F Q := by
  refine PF.pr1 (k := 0) (pc' := 325) (lv' := [(3, .int x3), (2, .ref 129), (1, .ref 0), (0, .ref KB)]) (st' := [.ref 0]) rfl ?_
  refine PF.pr (k := 1) (pc' := 326) (lv' := [(3, .int x3), (2, .ref 129), (1, .ref 0), (0, .ref KB)]) (st' := [.ref KB, .ref 0]) rfl ?_
  refine PF.pr (k := 1) (pc' := 327) (lv' := [(3, .int x3), (2, .ref 129), (1, .ref 0), (0, .ref KB)]) (st' := [.int x3, .ref KB, .ref 0]) rfl ?_
  refine PF.pr (k := 1) (pc' := 328) (lv' := [(3, .int x3), (2, .ref 129), (1, .ref 0), (0, .ref KB)]) (st' := [.int 1, .int x3, .ref KB, .ref 0]) rfl ?_
  refine PF.pr (k := 1) (pc' := 329) (lv' := [(3, .int x3), (2, .ref 129), (1, .ref 0), (0, .ref KB)]) (st' := [.int (x3 + 1), .ref KB, .ref 0]) rfl ?_
  refine PF.scr rfl (fun c1 c2 => ?_)
  have h := h c1 c2
  refine PF.pr (k := 1) (pc' := 331) (lv' := [(3, .int x3), (2, .ref 129), (1, .ref 0), (0, .ref KB)]) (st' := [.ref KB, .int (xl.getD (x3 + 1).toNatClampNeg 0), .ref 0]) rfl ?_
  refine PF.pr (k := 1) (pc' := 332) (lv' := [(3, .int x3), (2, .ref 129), (1, .ref 0), (0, .ref KB)]) (st' := [.int x3, .ref KB, .int (xl.getD (x3 + 1).toNatClampNeg 0), .ref 0]) rfl ?_
  refine PF.pr (k := 1) (pc' := 333) (lv' := [(3, .int x3), (2, .ref 129), (1, .ref 0), (0, .ref KB)]) (st' := [.int 2, .int x3, .ref KB, .int (xl.getD (x3 + 1).toNatClampNeg 0), .ref 0]) rfl ?_
  refine PF.pr (k := 1) (pc' := 334) (lv' := [(3, .int x3), (2, .ref 129), (1, .ref 0), (0, .ref KB)]) (st' := [.int (x3 + 2), .ref KB, .int (xl.getD (x3 + 1).toNatClampNeg 0), .ref 0]) rfl ?_
  refine PF.scr rfl (fun c1 c2 => ?_)
  have h := h c1 c2
  refine (PF.callI (j := 64) (args := [.ref 0, .int (xl.getD (x3 + 1).toNatClampNeg 0), .int (xl.getD (x3 + 2).toNatClampNeg 0)]) (rest := []) (M := cM64) (ty := .int) rfl rfl rfl rfl rfl (by decide) rfl rfl (by decide) ?_).weak
  refine PF.imp h (fun v1 F1 h r1 hv => ?_)
  have h := h r1 hv
  refine PF.pr (k := 1) (pc' := 339) (lv' := [(3, .int x3), (2, .ref 129), (1, .ref 0), (0, .ref KB)]) (st' := []) rfl ?_
  refine PF.pr (k := 1) (pc' := 340) (lv' := [(3, .int x3), (2, .ref 129), (1, .ref 0), (0, .ref KB)]) (st' := [.ref 129]) rfl ?_
  refine PF.pr (k := 1) (pc' := 341) (lv' := [(3, .int x3), (2, .ref 129), (1, .ref 0), (0, .ref KB)]) (st' := [.ref KB, .ref 129]) rfl ?_
  refine PF.pr (k := 1) (pc' := 342) (lv' := [(3, .int x3), (2, .ref 129), (1, .ref 0), (0, .ref KB)]) (st' := [.int x3, .ref KB, .ref 129]) rfl ?_
  refine PF.pr (k := 1) (pc' := 343) (lv' := [(3, .int x3), (2, .ref 129), (1, .ref 0), (0, .ref KB)]) (st' := [.int 1, .int x3, .ref KB, .ref 129]) rfl ?_
  refine PF.pr (k := 1) (pc' := 344) (lv' := [(3, .int x3), (2, .ref 129), (1, .ref 0), (0, .ref KB)]) (st' := [.int (x3 + 1), .ref KB, .ref 129]) rfl ?_
  refine PF.scr rfl (fun c1 c2 => ?_)
  have h := h c1 c2
  refine PF.pr (k := 1) (pc' := 346) (lv' := [(3, .int x3), (2, .ref 129), (1, .ref 0), (0, .ref KB)]) (st' := [.ref KB, .int (xl.getD (x3 + 1).toNatClampNeg 0), .ref 129]) rfl ?_
  refine PF.pr (k := 1) (pc' := 347) (lv' := [(3, .int x3), (2, .ref 129), (1, .ref 0), (0, .ref KB)]) (st' := [.int x3, .ref KB, .int (xl.getD (x3 + 1).toNatClampNeg 0), .ref 129]) rfl ?_
  refine PF.pr (k := 1) (pc' := 348) (lv' := [(3, .int x3), (2, .ref 129), (1, .ref 0), (0, .ref KB)]) (st' := [.int 2, .int x3, .ref KB, .int (xl.getD (x3 + 1).toNatClampNeg 0), .ref 129]) rfl ?_
  refine PF.pr (k := 1) (pc' := 349) (lv' := [(3, .int x3), (2, .ref 129), (1, .ref 0), (0, .ref KB)]) (st' := [.int (x3 + 2), .ref KB, .int (xl.getD (x3 + 1).toNatClampNeg 0), .ref 129]) rfl ?_
  refine PF.scr rfl (fun c1 c2 => ?_)
  have h := h c1 c2
  refine (PF.callI (j := 180) (args := [.ref 129, .int (xl.getD (x3 + 1).toNatClampNeg 0), .int (xl.getD (x3 + 2).toNatClampNeg 0)]) (rest := []) (M := cM180) (ty := .int) rfl rfl rfl rfl rfl (by decide) rfl rfl (by decide) ?_).weak
  refine PF.imp h (fun v2 F2 h r2 hv => ?_)
  have h := h r2 hv
  refine PF.pr (k := 1) (pc' := 354) (lv' := [(3, .int x3), (2, .ref 129), (1, .ref 0), (0, .ref KB)]) (st' := []) rfl ?_
  refine PF.pr (k := 1) (pc' := 1253) (lv' := [(3, .int x3), (2, .ref 129), (1, .ref 0), (0, .ref KB)]) (st' := []) rfl ?_
  exact h

theorem l_357 {xl : List Int32} {n : Nat} {F : MH} {Q : Option Value → MH → Prop} {x3 : Int32} (h : (0 ≤ (x3 + 1).toInt → (x3 + 1).toInt < xl.length → PF (tRo xl) n 66 0 [(0, .ref 0), (1, .int (xl.getD (x3 + 1).toNatClampNeg 0))] [] F (fun v1 F1 => ∀ r1, v1 = some (.int r1) → (0 ≤ (x3 + 1).toInt → (x3 + 1).toInt < xl.length → PF (tRo xl) n 182 0 [(0, .ref 129), (1, .int (xl.getD (x3 + 1).toNatClampNeg 0))] [] F1 (fun v2 F2 => ∀ r2, v2 = some (.int r2) → PF (tRo xl) n 0 1253 [(3, .int x3), (2, .ref 129), (1, .ref 0), (0, .ref KB)] [] F2 Q))))) : PF (tRo xl) (n + 1) 0 357 [(3, .int x3), (2, .ref 129), (1, .ref 0), (0, .ref KB)] [] F Q := by
  refine PF.pr1 (k := 0) (pc' := 358) (lv' := [(3, .int x3), (2, .ref 129), (1, .ref 0), (0, .ref KB)]) (st' := [.ref 0]) rfl ?_
  refine PF.pr (k := 1) (pc' := 359) (lv' := [(3, .int x3), (2, .ref 129), (1, .ref 0), (0, .ref KB)]) (st' := [.ref KB, .ref 0]) rfl ?_
  refine PF.pr (k := 1) (pc' := 360) (lv' := [(3, .int x3), (2, .ref 129), (1, .ref 0), (0, .ref KB)]) (st' := [.int x3, .ref KB, .ref 0]) rfl ?_
  refine PF.pr (k := 1) (pc' := 361) (lv' := [(3, .int x3), (2, .ref 129), (1, .ref 0), (0, .ref KB)]) (st' := [.int 1, .int x3, .ref KB, .ref 0]) rfl ?_
  refine PF.pr (k := 1) (pc' := 362) (lv' := [(3, .int x3), (2, .ref 129), (1, .ref 0), (0, .ref KB)]) (st' := [.int (x3 + 1), .ref KB, .ref 0]) rfl ?_
  refine PF.scr rfl (fun c1 c2 => ?_)
  have h := h c1 c2
  refine (PF.callI (j := 66) (args := [.ref 0, .int (xl.getD (x3 + 1).toNatClampNeg 0)]) (rest := []) (M := cM66) (ty := .int) rfl rfl rfl rfl rfl (by decide) rfl rfl (by decide) ?_).weak
  refine PF.imp h (fun v1 F1 h r1 hv => ?_)
  have h := h r1 hv
  refine PF.pr (k := 1) (pc' := 367) (lv' := [(3, .int x3), (2, .ref 129), (1, .ref 0), (0, .ref KB)]) (st' := []) rfl ?_
  refine PF.pr (k := 1) (pc' := 368) (lv' := [(3, .int x3), (2, .ref 129), (1, .ref 0), (0, .ref KB)]) (st' := [.ref 129]) rfl ?_
  refine PF.pr (k := 1) (pc' := 369) (lv' := [(3, .int x3), (2, .ref 129), (1, .ref 0), (0, .ref KB)]) (st' := [.ref KB, .ref 129]) rfl ?_
  refine PF.pr (k := 1) (pc' := 370) (lv' := [(3, .int x3), (2, .ref 129), (1, .ref 0), (0, .ref KB)]) (st' := [.int x3, .ref KB, .ref 129]) rfl ?_
  refine PF.pr (k := 1) (pc' := 371) (lv' := [(3, .int x3), (2, .ref 129), (1, .ref 0), (0, .ref KB)]) (st' := [.int 1, .int x3, .ref KB, .ref 129]) rfl ?_
  refine PF.pr (k := 1) (pc' := 372) (lv' := [(3, .int x3), (2, .ref 129), (1, .ref 0), (0, .ref KB)]) (st' := [.int (x3 + 1), .ref KB, .ref 129]) rfl ?_
  refine PF.scr rfl (fun c1 c2 => ?_)
  have h := h c1 c2
  refine (PF.callI (j := 182) (args := [.ref 129, .int (xl.getD (x3 + 1).toNatClampNeg 0)]) (rest := []) (M := cM182) (ty := .int) rfl rfl rfl rfl rfl (by decide) rfl rfl (by decide) ?_).weak
  refine PF.imp h (fun v2 F2 h r2 hv => ?_)
  have h := h r2 hv
  refine PF.pr (k := 1) (pc' := 377) (lv' := [(3, .int x3), (2, .ref 129), (1, .ref 0), (0, .ref KB)]) (st' := []) rfl ?_
  refine PF.pr (k := 1) (pc' := 1253) (lv' := [(3, .int x3), (2, .ref 129), (1, .ref 0), (0, .ref KB)]) (st' := []) rfl ?_
  exact h

theorem l_380 {xl : List Int32} {n : Nat} {F : MH} {Q : Option Value → MH → Prop} {x3 : Int32} (h : (0 ≤ (x3 + 1).toInt → (x3 + 1).toInt < xl.length → (0 ≤ (x3 + 2).toInt → (x3 + 2).toInt < xl.length → PF (tRo xl) n 67 0 [(0, .ref 0), (1, .int (xl.getD (x3 + 1).toNatClampNeg 0)), (2, .int (xl.getD (x3 + 2).toNatClampNeg 0))] [] F (fun v1 F1 => ∀ r1, v1 = some (.int r1) → (0 ≤ (x3 + 1).toInt → (x3 + 1).toInt < xl.length → (0 ≤ (x3 + 2).toInt → (x3 + 2).toInt < xl.length → PF (tRo xl) n 183 0 [(0, .ref 129), (1, .int (xl.getD (x3 + 1).toNatClampNeg 0)), (2, .int (xl.getD (x3 + 2).toNatClampNeg 0))] [] F1 (fun v2 F2 => ∀ r2, v2 = some (.int r2) → PF (tRo xl) n 0 1253 [(3, .int x3), (2, .ref 129), (1, .ref 0), (0, .ref KB)] [] F2 Q))))))) : PF (tRo xl) (n + 1) 0 380 [(3, .int x3), (2, .ref 129), (1, .ref 0), (0, .ref KB)] [] F Q := by
  refine PF.pr1 (k := 0) (pc' := 381) (lv' := [(3, .int x3), (2, .ref 129), (1, .ref 0), (0, .ref KB)]) (st' := [.ref 0]) rfl ?_
  refine PF.pr (k := 1) (pc' := 382) (lv' := [(3, .int x3), (2, .ref 129), (1, .ref 0), (0, .ref KB)]) (st' := [.ref KB, .ref 0]) rfl ?_
  refine PF.pr (k := 1) (pc' := 383) (lv' := [(3, .int x3), (2, .ref 129), (1, .ref 0), (0, .ref KB)]) (st' := [.int x3, .ref KB, .ref 0]) rfl ?_
  refine PF.pr (k := 1) (pc' := 384) (lv' := [(3, .int x3), (2, .ref 129), (1, .ref 0), (0, .ref KB)]) (st' := [.int 1, .int x3, .ref KB, .ref 0]) rfl ?_
  refine PF.pr (k := 1) (pc' := 385) (lv' := [(3, .int x3), (2, .ref 129), (1, .ref 0), (0, .ref KB)]) (st' := [.int (x3 + 1), .ref KB, .ref 0]) rfl ?_
  refine PF.scr rfl (fun c1 c2 => ?_)
  have h := h c1 c2
  refine PF.pr (k := 1) (pc' := 387) (lv' := [(3, .int x3), (2, .ref 129), (1, .ref 0), (0, .ref KB)]) (st' := [.ref KB, .int (xl.getD (x3 + 1).toNatClampNeg 0), .ref 0]) rfl ?_
  refine PF.pr (k := 1) (pc' := 388) (lv' := [(3, .int x3), (2, .ref 129), (1, .ref 0), (0, .ref KB)]) (st' := [.int x3, .ref KB, .int (xl.getD (x3 + 1).toNatClampNeg 0), .ref 0]) rfl ?_
  refine PF.pr (k := 1) (pc' := 389) (lv' := [(3, .int x3), (2, .ref 129), (1, .ref 0), (0, .ref KB)]) (st' := [.int 2, .int x3, .ref KB, .int (xl.getD (x3 + 1).toNatClampNeg 0), .ref 0]) rfl ?_
  refine PF.pr (k := 1) (pc' := 390) (lv' := [(3, .int x3), (2, .ref 129), (1, .ref 0), (0, .ref KB)]) (st' := [.int (x3 + 2), .ref KB, .int (xl.getD (x3 + 1).toNatClampNeg 0), .ref 0]) rfl ?_
  refine PF.scr rfl (fun c1 c2 => ?_)
  have h := h c1 c2
  refine (PF.callI (j := 67) (args := [.ref 0, .int (xl.getD (x3 + 1).toNatClampNeg 0), .int (xl.getD (x3 + 2).toNatClampNeg 0)]) (rest := []) (M := cM67) (ty := .int) rfl rfl rfl rfl rfl (by decide) rfl rfl (by decide) ?_).weak
  refine PF.imp h (fun v1 F1 h r1 hv => ?_)
  have h := h r1 hv
  refine PF.pr (k := 1) (pc' := 395) (lv' := [(3, .int x3), (2, .ref 129), (1, .ref 0), (0, .ref KB)]) (st' := []) rfl ?_
  refine PF.pr (k := 1) (pc' := 396) (lv' := [(3, .int x3), (2, .ref 129), (1, .ref 0), (0, .ref KB)]) (st' := [.ref 129]) rfl ?_
  refine PF.pr (k := 1) (pc' := 397) (lv' := [(3, .int x3), (2, .ref 129), (1, .ref 0), (0, .ref KB)]) (st' := [.ref KB, .ref 129]) rfl ?_
  refine PF.pr (k := 1) (pc' := 398) (lv' := [(3, .int x3), (2, .ref 129), (1, .ref 0), (0, .ref KB)]) (st' := [.int x3, .ref KB, .ref 129]) rfl ?_
  refine PF.pr (k := 1) (pc' := 399) (lv' := [(3, .int x3), (2, .ref 129), (1, .ref 0), (0, .ref KB)]) (st' := [.int 1, .int x3, .ref KB, .ref 129]) rfl ?_
  refine PF.pr (k := 1) (pc' := 400) (lv' := [(3, .int x3), (2, .ref 129), (1, .ref 0), (0, .ref KB)]) (st' := [.int (x3 + 1), .ref KB, .ref 129]) rfl ?_
  refine PF.scr rfl (fun c1 c2 => ?_)
  have h := h c1 c2
  refine PF.pr (k := 1) (pc' := 402) (lv' := [(3, .int x3), (2, .ref 129), (1, .ref 0), (0, .ref KB)]) (st' := [.ref KB, .int (xl.getD (x3 + 1).toNatClampNeg 0), .ref 129]) rfl ?_
  refine PF.pr (k := 1) (pc' := 403) (lv' := [(3, .int x3), (2, .ref 129), (1, .ref 0), (0, .ref KB)]) (st' := [.int x3, .ref KB, .int (xl.getD (x3 + 1).toNatClampNeg 0), .ref 129]) rfl ?_
  refine PF.pr (k := 1) (pc' := 404) (lv' := [(3, .int x3), (2, .ref 129), (1, .ref 0), (0, .ref KB)]) (st' := [.int 2, .int x3, .ref KB, .int (xl.getD (x3 + 1).toNatClampNeg 0), .ref 129]) rfl ?_
  refine PF.pr (k := 1) (pc' := 405) (lv' := [(3, .int x3), (2, .ref 129), (1, .ref 0), (0, .ref KB)]) (st' := [.int (x3 + 2), .ref KB, .int (xl.getD (x3 + 1).toNatClampNeg 0), .ref 129]) rfl ?_
  refine PF.scr rfl (fun c1 c2 => ?_)
  have h := h c1 c2
  refine (PF.callI (j := 183) (args := [.ref 129, .int (xl.getD (x3 + 1).toNatClampNeg 0), .int (xl.getD (x3 + 2).toNatClampNeg 0)]) (rest := []) (M := cM183) (ty := .int) rfl rfl rfl rfl rfl (by decide) rfl rfl (by decide) ?_).weak
  refine PF.imp h (fun v2 F2 h r2 hv => ?_)
  have h := h r2 hv
  refine PF.pr (k := 1) (pc' := 410) (lv' := [(3, .int x3), (2, .ref 129), (1, .ref 0), (0, .ref KB)]) (st' := []) rfl ?_
  refine PF.pr (k := 1) (pc' := 1253) (lv' := [(3, .int x3), (2, .ref 129), (1, .ref 0), (0, .ref KB)]) (st' := []) rfl ?_
  exact h

theorem l_413 {xl : List Int32} {n : Nat} {F : MH} {Q : Option Value → MH → Prop} {x3 : Int32} (h : (0 ≤ (x3 + 1).toInt → (x3 + 1).toInt < xl.length → (0 ≤ (x3 + 2).toInt → (x3 + 2).toInt < xl.length → PF (tRo xl) n 69 0 [(0, .ref 0), (1, .int (xl.getD (x3 + 1).toNatClampNeg 0)), (2, .int (xl.getD (x3 + 2).toNatClampNeg 0))] [] F (fun v1 F1 => ∀ r1, v1 = some (.int r1) → (0 ≤ (x3 + 1).toInt → (x3 + 1).toInt < xl.length → (0 ≤ (x3 + 2).toInt → (x3 + 2).toInt < xl.length → PF (tRo xl) n 185 0 [(0, .ref 129), (1, .int (xl.getD (x3 + 1).toNatClampNeg 0)), (2, .int (xl.getD (x3 + 2).toNatClampNeg 0))] [] F1 (fun v2 F2 => ∀ r2, v2 = some (.int r2) → PF (tRo xl) n 0 1253 [(3, .int x3), (2, .ref 129), (1, .ref 0), (0, .ref KB)] [] F2 Q))))))) : PF (tRo xl) (n + 1) 0 413 [(3, .int x3), (2, .ref 129), (1, .ref 0), (0, .ref KB)] [] F Q := by
  refine PF.pr1 (k := 0) (pc' := 414) (lv' := [(3, .int x3), (2, .ref 129), (1, .ref 0), (0, .ref KB)]) (st' := [.ref 0]) rfl ?_
  refine PF.pr (k := 1) (pc' := 415) (lv' := [(3, .int x3), (2, .ref 129), (1, .ref 0), (0, .ref KB)]) (st' := [.ref KB, .ref 0]) rfl ?_
  refine PF.pr (k := 1) (pc' := 416) (lv' := [(3, .int x3), (2, .ref 129), (1, .ref 0), (0, .ref KB)]) (st' := [.int x3, .ref KB, .ref 0]) rfl ?_
  refine PF.pr (k := 1) (pc' := 417) (lv' := [(3, .int x3), (2, .ref 129), (1, .ref 0), (0, .ref KB)]) (st' := [.int 1, .int x3, .ref KB, .ref 0]) rfl ?_
  refine PF.pr (k := 1) (pc' := 418) (lv' := [(3, .int x3), (2, .ref 129), (1, .ref 0), (0, .ref KB)]) (st' := [.int (x3 + 1), .ref KB, .ref 0]) rfl ?_
  refine PF.scr rfl (fun c1 c2 => ?_)
  have h := h c1 c2
  refine PF.pr (k := 1) (pc' := 420) (lv' := [(3, .int x3), (2, .ref 129), (1, .ref 0), (0, .ref KB)]) (st' := [.ref KB, .int (xl.getD (x3 + 1).toNatClampNeg 0), .ref 0]) rfl ?_
  refine PF.pr (k := 1) (pc' := 421) (lv' := [(3, .int x3), (2, .ref 129), (1, .ref 0), (0, .ref KB)]) (st' := [.int x3, .ref KB, .int (xl.getD (x3 + 1).toNatClampNeg 0), .ref 0]) rfl ?_
  refine PF.pr (k := 1) (pc' := 422) (lv' := [(3, .int x3), (2, .ref 129), (1, .ref 0), (0, .ref KB)]) (st' := [.int 2, .int x3, .ref KB, .int (xl.getD (x3 + 1).toNatClampNeg 0), .ref 0]) rfl ?_
  refine PF.pr (k := 1) (pc' := 423) (lv' := [(3, .int x3), (2, .ref 129), (1, .ref 0), (0, .ref KB)]) (st' := [.int (x3 + 2), .ref KB, .int (xl.getD (x3 + 1).toNatClampNeg 0), .ref 0]) rfl ?_
  refine PF.scr rfl (fun c1 c2 => ?_)
  have h := h c1 c2
  refine (PF.callI (j := 69) (args := [.ref 0, .int (xl.getD (x3 + 1).toNatClampNeg 0), .int (xl.getD (x3 + 2).toNatClampNeg 0)]) (rest := []) (M := cM69) (ty := .int) rfl rfl rfl rfl rfl (by decide) rfl rfl (by decide) ?_).weak
  refine PF.imp h (fun v1 F1 h r1 hv => ?_)
  have h := h r1 hv
  refine PF.pr (k := 1) (pc' := 428) (lv' := [(3, .int x3), (2, .ref 129), (1, .ref 0), (0, .ref KB)]) (st' := []) rfl ?_
  refine PF.pr (k := 1) (pc' := 429) (lv' := [(3, .int x3), (2, .ref 129), (1, .ref 0), (0, .ref KB)]) (st' := [.ref 129]) rfl ?_
  refine PF.pr (k := 1) (pc' := 430) (lv' := [(3, .int x3), (2, .ref 129), (1, .ref 0), (0, .ref KB)]) (st' := [.ref KB, .ref 129]) rfl ?_
  refine PF.pr (k := 1) (pc' := 431) (lv' := [(3, .int x3), (2, .ref 129), (1, .ref 0), (0, .ref KB)]) (st' := [.int x3, .ref KB, .ref 129]) rfl ?_
  refine PF.pr (k := 1) (pc' := 432) (lv' := [(3, .int x3), (2, .ref 129), (1, .ref 0), (0, .ref KB)]) (st' := [.int 1, .int x3, .ref KB, .ref 129]) rfl ?_
  refine PF.pr (k := 1) (pc' := 433) (lv' := [(3, .int x3), (2, .ref 129), (1, .ref 0), (0, .ref KB)]) (st' := [.int (x3 + 1), .ref KB, .ref 129]) rfl ?_
  refine PF.scr rfl (fun c1 c2 => ?_)
  have h := h c1 c2
  refine PF.pr (k := 1) (pc' := 435) (lv' := [(3, .int x3), (2, .ref 129), (1, .ref 0), (0, .ref KB)]) (st' := [.ref KB, .int (xl.getD (x3 + 1).toNatClampNeg 0), .ref 129]) rfl ?_
  refine PF.pr (k := 1) (pc' := 436) (lv' := [(3, .int x3), (2, .ref 129), (1, .ref 0), (0, .ref KB)]) (st' := [.int x3, .ref KB, .int (xl.getD (x3 + 1).toNatClampNeg 0), .ref 129]) rfl ?_
  refine PF.pr (k := 1) (pc' := 437) (lv' := [(3, .int x3), (2, .ref 129), (1, .ref 0), (0, .ref KB)]) (st' := [.int 2, .int x3, .ref KB, .int (xl.getD (x3 + 1).toNatClampNeg 0), .ref 129]) rfl ?_
  refine PF.pr (k := 1) (pc' := 438) (lv' := [(3, .int x3), (2, .ref 129), (1, .ref 0), (0, .ref KB)]) (st' := [.int (x3 + 2), .ref KB, .int (xl.getD (x3 + 1).toNatClampNeg 0), .ref 129]) rfl ?_
  refine PF.scr rfl (fun c1 c2 => ?_)
  have h := h c1 c2
  refine (PF.callI (j := 185) (args := [.ref 129, .int (xl.getD (x3 + 1).toNatClampNeg 0), .int (xl.getD (x3 + 2).toNatClampNeg 0)]) (rest := []) (M := cM185) (ty := .int) rfl rfl rfl rfl rfl (by decide) rfl rfl (by decide) ?_).weak
  refine PF.imp h (fun v2 F2 h r2 hv => ?_)
  have h := h r2 hv
  refine PF.pr (k := 1) (pc' := 443) (lv' := [(3, .int x3), (2, .ref 129), (1, .ref 0), (0, .ref KB)]) (st' := []) rfl ?_
  refine PF.pr (k := 1) (pc' := 1253) (lv' := [(3, .int x3), (2, .ref 129), (1, .ref 0), (0, .ref KB)]) (st' := []) rfl ?_
  exact h

theorem l_446 {xl : List Int32} {n : Nat} {F : MH} {Q : Option Value → MH → Prop} {x3 : Int32} (h : (0 ≤ (x3 + 1).toInt → (x3 + 1).toInt < xl.length → PF (tRo xl) n 75 0 [(0, .ref 0), (1, .int (xl.getD (x3 + 1).toNatClampNeg 0))] [] F (fun v1 F1 => ∀ r1, v1 = some (.int r1) → (0 ≤ (x3 + 1).toInt → (x3 + 1).toInt < xl.length → PF (tRo xl) n 190 0 [(0, .ref 129), (1, .int (xl.getD (x3 + 1).toNatClampNeg 0))] [] F1 (fun v2 F2 => ∀ r2, v2 = some (.int r2) → PF (tRo xl) n 0 1253 [(3, .int x3), (2, .ref 129), (1, .ref 0), (0, .ref KB)] [] F2 Q))))) : PF (tRo xl) (n + 1) 0 446 [(3, .int x3), (2, .ref 129), (1, .ref 0), (0, .ref KB)] [] F Q := by
  refine PF.pr1 (k := 0) (pc' := 447) (lv' := [(3, .int x3), (2, .ref 129), (1, .ref 0), (0, .ref KB)]) (st' := [.ref 0]) rfl ?_
  refine PF.pr (k := 1) (pc' := 448) (lv' := [(3, .int x3), (2, .ref 129), (1, .ref 0), (0, .ref KB)]) (st' := [.ref KB, .ref 0]) rfl ?_
  refine PF.pr (k := 1) (pc' := 449) (lv' := [(3, .int x3), (2, .ref 129), (1, .ref 0), (0, .ref KB)]) (st' := [.int x3, .ref KB, .ref 0]) rfl ?_
  refine PF.pr (k := 1) (pc' := 450) (lv' := [(3, .int x3), (2, .ref 129), (1, .ref 0), (0, .ref KB)]) (st' := [.int 1, .int x3, .ref KB, .ref 0]) rfl ?_
  refine PF.pr (k := 1) (pc' := 451) (lv' := [(3, .int x3), (2, .ref 129), (1, .ref 0), (0, .ref KB)]) (st' := [.int (x3 + 1), .ref KB, .ref 0]) rfl ?_
  refine PF.scr rfl (fun c1 c2 => ?_)
  have h := h c1 c2
  refine (PF.callI (j := 75) (args := [.ref 0, .int (xl.getD (x3 + 1).toNatClampNeg 0)]) (rest := []) (M := cM75) (ty := .int) rfl rfl rfl rfl rfl (by decide) rfl rfl (by decide) ?_).weak
  refine PF.imp h (fun v1 F1 h r1 hv => ?_)
  have h := h r1 hv
  refine PF.pr (k := 1) (pc' := 456) (lv' := [(3, .int x3), (2, .ref 129), (1, .ref 0), (0, .ref KB)]) (st' := []) rfl ?_
  refine PF.pr (k := 1) (pc' := 457) (lv' := [(3, .int x3), (2, .ref 129), (1, .ref 0), (0, .ref KB)]) (st' := [.ref 129]) rfl ?_
  refine PF.pr (k := 1) (pc' := 458) (lv' := [(3, .int x3), (2, .ref 129), (1, .ref 0), (0, .ref KB)]) (st' := [.ref KB, .ref 129]) rfl ?_
  refine PF.pr (k := 1) (pc' := 459) (lv' := [(3, .int x3), (2, .ref 129), (1, .ref 0), (0, .ref KB)]) (st' := [.int x3, .ref KB, .ref 129]) rfl ?_
  refine PF.pr (k := 1) (pc' := 460) (lv' := [(3, .int x3), (2, .ref 129), (1, .ref 0), (0, .ref KB)]) (st' := [.int 1, .int x3, .ref KB, .ref 129]) rfl ?_
  refine PF.pr (k := 1) (pc' := 461) (lv' := [(3, .int x3), (2, .ref 129), (1, .ref 0), (0, .ref KB)]) (st' := [.int (x3 + 1), .ref KB, .ref 129]) rfl ?_
  refine PF.scr rfl (fun c1 c2 => ?_)
  have h := h c1 c2
  refine (PF.callI (j := 190) (args := [.ref 129, .int (xl.getD (x3 + 1).toNatClampNeg 0)]) (rest := []) (M := cM190) (ty := .int) rfl rfl rfl rfl rfl (by decide) rfl rfl (by decide) ?_).weak
  refine PF.imp h (fun v2 F2 h r2 hv => ?_)
  have h := h r2 hv
  refine PF.pr (k := 1) (pc' := 466) (lv' := [(3, .int x3), (2, .ref 129), (1, .ref 0), (0, .ref KB)]) (st' := []) rfl ?_
  refine PF.pr (k := 1) (pc' := 1253) (lv' := [(3, .int x3), (2, .ref 129), (1, .ref 0), (0, .ref KB)]) (st' := []) rfl ?_
  exact h

theorem l_469 {xl : List Int32} {n : Nat} {F : MH} {Q : Option Value → MH → Prop} {x3 : Int32} (h : (0 ≤ (x3 + 1).toInt → (x3 + 1).toInt < xl.length → PF (tRo xl) n 81 0 [(0, .ref 0), (1, .int (xl.getD (x3 + 1).toNatClampNeg 0))] [] F (fun v1 F1 => ∀ r1, v1 = some (.int r1) → (0 ≤ (x3 + 1).toInt → (x3 + 1).toInt < xl.length → PF (tRo xl) n 194 0 [(0, .ref 129), (1, .int (xl.getD (x3 + 1).toNatClampNeg 0))] [] F1 (fun v2 F2 => ∀ r2, v2 = some (.int r2) → PF (tRo xl) n 0 1253 [(3, .int x3), (2, .ref 129), (1, .ref 0), (0, .ref KB)] [] F2 Q))))) : PF (tRo xl) (n + 1) 0 469 [(3, .int x3), (2, .ref 129), (1, .ref 0), (0, .ref KB)] [] F Q := by
  refine PF.pr1 (k := 0) (pc' := 470) (lv' := [(3, .int x3), (2, .ref 129), (1, .ref 0), (0, .ref KB)]) (st' := [.ref 0]) rfl ?_
  refine PF.pr (k := 1) (pc' := 471) (lv' := [(3, .int x3), (2, .ref 129), (1, .ref 0), (0, .ref KB)]) (st' := [.ref KB, .ref 0]) rfl ?_
  refine PF.pr (k := 1) (pc' := 472) (lv' := [(3, .int x3), (2, .ref 129), (1, .ref 0), (0, .ref KB)]) (st' := [.int x3, .ref KB, .ref 0]) rfl ?_
  refine PF.pr (k := 1) (pc' := 473) (lv' := [(3, .int x3), (2, .ref 129), (1, .ref 0), (0, .ref KB)]) (st' := [.int 1, .int x3, .ref KB, .ref 0]) rfl ?_
  refine PF.pr (k := 1) (pc' := 474) (lv' := [(3, .int x3), (2, .ref 129), (1, .ref 0), (0, .ref KB)]) (st' := [.int (x3 + 1), .ref KB, .ref 0]) rfl ?_
  refine PF.scr rfl (fun c1 c2 => ?_)
  have h := h c1 c2
  refine (PF.callI (j := 81) (args := [.ref 0, .int (xl.getD (x3 + 1).toNatClampNeg 0)]) (rest := []) (M := cM81) (ty := .int) rfl rfl rfl rfl rfl (by decide) rfl rfl (by decide) ?_).weak
  refine PF.imp h (fun v1 F1 h r1 hv => ?_)
  have h := h r1 hv
  refine PF.pr (k := 1) (pc' := 479) (lv' := [(3, .int x3), (2, .ref 129), (1, .ref 0), (0, .ref KB)]) (st' := []) rfl ?_
  refine PF.pr (k := 1) (pc' := 480) (lv' := [(3, .int x3), (2, .ref 129), (1, .ref 0), (0, .ref KB)]) (st' := [.ref 129]) rfl ?_
  refine PF.pr (k := 1) (pc' := 481) (lv' := [(3, .int x3), (2, .ref 129), (1, .ref 0), (0, .ref KB)]) (st' := [.ref KB, .ref 129]) rfl ?_
  refine PF.pr (k := 1) (pc' := 482) (lv' := [(3, .int x3), (2, .ref 129), (1, .ref 0), (0, .ref KB)]) (st' := [.int x3, .ref KB, .ref 129]) rfl ?_
  refine PF.pr (k := 1) (pc' := 483) (lv' := [(3, .int x3), (2, .ref 129), (1, .ref 0), (0, .ref KB)]) (st' := [.int 1, .int x3, .ref KB, .ref 129]) rfl ?_
  refine PF.pr (k := 1) (pc' := 484) (lv' := [(3, .int x3), (2, .ref 129), (1, .ref 0), (0, .ref KB)]) (st' := [.int (x3 + 1), .ref KB, .ref 129]) rfl ?_
  refine PF.scr rfl (fun c1 c2 => ?_)
  have h := h c1 c2
  refine (PF.callI (j := 194) (args := [.ref 129, .int (xl.getD (x3 + 1).toNatClampNeg 0)]) (rest := []) (M := cM194) (ty := .int) rfl rfl rfl rfl rfl (by decide) rfl rfl (by decide) ?_).weak
  refine PF.imp h (fun v2 F2 h r2 hv => ?_)
  have h := h r2 hv
  refine PF.pr (k := 1) (pc' := 489) (lv' := [(3, .int x3), (2, .ref 129), (1, .ref 0), (0, .ref KB)]) (st' := []) rfl ?_
  refine PF.pr (k := 1) (pc' := 1253) (lv' := [(3, .int x3), (2, .ref 129), (1, .ref 0), (0, .ref KB)]) (st' := []) rfl ?_
  exact h

theorem l_492 {xl : List Int32} {n : Nat} {F : MH} {Q : Option Value → MH → Prop} {x3 : Int32} (h : (0 ≤ (x3 + 1).toInt → (x3 + 1).toInt < xl.length → (0 ≤ (x3 + 2).toInt → (x3 + 2).toInt < xl.length → (0 ≤ (x3 + 3).toInt → (x3 + 3).toInt < xl.length → PF (tRo xl) n 82 0 [(0, .ref 0), (1, .int (xl.getD (x3 + 1).toNatClampNeg 0)), (2, .int (xl.getD (x3 + 2).toNatClampNeg 0)), (3, .int (xl.getD (x3 + 3).toNatClampNeg 0))] [] F (fun v1 F1 => ∀ r1, v1 = some (.int r1) → (0 ≤ (x3 + 1).toInt → (x3 + 1).toInt < xl.length → (0 ≤ (x3 + 2).toInt → (x3 + 2).toInt < xl.length → (0 ≤ (x3 + 3).toInt → (x3 + 3).toInt < xl.length → PF (tRo xl) n 195 0 [(0, .ref 129), (1, .int (xl.getD (x3 + 1).toNatClampNeg 0)), (2, .int (xl.getD (x3 + 2).toNatClampNeg 0)), (3, .int (xl.getD (x3 + 3).toNatClampNeg 0))] [] F1 (fun v2 F2 => ∀ r2, v2 = some (.int r2) → PF (tRo xl) n 0 1253 [(3, .int x3), (2, .ref 129), (1, .ref 0), (0, .ref KB)] [] F2 Q))))))))) : PF (tRo xl) (n + 1) 0 492 [(3, .int x3), (2, .ref 129), (1, .ref 0), (0, .ref KB)] [] F Q := by
  refine PF.pr1 (k := 0) (pc' := 493) (lv' := [(3, .int x3), (2, .ref 129), (1, .ref 0), (0, .ref KB)]) (st' := [.ref 0]) rfl ?_
  refine PF.pr (k := 1) (pc' := 494) (lv' := [(3, .int x3), (2, .ref 129), (1, .ref 0), (0, .ref KB)]) (st' := [.ref KB, .ref 0]) rfl ?_
  refine PF.pr (k := 1) (pc' := 495) (lv' := [(3, .int x3), (2, .ref 129), (1, .ref 0), (0, .ref KB)]) (st' := [.int x3, .ref KB, .ref 0]) rfl ?_
  refine PF.pr (k := 1) (pc' := 496) (lv' := [(3, .int x3), (2, .ref 129), (1, .ref 0), (0, .ref KB)]) (st' := [.int 1, .int x3, .ref KB, .ref 0]) rfl ?_
  refine PF.pr (k := 1) (pc' := 497) (lv' := [(3, .int x3), (2, .ref 129), (1, .ref 0), (0, .ref KB)]) (st' := [.int (x3 + 1), .ref KB, .ref 0]) rfl ?_
  refine PF.scr rfl (fun c1 c2 => ?_)
  have h := h c1 c2
  refine PF.pr (k := 1) (pc' := 499) (lv' := [(3, .int x3), (2, .ref 129), (1, .ref 0), (0, .ref KB)]) (st' := [.ref KB, .int (xl.getD (x3 + 1).toNatClampNeg 0), .ref 0]) rfl ?_
  refine PF.pr (k := 1) (pc' := 500) (lv' := [(3, .int x3), (2, .ref 129), (1, .ref 0), (0, .ref KB)]) (st' := [.int x3, .ref KB, .int (xl.getD (x3 + 1).toNatClampNeg 0), .ref 0]) rfl ?_
  refine PF.pr (k := 1) (pc' := 501) (lv' := [(3, .int x3), (2, .ref 129), (1, .ref 0), (0, .ref KB)]) (st' := [.int 2, .int x3, .ref KB, .int (xl.getD (x3 + 1).toNatClampNeg 0), .ref 0]) rfl ?_
  refine PF.pr (k := 1) (pc' := 502) (lv' := [(3, .int x3), (2, .ref 129), (1, .ref 0), (0, .ref KB)]) (st' := [.int (x3 + 2), .ref KB, .int (xl.getD (x3 + 1).toNatClampNeg 0), .ref 0]) rfl ?_
  refine PF.scr rfl (fun c1 c2 => ?_)
  have h := h c1 c2
  refine PF.pr (k := 1) (pc' := 504) (lv' := [(3, .int x3), (2, .ref 129), (1, .ref 0), (0, .ref KB)]) (st' := [.ref KB, .int (xl.getD (x3 + 2).toNatClampNeg 0), .int (xl.getD (x3 + 1).toNatClampNeg 0), .ref 0]) rfl ?_
  refine PF.pr (k := 1) (pc' := 505) (lv' := [(3, .int x3), (2, .ref 129), (1, .ref 0), (0, .ref KB)]) (st' := [.int x3, .ref KB, .int (xl.getD (x3 + 2).toNatClampNeg 0), .int (xl.getD (x3 + 1).toNatClampNeg 0), .ref 0]) rfl ?_
  refine PF.pr (k := 1) (pc' := 506) (lv' := [(3, .int x3), (2, .ref 129), (1, .ref 0), (0, .ref KB)]) (st' := [.int 3, .int x3, .ref KB, .int (xl.getD (x3 + 2).toNatClampNeg 0), .int (xl.getD (x3 + 1).toNatClampNeg 0), .ref 0]) rfl ?_
  refine PF.pr (k := 1) (pc' := 507) (lv' := [(3, .int x3), (2, .ref 129), (1, .ref 0), (0, .ref KB)]) (st' := [.int (x3 + 3), .ref KB, .int (xl.getD (x3 + 2).toNatClampNeg 0), .int (xl.getD (x3 + 1).toNatClampNeg 0), .ref 0]) rfl ?_
  refine PF.scr rfl (fun c1 c2 => ?_)
  have h := h c1 c2
  refine (PF.callI (j := 82) (args := [.ref 0, .int (xl.getD (x3 + 1).toNatClampNeg 0), .int (xl.getD (x3 + 2).toNatClampNeg 0), .int (xl.getD (x3 + 3).toNatClampNeg 0)]) (rest := []) (M := cM82) (ty := .int) rfl rfl rfl rfl rfl (by decide) rfl rfl (by decide) ?_).weak
  refine PF.imp h (fun v1 F1 h r1 hv => ?_)
  have h := h r1 hv
  refine PF.pr (k := 1) (pc' := 512) (lv' := [(3, .int x3), (2, .ref 129), (1, .ref 0), (0, .ref KB)]) (st' := []) rfl ?_
  refine PF.pr (k := 1) (pc' := 513) (lv' := [(3, .int x3), (2, .ref 129), (1, .ref 0), (0, .ref KB)]) (st' := [.ref 129]) rfl ?_
  refine PF.pr (k := 1) (pc' := 514) (lv' := [(3, .int x3), (2, .ref 129), (1, .ref 0), (0, .ref KB)]) (st' := [.ref KB, .ref 129]) rfl ?_
  refine PF.pr (k := 1) (pc' := 515) (lv' := [(3, .int x3), (2, .ref 129), (1, .ref 0), (0, .ref KB)]) (st' := [.int x3, .ref KB, .ref 129]) rfl ?_
  refine PF.pr (k := 1) (pc' := 516) (lv' := [(3, .int x3), (2, .ref 129), (1, .ref 0), (0, .ref KB)]) (st' := [.int 1, .int x3, .ref KB, .ref 129]) rfl ?_
  refine PF.pr (k := 1) (pc' := 517) (lv' := [(3, .int x3), (2, .ref 129), (1, .ref 0), (0, .ref KB)]) (st' := [.int (x3 + 1), .ref KB, .ref 129]) rfl ?_
  refine PF.scr rfl (fun c1 c2 => ?_)
  have h := h c1 c2
  refine PF.pr (k := 1) (pc' := 519) (lv' := [(3, .int x3), (2, .ref 129), (1, .ref 0), (0, .ref KB)]) (st' := [.ref KB, .int (xl.getD (x3 + 1).toNatClampNeg 0), .ref 129]) rfl ?_
  refine PF.pr (k := 1) (pc' := 520) (lv' := [(3, .int x3), (2, .ref 129), (1, .ref 0), (0, .ref KB)]) (st' := [.int x3, .ref KB, .int (xl.getD (x3 + 1).toNatClampNeg 0), .ref 129]) rfl ?_
  refine PF.pr (k := 1) (pc' := 521) (lv' := [(3, .int x3), (2, .ref 129), (1, .ref 0), (0, .ref KB)]) (st' := [.int 2, .int x3, .ref KB, .int (xl.getD (x3 + 1).toNatClampNeg 0), .ref 129]) rfl ?_
  refine PF.pr (k := 1) (pc' := 522) (lv' := [(3, .int x3), (2, .ref 129), (1, .ref 0), (0, .ref KB)]) (st' := [.int (x3 + 2), .ref KB, .int (xl.getD (x3 + 1).toNatClampNeg 0), .ref 129]) rfl ?_
  refine PF.scr rfl (fun c1 c2 => ?_)
  have h := h c1 c2
  refine PF.pr (k := 1) (pc' := 524) (lv' := [(3, .int x3), (2, .ref 129), (1, .ref 0), (0, .ref KB)]) (st' := [.ref KB, .int (xl.getD (x3 + 2).toNatClampNeg 0), .int (xl.getD (x3 + 1).toNatClampNeg 0), .ref 129]) rfl ?_
  refine PF.pr (k := 1) (pc' := 525) (lv' := [(3, .int x3), (2, .ref 129), (1, .ref 0), (0, .ref KB)]) (st' := [.int x3, .ref KB, .int (xl.getD (x3 + 2).toNatClampNeg 0), .int (xl.getD (x3 + 1).toNatClampNeg 0), .ref 129]) rfl ?_
  refine PF.pr (k := 1) (pc' := 526) (lv' := [(3, .int x3), (2, .ref 129), (1, .ref 0), (0, .ref KB)]) (st' := [.int 3, .int x3, .ref KB, .int (xl.getD (x3 + 2).toNatClampNeg 0), .int (xl.getD (x3 + 1).toNatClampNeg 0), .ref 129]) rfl ?_
  refine PF.pr (k := 1) (pc' := 527) (lv' := [(3, .int x3), (2, .ref 129), (1, .ref 0), (0, .ref KB)]) (st' := [.int (x3 + 3), .ref KB, .int (xl.getD (x3 + 2).toNatClampNeg 0), .int (xl.getD (x3 + 1).toNatClampNeg 0), .ref 129]) rfl ?_
  refine PF.scr rfl (fun c1 c2 => ?_)
  have h := h c1 c2
  refine (PF.callI (j := 195) (args := [.ref 129, .int (xl.getD (x3 + 1).toNatClampNeg 0), .int (xl.getD (x3 + 2).toNatClampNeg 0), .int (xl.getD (x3 + 3).toNatClampNeg 0)]) (rest := []) (M := cM195) (ty := .int) rfl rfl rfl rfl rfl (by decide) rfl rfl (by decide) ?_).weak
  refine PF.imp h (fun v2 F2 h r2 hv => ?_)
  have h := h r2 hv
  refine PF.pr (k := 1) (pc' := 532) (lv' := [(3, .int x3), (2, .ref 129), (1, .ref 0), (0, .ref KB)]) (st' := []) rfl ?_
  refine PF.pr (k := 1) (pc' := 1253) (lv' := [(3, .int x3), (2, .ref 129), (1, .ref 0), (0, .ref KB)]) (st' := []) rfl ?_
  exact h

theorem l_535 {xl : List Int32} {n : Nat} {F : MH} {Q : Option Value → MH → Prop} {x3 : Int32} (h : (0 ≤ (x3 + 1).toInt → (x3 + 1).toInt < xl.length → (0 ≤ (x3 + 2).toInt → (x3 + 2).toInt < xl.length → (0 ≤ (x3 + 3).toInt → (x3 + 3).toInt < xl.length → (((xl.getD (x3 + 3).toNatClampNeg 0) = 0 → PF (tRo xl) n 83 0 [(0, .ref 0), (1, .int (xl.getD (x3 + 1).toNatClampNeg 0)), (2, .int (xl.getD (x3 + 2).toNatClampNeg 0)), (3, .int 0)] [] F (fun v1 F1 => ∀ r1, v1 = some (.int r1) → (0 ≤ (x3 + 1).toInt → (x3 + 1).toInt < xl.length → (0 ≤ (x3 + 2).toInt → (x3 + 2).toInt < xl.length → (0 ≤ (x3 + 3).toInt → (x3 + 3).toInt < xl.length → (((xl.getD (x3 + 3).toNatClampNeg 0) = 0 → PF (tRo xl) n 198 0 [(0, .ref 129), (1, .int (xl.getD (x3 + 1).toNatClampNeg 0)), (2, .int (xl.getD (x3 + 2).toNatClampNeg 0)), (3, .int 0)] [] F1 (fun v2 F2 => ∀ r2, v2 = some (.int r2) → PF (tRo xl) n 0 1253 [(3, .int x3), (2, .ref 129), (1, .ref 0), (0, .ref KB)] [] F2 Q)) ∧ (¬ (xl.getD (x3 + 3).toNatClampNeg 0) = 0 → PF (tRo xl) n 198 0 [(0, .ref 129), (1, .int (xl.getD (x3 + 1).toNatClampNeg 0)), (2, .int (xl.getD (x3 + 2).toNatClampNeg 0)), (3, .int 1)] [] F1 (fun v3 F3 => ∀ r3, v3 = some (.int r3) → PF (tRo xl) n 0 1253 [(3, .int x3), (2, .ref 129), (1, .ref 0), (0, .ref KB)] [] F3 Q)))))))) ∧ (¬ (xl.getD (x3 + 3).toNatClampNeg 0) = 0 → PF (tRo xl) n 83 0 [(0, .ref 0), (1, .int (xl.getD (x3 + 1).toNatClampNeg 0)), (2, .int (xl.getD (x3 + 2).toNatClampNeg 0)), (3, .int 1)] [] F (fun v4 F4 => ∀ r4, v4 = some (.int r4) → (0 ≤ (x3 + 1).toInt → (x3 + 1).toInt < xl.length → (0 ≤ (x3 + 2).toInt → (x3 + 2).toInt < xl.length → (0 ≤ (x3 + 3).toInt → (x3 + 3).toInt < xl.length → (((xl.getD (x3 + 3).toNatClampNeg 0) = 0 → PF (tRo xl) n 198 0 [(0, .ref 129), (1, .int (xl.getD (x3 + 1).toNatClampNeg 0)), (2, .int (xl.getD (x3 + 2).toNatClampNeg 0)), (3, .int 0)] [] F4 (fun v5 F5 => ∀ r5, v5 = some (.int r5) → PF (tRo xl) n 0 1253 [(3, .int x3), (2, .ref 129), (1, .ref 0), (0, .ref KB)] [] F5 Q)) ∧ (¬ (xl.getD (x3 + 3).toNatClampNeg 0) = 0 → PF (tRo xl) n 198 0 [(0, .ref 129), (1, .int (xl.getD (x3 + 1).toNatClampNeg 0)), (2, .int (xl.getD (x3 + 2).toNatClampNeg 0)), (3, .int 1)] [] F4 (fun v6 F6 => ∀ r6, v6 = some (.int r6) → PF (tRo xl) n 0 1253 [(3, .int x3), (2, .ref 129), (1, .ref 0), (0, .ref KB)] [] F6 Q))))))))))))) : PF (tRo xl) (n + 1) 0 535 [(3, .int x3), (2, .ref 129), (1, .ref 0), (0, .ref KB)] [] F Q := by
  refine PF.pr1 (k := 0) (pc' := 536) (lv' := [(3, .int x3), (2, .ref 129), (1, .ref 0), (0, .ref KB)]) (st' := [.ref 0]) rfl ?_
  refine PF.pr (k := 1) (pc' := 537) (lv' := [(3, .int x3), (2, .ref 129), (1, .ref 0), (0, .ref KB)]) (st' := [.ref KB, .ref 0]) rfl ?_
  refine PF.pr (k := 1) (pc' := 538) (lv' := [(3, .int x3), (2, .ref 129), (1, .ref 0), (0, .ref KB)]) (st' := [.int x3, .ref KB, .ref 0]) rfl ?_
  refine PF.pr (k := 1) (pc' := 539) (lv' := [(3, .int x3), (2, .ref 129), (1, .ref 0), (0, .ref KB)]) (st' := [.int 1, .int x3, .ref KB, .ref 0]) rfl ?_
  refine PF.pr (k := 1) (pc' := 540) (lv' := [(3, .int x3), (2, .ref 129), (1, .ref 0), (0, .ref KB)]) (st' := [.int (x3 + 1), .ref KB, .ref 0]) rfl ?_
  refine PF.scr rfl (fun c1 c2 => ?_)
  have h := h c1 c2
  refine PF.pr (k := 1) (pc' := 542) (lv' := [(3, .int x3), (2, .ref 129), (1, .ref 0), (0, .ref KB)]) (st' := [.ref KB, .int (xl.getD (x3 + 1).toNatClampNeg 0), .ref 0]) rfl ?_
  refine PF.pr (k := 1) (pc' := 543) (lv' := [(3, .int x3), (2, .ref 129), (1, .ref 0), (0, .ref KB)]) (st' := [.int x3, .ref KB, .int (xl.getD (x3 + 1).toNatClampNeg 0), .ref 0]) rfl ?_
  refine PF.pr (k := 1) (pc' := 544) (lv' := [(3, .int x3), (2, .ref 129), (1, .ref 0), (0, .ref KB)]) (st' := [.int 2, .int x3, .ref KB, .int (xl.getD (x3 + 1).toNatClampNeg 0), .ref 0]) rfl ?_
  refine PF.pr (k := 1) (pc' := 545) (lv' := [(3, .int x3), (2, .ref 129), (1, .ref 0), (0, .ref KB)]) (st' := [.int (x3 + 2), .ref KB, .int (xl.getD (x3 + 1).toNatClampNeg 0), .ref 0]) rfl ?_
  refine PF.scr rfl (fun c1 c2 => ?_)
  have h := h c1 c2
  refine PF.pr (k := 1) (pc' := 547) (lv' := [(3, .int x3), (2, .ref 129), (1, .ref 0), (0, .ref KB)]) (st' := [.ref KB, .int (xl.getD (x3 + 2).toNatClampNeg 0), .int (xl.getD (x3 + 1).toNatClampNeg 0), .ref 0]) rfl ?_
  refine PF.pr (k := 1) (pc' := 548) (lv' := [(3, .int x3), (2, .ref 129), (1, .ref 0), (0, .ref KB)]) (st' := [.int x3, .ref KB, .int (xl.getD (x3 + 2).toNatClampNeg 0), .int (xl.getD (x3 + 1).toNatClampNeg 0), .ref 0]) rfl ?_
  refine PF.pr (k := 1) (pc' := 549) (lv' := [(3, .int x3), (2, .ref 129), (1, .ref 0), (0, .ref KB)]) (st' := [.int 3, .int x3, .ref KB, .int (xl.getD (x3 + 2).toNatClampNeg 0), .int (xl.getD (x3 + 1).toNatClampNeg 0), .ref 0]) rfl ?_
  refine PF.pr (k := 1) (pc' := 550) (lv' := [(3, .int x3), (2, .ref 129), (1, .ref 0), (0, .ref KB)]) (st' := [.int (x3 + 3), .ref KB, .int (xl.getD (x3 + 2).toNatClampNeg 0), .int (xl.getD (x3 + 1).toNatClampNeg 0), .ref 0]) rfl ?_
  refine PF.scr rfl (fun c1 c2 => ?_)
  have h := h c1 c2
  refine PF.if1 (t := 558) rfl rfl (fun c => ?_) (fun c => ?_)
  · have h := h.1 (cmp_eq.1.mp c)
    refine PF.pr (k := 1) (pc' := 559) (lv' := [(3, .int x3), (2, .ref 129), (1, .ref 0), (0, .ref KB)]) (st' := [.int 0, .int (xl.getD (x3 + 2).toNatClampNeg 0), .int (xl.getD (x3 + 1).toNatClampNeg 0), .ref 0]) rfl ?_
    refine (PF.callI (j := 83) (args := [.ref 0, .int (xl.getD (x3 + 1).toNatClampNeg 0), .int (xl.getD (x3 + 2).toNatClampNeg 0), .int 0]) (rest := []) (M := cM83) (ty := .int) rfl rfl rfl rfl rfl (by decide) rfl rfl (by decide) ?_).weak
    refine PF.imp h (fun v1 F1 h r1 hv => ?_)
    have h := h r1 hv
    refine PF.pr (k := 1) (pc' := 563) (lv' := [(3, .int x3), (2, .ref 129), (1, .ref 0), (0, .ref KB)]) (st' := []) rfl ?_
    refine PF.pr (k := 1) (pc' := 564) (lv' := [(3, .int x3), (2, .ref 129), (1, .ref 0), (0, .ref KB)]) (st' := [.ref 129]) rfl ?_
    refine PF.pr (k := 1) (pc' := 565) (lv' := [(3, .int x3), (2, .ref 129), (1, .ref 0), (0, .ref KB)]) (st' := [.ref KB, .ref 129]) rfl ?_
    refine PF.pr (k := 1) (pc' := 566) (lv' := [(3, .int x3), (2, .ref 129), (1, .ref 0), (0, .ref KB)]) (st' := [.int x3, .ref KB, .ref 129]) rfl ?_
    refine PF.pr (k := 1) (pc' := 567) (lv' := [(3, .int x3), (2, .ref 129), (1, .ref 0), (0, .ref KB)]) (st' := [.int 1, .int x3, .ref KB, .ref 129]) rfl ?_
    refine PF.pr (k := 1) (pc' := 568) (lv' := [(3, .int x3), (2, .ref 129), (1, .ref 0), (0, .ref KB)]) (st' := [.int (x3 + 1), .ref KB, .ref 129]) rfl ?_
    refine PF.scr rfl (fun c1 c2 => ?_)
    have h := h c1 c2
    refine PF.pr (k := 1) (pc' := 570) (lv' := [(3, .int x3), (2, .ref 129), (1, .ref 0), (0, .ref KB)]) (st' := [.ref KB, .int (xl.getD (x3 + 1).toNatClampNeg 0), .ref 129]) rfl ?_
    refine PF.pr (k := 1) (pc' := 571) (lv' := [(3, .int x3), (2, .ref 129), (1, .ref 0), (0, .ref KB)]) (st' := [.int x3, .ref KB, .int (xl.getD (x3 + 1).toNatClampNeg 0), .ref 129]) rfl ?_
    refine PF.pr (k := 1) (pc' := 572) (lv' := [(3, .int x3), (2, .ref 129), (1, .ref 0), (0, .ref KB)]) (st' := [.int 2, .int x3, .ref KB, .int (xl.getD (x3 + 1).toNatClampNeg 0), .ref 129]) rfl ?_
    refine PF.pr (k := 1) (pc' := 573) (lv' := [(3, .int x3), (2, .ref 129), (1, .ref 0), (0, .ref KB)]) (st' := [.int (x3 + 2), .ref KB, .int (xl.getD (x3 + 1).toNatClampNeg 0), .ref 129]) rfl ?_
    refine PF.scr rfl (fun c1 c2 => ?_)
    have h := h c1 c2
    refine PF.pr (k := 1) (pc' := 575) (lv' := [(3, .int x3), (2, .ref 129), (1, .ref 0), (0, .ref KB)]) (st' := [.ref KB, .int (xl.getD (x3 + 2).toNatClampNeg 0), .int (xl.getD (x3 + 1).toNatClampNeg 0), .ref 129]) rfl ?_
    refine PF.pr (k := 1) (pc' := 576) (lv' := [(3, .int x3), (2, .ref 129), (1, .ref 0), (0, .ref KB)]) (st' := [.int x3, .ref KB, .int (xl.getD (x3 + 2).toNatClampNeg 0), .int (xl.getD (x3 + 1).toNatClampNeg 0), .ref 129]) rfl ?_
    refine PF.pr (k := 1) (pc' := 577) (lv' := [(3, .int x3), (2, .ref 129), (1, .ref 0), (0, .ref KB)]) (st' := [.int 3, .int x3, .ref KB, .int (xl.getD (x3 + 2).toNatClampNeg 0), .int (xl.getD (x3 + 1).toNatClampNeg 0), .ref 129]) rfl ?_
    refine PF.pr (k := 1) (pc' := 578) (lv' := [(3, .int x3), (2, .ref 129), (1, .ref 0), (0, .ref KB)]) (st' := [.int (x3 + 3), .ref KB, .int (xl.getD (x3 + 2).toNatClampNeg 0), .int (xl.getD (x3 + 1).toNatClampNeg 0), .ref 129]) rfl ?_
    refine PF.scr rfl (fun c1 c2 => ?_)
    have h := h c1 c2
    refine PF.if1 (t := 586) rfl rfl (fun c => ?_) (fun c => ?_)
    · have h := h.1 (cmp_eq.1.mp c)
      refine PF.pr (k := 1) (pc' := 587) (lv' := [(3, .int x3), (2, .ref 129), (1, .ref 0), (0, .ref KB)]) (st' := [.int 0, .int (xl.getD (x3 + 2).toNatClampNeg 0), .int (xl.getD (x3 + 1).toNatClampNeg 0), .ref 129]) rfl ?_
      refine (PF.callI (j := 198) (args := [.ref 129, .int (xl.getD (x3 + 1).toNatClampNeg 0), .int (xl.getD (x3 + 2).toNatClampNeg 0), .int 0]) (rest := []) (M := cM198) (ty := .int) rfl rfl rfl rfl rfl (by decide) rfl rfl (by decide) ?_).weak
      refine PF.imp h (fun v2 F2 h r2 hv => ?_)
      have h := h r2 hv
      refine PF.pr (k := 1) (pc' := 591) (lv' := [(3, .int x3), (2, .ref 129), (1, .ref 0), (0, .ref KB)]) (st' := []) rfl ?_
      refine PF.pr (k := 1) (pc' := 1253) (lv' := [(3, .int x3), (2, .ref 129), (1, .ref 0), (0, .ref KB)]) (st' := []) rfl ?_
      exact h
    · have h := h.2 (cmp_eq.2.mp c)
      refine PF.pr (k := 1) (pc' := 583) (lv' := [(3, .int x3), (2, .ref 129), (1, .ref 0), (0, .ref KB)]) (st' := [.int 1, .int (xl.getD (x3 + 2).toNatClampNeg 0), .int (xl.getD (x3 + 1).toNatClampNeg 0), .ref 129]) rfl ?_
      refine PF.pr (k := 1) (pc' := 587) (lv' := [(3, .int x3), (2, .ref 129), (1, .ref 0), (0, .ref KB)]) (st' := [.int 1, .int (xl.getD (x3 + 2).toNatClampNeg 0), .int (xl.getD (x3 + 1).toNatClampNeg 0), .ref 129]) rfl ?_
      refine (PF.callI (j := 198) (args := [.ref 129, .int (xl.getD (x3 + 1).toNatClampNeg 0), .int (xl.getD (x3 + 2).toNatClampNeg 0), .int 1]) (rest := []) (M := cM198) (ty := .int) rfl rfl rfl rfl rfl (by decide) rfl rfl (by decide) ?_).weak
      refine PF.imp h (fun v3 F3 h r3 hv => ?_)
      have h := h r3 hv
      refine PF.pr (k := 1) (pc' := 591) (lv' := [(3, .int x3), (2, .ref 129), (1, .ref 0), (0, .ref KB)]) (st' := []) rfl ?_
      refine PF.pr (k := 1) (pc' := 1253) (lv' := [(3, .int x3), (2, .ref 129), (1, .ref 0), (0, .ref KB)]) (st' := []) rfl ?_
      exact h
  · have h := h.2 (cmp_eq.2.mp c)
    refine PF.pr (k := 1) (pc' := 555) (lv' := [(3, .int x3), (2, .ref 129), (1, .ref 0), (0, .ref KB)]) (st' := [.int 1, .int (xl.getD (x3 + 2).toNatClampNeg 0), .int (xl.getD (x3 + 1).toNatClampNeg 0), .ref 0]) rfl ?_
    refine PF.pr (k := 1) (pc' := 559) (lv' := [(3, .int x3), (2, .ref 129), (1, .ref 0), (0, .ref KB)]) (st' := [.int 1, .int (xl.getD (x3 + 2).toNatClampNeg 0), .int (xl.getD (x3 + 1).toNatClampNeg 0), .ref 0]) rfl ?_
    refine (PF.callI (j := 83) (args := [.ref 0, .int (xl.getD (x3 + 1).toNatClampNeg 0), .int (xl.getD (x3 + 2).toNatClampNeg 0), .int 1]) (rest := []) (M := cM83) (ty := .int) rfl rfl rfl rfl rfl (by decide) rfl rfl (by decide) ?_).weak
    refine PF.imp h (fun v4 F4 h r4 hv => ?_)
    have h := h r4 hv
    refine PF.pr (k := 1) (pc' := 563) (lv' := [(3, .int x3), (2, .ref 129), (1, .ref 0), (0, .ref KB)]) (st' := []) rfl ?_
    refine PF.pr (k := 1) (pc' := 564) (lv' := [(3, .int x3), (2, .ref 129), (1, .ref 0), (0, .ref KB)]) (st' := [.ref 129]) rfl ?_
    refine PF.pr (k := 1) (pc' := 565) (lv' := [(3, .int x3), (2, .ref 129), (1, .ref 0), (0, .ref KB)]) (st' := [.ref KB, .ref 129]) rfl ?_
    refine PF.pr (k := 1) (pc' := 566) (lv' := [(3, .int x3), (2, .ref 129), (1, .ref 0), (0, .ref KB)]) (st' := [.int x3, .ref KB, .ref 129]) rfl ?_
    refine PF.pr (k := 1) (pc' := 567) (lv' := [(3, .int x3), (2, .ref 129), (1, .ref 0), (0, .ref KB)]) (st' := [.int 1, .int x3, .ref KB, .ref 129]) rfl ?_
    refine PF.pr (k := 1) (pc' := 568) (lv' := [(3, .int x3), (2, .ref 129), (1, .ref 0), (0, .ref KB)]) (st' := [.int (x3 + 1), .ref KB, .ref 129]) rfl ?_
    refine PF.scr rfl (fun c1 c2 => ?_)
    have h := h c1 c2
    refine PF.pr (k := 1) (pc' := 570) (lv' := [(3, .int x3), (2, .ref 129), (1, .ref 0), (0, .ref KB)]) (st' := [.ref KB, .int (xl.getD (x3 + 1).toNatClampNeg 0), .ref 129]) rfl ?_
    refine PF.pr (k := 1) (pc' := 571) (lv' := [(3, .int x3), (2, .ref 129), (1, .ref 0), (0, .ref KB)]) (st' := [.int x3, .ref KB, .int (xl.getD (x3 + 1).toNatClampNeg 0), .ref 129]) rfl ?_
    refine PF.pr (k := 1) (pc' := 572) (lv' := [(3, .int x3), (2, .ref 129), (1, .ref 0), (0, .ref KB)]) (st' := [.int 2, .int x3, .ref KB, .int (xl.getD (x3 + 1).toNatClampNeg 0), .ref 129]) rfl ?_
    refine PF.pr (k := 1) (pc' := 573) (lv' := [(3, .int x3), (2, .ref 129), (1, .ref 0), (0, .ref KB)]) (st' := [.int (x3 + 2), .ref KB, .int (xl.getD (x3 + 1).toNatClampNeg 0), .ref 129]) rfl ?_
    refine PF.scr rfl (fun c1 c2 => ?_)
    have h := h c1 c2
    refine PF.pr (k := 1) (pc' := 575) (lv' := [(3, .int x3), (2, .ref 129), (1, .ref 0), (0, .ref KB)]) (st' := [.ref KB, .int (xl.getD (x3 + 2).toNatClampNeg 0), .int (xl.getD (x3 + 1).toNatClampNeg 0), .ref 129]) rfl ?_
    refine PF.pr (k := 1) (pc' := 576) (lv' := [(3, .int x3), (2, .ref 129), (1, .ref 0), (0, .ref KB)]) (st' := [.int x3, .ref KB, .int (xl.getD (x3 + 2).toNatClampNeg 0), .int (xl.getD (x3 + 1).toNatClampNeg 0), .ref 129]) rfl ?_
    refine PF.pr (k := 1) (pc' := 577) (lv' := [(3, .int x3), (2, .ref 129), (1, .ref 0), (0, .ref KB)]) (st' := [.int 3, .int x3, .ref KB, .int (xl.getD (x3 + 2).toNatClampNeg 0), .int (xl.getD (x3 + 1).toNatClampNeg 0), .ref 129]) rfl ?_
    refine PF.pr (k := 1) (pc' := 578) (lv' := [(3, .int x3), (2, .ref 129), (1, .ref 0), (0, .ref KB)]) (st' := [.int (x3 + 3), .ref KB, .int (xl.getD (x3 + 2).toNatClampNeg 0), .int (xl.getD (x3 + 1).toNatClampNeg 0), .ref 129]) rfl ?_
    refine PF.scr rfl (fun c1 c2 => ?_)
    have h := h c1 c2
    refine PF.if1 (t := 586) rfl rfl (fun c => ?_) (fun c => ?_)
    · have h := h.1 (cmp_eq.1.mp c)
      refine PF.pr (k := 1) (pc' := 587) (lv' := [(3, .int x3), (2, .ref 129), (1, .ref 0), (0, .ref KB)]) (st' := [.int 0, .int (xl.getD (x3 + 2).toNatClampNeg 0), .int (xl.getD (x3 + 1).toNatClampNeg 0), .ref 129]) rfl ?_
      refine (PF.callI (j := 198) (args := [.ref 129, .int (xl.getD (x3 + 1).toNatClampNeg 0), .int (xl.getD (x3 + 2).toNatClampNeg 0), .int 0]) (rest := []) (M := cM198) (ty := .int) rfl rfl rfl rfl rfl (by decide) rfl rfl (by decide) ?_).weak
      refine PF.imp h (fun v5 F5 h r5 hv => ?_)
      have h := h r5 hv
      refine PF.pr (k := 1) (pc' := 591) (lv' := [(3, .int x3), (2, .ref 129), (1, .ref 0), (0, .ref KB)]) (st' := []) rfl ?_
      refine PF.pr (k := 1) (pc' := 1253) (lv' := [(3, .int x3), (2, .ref 129), (1, .ref 0), (0, .ref KB)]) (st' := []) rfl ?_
      exact h
    · have h := h.2 (cmp_eq.2.mp c)
      refine PF.pr (k := 1) (pc' := 583) (lv' := [(3, .int x3), (2, .ref 129), (1, .ref 0), (0, .ref KB)]) (st' := [.int 1, .int (xl.getD (x3 + 2).toNatClampNeg 0), .int (xl.getD (x3 + 1).toNatClampNeg 0), .ref 129]) rfl ?_
      refine PF.pr (k := 1) (pc' := 587) (lv' := [(3, .int x3), (2, .ref 129), (1, .ref 0), (0, .ref KB)]) (st' := [.int 1, .int (xl.getD (x3 + 2).toNatClampNeg 0), .int (xl.getD (x3 + 1).toNatClampNeg 0), .ref 129]) rfl ?_
      refine (PF.callI (j := 198) (args := [.ref 129, .int (xl.getD (x3 + 1).toNatClampNeg 0), .int (xl.getD (x3 + 2).toNatClampNeg 0), .int 1]) (rest := []) (M := cM198) (ty := .int) rfl rfl rfl rfl rfl (by decide) rfl rfl (by decide) ?_).weak
      refine PF.imp h (fun v6 F6 h r6 hv => ?_)
      have h := h r6 hv
      refine PF.pr (k := 1) (pc' := 591) (lv' := [(3, .int x3), (2, .ref 129), (1, .ref 0), (0, .ref KB)]) (st' := []) rfl ?_
      refine PF.pr (k := 1) (pc' := 1253) (lv' := [(3, .int x3), (2, .ref 129), (1, .ref 0), (0, .ref KB)]) (st' := []) rfl ?_
      exact h

theorem l_594 {xl : List Int32} {n : Nat} {F : MH} {Q : Option Value → MH → Prop} {x3 : Int32} (h : (0 ≤ (x3 + 1).toInt → (x3 + 1).toInt < xl.length → PF (tRo xl) n 84 0 [(0, .ref 0), (1, .int (xl.getD (x3 + 1).toNatClampNeg 0))] [] F (fun v1 F1 => ∀ r1, v1 = some (.int r1) → (0 ≤ (x3 + 1).toInt → (x3 + 1).toInt < xl.length → PF (tRo xl) n 199 0 [(0, .ref 129), (1, .int (xl.getD (x3 + 1).toNatClampNeg 0))] [] F1 (fun v2 F2 => ∀ r2, v2 = some (.int r2) → PF (tRo xl) n 0 1253 [(3, .int x3), (2, .ref 129), (1, .ref 0), (0, .ref KB)] [] F2 Q))))) : PF (tRo xl) (n + 1) 0 594 [(3, .int x3), (2, .ref 129), (1, .ref 0), (0, .ref KB)] [] F Q := by
  refine PF.pr1 (k := 0) (pc' := 595) (lv' := [(3, .int x3), (2, .ref 129), (1, .ref 0), (0, .ref KB)]) (st' := [.ref 0]) rfl ?_
  refine PF.pr (k := 1) (pc' := 596) (lv' := [(3, .int x3), (2, .ref 129), (1, .ref 0), (0, .ref KB)]) (st' := [.ref KB, .ref 0]) rfl ?_
  refine PF.pr (k := 1) (pc' := 597) (lv' := [(3, .int x3), (2, .ref 129), (1, .ref 0), (0, .ref KB)]) (st' := [.int x3, .ref KB, .ref 0]) rfl ?_
  refine PF.pr (k := 1) (pc' := 598) (lv' := [(3, .int x3), (2, .ref 129), (1, .ref 0), (0, .ref KB)]) (st' := [.int 1, .int x3, .ref KB, .ref 0]) rfl ?_
  refine PF.pr (k := 1) (pc' := 599) (lv' := [(3, .int x3), (2, .ref 129), (1, .ref 0), (0, .ref KB)]) (st' := [.int (x3 + 1), .ref KB, .ref 0]) rfl ?_
  refine PF.scr rfl (fun c1 c2 => ?_)
  have h := h c1 c2
  refine (PF.callI (j := 84) (args := [.ref 0, .int (xl.getD (x3 + 1).toNatClampNeg 0)]) (rest := []) (M := cM84) (ty := .int) rfl rfl rfl rfl rfl (by decide) rfl rfl (by decide) ?_).weak
  refine PF.imp h (fun v1 F1 h r1 hv => ?_)
  have h := h r1 hv
  refine PF.pr (k := 1) (pc' := 604) (lv' := [(3, .int x3), (2, .ref 129), (1, .ref 0), (0, .ref KB)]) (st' := []) rfl ?_
  refine PF.pr (k := 1) (pc' := 605) (lv' := [(3, .int x3), (2, .ref 129), (1, .ref 0), (0, .ref KB)]) (st' := [.ref 129]) rfl ?_
  refine PF.pr (k := 1) (pc' := 606) (lv' := [(3, .int x3), (2, .ref 129), (1, .ref 0), (0, .ref KB)]) (st' := [.ref KB, .ref 129]) rfl ?_
  refine PF.pr (k := 1) (pc' := 607) (lv' := [(3, .int x3), (2, .ref 129), (1, .ref 0), (0, .ref KB)]) (st' := [.int x3, .ref KB, .ref 129]) rfl ?_
  refine PF.pr (k := 1) (pc' := 608) (lv' := [(3, .int x3), (2, .ref 129), (1, .ref 0), (0, .ref KB)]) (st' := [.int 1, .int x3, .ref KB, .ref 129]) rfl ?_
  refine PF.pr (k := 1) (pc' := 609) (lv' := [(3, .int x3), (2, .ref 129), (1, .ref 0), (0, .ref KB)]) (st' := [.int (x3 + 1), .ref KB, .ref 129]) rfl ?_
  refine PF.scr rfl (fun c1 c2 => ?_)
  have h := h c1 c2
  refine (PF.callI (j := 199) (args := [.ref 129, .int (xl.getD (x3 + 1).toNatClampNeg 0)]) (rest := []) (M := cM199) (ty := .int) rfl rfl rfl rfl rfl (by decide) rfl rfl (by decide) ?_).weak
  refine PF.imp h (fun v2 F2 h r2 hv => ?_)
  have h := h r2 hv
  refine PF.pr (k := 1) (pc' := 614) (lv' := [(3, .int x3), (2, .ref 129), (1, .ref 0), (0, .ref KB)]) (st' := []) rfl ?_
  refine PF.pr (k := 1) (pc' := 1253) (lv' := [(3, .int x3), (2, .ref 129), (1, .ref 0), (0, .ref KB)]) (st' := []) rfl ?_
  exact h

theorem l_617 {xl : List Int32} {n : Nat} {F : MH} {Q : Option Value → MH → Prop} {x3 : Int32} (h : (0 ≤ (x3 + 1).toInt → (x3 + 1).toInt < xl.length → PF (tRo xl) n 85 0 [(0, .ref 0), (1, .int (xl.getD (x3 + 1).toNatClampNeg 0))] [] F (fun v1 F1 => ∀ r1, v1 = some (.int r1) → (0 ≤ (x3 + 1).toInt → (x3 + 1).toInt < xl.length → PF (tRo xl) n 201 0 [(0, .ref 129), (1, .int (xl.getD (x3 + 1).toNatClampNeg 0))] [] F1 (fun v2 F2 => ∀ r2, v2 = some (.int r2) → PF (tRo xl) n 0 1253 [(3, .int x3), (2, .ref 129), (1, .ref 0), (0, .ref KB)] [] F2 Q))))) : PF (tRo xl) (n + 1) 0 617 [(3, .int x3), (2, .ref 129), (1, .ref 0), (0, .ref KB)] [] F Q := by
  refine PF.pr1 (k := 0) (pc' := 618) (lv' := [(3, .int x3), (2, .ref 129), (1, .ref 0), (0, .ref KB)]) (st' := [.ref 0]) rfl ?_
  refine PF.pr (k := 1) (pc' := 619) (lv' := [(3, .int x3), (2, .ref 129), (1, .ref 0), (0, .ref KB)]) (st' := [.ref KB, .ref 0]) rfl ?_
  refine PF.pr (k := 1) (pc' := 620) (lv' := [(3, .int x3), (2, .ref 129), (1, .ref 0), (0, .ref KB)]) (st' := [.int x3, .ref KB, .ref 0]) rfl ?_
  refine PF.pr (k := 1) (pc' := 621) (lv' := [(3, .int x3), (2, .ref 129), (1, .ref 0), (0, .ref KB)]) (st' := [.int 1, .int x3, .ref KB, .ref 0]) rfl ?_
  refine PF.pr (k := 1) (pc' := 622) (lv' := [(3, .int x3), (2, .ref 129), (1, .ref 0), (0, .ref KB)]) (st' := [.int (x3 + 1), .ref KB, .ref 0]) rfl ?_
  refine PF.scr rfl (fun c1 c2 => ?_)
  have h := h c1 c2
  refine (PF.callI (j := 85) (args := [.ref 0, .int (xl.getD (x3 + 1).toNatClampNeg 0)]) (rest := []) (M := cM85) (ty := .int) rfl rfl rfl rfl rfl (by decide) rfl rfl (by decide) ?_).weak
  refine PF.imp h (fun v1 F1 h r1 hv => ?_)
  have h := h r1 hv
  refine PF.pr (k := 1) (pc' := 627) (lv' := [(3, .int x3), (2, .ref 129), (1, .ref 0), (0, .ref KB)]) (st' := []) rfl ?_
  refine PF.pr (k := 1) (pc' := 628) (lv' := [(3, .int x3), (2, .ref 129), (1, .ref 0), (0, .ref KB)]) (st' := [.ref 129]) rfl ?_
  refine PF.pr (k := 1) (pc' := 629) (lv' := [(3, .int x3), (2, .ref 129), (1, .ref 0), (0, .ref KB)]) (st' := [.ref KB, .ref 129]) rfl ?_
  refine PF.pr (k := 1) (pc' := 630) (lv' := [(3, .int x3), (2, .ref 129), (1, .ref 0), (0, .ref KB)]) (st' := [.int x3, .ref KB, .ref 129]) rfl ?_
  refine PF.pr (k := 1) (pc' := 631) (lv' := [(3, .int x3), (2, .ref 129), (1, .ref 0), (0, .ref KB)]) (st' := [.int 1, .int x3, .ref KB, .ref 129]) rfl ?_
  refine PF.pr (k := 1) (pc' := 632) (lv' := [(3, .int x3), (2, .ref 129), (1, .ref 0), (0, .ref KB)]) (st' := [.int (x3 + 1), .ref KB, .ref 129]) rfl ?_
  refine PF.scr rfl (fun c1 c2 => ?_)
  have h := h c1 c2
  refine (PF.callI (j := 201) (args := [.ref 129, .int (xl.getD (x3 + 1).toNatClampNeg 0)]) (rest := []) (M := cM201) (ty := .int) rfl rfl rfl rfl rfl (by decide) rfl rfl (by decide) ?_).weak
  refine PF.imp h (fun v2 F2 h r2 hv => ?_)
  have h := h r2 hv
  refine PF.pr (k := 1) (pc' := 637) (lv' := [(3, .int x3), (2, .ref 129), (1, .ref 0), (0, .ref KB)]) (st' := []) rfl ?_
  refine PF.pr (k := 1) (pc' := 1253) (lv' := [(3, .int x3), (2, .ref 129), (1, .ref 0), (0, .ref KB)]) (st' := []) rfl ?_
  exact h

theorem l_640 {xl : List Int32} {n : Nat} {F : MH} {Q : Option Value → MH → Prop} {x3 : Int32} (h : (0 ≤ (x3 + 1).toInt → (x3 + 1).toInt < xl.length → PF (tRo xl) n 86 0 [(0, .ref 0), (1, .int (xl.getD (x3 + 1).toNatClampNeg 0))] [] F (fun v1 F1 => ∀ r1, v1 = some (.int r1) → (0 ≤ (x3 + 1).toInt → (x3 + 1).toInt < xl.length → PF (tRo xl) n 202 0 [(0, .ref 129), (1, .int (xl.getD (x3 + 1).toNatClampNeg 0))] [] F1 (fun v2 F2 => ∀ r2, v2 = some (.int r2) → PF (tRo xl) n 0 1253 [(3, .int x3), (2, .ref 129), (1, .ref 0), (0, .ref KB)] [] F2 Q))))) : PF (tRo xl) (n + 1) 0 640 [(3, .int x3), (2, .ref 129), (1, .ref 0), (0, .ref KB)] [] F Q := by
  refine PF.pr1 (k := 0) (pc' := 641) (lv' := [(3, .int x3), (2, .ref 129), (1, .ref 0), (0, .ref KB)]) (st' := [.ref 0]) rfl ?_
  refine PF.pr (k := 1) (pc' := 642) (lv' := [(3, .int x3), (2, .ref 129), (1, .ref 0), (0, .ref KB)]) (st' := [.ref KB, .ref 0]) rfl ?_
  refine PF.pr (k := 1) (pc' := 643) (lv' := [(3, .int x3), (2, .ref 129), (1, .ref 0), (0, .ref KB)]) (st' := [.int x3, .ref KB, .ref 0]) rfl ?_
  refine PF.pr (k := 1) (pc' := 644) (lv' := [(3, .int x3), (2, .ref 129), (1, .ref 0), (0, .ref KB)]) (st' := [.int 1, .int x3, .ref KB, .ref 0]) rfl ?_
  refine PF.pr (k := 1) (pc' := 645) (lv' := [(3, .int x3), (2, .ref 129), (1, .ref 0), (0, .ref KB)]) (st' := [.int (x3 + 1), .ref KB, .ref 0]) rfl ?_
  refine PF.scr rfl (fun c1 c2 => ?_)
  have h := h c1 c2
  refine (PF.callI (j := 86) (args := [.ref 0, .int (xl.getD (x3 + 1).toNatClampNeg 0)]) (rest := []) (M := cM86) (ty := .int) rfl rfl rfl rfl rfl (by decide) rfl rfl (by decide) ?_).weak
  refine PF.imp h (fun v1 F1 h r1 hv => ?_)
  have h := h r1 hv
  refine PF.pr (k := 1) (pc' := 650) (lv' := [(3, .int x3), (2, .ref 129), (1, .ref 0), (0, .ref KB)]) (st' := []) rfl ?_
  refine PF.pr (k := 1) (pc' := 651) (lv' := [(3, .int x3), (2, .ref 129), (1, .ref 0), (0, .ref KB)]) (st' := [.ref 129]) rfl ?_
  refine PF.pr (k := 1) (pc' := 652) (lv' := [(3, .int x3), (2, .ref 129), (1, .ref 0), (0, .ref KB)]) (st' := [.ref KB, .ref 129]) rfl ?_
  refine PF.pr (k := 1) (pc' := 653) (lv' := [(3, .int x3), (2, .ref 129), (1, .ref 0), (0, .ref KB)]) (st' := [.int x3, .ref KB, .ref 129]) rfl ?_
  refine PF.pr (k := 1) (pc' := 654) (lv' := [(3, .int x3), (2, .ref 129), (1, .ref 0), (0, .ref KB)]) (st' := [.int 1, .int x3, .ref KB, .ref 129]) rfl ?_
  refine PF.pr (k := 1) (pc' := 655) (lv' := [(3, .int x3), (2, .ref 129), (1, .ref 0), (0, .ref KB)]) (st' := [.int (x3 + 1), .ref KB, .ref 129]) rfl ?_
  refine PF.scr rfl (fun c1 c2 => ?_)
  have h := h c1 c2
  refine (PF.callI (j := 202) (args := [.ref 129, .int (xl.getD (x3 + 1).toNatClampNeg 0)]) (rest := []) (M := cM202) (ty := .int) rfl rfl rfl rfl rfl (by decide) rfl rfl (by decide) ?_).weak
  refine PF.imp h (fun v2 F2 h r2 hv => ?_)
  have h := h r2 hv
  refine PF.pr (k := 1) (pc' := 660) (lv' := [(3, .int x3), (2, .ref 129), (1, .ref 0), (0, .ref KB)]) (st' := []) rfl ?_
  refine PF.pr (k := 1) (pc' := 1253) (lv' := [(3, .int x3), (2, .ref 129), (1, .ref 0), (0, .ref KB)]) (st' := []) rfl ?_
  exact h

theorem l_663 {xl : List Int32} {n : Nat} {F : MH} {Q : Option Value → MH → Prop} {x3 : Int32} (h : (0 ≤ (x3 + 1).toInt → (x3 + 1).toInt < xl.length → PF (tRo xl) n 93 0 [(0, .ref 0), (1, .int (xl.getD (x3 + 1).toNatClampNeg 0))] [] F (fun v1 F1 => ∀ r1, v1 = some (.int r1) → (0 ≤ (x3 + 1).toInt → (x3 + 1).toInt < xl.length → PF (tRo xl) n 204 0 [(0, .ref 129), (1, .int (xl.getD (x3 + 1).toNatClampNeg 0))] [] F1 (fun v2 F2 => ∀ r2, v2 = some (.int r2) → PF (tRo xl) n 0 1253 [(3, .int x3), (2, .ref 129), (1, .ref 0), (0, .ref KB)] [] F2 Q))))) : PF (tRo xl) (n + 1) 0 663 [(3, .int x3), (2, .ref 129), (1, .ref 0), (0, .ref KB)] [] F Q := by
  refine PF.pr1 (k := 0) (pc' := 664) (lv' := [(3, .int x3), (2, .ref 129), (1, .ref 0), (0, .ref KB)]) (st' := [.ref 0]) rfl ?_
  refine PF.pr (k := 1) (pc' := 665) (lv' := [(3, .int x3), (2, .ref 129), (1, .ref 0), (0, .ref KB)]) (st' := [.ref KB, .ref 0]) rfl ?_
  refine PF.pr (k := 1) (pc' := 666) (lv' := [(3, .int x3), (2, .ref 129), (1, .ref 0), (0, .ref KB)]) (st' := [.int x3, .ref KB, .ref 0]) rfl ?_
  refine PF.pr (k := 1) (pc' := 667) (lv' := [(3, .int x3), (2, .ref 129), (1, .ref 0), (0, .ref KB)]) (st' := [.int 1, .int x3, .ref KB, .ref 0]) rfl ?_
  refine PF.pr (k := 1) (pc' := 668) (lv' := [(3, .int x3), (2, .ref 129), (1, .ref 0), (0, .ref KB)]) (st' := [.int (x3 + 1), .ref KB, .ref 0]) rfl ?_
  refine PF.scr rfl (fun c1 c2 => ?_)
  have h := h c1 c2
  refine (PF.callI (j := 93) (args := [.ref 0, .int (xl.getD (x3 + 1).toNatClampNeg 0)]) (rest := []) (M := cM93) (ty := .int) rfl rfl rfl rfl rfl (by decide) rfl rfl (by decide) ?_).weak
  refine PF.imp h (fun v1 F1 h r1 hv => ?_)
  have h := h r1 hv
  refine PF.pr (k := 1) (pc' := 673) (lv' := [(3, .int x3), (2, .ref 129), (1, .ref 0), (0, .ref KB)]) (st' := []) rfl ?_
  refine PF.pr (k := 1) (pc' := 674) (lv' := [(3, .int x3), (2, .ref 129), (1, .ref 0), (0, .ref KB)]) (st' := [.ref 129]) rfl ?_
  refine PF.pr (k := 1) (pc' := 675) (lv' := [(3, .int x3), (2, .ref 129), (1, .ref 0), (0, .ref KB)]) (st' := [.ref KB, .ref 129]) rfl ?_
  refine PF.pr (k := 1) (pc' := 676) (lv' := [(3, .int x3), (2, .ref 129), (1, .ref 0), (0, .ref KB)]) (st' := [.int x3, .ref KB, .ref 129]) rfl ?_
  refine PF.pr (k := 1) (pc' := 677) (lv' := [(3, .int x3), (2, .ref 129), (1, .ref 0), (0, .ref KB)]) (st' := [.int 1, .int x3, .ref KB, .ref 129]) rfl ?_
  refine PF.pr (k := 1) (pc' := 678) (lv' := [(3, .int x3), (2, .ref 129), (1, .ref 0), (0, .ref KB)]) (st' := [.int (x3 + 1), .ref KB, .ref 129]) rfl ?_
  refine PF.scr rfl (fun c1 c2 => ?_)
  have h := h c1 c2
  refine (PF.callI (j := 204) (args := [.ref 129, .int (xl.getD (x3 + 1).toNatClampNeg 0)]) (rest := []) (M := cM204) (ty := .int) rfl rfl rfl rfl rfl (by decide) rfl rfl (by decide) ?_).weak
  refine PF.imp h (fun v2 F2 h r2 hv => ?_)
  have h := h r2 hv
  refine PF.pr (k := 1) (pc' := 683) (lv' := [(3, .int x3), (2, .ref 129), (1, .ref 0), (0, .ref KB)]) (st' := []) rfl ?_
  refine PF.pr (k := 1) (pc' := 1253) (lv' := [(3, .int x3), (2, .ref 129), (1, .ref 0), (0, .ref KB)]) (st' := []) rfl ?_
  exact h

theorem l_686 {xl : List Int32} {n : Nat} {F : MH} {Q : Option Value → MH → Prop} {x3 : Int32} (h : (0 ≤ (x3 + 1).toInt → (x3 + 1).toInt < xl.length → PF (tRo xl) n 94 0 [(0, .ref 0), (1, .int (xl.getD (x3 + 1).toNatClampNeg 0))] [] F (fun v1 F1 => ∀ r1, v1 = some (.int r1) → (0 ≤ (x3 + 1).toInt → (x3 + 1).toInt < xl.length → PF (tRo xl) n 206 0 [(0, .ref 129), (1, .int (xl.getD (x3 + 1).toNatClampNeg 0))] [] F1 (fun v2 F2 => ∀ r2, v2 = some (.int r2) → PF (tRo xl) n 0 1253 [(3, .int x3), (2, .ref 129), (1, .ref 0), (0, .ref KB)] [] F2 Q))))) : PF (tRo xl) (n + 1) 0 686 [(3, .int x3), (2, .ref 129), (1, .ref 0), (0, .ref KB)] [] F Q := by
  refine PF.pr1 (k := 0) (pc' := 687) (lv' := [(3, .int x3), (2, .ref 129), (1, .ref 0), (0, .ref KB)]) (st' := [.ref 0]) rfl ?_
  refine PF.pr (k := 1) (pc' := 688) (lv' := [(3, .int x3), (2, .ref 129), (1, .ref 0), (0, .ref KB)]) (st' := [.ref KB, .ref 0]) rfl ?_
  refine PF.pr (k := 1) (pc' := 689) (lv' := [(3, .int x3), (2, .ref 129), (1, .ref 0), (0, .ref KB)]) (st' := [.int x3, .ref KB, .ref 0]) rfl ?_
  refine PF.pr (k := 1) (pc' := 690) (lv' := [(3, .int x3), (2, .ref 129), (1, .ref 0), (0, .ref KB)]) (st' := [.int 1, .int x3, .ref KB, .ref 0]) rfl ?_
  refine PF.pr (k := 1) (pc' := 691) (lv' := [(3, .int x3), (2, .ref 129), (1, .ref 0), (0, .ref KB)]) (st' := [.int (x3 + 1), .ref KB, .ref 0]) rfl ?_
  refine PF.scr rfl (fun c1 c2 => ?_)
  have h := h c1 c2
  refine (PF.callI (j := 94) (args := [.ref 0, .int (xl.getD (x3 + 1).toNatClampNeg 0)]) (rest := []) (M := cM94) (ty := .int) rfl rfl rfl rfl rfl (by decide) rfl rfl (by decide) ?_).weak
  refine PF.imp h (fun v1 F1 h r1 hv => ?_)
  have h := h r1 hv
  refine PF.pr (k := 1) (pc' := 696) (lv' := [(3, .int x3), (2, .ref 129), (1, .ref 0), (0, .ref KB)]) (st' := []) rfl ?_
  refine PF.pr (k := 1) (pc' := 697) (lv' := [(3, .int x3), (2, .ref 129), (1, .ref 0), (0, .ref KB)]) (st' := [.ref 129]) rfl ?_
  refine PF.pr (k := 1) (pc' := 698) (lv' := [(3, .int x3), (2, .ref 129), (1, .ref 0), (0, .ref KB)]) (st' := [.ref KB, .ref 129]) rfl ?_
  refine PF.pr (k := 1) (pc' := 699) (lv' := [(3, .int x3), (2, .ref 129), (1, .ref 0), (0, .ref KB)]) (st' := [.int x3, .ref KB, .ref 129]) rfl ?_
  refine PF.pr (k := 1) (pc' := 700) (lv' := [(3, .int x3), (2, .ref 129), (1, .ref 0), (0, .ref KB)]) (st' := [.int 1, .int x3, .ref KB, .ref 129]) rfl ?_
  refine PF.pr (k := 1) (pc' := 701) (lv' := [(3, .int x3), (2, .ref 129), (1, .ref 0), (0, .ref KB)]) (st' := [.int (x3 + 1), .ref KB, .ref 129]) rfl ?_
  refine PF.scr rfl (fun c1 c2 => ?_)
  have h := h c1 c2
  refine (PF.callI (j := 206) (args := [.ref 129, .int (xl.getD (x3 + 1).toNatClampNeg 0)]) (rest := []) (M := cM206) (ty := .int) rfl rfl rfl rfl rfl (by decide) rfl rfl (by decide) ?_).weak
  refine PF.imp h (fun v2 F2 h r2 hv => ?_)
  have h := h r2 hv
  refine PF.pr (k := 1) (pc' := 706) (lv' := [(3, .int x3), (2, .ref 129), (1, .ref 0), (0, .ref KB)]) (st' := []) rfl ?_
  refine PF.pr (k := 1) (pc' := 1253) (lv' := [(3, .int x3), (2, .ref 129), (1, .ref 0), (0, .ref KB)]) (st' := []) rfl ?_
  exact h

theorem l_709 {xl : List Int32} {n : Nat} {F : MH} {Q : Option Value → MH → Prop} {x3 : Int32} (h : (0 ≤ (x3 + 1).toInt → (x3 + 1).toInt < xl.length → (0 ≤ (x3 + 2).toInt → (x3 + 2).toInt < xl.length → PF (tRo xl) n 95 0 [(0, .ref 0), (1, .int (xl.getD (x3 + 1).toNatClampNeg 0)), (2, .int (xl.getD (x3 + 2).toNatClampNeg 0))] [] F (fun v1 F1 => ∀ r1, v1 = some (.int r1) → (0 ≤ (x3 + 1).toInt → (x3 + 1).toInt < xl.length → (0 ≤ (x3 + 2).toInt → (x3 + 2).toInt < xl.length → PF (tRo xl) n 207 0 [(0, .ref 129), (1, .int (xl.getD (x3 + 1).toNatClampNeg 0)), (2, .int (xl.getD (x3 + 2).toNatClampNeg 0))] [] F1 (fun v2 F2 => ∀ r2, v2 = some (.int r2) → PF (tRo xl) n 0 1253 [(3, .int x3), (2, .ref 129), (1, .ref 0), (0, .ref KB)] [] F2 Q))))))) : PF (tRo xl) (n + 1) 0 709 [(3, .int x3), (2, .ref 129), (1, .ref 0), (0, .ref KB)] [] F Q := by
  refine PF.pr1 (k := 0) (pc' := 710) (lv' := [(3, .int x3), (2, .ref 129), (1, .ref 0), (0, .ref KB)]) (st' := [.ref 0]) rfl ?_
  refine PF.pr (k := 1) (pc' := 711) (lv' := [(3, .int x3), (2, .ref 129), (1, .ref 0), (0, .ref KB)]) (st' := [.ref KB, .ref 0]) rfl ?_
  refine PF.pr (k := 1) (pc' := 712) (lv' := [(3, .int x3), (2, .ref 129), (1, .ref 0), (0, .ref KB)]) (st' := [.int x3, .ref KB, .ref 0]) rfl ?_
  refine PF.pr (k := 1) (pc' := 713) (lv' := [(3, .int x3), (2, .ref 129), (1, .ref 0), (0, .ref KB)]) (st' := [.int 1, .int x3, .ref KB, .ref 0]) rfl ?_
  refine PF.pr (k := 1) (pc' := 714) (lv' := [(3, .int x3), (2, .ref 129), (1, .ref 0), (0, .ref KB)]) (st' := [.int (x3 + 1), .ref KB, .ref 0]) rfl ?_
  refine PF.scr rfl (fun c1 c2 => ?_)
  have h := h c1 c2
  refine PF.pr (k := 1) (pc' := 716) (lv' := [(3, .int x3), (2, .ref 129), (1, .ref 0), (0, .ref KB)]) (st' := [.ref KB, .int (xl.getD (x3 + 1).toNatClampNeg 0), .ref 0]) rfl ?_
  refine PF.pr (k := 1) (pc' := 717) (lv' := [(3, .int x3), (2, .ref 129), (1, .ref 0), (0, .ref KB)]) (st' := [.int x3, .ref KB, .int (xl.getD (x3 + 1).toNatClampNeg 0), .ref 0]) rfl ?_
  refine PF.pr (k := 1) (pc' := 718) (lv' := [(3, .int x3), (2, .ref 129), (1, .ref 0), (0, .ref KB)]) (st' := [.int 2, .int x3, .ref KB, .int (xl.getD (x3 + 1).toNatClampNeg 0), .ref 0]) rfl ?_
  refine PF.pr (k := 1) (pc' := 719) (lv' := [(3, .int x3), (2, .ref 129), (1, .ref 0), (0, .ref KB)]) (st' := [.int (x3 + 2), .ref KB, .int (xl.getD (x3 + 1).toNatClampNeg 0), .ref 0]) rfl ?_
  refine PF.scr rfl (fun c1 c2 => ?_)
  have h := h c1 c2
  refine (PF.callI (j := 95) (args := [.ref 0, .int (xl.getD (x3 + 1).toNatClampNeg 0), .int (xl.getD (x3 + 2).toNatClampNeg 0)]) (rest := []) (M := cM95) (ty := .int) rfl rfl rfl rfl rfl (by decide) rfl rfl (by decide) ?_).weak
  refine PF.imp h (fun v1 F1 h r1 hv => ?_)
  have h := h r1 hv
  refine PF.pr (k := 1) (pc' := 724) (lv' := [(3, .int x3), (2, .ref 129), (1, .ref 0), (0, .ref KB)]) (st' := []) rfl ?_
  refine PF.pr (k := 1) (pc' := 725) (lv' := [(3, .int x3), (2, .ref 129), (1, .ref 0), (0, .ref KB)]) (st' := [.ref 129]) rfl ?_
  refine PF.pr (k := 1) (pc' := 726) (lv' := [(3, .int x3), (2, .ref 129), (1, .ref 0), (0, .ref KB)]) (st' := [.ref KB, .ref 129]) rfl ?_
  refine PF.pr (k := 1) (pc' := 727) (lv' := [(3, .int x3), (2, .ref 129), (1, .ref 0), (0, .ref KB)]) (st' := [.int x3, .ref KB, .ref 129]) rfl ?_
  refine PF.pr (k := 1) (pc' := 728) (lv' := [(3, .int x3), (2, .ref 129), (1, .ref 0), (0, .ref KB)]) (st' := [.int 1, .int x3, .ref KB, .ref 129]) rfl ?_
  refine PF.pr (k := 1) (pc' := 729) (lv' := [(3, .int x3), (2, .ref 129), (1, .ref 0), (0, .ref KB)]) (st' := [.int (x3 + 1), .ref KB, .ref 129]) rfl ?_
  refine PF.scr rfl (fun c1 c2 => ?_)
  have h := h c1 c2
  refine PF.pr (k := 1) (pc' := 731) (lv' := [(3, .int x3), (2, .ref 129), (1, .ref 0), (0, .ref KB)]) (st' := [.ref KB, .int (xl.getD (x3 + 1).toNatClampNeg 0), .ref 129]) rfl ?_
  refine PF.pr (k := 1) (pc' := 732) (lv' := [(3, .int x3), (2, .ref 129), (1, .ref 0), (0, .ref KB)]) (st' := [.int x3, .ref KB, .int (xl.getD (x3 + 1).toNatClampNeg 0), .ref 129]) rfl ?_
  refine PF.pr (k := 1) (pc' := 733) (lv' := [(3, .int x3), (2, .ref 129), (1, .ref 0), (0, .ref KB)]) (st' := [.int 2, .int x3, .ref KB, .int (xl.getD (x3 + 1).toNatClampNeg 0), .ref 129]) rfl ?_
  refine PF.pr (k := 1) (pc' := 734) (lv' := [(3, .int x3), (2, .ref 129), (1, .ref 0), (0, .ref KB)]) (st' := [.int (x3 + 2), .ref KB, .int (xl.getD (x3 + 1).toNatClampNeg 0), .ref 129]) rfl ?_
  refine PF.scr rfl (fun c1 c2 => ?_)
  have h := h c1 c2
  refine (PF.callI (j := 207) (args := [.ref 129, .int (xl.getD (x3 + 1).toNatClampNeg 0), .int (xl.getD (x3 + 2).toNatClampNeg 0)]) (rest := []) (M := cM207) (ty := .int) rfl rfl rfl rfl rfl (by decide) rfl rfl (by decide) ?_).weak
  refine PF.imp h (fun v2 F2 h r2 hv => ?_)
  have h := h r2 hv
  refine PF.pr (k := 1) (pc' := 739) (lv' := [(3, .int x3), (2, .ref 129), (1, .ref 0), (0, .ref KB)]) (st' := []) rfl ?_
  refine PF.pr (k := 1) (pc' := 1253) (lv' := [(3, .int x3), (2, .ref 129), (1, .ref 0), (0, .ref KB)]) (st' := []) rfl ?_
  exact h

theorem l_742 {xl : List Int32} {n : Nat} {F : MH} {Q : Option Value → MH → Prop} {x3 : Int32} (h : (0 ≤ (x3 + 1).toInt → (x3 + 1).toInt < xl.length → PF (tRo xl) n 107 0 [(0, .ref 0), (1, .int (xl.getD (x3 + 1).toNatClampNeg 0))] [] F (fun v1 F1 => ∀ r1, v1 = some (.int r1) → (0 ≤ (x3 + 1).toInt → (x3 + 1).toInt < xl.length → PF (tRo xl) n 215 0 [(0, .ref 129), (1, .int (xl.getD (x3 + 1).toNatClampNeg 0))] [] F1 (fun v2 F2 => ∀ r2, v2 = some (.int r2) → PF (tRo xl) n 0 1253 [(3, .int x3), (2, .ref 129), (1, .ref 0), (0, .ref KB)] [] F2 Q))))) : PF (tRo xl) (n + 1) 0 742 [(3, .int x3), (2, .ref 129), (1, .ref 0), (0, .ref KB)] [] F Q := by
  refine PF.pr1 (k := 0) (pc' := 743) (lv' := [(3, .int x3), (2, .ref 129), (1, .ref 0), (0, .ref KB)]) (st' := [.ref 0]) rfl ?_
  refine PF.pr (k := 1) (pc' := 744) (lv' := [(3, .int x3), (2, .ref 129), (1, .ref 0), (0, .ref KB)]) (st' := [.ref KB, .ref 0]) rfl ?_
  refine PF.pr (k := 1) (pc' := 745) (lv' := [(3, .int x3), (2, .ref 129), (1, .ref 0), (0, .ref KB)]) (st' := [.int x3, .ref KB, .ref 0]) rfl ?_
  refine PF.pr (k := 1) (pc' := 746) (lv' := [(3, .int x3), (2, .ref 129), (1, .ref 0), (0, .ref KB)]) (st' := [.int 1, .int x3, .ref KB, .ref 0]) rfl ?_
  refine PF.pr (k := 1) (pc' := 747) (lv' := [(3, .int x3), (2, .ref 129), (1, .ref 0), (0, .ref KB)]) (st' := [.int (x3 + 1), .ref KB, .ref 0]) rfl ?_
  refine PF.scr rfl (fun c1 c2 => ?_)
  have h := h c1 c2
  refine (PF.callI (j := 107) (args := [.ref 0, .int (xl.getD (x3 + 1).toNatClampNeg 0)]) (rest := []) (M := cM107) (ty := .int) rfl rfl rfl rfl rfl (by decide) rfl rfl (by decide) ?_).weak
  refine PF.imp h (fun v1 F1 h r1 hv => ?_)
  have h := h r1 hv
  refine PF.pr (k := 1) (pc' := 752) (lv' := [(3, .int x3), (2, .ref 129), (1, .ref 0), (0, .ref KB)]) (st' := []) rfl ?_
  refine PF.pr (k := 1) (pc' := 753) (lv' := [(3, .int x3), (2, .ref 129), (1, .ref 0), (0, .ref KB)]) (st' := [.ref 129]) rfl ?_
  refine PF.pr (k := 1) (pc' := 754) (lv' := [(3, .int x3), (2, .ref 129), (1, .ref 0), (0, .ref KB)]) (st' := [.ref KB, .ref 129]) rfl ?_
  refine PF.pr (k := 1) (pc' := 755) (lv' := [(3, .int x3), (2, .ref 129), (1, .ref 0), (0, .ref KB)]) (st' := [.int x3, .ref KB, .ref 129]) rfl ?_
  refine PF.pr (k := 1) (pc' := 756) (lv' := [(3, .int x3), (2, .ref 129), (1, .ref 0), (0, .ref KB)]) (st' := [.int 1, .int x3, .ref KB, .ref 129]) rfl ?_
  refine PF.pr (k := 1) (pc' := 757) (lv' := [(3, .int x3), (2, .ref 129), (1, .ref 0), (0, .ref KB)]) (st' := [.int (x3 + 1), .ref KB, .ref 129]) rfl ?_
  refine PF.scr rfl (fun c1 c2 => ?_)
  have h := h c1 c2
  refine (PF.callI (j := 215) (args := [.ref 129, .int (xl.getD (x3 + 1).toNatClampNeg 0)]) (rest := []) (M := cM215) (ty := .int) rfl rfl rfl rfl rfl (by decide) rfl rfl (by decide) ?_).weak
  refine PF.imp h (fun v2 F2 h r2 hv => ?_)
  have h := h r2 hv
  refine PF.pr (k := 1) (pc' := 762) (lv' := [(3, .int x3), (2, .ref 129), (1, .ref 0), (0, .ref KB)]) (st' := []) rfl ?_
  refine PF.pr (k := 1) (pc' := 1253) (lv' := [(3, .int x3), (2, .ref 129), (1, .ref 0), (0, .ref KB)]) (st' := []) rfl ?_
  exact h

theorem l_765 {xl : List Int32} {n : Nat} {F : MH} {Q : Option Value → MH → Prop} {x3 : Int32} (h : (0 ≤ (x3 + 1).toInt → (x3 + 1).toInt < xl.length → PF (tRo xl) n 109 0 [(0, .ref 0), (1, .int (xl.getD (x3 + 1).toNatClampNeg 0))] [] F (fun v1 F1 => ∀ r1, v1 = some (.int r1) → (0 ≤ (x3 + 1).toInt → (x3 + 1).toInt < xl.length → PF (tRo xl) n 216 0 [(0, .ref 129), (1, .int (xl.getD (x3 + 1).toNatClampNeg 0))] [] F1 (fun v2 F2 => ∀ r2, v2 = some (.int r2) → PF (tRo xl) n 0 1253 [(3, .int x3), (2, .ref 129), (1, .ref 0), (0, .ref KB)] [] F2 Q))))) : PF (tRo xl) (n + 1) 0 765 [(3, .int x3), (2, .ref 129), (1, .ref 0), (0, .ref KB)] [] F Q := by
  refine PF.pr1 (k := 0) (pc' := 766) (lv' := [(3, .int x3), (2, .ref 129), (1, .ref 0), (0, .ref KB)]) (st' := [.ref 0]) rfl ?_
  refine PF.pr (k := 1) (pc' := 767) (lv' := [(3, .int x3), (2, .ref 129), (1, .ref 0), (0, .ref KB)]) (st' := [.ref KB, .ref 0]) rfl ?_
  refine PF.pr (k := 1) (pc' := 768) (lv' := [(3, .int x3), (2, .ref 129), (1, .ref 0), (0, .ref KB)]) (st' := [.int x3, .ref KB, .ref 0]) rfl ?_
  refine PF.pr (k := 1) (pc' := 769) (lv' := [(3, .int x3), (2, .ref 129), (1, .ref 0), (0, .ref KB)]) (st' := [.int 1, .int x3, .ref KB, .ref 0]) rfl ?_
  refine PF.pr (k := 1) (pc' := 770) (lv' := [(3, .int x3), (2, .ref 129), (1, .ref 0), (0, .ref KB)]) (st' := [.int (x3 + 1), .ref KB, .ref 0]) rfl ?_
  refine PF.scr rfl (fun c1 c2 => ?_)
  have h := h c1 c2
  refine (PF.callI (j := 109) (args := [.ref 0, .int (xl.getD (x3 + 1).toNatClampNeg 0)]) (rest := []) (M := cM109) (ty := .int) rfl rfl rfl rfl rfl (by decide) rfl rfl (by decide) ?_).weak
  refine PF.imp h (fun v1 F1 h r1 hv => ?_)
  have h := h r1 hv
  refine PF.pr (k := 1) (pc' := 775) (lv' := [(3, .int x3), (2, .ref 129), (1, .ref 0), (0, .ref KB)]) (st' := []) rfl ?_
  refine PF.pr (k := 1) (pc' := 776) (lv' := [(3, .int x3), (2, .ref 129), (1, .ref 0), (0, .ref KB)]) (st' := [.ref 129]) rfl ?_
  refine PF.pr (k := 1) (pc' := 777) (lv' := [(3, .int x3), (2, .ref 129), (1, .ref 0), (0, .ref KB)]) (st' := [.ref KB, .ref 129]) rfl ?_
  refine PF.pr (k := 1) (pc' := 778) (lv' := [(3, .int x3), (2, .ref 129), (1, .ref 0), (0, .ref KB)]) (st' := [.int x3, .ref KB, .ref 129]) rfl ?_
  refine PF.pr (k := 1) (pc' := 779) (lv' := [(3, .int x3), (2, .ref 129), (1, .ref 0), (0, .ref KB)]) (st' := [.int 1, .int x3, .ref KB, .ref 129]) rfl ?_
  refine PF.pr (k := 1) (pc' := 780) (lv' := [(3, .int x3), (2, .ref 129), (1, .ref 0), (0, .ref KB)]) (st' := [.int (x3 + 1), .ref KB, .ref 129]) rfl ?_
  refine PF.scr rfl (fun c1 c2 => ?_)
  have h := h c1 c2
  refine (PF.callI (j := 216) (args := [.ref 129, .int (xl.getD (x3 + 1).toNatClampNeg 0)]) (rest := []) (M := cM216) (ty := .int) rfl rfl rfl rfl rfl (by decide) rfl rfl (by decide) ?_).weak
  refine PF.imp h (fun v2 F2 h r2 hv => ?_)
  have h := h r2 hv
  refine PF.pr (k := 1) (pc' := 785) (lv' := [(3, .int x3), (2, .ref 129), (1, .ref 0), (0, .ref KB)]) (st' := []) rfl ?_
  refine PF.pr (k := 1) (pc' := 1253) (lv' := [(3, .int x3), (2, .ref 129), (1, .ref 0), (0, .ref KB)]) (st' := []) rfl ?_
  exact h

theorem l_788 {xl : List Int32} {n : Nat} {F : MH} {Q : Option Value → MH → Prop} {x3 : Int32} (h : (0 ≤ (x3 + 1).toInt → (x3 + 1).toInt < xl.length → (0 ≤ (x3 + 2).toInt → (x3 + 2).toInt < xl.length → (0 ≤ (x3 + 3).toInt → (x3 + 3).toInt < xl.length → PF (tRo xl) n 111 0 [(0, .ref 0), (1, .int (xl.getD (x3 + 1).toNatClampNeg 0)), (2, .int (xl.getD (x3 + 2).toNatClampNeg 0)), (3, .int (xl.getD (x3 + 3).toNatClampNeg 0))] [] F (fun v1 F1 => ∀ r1, v1 = some (.int r1) → (0 ≤ (x3 + 1).toInt → (x3 + 1).toInt < xl.length → (0 ≤ (x3 + 2).toInt → (x3 + 2).toInt < xl.length → (0 ≤ (x3 + 3).toInt → (x3 + 3).toInt < xl.length → PF (tRo xl) n 217 0 [(0, .ref 129), (1, .int (xl.getD (x3 + 1).toNatClampNeg 0)), (2, .int (xl.getD (x3 + 2).toNatClampNeg 0)), (3, .int (xl.getD (x3 + 3).toNatClampNeg 0))] [] F1 (fun v2 F2 => ∀ r2, v2 = some (.int r2) → PF (tRo xl) n 0 1253 [(3, .int x3), (2, .ref 129), (1, .ref 0), (0, .ref KB)] [] F2 Q))))))))) : PF (tRo xl) (n + 1) 0 788 [(3, .int x3), (2, .ref 129), (1, .ref 0), (0, .ref KB)] [] F Q := by
  refine PF.pr1 (k := 0) (pc' := 789) (lv' := [(3, .int x3), (2, .ref 129), (1, .ref 0), (0, .ref KB)]) (st' := [.ref 0]) rfl ?_
  refine PF.pr (k := 1) (pc' := 790) (lv' := [(3, .int x3), (2, .ref 129), (1, .ref 0), (0, .ref KB)]) (st' := [.ref KB, .ref 0]) rfl ?_
  refine PF.pr (k := 1) (pc' := 791) (lv' := [(3, .int x3), (2, .ref 129), (1, .ref 0), (0, .ref KB)]) (st' := [.int x3, .ref KB, .ref 0]) rfl ?_
  refine PF.pr (k := 1) (pc' := 792) (lv' := [(3, .int x3), (2, .ref 129), (1, .ref 0), (0, .ref KB)]) (st' := [.int 1, .int x3, .ref KB, .ref 0]) rfl ?_
  refine PF.pr (k := 1) (pc' := 793) (lv' := [(3, .int x3), (2, .ref 129), (1, .ref 0), (0, .ref KB)]) (st' := [.int (x3 + 1), .ref KB, .ref 0]) rfl ?_
  refine PF.scr rfl (fun c1 c2 => ?_)
  have h := h c1 c2
  refine PF.pr (k := 1) (pc' := 795) (lv' := [(3, .int x3), (2, .ref 129), (1, .ref 0), (0, .ref KB)]) (st' := [.ref KB, .int (xl.getD (x3 + 1).toNatClampNeg 0), .ref 0]) rfl ?_
  refine PF.pr (k := 1) (pc' := 796) (lv' := [(3, .int x3), (2, .ref 129), (1, .ref 0), (0, .ref KB)]) (st' := [.int x3, .ref KB, .int (xl.getD (x3 + 1).toNatClampNeg 0), .ref 0]) rfl ?_
  refine PF.pr (k := 1) (pc' := 797) (lv' := [(3, .int x3), (2, .ref 129), (1, .ref 0), (0, .ref KB)]) (st' := [.int 2, .int x3, .ref KB, .int (xl.getD (x3 + 1).toNatClampNeg 0), .ref 0]) rfl ?_
  refine PF.pr (k := 1) (pc' := 798) (lv' := [(3, .int x3), (2, .ref 129), (1, .ref 0), (0, .ref KB)]) (st' := [.int (x3 + 2), .ref KB, .int (xl.getD (x3 + 1).toNatClampNeg 0), .ref 0]) rfl ?_
  refine PF.scr rfl (fun c1 c2 => ?_)
  have h := h c1 c2
  refine PF.pr (k := 1) (pc' := 800) (lv' := [(3, .int x3), (2, .ref 129), (1, .ref 0), (0, .ref KB)]) (st' := [.ref KB, .int (xl.getD (x3 + 2).toNatClampNeg 0), .int (xl.getD (x3 + 1).toNatClampNeg 0), .ref 0]) rfl ?_
  refine PF.pr (k := 1) (pc' := 801) (lv' := [(3, .int x3), (2, .ref 129), (1, .ref 0), (0, .ref KB)]) (st' := [.int x3, .ref KB, .int (xl.getD (x3 + 2).toNatClampNeg 0), .int (xl.getD (x3 + 1).toNatClampNeg 0), .ref 0]) rfl ?_
  refine PF.pr (k := 1) (pc' := 802) (lv' := [(3, .int x3), (2, .ref 129), (1, .ref 0), (0, .ref KB)]) (st' := [.int 3, .int x3, .ref KB, .int (xl.getD (x3 + 2).toNatClampNeg 0), .int (xl.getD (x3 + 1).toNatClampNeg 0), .ref 0]) rfl ?_
  refine PF.pr (k := 1) (pc' := 803) (lv' := [(3, .int x3), (2, .ref 129), (1, .ref 0), (0, .ref KB)]) (st' := [.int (x3 + 3), .ref KB, .int (xl.getD (x3 + 2).toNatClampNeg 0), .int (xl.getD (x3 + 1).toNatClampNeg 0), .ref 0]) rfl ?_
  refine PF.scr rfl (fun c1 c2 => ?_)
  have h := h c1 c2
  refine (PF.callI (j := 111) (args := [.ref 0, .int (xl.getD (x3 + 1).toNatClampNeg 0), .int (xl.getD (x3 + 2).toNatClampNeg 0), .int (xl.getD (x3 + 3).toNatClampNeg 0)]) (rest := []) (M := cM111) (ty := .int) rfl rfl rfl rfl rfl (by decide) rfl rfl (by decide) ?_).weak
  refine PF.imp h (fun v1 F1 h r1 hv => ?_)
  have h := h r1 hv
  refine PF.pr (k := 1) (pc' := 808) (lv' := [(3, .int x3), (2, .ref 129), (1, .ref 0), (0, .ref KB)]) (st' := []) rfl ?_
  refine PF.pr (k := 1) (pc' := 809) (lv' := [(3, .int x3), (2, .ref 129), (1, .ref 0), (0, .ref KB)]) (st' := [.ref 129]) rfl ?_
  refine PF.pr (k := 1) (pc' := 810) (lv' := [(3, .int x3), (2, .ref 129), (1, .ref 0), (0, .ref KB)]) (st' := [.ref KB, .ref 129]) rfl ?_
  refine PF.pr (k := 1) (pc' := 811) (lv' := [(3, .int x3), (2, .ref 129), (1, .ref 0), (0, .ref KB)]) (st' := [.int x3, .ref KB, .ref 129]) rfl ?_
  refine PF.pr (k := 1) (pc' := 812) (lv' := [(3, .int x3), (2, .ref 129), (1, .ref 0), (0, .ref KB)]) (st' := [.int 1, .int x3, .ref KB, .ref 129]) rfl ?_
  refine PF.pr (k := 1) (pc' := 813) (lv' := [(3, .int x3), (2, .ref 129), (1, .ref 0), (0, .ref KB)]) (st' := [.int (x3 + 1), .ref KB, .ref 129]) rfl ?_
  refine PF.scr rfl (fun c1 c2 => ?_)
  have h := h c1 c2
  refine PF.pr (k := 1) (pc' := 815) (lv' := [(3, .int x3), (2, .ref 129), (1, .ref 0), (0, .ref KB)]) (st' := [.ref KB, .int (xl.getD (x3 + 1).toNatClampNeg 0), .ref 129]) rfl ?_
  refine PF.pr (k := 1) (pc' := 816) (lv' := [(3, .int x3), (2, .ref 129), (1, .ref 0), (0, .ref KB)]) (st' := [.int x3, .ref KB, .int (xl.getD (x3 + 1).toNatClampNeg 0), .ref 129]) rfl ?_
  refine PF.pr (k := 1) (pc' := 817) (lv' := [(3, .int x3), (2, .ref 129), (1, .ref 0), (0, .ref KB)]) (st' := [.int 2, .int x3, .ref KB, .int (xl.getD (x3 + 1).toNatClampNeg 0), .ref 129]) rfl ?_
  refine PF.pr (k := 1) (pc' := 818) (lv' := [(3, .int x3), (2, .ref 129), (1, .ref 0), (0, .ref KB)]) (st' := [.int (x3 + 2), .ref KB, .int (xl.getD (x3 + 1).toNatClampNeg 0), .ref 129]) rfl ?_
  refine PF.scr rfl (fun c1 c2 => ?_)
  have h := h c1 c2
  refine PF.pr (k := 1) (pc' := 820) (lv' := [(3, .int x3), (2, .ref 129), (1, .ref 0), (0, .ref KB)]) (st' := [.ref KB, .int (xl.getD (x3 + 2).toNatClampNeg 0), .int (xl.getD (x3 + 1).toNatClampNeg 0), .ref 129]) rfl ?_
  refine PF.pr (k := 1) (pc' := 821) (lv' := [(3, .int x3), (2, .ref 129), (1, .ref 0), (0, .ref KB)]) (st' := [.int x3, .ref KB, .int (xl.getD (x3 + 2).toNatClampNeg 0), .int (xl.getD (x3 + 1).toNatClampNeg 0), .ref 129]) rfl ?_
  refine PF.pr (k := 1) (pc' := 822) (lv' := [(3, .int x3), (2, .ref 129), (1, .ref 0), (0, .ref KB)]) (st' := [.int 3, .int x3, .ref KB, .int (xl.getD (x3 + 2).toNatClampNeg 0), .int (xl.getD (x3 + 1).toNatClampNeg 0), .ref 129]) rfl ?_
  refine PF.pr (k := 1) (pc' := 823) (lv' := [(3, .int x3), (2, .ref 129), (1, .ref 0), (0, .ref KB)]) (st' := [.int (x3 + 3), .ref KB, .int (xl.getD (x3 + 2).toNatClampNeg 0), .int (xl.getD (x3 + 1).toNatClampNeg 0), .ref 129]) rfl ?_
  refine PF.scr rfl (fun c1 c2 => ?_)
  have h := h c1 c2
  refine (PF.callI (j := 217) (args := [.ref 129, .int (xl.getD (x3 + 1).toNatClampNeg 0), .int (xl.getD (x3 + 2).toNatClampNeg 0), .int (xl.getD (x3 + 3).toNatClampNeg 0)]) (rest := []) (M := cM217) (ty := .int) rfl rfl rfl rfl rfl (by decide) rfl rfl (by decide) ?_).weak
  refine PF.imp h (fun v2 F2 h r2 hv => ?_)
  have h := h r2 hv
  refine PF.pr (k := 1) (pc' := 828) (lv' := [(3, .int x3), (2, .ref 129), (1, .ref 0), (0, .ref KB)]) (st' := []) rfl ?_
  refine PF.pr (k := 1) (pc' := 1253) (lv' := [(3, .int x3), (2, .ref 129), (1, .ref 0), (0, .ref KB)]) (st' := []) rfl ?_
  exact h

theorem l_831 {xl : List Int32} {n : Nat} {F : MH} {Q : Option Value → MH → Prop} {x3 : Int32} (h : (0 ≤ (x3 + 1).toInt → (x3 + 1).toInt < xl.length → PF (tRo xl) n 113 0 [(0, .ref 0), (1, .int (xl.getD (x3 + 1).toNatClampNeg 0))] [] F (fun v1 F1 => ∀ r1, v1 = some (.int r1) → (0 ≤ (x3 + 1).toInt → (x3 + 1).toInt < xl.length → PF (tRo xl) n 218 0 [(0, .ref 129), (1, .int (xl.getD (x3 + 1).toNatClampNeg 0))] [] F1 (fun v2 F2 => ∀ r2, v2 = some (.int r2) → PF (tRo xl) n 0 1253 [(3, .int x3), (2, .ref 129), (1, .ref 0), (0, .ref KB)] [] F2 Q))))) : PF (tRo xl) (n + 1) 0 831 [(3, .int x3), (2, .ref 129), (1, .ref 0), (0, .ref KB)] [] F Q := by
  refine PF.pr1 (k := 0) (pc' := 832) (lv' := [(3, .int x3), (2, .ref 129), (1, .ref 0), (0, .ref KB)]) (st' := [.ref 0]) rfl ?_
  refine PF.pr (k := 1) (pc' := 833) (lv' := [(3, .int x3), (2, .ref 129), (1, .ref 0), (0, .ref KB)]) (st' := [.ref KB, .ref 0]) rfl ?_
  refine PF.pr (k := 1) (pc' := 834) (lv' := [(3, .int x3), (2, .ref 129), (1, .ref 0), (0, .ref KB)]) (st' := [.int x3, .ref KB, .ref 0]) rfl ?_
  refine PF.pr (k := 1) (pc' := 835) (lv' := [(3, .int x3), (2, .ref 129), (1, .ref 0), (0, .ref KB)]) (st' := [.int 1, .int x3, .ref KB, .ref 0]) rfl ?_
  refine PF.pr (k := 1) (pc' := 836) (lv' := [(3, .int x3), (2, .ref 129), (1, .ref 0), (0, .ref KB)]) (st' := [.int (x3 + 1), .ref KB, .ref 0]) rfl ?_
  refine PF.scr rfl (fun c1 c2 => ?_)
  have h := h c1 c2
  refine (PF.callI (j := 113) (args := [.ref 0, .int (xl.getD (x3 + 1).toNatClampNeg 0)]) (rest := []) (M := cM113) (ty := .int) rfl rfl rfl rfl rfl (by decide) rfl rfl (by decide) ?_).weak
  refine PF.imp h (fun v1 F1 h r1 hv => ?_)
  have h := h r1 hv
  refine PF.pr (k := 1) (pc' := 841) (lv' := [(3, .int x3), (2, .ref 129), (1, .ref 0), (0, .ref KB)]) (st' := []) rfl ?_
  refine PF.pr (k := 1) (pc' := 842) (lv' := [(3, .int x3), (2, .ref 129), (1, .ref 0), (0, .ref KB)]) (st' := [.ref 129]) rfl ?_
  refine PF.pr (k := 1) (pc' := 843) (lv' := [(3, .int x3), (2, .ref 129), (1, .ref 0), (0, .ref KB)]) (st' := [.ref KB, .ref 129]) rfl ?_
  refine PF.pr (k := 1) (pc' := 844) (lv' := [(3, .int x3), (2, .ref 129), (1, .ref 0), (0, .ref KB)]) (st' := [.int x3, .ref KB, .ref 129]) rfl ?_
  refine PF.pr (k := 1) (pc' := 845) (lv' := [(3, .int x3), (2, .ref 129), (1, .ref 0), (0, .ref KB)]) (st' := [.int 1, .int x3, .ref KB, .ref 129]) rfl ?_
  refine PF.pr (k := 1) (pc' := 846) (lv' := [(3, .int x3), (2, .ref 129), (1, .ref 0), (0, .ref KB)]) (st' := [.int (x3 + 1), .ref KB, .ref 129]) rfl ?_
  refine PF.scr rfl (fun c1 c2 => ?_)
  have h := h c1 c2
  refine (PF.callI (j := 218) (args := [.ref 129, .int (xl.getD (x3 + 1).toNatClampNeg 0)]) (rest := []) (M := cM218) (ty := .int) rfl rfl rfl rfl rfl (by decide) rfl rfl (by decide) ?_).weak
  refine PF.imp h (fun v2 F2 h r2 hv => ?_)
  have h := h r2 hv
  refine PF.pr (k := 1) (pc' := 851) (lv' := [(3, .int x3), (2, .ref 129), (1, .ref 0), (0, .ref KB)]) (st' := []) rfl ?_
  refine PF.pr (k := 1) (pc' := 1253) (lv' := [(3, .int x3), (2, .ref 129), (1, .ref 0), (0, .ref KB)]) (st' := []) rfl ?_
  exact h

theorem l_854 {xl : List Int32} {n : Nat} {F : MH} {Q : Option Value → MH → Prop} {x3 : Int32} (h : (0 ≤ (x3 + 1).toInt → (x3 + 1).toInt < xl.length → PF (tRo xl) n 114 0 [(0, .ref 0), (1, .int (xl.getD (x3 + 1).toNatClampNeg 0))] [] F (fun v1 F1 => ∀ r1, v1 = some (.int r1) → (0 ≤ (x3 + 1).toInt → (x3 + 1).toInt < xl.length → PF (tRo xl) n 219 0 [(0, .ref 129), (1, .int (xl.getD (x3 + 1).toNatClampNeg 0))] [] F1 (fun v2 F2 => ∀ r2, v2 = some (.int r2) → PF (tRo xl) n 0 1253 [(3, .int x3), (2, .ref 129), (1, .ref 0), (0, .ref KB)] [] F2 Q))))) : PF (tRo xl) (n + 1) 0 854 [(3, .int x3), (2, .ref 129), (1, .ref 0), (0, .ref KB)] [] F Q := by
  refine PF.pr1 (k := 0) (pc' := 855) (lv' := [(3, .int x3), (2, .ref 129), (1, .ref 0), (0, .ref KB)]) (st' := [.ref 0]) rfl ?_
  refine PF.pr (k := 1) (pc' := 856) (lv' := [(3, .int x3), (2, .ref 129), (1, .ref 0), (0, .ref KB)]) (st' := [.ref KB, .ref 0]) rfl ?_
  refine PF.pr (k := 1) (pc' := 857) (lv' := [(3, .int x3), (2, .ref 129), (1, .ref 0), (0, .ref KB)]) (st' := [.int x3, .ref KB, .ref 0]) rfl ?_
  refine PF.pr (k := 1) (pc' := 858) (lv' := [(3, .int x3), (2, .ref 129), (1, .ref 0), (0, .ref KB)]) (st' := [.int 1, .int x3, .ref KB, .ref 0]) rfl ?_
  refine PF.pr (k := 1) (pc' := 859) (lv' := [(3, .int x3), (2, .ref 129), (1, .ref 0), (0, .ref KB)]) (st' := [.int (x3 + 1), .ref KB, .ref 0]) rfl ?_
  refine PF.scr rfl (fun c1 c2 => ?_)
  have h := h c1 c2
  refine (PF.callI (j := 114) (args := [.ref 0, .int (xl.getD (x3 + 1).toNatClampNeg 0)]) (rest := []) (M := cM114) (ty := .int) rfl rfl rfl rfl rfl (by decide) rfl rfl (by decide) ?_).weak
  refine PF.imp h (fun v1 F1 h r1 hv => ?_)
  have h := h r1 hv
  refine PF.pr (k := 1) (pc' := 864) (lv' := [(3, .int x3), (2, .ref 129), (1, .ref 0), (0, .ref KB)]) (st' := []) rfl ?_
  refine PF.pr (k := 1) (pc' := 865) (lv' := [(3, .int x3), (2, .ref 129), (1, .ref 0), (0, .ref KB)]) (st' := [.ref 129]) rfl ?_
  refine PF.pr (k := 1) (pc' := 866) (lv' := [(3, .int x3), (2, .ref 129), (1, .ref 0), (0, .ref KB)]) (st' := [.ref KB, .ref 129]) rfl ?_
  refine PF.pr (k := 1) (pc' := 867) (lv' := [(3, .int x3), (2, .ref 129), (1, .ref 0), (0, .ref KB)]) (st' := [.int x3, .ref KB, .ref 129]) rfl ?_
  refine PF.pr (k := 1) (pc' := 868) (lv' := [(3, .int x3), (2, .ref 129), (1, .ref 0), (0, .ref KB)]) (st' := [.int 1, .int x3, .ref KB, .ref 129]) rfl ?_
  refine PF.pr (k := 1) (pc' := 869) (lv' := [(3, .int x3), (2, .ref 129), (1, .ref 0), (0, .ref KB)]) (st' := [.int (x3 + 1), .ref KB, .ref 129]) rfl ?_
  refine PF.scr rfl (fun c1 c2 => ?_)
  have h := h c1 c2
  refine (PF.callI (j := 219) (args := [.ref 129, .int (xl.getD (x3 + 1).toNatClampNeg 0)]) (rest := []) (M := cM219) (ty := .int) rfl rfl rfl rfl rfl (by decide) rfl rfl (by decide) ?_).weak
  refine PF.imp h (fun v2 F2 h r2 hv => ?_)
  have h := h r2 hv
  refine PF.pr (k := 1) (pc' := 874) (lv' := [(3, .int x3), (2, .ref 129), (1, .ref 0), (0, .ref KB)]) (st' := []) rfl ?_
  refine PF.pr (k := 1) (pc' := 1253) (lv' := [(3, .int x3), (2, .ref 129), (1, .ref 0), (0, .ref KB)]) (st' := []) rfl ?_
  exact h

theorem l_877 {xl : List Int32} {n : Nat} {F : MH} {Q : Option Value → MH → Prop} {x3 : Int32} (h : PF (tRo xl) n 117 0 [(0, .ref 0)] [] F (fun v1 F1 => ∀ r1, v1 = some (.int r1) → PF (tRo xl) n 221 0 [(0, .ref 129)] [] F1 (fun v2 F2 => ∀ r2, v2 = some (.int r2) → PF (tRo xl) n 0 1253 [(3, .int x3), (2, .ref 129), (1, .ref 0), (0, .ref KB)] [] F2 Q))) : PF (tRo xl) (n + 1) 0 877 [(3, .int x3), (2, .ref 129), (1, .ref 0), (0, .ref KB)] [] F Q := by
  refine PF.pr1 (k := 0) (pc' := 878) (lv' := [(3, .int x3), (2, .ref 129), (1, .ref 0), (0, .ref KB)]) (st' := [.ref 0]) rfl ?_
  refine (PF.callI (j := 117) (args := [.ref 0]) (rest := []) (M := cM117) (ty := .int) rfl rfl rfl rfl rfl (by decide) rfl rfl (by decide) ?_).weak
  refine PF.imp h (fun v1 F1 h r1 hv => ?_)
  have h := h r1 hv
  refine PF.pr (k := 1) (pc' := 882) (lv' := [(3, .int x3), (2, .ref 129), (1, .ref 0), (0, .ref KB)]) (st' := []) rfl ?_
  refine PF.pr (k := 1) (pc' := 883) (lv' := [(3, .int x3), (2, .ref 129), (1, .ref 0), (0, .ref KB)]) (st' := [.ref 129]) rfl ?_
  refine (PF.callI (j := 221) (args := [.ref 129]) (rest := []) (M := cM221) (ty := .int) rfl rfl rfl rfl rfl (by decide) rfl rfl (by decide) ?_).weak
  refine PF.imp h (fun v2 F2 h r2 hv => ?_)
  have h := h r2 hv
  refine PF.pr (k := 1) (pc' := 887) (lv' := [(3, .int x3), (2, .ref 129), (1, .ref 0), (0, .ref KB)]) (st' := []) rfl ?_
  refine PF.pr (k := 1) (pc' := 1253) (lv' := [(3, .int x3), (2, .ref 129), (1, .ref 0), (0, .ref KB)]) (st' := []) rfl ?_
  exact h

theorem l_890 {xl : List Int32} {n : Nat} {F : MH} {Q : Option Value → MH → Prop} {x3 : Int32} (h : (0 ≤ (x3 + 1).toInt → (x3 + 1).toInt < xl.length → PF (tRo xl) n 118 0 [(0, .ref 0), (1, .int (xl.getD (x3 + 1).toNatClampNeg 0))] [] F (fun v1 F1 => ∀ r1, v1 = some (.int r1) → (0 ≤ (x3 + 1).toInt → (x3 + 1).toInt < xl.length → PF (tRo xl) n 222 0 [(0, .ref 129), (1, .int (xl.getD (x3 + 1).toNatClampNeg 0))] [] F1 (fun v2 F2 => ∀ r2, v2 = some (.int r2) → PF (tRo xl) n 0 1253 [(3, .int x3), (2, .ref 129), (1, .ref 0), (0, .ref KB)] [] F2 Q))))) : PF (tRo xl) (n + 1) 0 890 [(3, .int x3), (2, .ref 129), (1, .ref 0), (0, .ref KB)] [] F Q := by
  refine PF.pr1 (k := 0) (pc' := 891) (lv' := [(3, .int x3), (2, .ref 129), (1, .ref 0), (0, .ref KB)]) (st' := [.ref 0]) rfl ?_
  refine PF.pr (k := 1) (pc' := 892) (lv' := [(3, .int x3), (2, .ref 129), (1, .ref 0), (0, .ref KB)]) (st' := [.ref KB, .ref 0]) rfl ?_
  refine PF.pr (k := 1) (pc' := 893) (lv' := [(3, .int x3), (2, .ref 129), (1, .ref 0), (0, .ref KB)]) (st' := [.int x3, .ref KB, .ref 0]) rfl ?_
  refine PF.pr (k := 1) (pc' := 894) (lv' := [(3, .int x3), (2, .ref 129), (1, .ref 0), (0, .ref KB)]) (st' := [.int 1, .int x3, .ref KB, .ref 0]) rfl ?_
  refine PF.pr (k := 1) (pc' := 895) (lv' := [(3, .int x3), (2, .ref 129), (1, .ref 0), (0, .ref KB)]) (st' := [.int (x3 + 1), .ref KB, .ref 0]) rfl ?_
  refine PF.scr rfl (fun c1 c2 => ?_)
  have h := h c1 c2
  refine (PF.callI (j := 118) (args := [.ref 0, .int (xl.getD (x3 + 1).toNatClampNeg 0)]) (rest := []) (M := cM118) (ty := .int) rfl rfl rfl rfl rfl (by decide) rfl rfl (by decide) ?_).weak
  refine PF.imp h (fun v1 F1 h r1 hv => ?_)
  have h := h r1 hv
  refine PF.pr (k := 1) (pc' := 900) (lv' := [(3, .int x3), (2, .ref 129), (1, .ref 0), (0, .ref KB)]) (st' := []) rfl ?_
  refine PF.pr (k := 1) (pc' := 901) (lv' := [(3, .int x3), (2, .ref 129), (1, .ref 0), (0, .ref KB)]) (st' := [.ref 129]) rfl ?_
  refine PF.pr (k := 1) (pc' := 902) (lv' := [(3, .int x3), (2, .ref 129), (1, .ref 0), (0, .ref KB)]) (st' := [.ref KB, .ref 129]) rfl ?_
  refine PF.pr (k := 1) (pc' := 903) (lv' := [(3, .int x3), (2, .ref 129), (1, .ref 0), (0, .ref KB)]) (st' := [.int x3, .ref KB, .ref 129]) rfl ?_
  refine PF.pr (k := 1) (pc' := 904) (lv' := [(3, .int x3), (2, .ref 129), (1, .ref 0), (0, .ref KB)]) (st' := [.int 1, .int x3, .ref KB, .ref 129]) rfl ?_
  refine PF.pr (k := 1) (pc' := 905) (lv' := [(3, .int x3), (2, .ref 129), (1, .ref 0), (0, .ref KB)]) (st' := [.int (x3 + 1), .ref KB, .ref 129]) rfl ?_
  refine PF.scr rfl (fun c1 c2 => ?_)
  have h := h c1 c2
  refine (PF.callI (j := 222) (args := [.ref 129, .int (xl.getD (x3 + 1).toNatClampNeg 0)]) (rest := []) (M := cM222) (ty := .int) rfl rfl rfl rfl rfl (by decide) rfl rfl (by decide) ?_).weak
  refine PF.imp h (fun v2 F2 h r2 hv => ?_)
  have h := h r2 hv
  refine PF.pr (k := 1) (pc' := 910) (lv' := [(3, .int x3), (2, .ref 129), (1, .ref 0), (0, .ref KB)]) (st' := []) rfl ?_
  refine PF.pr (k := 1) (pc' := 1253) (lv' := [(3, .int x3), (2, .ref 129), (1, .ref 0), (0, .ref KB)]) (st' := []) rfl ?_
  exact h

theorem l_913 {xl : List Int32} {n : Nat} {F : MH} {Q : Option Value → MH → Prop} {x3 : Int32} (h : (0 ≤ (x3 + 1).toInt → (x3 + 1).toInt < xl.length → (0 ≤ (x3 + 2).toInt → (x3 + 2).toInt < xl.length → (0 ≤ (x3 + 3).toInt → (x3 + 3).toInt < xl.length → PF (tRo xl) n 121 0 [(0, .ref 0), (1, .int (xl.getD (x3 + 1).toNatClampNeg 0)), (2, .int (xl.getD (x3 + 2).toNatClampNeg 0)), (3, .int (xl.getD (x3 + 3).toNatClampNeg 0))] [] F (fun v1 F1 => ∀ r1, v1 = some (.long r1) → (0 ≤ (x3 + 1).toInt → (x3 + 1).toInt < xl.length → (0 ≤ (x3 + 2).toInt → (x3 + 2).toInt < xl.length → (0 ≤ (x3 + 3).toInt → (x3 + 3).toInt < xl.length → PF (tRo xl) n 224 0 [(0, .ref 129), (1, .int (xl.getD (x3 + 1).toNatClampNeg 0)), (2, .int (xl.getD (x3 + 2).toNatClampNeg 0)), (3, .int (xl.getD (x3 + 3).toNatClampNeg 0))] [] F1 (fun v2 F2 => ∀ r2, v2 = some (.long r2) → PF (tRo xl) n 0 1253 [(3, .int x3), (2, .ref 129), (1, .ref 0), (0, .ref KB)] [] F2 Q))))))))) : PF (tRo xl) (n + 1) 0 913 [(3, .int x3), (2, .ref 129), (1, .ref 0), (0, .ref KB)] [] F Q := by
  refine PF.pr1 (k := 0) (pc' := 914) (lv' := [(3, .int x3), (2, .ref 129), (1, .ref 0), (0, .ref KB)]) (st' := [.ref 0]) rfl ?_
  refine PF.pr (k := 1) (pc' := 915) (lv' := [(3, .int x3), (2, .ref 129), (1, .ref 0), (0, .ref KB)]) (st' := [.ref KB, .ref 0]) rfl ?_
  refine PF.pr (k := 1) (pc' := 916) (lv' := [(3, .int x3), (2, .ref 129), (1, .ref 0), (0, .ref KB)]) (st' := [.int x3, .ref KB, .ref 0]) rfl ?_
  refine PF.pr (k := 1) (pc' := 917) (lv' := [(3, .int x3), (2, .ref 129), (1, .ref 0), (0, .ref KB)]) (st' := [.int 1, .int x3, .ref KB, .ref 0]) rfl ?_
  refine PF.pr (k := 1) (pc' := 918) (lv' := [(3, .int x3), (2, .ref 129), (1, .ref 0), (0, .ref KB)]) (st' := [.int (x3 + 1), .ref KB, .ref 0]) rfl ?_
  refine PF.scr rfl (fun c1 c2 => ?_)
  have h := h c1 c2
  refine PF.pr (k := 1) (pc' := 920) (lv' := [(3, .int x3), (2, .ref 129), (1, .ref 0), (0, .ref KB)]) (st' := [.ref KB, .int (xl.getD (x3 + 1).toNatClampNeg 0), .ref 0]) rfl ?_
  refine PF.pr (k := 1) (pc' := 921) (lv' := [(3, .int x3), (2, .ref 129), (1, .ref 0), (0, .ref KB)]) (st' := [.int x3, .ref KB, .int (xl.getD (x3 + 1).toNatClampNeg 0), .ref 0]) rfl ?_
  refine PF.pr (k := 1) (pc' := 922) (lv' := [(3, .int x3), (2, .ref 129), (1, .ref 0), (0, .ref KB)]) (st' := [.int 2, .int x3, .ref KB, .int (xl.getD (x3 + 1).toNatClampNeg 0), .ref 0]) rfl ?_
  refine PF.pr (k := 1) (pc' := 923) (lv' := [(3, .int x3), (2, .ref 129), (1, .ref 0), (0, .ref KB)]) (st' := [.int (x3 + 2), .ref KB, .int (xl.getD (x3 + 1).toNatClampNeg 0), .ref 0]) rfl ?_
  refine PF.scr rfl (fun c1 c2 => ?_)
  have h := h c1 c2
  refine PF.pr (k := 1) (pc' := 925) (lv' := [(3, .int x3), (2, .ref 129), (1, .ref 0), (0, .ref KB)]) (st' := [.ref KB, .int (xl.getD (x3 + 2).toNatClampNeg 0), .int (xl.getD (x3 + 1).toNatClampNeg 0), .ref 0]) rfl ?_
  refine PF.pr (k := 1) (pc' := 926) (lv' := [(3, .int x3), (2, .ref 129), (1, .ref 0), (0, .ref KB)]) (st' := [.int x3, .ref KB, .int (xl.getD (x3 + 2).toNatClampNeg 0), .int (xl.getD (x3 + 1).toNatClampNeg 0), .ref 0]) rfl ?_
  refine PF.pr (k := 1) (pc' := 927) (lv' := [(3, .int x3), (2, .ref 129), (1, .ref 0), (0, .ref KB)]) (st' := [.int 3, .int x3, .ref KB, .int (xl.getD (x3 + 2).toNatClampNeg 0), .int (xl.getD (x3 + 1).toNatClampNeg 0), .ref 0]) rfl ?_
  refine PF.pr (k := 1) (pc' := 928) (lv' := [(3, .int x3), (2, .ref 129), (1, .ref 0), (0, .ref KB)]) (st' := [.int (x3 + 3), .ref KB, .int (xl.getD (x3 + 2).toNatClampNeg 0), .int (xl.getD (x3 + 1).toNatClampNeg 0), .ref 0]) rfl ?_
  refine PF.scr rfl (fun c1 c2 => ?_)
  have h := h c1 c2
  refine (PF.callJ (j := 121) (args := [.ref 0, .int (xl.getD (x3 + 1).toNatClampNeg 0), .int (xl.getD (x3 + 2).toNatClampNeg 0), .int (xl.getD (x3 + 3).toNatClampNeg 0)]) (rest := []) (M := cM121) rfl rfl rfl rfl rfl (by decide) rfl rfl rfl ?_).weak
  refine PF.imp h (fun v1 F1 h r1 hv => ?_)
  have h := h r1 hv
  refine PF.pr (k := 1) (pc' := 933) (lv' := [(3, .int x3), (2, .ref 129), (1, .ref 0), (0, .ref KB)]) (st' := []) rfl ?_
  refine PF.pr (k := 1) (pc' := 934) (lv' := [(3, .int x3), (2, .ref 129), (1, .ref 0), (0, .ref KB)]) (st' := [.ref 129]) rfl ?_
  refine PF.pr (k := 1) (pc' := 935) (lv' := [(3, .int x3), (2, .ref 129), (1, .ref 0), (0, .ref KB)]) (st' := [.ref KB, .ref 129]) rfl ?_
  refine PF.pr (k := 1) (pc' := 936) (lv' := [(3, .int x3), (2, .ref 129), (1, .ref 0), (0, .ref KB)]) (st' := [.int x3, .ref KB, .ref 129]) rfl ?_
  refine PF.pr (k := 1) (pc' := 937) (lv' := [(3, .int x3), (2, .ref 129), (1, .ref 0), (0, .ref KB)]) (st' := [.int 1, .int x3, .ref KB, .ref 129]) rfl ?_
  refine PF.pr (k := 1) (pc' := 938) (lv' := [(3, .int x3), (2, .ref 129), (1, .ref 0), (0, .ref KB)]) (st' := [.int (x3 + 1), .ref KB, .ref 129]) rfl ?_
  refine PF.scr rfl (fun c1 c2 => ?_)
  have h := h c1 c2
  refine PF.pr (k := 1) (pc' := 940) (lv' := [(3, .int x3), (2, .ref 129), (1, .ref 0), (0, .ref KB)]) (st' := [.ref KB, .int (xl.getD (x3 + 1).toNatClampNeg 0), .ref 129]) rfl ?_
  refine PF.pr (k := 1) (pc' := 941) (lv' := [(3, .int x3), (2, .ref 129), (1, .ref 0), (0, .ref KB)]) (st' := [.int x3, .ref KB, .int (xl.getD (x3 + 1).toNatClampNeg 0), .ref 129]) rfl ?_
  refine PF.pr (k := 1) (pc' := 942) (lv' := [(3, .int x3), (2, .ref 129), (1, .ref 0), (0, .ref KB)]) (st' := [.int 2, .int x3, .ref KB, .int (xl.getD (x3 + 1).toNatClampNeg 0), .ref 129]) rfl ?_
  refine PF.pr (k := 1) (pc' := 943) (lv' := [(3, .int x3), (2, .ref 129), (1, .ref 0), (0, .ref KB)]) (st' := [.int (x3 + 2), .ref KB, .int (xl.getD (x3 + 1).toNatClampNeg 0), .ref 129]) rfl ?_
  refine PF.scr rfl (fun c1 c2 => ?_)
  have h := h c1 c2
  refine PF.pr (k := 1) (pc' := 945) (lv' := [(3, .int x3), (2, .ref 129), (1, .ref 0), (0, .ref KB)]) (st' := [.ref KB, .int (xl.getD (x3 + 2).toNatClampNeg 0), .int (xl.getD (x3 + 1).toNatClampNeg 0), .ref 129]) rfl ?_
  refine PF.pr (k := 1) (pc' := 946) (lv' := [(3, .int x3), (2, .ref 129), (1, .ref 0), (0, .ref KB)]) (st' := [.int x3, .ref KB, .int (xl.getD (x3 + 2).toNatClampNeg 0), .int (xl.getD (x3 + 1).toNatClampNeg 0), .ref 129]) rfl ?_
  refine PF.pr (k := 1) (pc' := 947) (lv' := [(3, .int x3), (2, .ref 129), (1, .ref 0), (0, .ref KB)]) (st' := [.int 3, .int x3, .ref KB, .int (xl.getD (x3 + 2).toNatClampNeg 0), .int (xl.getD (x3 + 1).toNatClampNeg 0), .ref 129]) rfl ?_
  refine PF.pr (k := 1) (pc' := 948) (lv' := [(3, .int x3), (2, .ref 129), (1, .ref 0), (0, .ref KB)]) (st' := [.int (x3 + 3), .ref KB, .int (xl.getD (x3 + 2).toNatClampNeg 0), .int (xl.getD (x3 + 1).toNatClampNeg 0), .ref 129]) rfl ?_
  refine PF.scr rfl (fun c1 c2 => ?_)
  have h := h c1 c2
  refine (PF.callJ (j := 224) (args := [.ref 129, .int (xl.getD (x3 + 1).toNatClampNeg 0), .int (xl.getD (x3 + 2).toNatClampNeg 0), .int (xl.getD (x3 + 3).toNatClampNeg 0)]) (rest := []) (M := cM224) rfl rfl rfl rfl rfl (by decide) rfl rfl rfl ?_).weak
  refine PF.imp h (fun v2 F2 h r2 hv => ?_)
  have h := h r2 hv
  refine PF.pr (k := 1) (pc' := 953) (lv' := [(3, .int x3), (2, .ref 129), (1, .ref 0), (0, .ref KB)]) (st' := []) rfl ?_
  refine PF.pr (k := 1) (pc' := 1253) (lv' := [(3, .int x3), (2, .ref 129), (1, .ref 0), (0, .ref KB)]) (st' := []) rfl ?_
  exact h

theorem l_956 {xl : List Int32} {n : Nat} {F : MH} {Q : Option Value → MH → Prop} {x3 : Int32} (h : (0 ≤ (x3 + 1).toInt → (x3 + 1).toInt < xl.length → (0 ≤ (x3 + 2).toInt → (x3 + 2).toInt < xl.length → PF (tRo xl) n 127 0 [(0, .ref 0), (1, .int (xl.getD (x3 + 1).toNatClampNeg 0)), (2, .int (xl.getD (x3 + 2).toNatClampNeg 0))] [] F (fun v1 F1 => ∀ r1, v1 = some (.long r1) → (0 ≤ (x3 + 1).toInt → (x3 + 1).toInt < xl.length → (0 ≤ (x3 + 2).toInt → (x3 + 2).toInt < xl.length → PF (tRo xl) n 228 0 [(0, .ref 129), (1, .int (xl.getD (x3 + 1).toNatClampNeg 0)), (2, .int (xl.getD (x3 + 2).toNatClampNeg 0))] [] F1 (fun v2 F2 => ∀ r2, v2 = some (.long r2) → PF (tRo xl) n 0 1253 [(3, .int x3), (2, .ref 129), (1, .ref 0), (0, .ref KB)] [] F2 Q))))))) : PF (tRo xl) (n + 1) 0 956 [(3, .int x3), (2, .ref 129), (1, .ref 0), (0, .ref KB)] [] F Q := by
  refine PF.pr1 (k := 0) (pc' := 957) (lv' := [(3, .int x3), (2, .ref 129), (1, .ref 0), (0, .ref KB)]) (st' := [.ref 0]) rfl ?_
  refine PF.pr (k := 1) (pc' := 958) (lv' := [(3, .int x3), (2, .ref 129), (1, .ref 0), (0, .ref KB)]) (st' := [.ref KB, .ref 0]) rfl ?_
  refine PF.pr (k := 1) (pc' := 959) (lv' := [(3, .int x3), (2, .ref 129), (1, .ref 0), (0, .ref KB)]) (st' := [.int x3, .ref KB, .ref 0]) rfl ?_
  refine PF.pr (k := 1) (pc' := 960) (lv' := [(3, .int x3), (2, .ref 129), (1, .ref 0), (0, .ref KB)]) (st' := [.int 1, .int x3, .ref KB, .ref 0]) rfl ?_
  refine PF.pr (k := 1) (pc' := 961) (lv' := [(3, .int x3), (2, .ref 129), (1, .ref 0), (0, .ref KB)]) (st' := [.int (x3 + 1), .ref KB, .ref 0]) rfl ?_
  refine PF.scr rfl (fun c1 c2 => ?_)
  have h := h c1 c2
  refine PF.pr (k := 1) (pc' := 963) (lv' := [(3, .int x3), (2, .ref 129), (1, .ref 0), (0, .ref KB)]) (st' := [.ref KB, .int (xl.getD (x3 + 1).toNatClampNeg 0), .ref 0]) rfl ?_
  refine PF.pr (k := 1) (pc' := 964) (lv' := [(3, .int x3), (2, .ref 129), (1, .ref 0), (0, .ref KB)]) (st' := [.int x3, .ref KB, .int (xl.getD (x3 + 1).toNatClampNeg 0), .ref 0]) rfl ?_
  refine PF.pr (k := 1) (pc' := 965) (lv' := [(3, .int x3), (2, .ref 129), (1, .ref 0), (0, .ref KB)]) (st' := [.int 2, .int x3, .ref KB, .int (xl.getD (x3 + 1).toNatClampNeg 0), .ref 0]) rfl ?_
  refine PF.pr (k := 1) (pc' := 966) (lv' := [(3, .int x3), (2, .ref 129), (1, .ref 0), (0, .ref KB)]) (st' := [.int (x3 + 2), .ref KB, .int (xl.getD (x3 + 1).toNatClampNeg 0), .ref 0]) rfl ?_
  refine PF.scr rfl (fun c1 c2 => ?_)
  have h := h c1 c2
  refine (PF.callJ (j := 127) (args := [.ref 0, .int (xl.getD (x3 + 1).toNatClampNeg 0), .int (xl.getD (x3 + 2).toNatClampNeg 0)]) (rest := []) (M := cM127) rfl rfl rfl rfl rfl (by decide) rfl rfl rfl ?_).weak
  refine PF.imp h (fun v1 F1 h r1 hv => ?_)
  have h := h r1 hv
  refine PF.pr (k := 1) (pc' := 971) (lv' := [(3, .int x3), (2, .ref 129), (1, .ref 0), (0, .ref KB)]) (st' := []) rfl ?_
  refine PF.pr (k := 1) (pc' := 972) (lv' := [(3, .int x3), (2, .ref 129), (1, .ref 0), (0, .ref KB)]) (st' := [.ref 129]) rfl ?_
  refine PF.pr (k := 1) (pc' := 973) (lv' := [(3, .int x3), (2, .ref 129), (1, .ref 0), (0, .ref KB)]) (st' := [.ref KB, .ref 129]) rfl ?_
  refine PF.pr (k := 1) (pc' := 974) (lv' := [(3, .int x3), (2, .ref 129), (1, .ref 0), (0, .ref KB)]) (st' := [.int x3, .ref KB, .ref 129]) rfl ?_
  refine PF.pr (k := 1) (pc' := 975) (lv' := [(3, .int x3), (2, .ref 129), (1, .ref 0), (0, .ref KB)]) (st' := [.int 1, .int x3, .ref KB, .ref 129]) rfl ?_
  refine PF.pr (k := 1) (pc' := 976) (lv' := [(3, .int x3), (2, .ref 129), (1, .ref 0), (0, .ref KB)]) (st' := [.int (x3 + 1), .ref KB, .ref 129]) rfl ?_
  refine PF.scr rfl (fun c1 c2 => ?_)
  have h := h c1 c2
  refine PF.pr (k := 1) (pc' := 978) (lv' := [(3, .int x3), (2, .ref 129), (1, .ref 0), (0, .ref KB)]) (st' := [.ref KB, .int (xl.getD (x3 + 1).toNatClampNeg 0), .ref 129]) rfl ?_
  refine PF.pr (k := 1) (pc' := 979) (lv' := [(3, .int x3), (2, .ref 129), (1, .ref 0), (0, .ref KB)]) (st' := [.int x3, .ref KB, .int (xl.getD (x3 + 1).toNatClampNeg 0), .ref 129]) rfl ?_
  refine PF.pr (k := 1) (pc' := 980) (lv' := [(3, .int x3), (2, .ref 129), (1, .ref 0), (0, .ref KB)]) (st' := [.int 2, .int x3, .ref KB, .int (xl.getD (x3 + 1).toNatClampNeg 0), .ref 129]) rfl ?_
  refine PF.pr (k := 1) (pc' := 981) (lv' := [(3, .int x3), (2, .ref 129), (1, .ref 0), (0, .ref KB)]) (st' := [.int (x3 + 2), .ref KB, .int (xl.getD (x3 + 1).toNatClampNeg 0), .ref 129]) rfl ?_
  refine PF.scr rfl (fun c1 c2 => ?_)
  have h := h c1 c2
  refine (PF.callJ (j := 228) (args := [.ref 129, .int (xl.getD (x3 + 1).toNatClampNeg 0), .int (xl.getD (x3 + 2).toNatClampNeg 0)]) (rest := []) (M := cM228) rfl rfl rfl rfl rfl (by decide) rfl rfl rfl ?_).weak
  refine PF.imp h (fun v2 F2 h r2 hv => ?_)
  have h := h r2 hv
  refine PF.pr (k := 1) (pc' := 986) (lv' := [(3, .int x3), (2, .ref 129), (1, .ref 0), (0, .ref KB)]) (st' := []) rfl ?_
  refine PF.pr (k := 1) (pc' := 1253) (lv' := [(3, .int x3), (2, .ref 129), (1, .ref 0), (0, .ref KB)]) (st' := []) rfl ?_
  exact h

theorem l_989 {xl : List Int32} {n : Nat} {F : MH} {Q : Option Value → MH → Prop} {x3 : Int32} (h : (0 ≤ (x3 + 1).toInt → (x3 + 1).toInt < xl.length → (0 ≤ (x3 + 2).toInt → (x3 + 2).toInt < xl.length → (0 ≤ (x3 + 3).toInt → (x3 + 3).toInt < xl.length → PF (tRo xl) n 128 0 [(0, .ref 0), (1, .int (xl.getD (x3 + 1).toNatClampNeg 0)), (2, .int (xl.getD (x3 + 2).toNatClampNeg 0)), (3, .int (xl.getD (x3 + 3).toNatClampNeg 0))] [] F (fun v1 F1 => ∀ r1, v1 = some (.int r1) → (0 ≤ (x3 + 1).toInt → (x3 + 1).toInt < xl.length → (0 ≤ (x3 + 2).toInt → (x3 + 2).toInt < xl.length → (0 ≤ (x3 + 3).toInt → (x3 + 3).toInt < xl.length → PF (tRo xl) n 229 0 [(0, .ref 129), (1, .int (xl.getD (x3 + 1).toNatClampNeg 0)), (2, .int (xl.getD (x3 + 2).toNatClampNeg 0)), (3, .int (xl.getD (x3 + 3).toNatClampNeg 0))] [] F1 (fun v2 F2 => ∀ r2, v2 = some (.int r2) → PF (tRo xl) n 0 1253 [(3, .int x3), (2, .ref 129), (1, .ref 0), (0, .ref KB)] [] F2 Q))))))))) : PF (tRo xl) (n + 1) 0 989 [(3, .int x3), (2, .ref 129), (1, .ref 0), (0, .ref KB)] [] F Q := by
  refine PF.pr1 (k := 0) (pc' := 990) (lv' := [(3, .int x3), (2, .ref 129), (1, .ref 0), (0, .ref KB)]) (st' := [.ref 0]) rfl ?_
  refine PF.pr (k := 1) (pc' := 991) (lv' := [(3, .int x3), (2, .ref 129), (1, .ref 0), (0, .ref KB)]) (st' := [.ref KB, .ref 0]) rfl ?_
  refine PF.pr (k := 1) (pc' := 992) (lv' := [(3, .int x3), (2, .ref 129), (1, .ref 0), (0, .ref KB)]) (st' := [.int x3, .ref KB, .ref 0]) rfl ?_
  refine PF.pr (k := 1) (pc' := 993) (lv' := [(3, .int x3), (2, .ref 129), (1, .ref 0), (0, .ref KB)]) (st' := [.int 1, .int x3, .ref KB, .ref 0]) rfl ?_
  refine PF.pr (k := 1) (pc' := 994) (lv' := [(3, .int x3), (2, .ref 129), (1, .ref 0), (0, .ref KB)]) (st' := [.int (x3 + 1), .ref KB, .ref 0]) rfl ?_
  refine PF.scr rfl (fun c1 c2 => ?_)
  have h := h c1 c2
  refine PF.pr (k := 1) (pc' := 996) (lv' := [(3, .int x3), (2, .ref 129), (1, .ref 0), (0, .ref KB)]) (st' := [.ref KB, .int (xl.getD (x3 + 1).toNatClampNeg 0), .ref 0]) rfl ?_
  refine PF.pr (k := 1) (pc' := 997) (lv' := [(3, .int x3), (2, .ref 129), (1, .ref 0), (0, .ref KB)]) (st' := [.int x3, .ref KB, .int (xl.getD (x3 + 1).toNatClampNeg 0), .ref 0]) rfl ?_
  refine PF.pr (k := 1) (pc' := 998) (lv' := [(3, .int x3), (2, .ref 129), (1, .ref 0), (0, .ref KB)]) (st' := [.int 2, .int x3, .ref KB, .int (xl.getD (x3 + 1).toNatClampNeg 0), .ref 0]) rfl ?_
  refine PF.pr (k := 1) (pc' := 999) (lv' := [(3, .int x3), (2, .ref 129), (1, .ref 0), (0, .ref KB)]) (st' := [.int (x3 + 2), .ref KB, .int (xl.getD (x3 + 1).toNatClampNeg 0), .ref 0]) rfl ?_
  refine PF.scr rfl (fun c1 c2 => ?_)
  have h := h c1 c2
  refine PF.pr (k := 1) (pc' := 1001) (lv' := [(3, .int x3), (2, .ref 129), (1, .ref 0), (0, .ref KB)]) (st' := [.ref KB, .int (xl.getD (x3 + 2).toNatClampNeg 0), .int (xl.getD (x3 + 1).toNatClampNeg 0), .ref 0]) rfl ?_
  refine PF.pr (k := 1) (pc' := 1002) (lv' := [(3, .int x3), (2, .ref 129), (1, .ref 0), (0, .ref KB)]) (st' := [.int x3, .ref KB, .int (xl.getD (x3 + 2).toNatClampNeg 0), .int (xl.getD (x3 + 1).toNatClampNeg 0), .ref 0]) rfl ?_
  refine PF.pr (k := 1) (pc' := 1003) (lv' := [(3, .int x3), (2, .ref 129), (1, .ref 0), (0, .ref KB)]) (st' := [.int 3, .int x3, .ref KB, .int (xl.getD (x3 + 2).toNatClampNeg 0), .int (xl.getD (x3 + 1).toNatClampNeg 0), .ref 0]) rfl ?_
  refine PF.pr (k := 1) (pc' := 1004) (lv' := [(3, .int x3), (2, .ref 129), (1, .ref 0), (0, .ref KB)]) (st' := [.int (x3 + 3), .ref KB, .int (xl.getD (x3 + 2).toNatClampNeg 0), .int (xl.getD (x3 + 1).toNatClampNeg 0), .ref 0]) rfl ?_
  refine PF.scr rfl (fun c1 c2 => ?_)
  have h := h c1 c2
  refine (PF.callI (j := 128) (args := [.ref 0, .int (xl.getD (x3 + 1).toNatClampNeg 0), .int (xl.getD (x3 + 2).toNatClampNeg 0), .int (xl.getD (x3 + 3).toNatClampNeg 0)]) (rest := []) (M := cM128) (ty := .int) rfl rfl rfl rfl rfl (by decide) rfl rfl (by decide) ?_).weak
  refine PF.imp h (fun v1 F1 h r1 hv => ?_)
  have h := h r1 hv
  refine PF.pr (k := 1) (pc' := 1009) (lv' := [(3, .int x3), (2, .ref 129), (1, .ref 0), (0, .ref KB)]) (st' := []) rfl ?_
  refine PF.pr (k := 1) (pc' := 1010) (lv' := [(3, .int x3), (2, .ref 129), (1, .ref 0), (0, .ref KB)]) (st' := [.ref 129]) rfl ?_
  refine PF.pr (k := 1) (pc' := 1011) (lv' := [(3, .int x3), (2, .ref 129), (1, .ref 0), (0, .ref KB)]) (st' := [.ref KB, .ref 129]) rfl ?_
  refine PF.pr (k := 1) (pc' := 1012) (lv' := [(3, .int x3), (2, .ref 129), (1, .ref 0), (0, .ref KB)]) (st' := [.int x3, .ref KB, .ref 129]) rfl ?_
  refine PF.pr (k := 1) (pc' := 1013) (lv' := [(3, .int x3), (2, .ref 129), (1, .ref 0), (0, .ref KB)]) (st' := [.int 1, .int x3, .ref KB, .ref 129]) rfl ?_
  refine PF.pr (k := 1) (pc' := 1014) (lv' := [(3, .int x3), (2, .ref 129), (1, .ref 0), (0, .ref KB)]) (st' := [.int (x3 + 1), .ref KB, .ref 129]) rfl ?_
  refine PF.scr rfl (fun c1 c2 => ?_)
  have h := h c1 c2
  refine PF.pr (k := 1) (pc' := 1016) (lv' := [(3, .int x3), (2, .ref 129), (1, .ref 0), (0, .ref KB)]) (st' := [.ref KB, .int (xl.getD (x3 + 1).toNatClampNeg 0), .ref 129]) rfl ?_
  refine PF.pr (k := 1) (pc' := 1017) (lv' := [(3, .int x3), (2, .ref 129), (1, .ref 0), (0, .ref KB)]) (st' := [.int x3, .ref KB, .int (xl.getD (x3 + 1).toNatClampNeg 0), .ref 129]) rfl ?_
  refine PF.pr (k := 1) (pc' := 1018) (lv' := [(3, .int x3), (2, .ref 129), (1, .ref 0), (0, .ref KB)]) (st' := [.int 2, .int x3, .ref KB, .int (xl.getD (x3 + 1).toNatClampNeg 0), .ref 129]) rfl ?_
  refine PF.pr (k := 1) (pc' := 1019) (lv' := [(3, .int x3), (2, .ref 129), (1, .ref 0), (0, .ref KB)]) (st' := [.int (x3 + 2), .ref KB, .int (xl.getD (x3 + 1).toNatClampNeg 0), .ref 129]) rfl ?_
  refine PF.scr rfl (fun c1 c2 => ?_)
  have h := h c1 c2
  refine PF.pr (k := 1) (pc' := 1021) (lv' := [(3, .int x3), (2, .ref 129), (1, .ref 0), (0, .ref KB)]) (st' := [.ref KB, .int (xl.getD (x3 + 2).toNatClampNeg 0), .int (xl.getD (x3 + 1).toNatClampNeg 0), .ref 129]) rfl ?_
  refine PF.pr (k := 1) (pc' := 1022) (lv' := [(3, .int x3), (2, .ref 129), (1, .ref 0), (0, .ref KB)]) (st' := [.int x3, .ref KB, .int (xl.getD (x3 + 2).toNatClampNeg 0), .int (xl.getD (x3 + 1).toNatClampNeg 0), .ref 129]) rfl ?_
  refine PF.pr (k := 1) (pc' := 1023) (lv' := [(3, .int x3), (2, .ref 129), (1, .ref 0), (0, .ref KB)]) (st' := [.int 3, .int x3, .ref KB, .int (xl.getD (x3 + 2).toNatClampNeg 0), .int (xl.getD (x3 + 1).toNatClampNeg 0), .ref 129]) rfl ?_
  refine PF.pr (k := 1) (pc' := 1024) (lv' := [(3, .int x3), (2, .ref 129), (1, .ref 0), (0, .ref KB)]) (st' := [.int (x3 + 3), .ref KB, .int (xl.getD (x3 + 2).toNatClampNeg 0), .int (xl.getD (x3 + 1).toNatClampNeg 0), .ref 129]) rfl ?_
  refine PF.scr rfl (fun c1 c2 => ?_)
  have h := h c1 c2
  refine (PF.callI (j := 229) (args := [.ref 129, .int (xl.getD (x3 + 1).toNatClampNeg 0), .int (xl.getD (x3 + 2).toNatClampNeg 0), .int (xl.getD (x3 + 3).toNatClampNeg 0)]) (rest := []) (M := cM229) (ty := .int) rfl rfl rfl rfl rfl (by decide) rfl rfl (by decide) ?_).weak
  refine PF.imp h (fun v2 F2 h r2 hv => ?_)
  have h := h r2 hv
  refine PF.pr (k := 1) (pc' := 1029) (lv' := [(3, .int x3), (2, .ref 129), (1, .ref 0), (0, .ref KB)]) (st' := []) rfl ?_
  refine PF.pr (k := 1) (pc' := 1253) (lv' := [(3, .int x3), (2, .ref 129), (1, .ref 0), (0, .ref KB)]) (st' := []) rfl ?_
  exact h

theorem l_1032 {xl : List Int32} {n : Nat} {F : MH} {Q : Option Value → MH → Prop} {x3 : Int32} (h : (0 ≤ (x3 + 1).toInt → (x3 + 1).toInt < xl.length → PF (tRo xl) n 130 0 [(0, .ref 0), (1, .int (xl.getD (x3 + 1).toNatClampNeg 0))] [] F (fun v1 F1 => ∀ r1, v1 = some (.int r1) → (0 ≤ (x3 + 1).toInt → (x3 + 1).toInt < xl.length → PF (tRo xl) n 230 0 [(0, .ref 129), (1, .int (xl.getD (x3 + 1).toNatClampNeg 0))] [] F1 (fun v2 F2 => ∀ r2, v2 = some (.int r2) → PF (tRo xl) n 0 1253 [(3, .int x3), (2, .ref 129), (1, .ref 0), (0, .ref KB)] [] F2 Q))))) : PF (tRo xl) (n + 1) 0 1032 [(3, .int x3), (2, .ref 129), (1, .ref 0), (0, .ref KB)] [] F Q := by
  refine PF.pr1 (k := 0) (pc' := 1033) (lv' := [(3, .int x3), (2, .ref 129), (1, .ref 0), (0, .ref KB)]) (st' := [.ref 0]) rfl ?_
  refine PF.pr (k := 1) (pc' := 1034) (lv' := [(3, .int x3), (2, .ref 129), (1, .ref 0), (0, .ref KB)]) (st' := [.ref KB, .ref 0]) rfl ?_
  refine PF.pr (k := 1) (pc' := 1035) (lv' := [(3, .int x3), (2, .ref 129), (1, .ref 0), (0, .ref KB)]) (st' := [.int x3, .ref KB, .ref 0]) rfl ?_
  refine PF.pr (k := 1) (pc' := 1036) (lv' := [(3, .int x3), (2, .ref 129), (1, .ref 0), (0, .ref KB)]) (st' := [.int 1, .int x3, .ref KB, .ref 0]) rfl ?_
  refine PF.pr (k := 1) (pc' := 1037) (lv' := [(3, .int x3), (2, .ref 129), (1, .ref 0), (0, .ref KB)]) (st' := [.int (x3 + 1), .ref KB, .ref 0]) rfl ?_
  refine PF.scr rfl (fun c1 c2 => ?_)
  have h := h c1 c2
  refine (PF.callI (j := 130) (args := [.ref 0, .int (xl.getD (x3 + 1).toNatClampNeg 0)]) (rest := []) (M := cM130) (ty := .int) rfl rfl rfl rfl rfl (by decide) rfl rfl (by decide) ?_).weak
  refine PF.imp h (fun v1 F1 h r1 hv => ?_)
  have h := h r1 hv
  refine PF.pr (k := 1) (pc' := 1042) (lv' := [(3, .int x3), (2, .ref 129), (1, .ref 0), (0, .ref KB)]) (st' := []) rfl ?_
  refine PF.pr (k := 1) (pc' := 1043) (lv' := [(3, .int x3), (2, .ref 129), (1, .ref 0), (0, .ref KB)]) (st' := [.ref 129]) rfl ?_
  refine PF.pr (k := 1) (pc' := 1044) (lv' := [(3, .int x3), (2, .ref 129), (1, .ref 0), (0, .ref KB)]) (st' := [.ref KB, .ref 129]) rfl ?_
  refine PF.pr (k := 1) (pc' := 1045) (lv' := [(3, .int x3), (2, .ref 129), (1, .ref 0), (0, .ref KB)]) (st' := [.int x3, .ref KB, .ref 129]) rfl ?_
  refine PF.pr (k := 1) (pc' := 1046) (lv' := [(3, .int x3), (2, .ref 129), (1, .ref 0), (0, .ref KB)]) (st' := [.int 1, .int x3, .ref KB, .ref 129]) rfl ?_
  refine PF.pr (k := 1) (pc' := 1047) (lv' := [(3, .int x3), (2, .ref 129), (1, .ref 0), (0, .ref KB)]) (st' := [.int (x3 + 1), .ref KB, .ref 129]) rfl ?_
  refine PF.scr rfl (fun c1 c2 => ?_)
  have h := h c1 c2
  refine (PF.callI (j := 230) (args := [.ref 129, .int (xl.getD (x3 + 1).toNatClampNeg 0)]) (rest := []) (M := cM230) (ty := .int) rfl rfl rfl rfl rfl (by decide) rfl rfl (by decide) ?_).weak
  refine PF.imp h (fun v2 F2 h r2 hv => ?_)
  have h := h r2 hv
  refine PF.pr (k := 1) (pc' := 1052) (lv' := [(3, .int x3), (2, .ref 129), (1, .ref 0), (0, .ref KB)]) (st' := []) rfl ?_
  refine PF.pr (k := 1) (pc' := 1253) (lv' := [(3, .int x3), (2, .ref 129), (1, .ref 0), (0, .ref KB)]) (st' := []) rfl ?_
  exact h

theorem l_1055 {xl : List Int32} {n : Nat} {F : MH} {Q : Option Value → MH → Prop} {x3 : Int32} (h : (0 ≤ (x3 + 1).toInt → (x3 + 1).toInt < xl.length → PF (tRo xl) n 131 0 [(0, .ref 0), (1, .int (xl.getD (x3 + 1).toNatClampNeg 0))] [] F (fun v1 F1 => ∀ r1, v1 = some (.int r1) → (0 ≤ (x3 + 1).toInt → (x3 + 1).toInt < xl.length → PF (tRo xl) n 232 0 [(0, .ref 129), (1, .int (xl.getD (x3 + 1).toNatClampNeg 0))] [] F1 (fun v2 F2 => ∀ r2, v2 = some (.int r2) → PF (tRo xl) n 0 1253 [(3, .int x3), (2, .ref 129), (1, .ref 0), (0, .ref KB)] [] F2 Q))))) : PF (tRo xl) (n + 1) 0 1055 [(3, .int x3), (2, .ref 129), (1, .ref 0), (0, .ref KB)] [] F Q := by
  refine PF.pr1 (k := 0) (pc' := 1056) (lv' := [(3, .int x3), (2, .ref 129), (1, .ref 0), (0, .ref KB)]) (st' := [.ref 0]) rfl ?_
  refine PF.pr (k := 1) (pc' := 1057) (lv' := [(3, .int x3), (2, .ref 129), (1, .ref 0), (0, .ref KB)]) (st' := [.ref KB, .ref 0]) rfl ?_
  refine PF.pr (k := 1) (pc' := 1058) (lv' := [(3, .int x3), (2, .ref 129), (1, .ref 0), (0, .ref KB)]) (st' := [.int x3, .ref KB, .ref 0]) rfl ?_
  refine PF.pr (k := 1) (pc' := 1059) (lv' := [(3, .int x3), (2, .ref 129), (1, .ref 0), (0, .ref KB)]) (st' := [.int 1, .int x3, .ref KB, .ref 0]) rfl ?_
  refine PF.pr (k := 1) (pc' := 1060) (lv' := [(3, .int x3), (2, .ref 129), (1, .ref 0), (0, .ref KB)]) (st' := [.int (x3 + 1), .ref KB, .ref 0]) rfl ?_
  refine PF.scr rfl (fun c1 c2 => ?_)
  have h := h c1 c2
  refine (PF.callI (j := 131) (args := [.ref 0, .int (xl.getD (x3 + 1).toNatClampNeg 0)]) (rest := []) (M := cM131) (ty := .int) rfl rfl rfl rfl rfl (by decide) rfl rfl (by decide) ?_).weak
  refine PF.imp h (fun v1 F1 h r1 hv => ?_)
  have h := h r1 hv
  refine PF.pr (k := 1) (pc' := 1065) (lv' := [(3, .int x3), (2, .ref 129), (1, .ref 0), (0, .ref KB)]) (st' := []) rfl ?_
  refine PF.pr (k := 1) (pc' := 1066) (lv' := [(3, .int x3), (2, .ref 129), (1, .ref 0), (0, .ref KB)]) (st' := [.ref 129]) rfl ?_
  refine PF.pr (k := 1) (pc' := 1067) (lv' := [(3, .int x3), (2, .ref 129), (1, .ref 0), (0, .ref KB)]) (st' := [.ref KB, .ref 129]) rfl ?_
  refine PF.pr (k := 1) (pc' := 1068) (lv' := [(3, .int x3), (2, .ref 129), (1, .ref 0), (0, .ref KB)]) (st' := [.int x3, .ref KB, .ref 129]) rfl ?_
  refine PF.pr (k := 1) (pc' := 1069) (lv' := [(3, .int x3), (2, .ref 129), (1, .ref 0), (0, .ref KB)]) (st' := [.int 1, .int x3, .ref KB, .ref 129]) rfl ?_
  refine PF.pr (k := 1) (pc' := 1070) (lv' := [(3, .int x3), (2, .ref 129), (1, .ref 0), (0, .ref KB)]) (st' := [.int (x3 + 1), .ref KB, .ref 129]) rfl ?_
  refine PF.scr rfl (fun c1 c2 => ?_)
  have h := h c1 c2
  refine (PF.callI (j := 232) (args := [.ref 129, .int (xl.getD (x3 + 1).toNatClampNeg 0)]) (rest := []) (M := cM232) (ty := .int) rfl rfl rfl rfl rfl (by decide) rfl rfl (by decide) ?_).weak
  refine PF.imp h (fun v2 F2 h r2 hv => ?_)
  have h := h r2 hv
  refine PF.pr (k := 1) (pc' := 1075) (lv' := [(3, .int x3), (2, .ref 129), (1, .ref 0), (0, .ref KB)]) (st' := []) rfl ?_
  refine PF.pr (k := 1) (pc' := 1253) (lv' := [(3, .int x3), (2, .ref 129), (1, .ref 0), (0, .ref KB)]) (st' := []) rfl ?_
  exact h

theorem l_1078 {xl : List Int32} {n : Nat} {F : MH} {Q : Option Value → MH → Prop} {x3 : Int32} (h : (0 ≤ (x3 + 1).toInt → (x3 + 1).toInt < xl.length → (0 ≤ (x3 + 2).toInt → (x3 + 2).toInt < xl.length → (0 ≤ (x3 + 3).toInt → (x3 + 3).toInt < xl.length → PF (tRo xl) n 132 0 [(0, .ref 0), (1, .int (xl.getD (x3 + 1).toNatClampNeg 0)), (2, .int (xl.getD (x3 + 2).toNatClampNeg 0)), (3, .int (xl.getD (x3 + 3).toNatClampNeg 0))] [] F (fun v1 F1 => ∀ r1, v1 = some (.int r1) → (0 ≤ (x3 + 1).toInt → (x3 + 1).toInt < xl.length → (0 ≤ (x3 + 2).toInt → (x3 + 2).toInt < xl.length → (0 ≤ (x3 + 3).toInt → (x3 + 3).toInt < xl.length → PF (tRo xl) n 233 0 [(0, .ref 129), (1, .int (xl.getD (x3 + 1).toNatClampNeg 0)), (2, .int (xl.getD (x3 + 2).toNatClampNeg 0)), (3, .int (xl.getD (x3 + 3).toNatClampNeg 0))] [] F1 (fun v2 F2 => ∀ r2, v2 = some (.int r2) → PF (tRo xl) n 0 1253 [(3, .int x3), (2, .ref 129), (1, .ref 0), (0, .ref KB)] [] F2 Q))))))))) : PF (tRo xl) (n + 1) 0 1078 [(3, .int x3), (2, .ref 129), (1, .ref 0), (0, .ref KB)] [] F Q := by
  refine PF.pr1 (k := 0) (pc' := 1079) (lv' := [(3, .int x3), (2, .ref 129), (1, .ref 0), (0, .ref KB)]) (st' := [.ref 0]) rfl ?_
  refine PF.pr (k := 1) (pc' := 1080) (lv' := [(3, .int x3), (2, .ref 129), (1, .ref 0), (0, .ref KB)]) (st' := [.ref KB, .ref 0]) rfl ?_
  refine PF.pr (k := 1) (pc' := 1081) (lv' := [(3, .int x3), (2, .ref 129), (1, .ref 0), (0, .ref KB)]) (st' := [.int x3, .ref KB, .ref 0]) rfl ?_
  refine PF.pr (k := 1) (pc' := 1082) (lv' := [(3, .int x3), (2, .ref 129), (1, .ref 0), (0, .ref KB)]) (st' := [.int 1, .int x3, .ref KB, .ref 0]) rfl ?_
  refine PF.pr (k := 1) (pc' := 1083) (lv' := [(3, .int x3), (2, .ref 129), (1, .ref 0), (0, .ref KB)]) (st' := [.int (x3 + 1), .ref KB, .ref 0]) rfl ?_
  refine PF.scr rfl (fun c1 c2 => ?_)
  have h := h c1 c2
  refine PF.pr (k := 1) (pc' := 1085) (lv' := [(3, .int x3), (2, .ref 129), (1, .ref 0), (0, .ref KB)]) (st' := [.ref KB, .int (xl.getD (x3 + 1).toNatClampNeg 0), .ref 0]) rfl ?_
  refine PF.pr (k := 1) (pc' := 1086) (lv' := [(3, .int x3), (2, .ref 129), (1, .ref 0), (0, .ref KB)]) (st' := [.int x3, .ref KB, .int (xl.getD (x3 + 1).toNatClampNeg 0), .ref 0]) rfl ?_
  refine PF.pr (k := 1) (pc' := 1087) (lv' := [(3, .int x3), (2, .ref 129), (1, .ref 0), (0, .ref KB)]) (st' := [.int 2, .int x3, .ref KB, .int (xl.getD (x3 + 1).toNatClampNeg 0), .ref 0]) rfl ?_
  refine PF.pr (k := 1) (pc' := 1088) (lv' := [(3, .int x3), (2, .ref 129), (1, .ref 0), (0, .ref KB)]) (st' := [.int (x3 + 2), .ref KB, .int (xl.getD (x3 + 1).toNatClampNeg 0), .ref 0]) rfl ?_
  refine PF.scr rfl (fun c1 c2 => ?_)
  have h := h c1 c2
  refine PF.pr (k := 1) (pc' := 1090) (lv' := [(3, .int x3), (2, .ref 129), (1, .ref 0), (0, .ref KB)]) (st' := [.ref KB, .int (xl.getD (x3 + 2).toNatClampNeg 0), .int (xl.getD (x3 + 1).toNatClampNeg 0), .ref 0]) rfl ?_
  refine PF.pr (k := 1) (pc' := 1091) (lv' := [(3, .int x3), (2, .ref 129), (1, .ref 0), (0, .ref KB)]) (st' := [.int x3, .ref KB, .int (xl.getD (x3 + 2).toNatClampNeg 0), .int (xl.getD (x3 + 1).toNatClampNeg 0), .ref 0]) rfl ?_
  refine PF.pr (k := 1) (pc' := 1092) (lv' := [(3, .int x3), (2, .ref 129), (1, .ref 0), (0, .ref KB)]) (st' := [.int 3, .int x3, .ref KB, .int (xl.getD (x3 + 2).toNatClampNeg 0), .int (xl.getD (x3 + 1).toNatClampNeg 0), .ref 0]) rfl ?_
  refine PF.pr (k := 1) (pc' := 1093) (lv' := [(3, .int x3), (2, .ref 129), (1, .ref 0), (0, .ref KB)]) (st' := [.int (x3 + 3), .ref KB, .int (xl.getD (x3 + 2).toNatClampNeg 0), .int (xl.getD (x3 + 1).toNatClampNeg 0), .ref 0]) rfl ?_
  refine PF.scr rfl (fun c1 c2 => ?_)
  have h := h c1 c2
  refine (PF.callI (j := 132) (args := [.ref 0, .int (xl.getD (x3 + 1).toNatClampNeg 0), .int (xl.getD (x3 + 2).toNatClampNeg 0), .int (xl.getD (x3 + 3).toNatClampNeg 0)]) (rest := []) (M := cM132) (ty := .int) rfl rfl rfl rfl rfl (by decide) rfl rfl (by decide) ?_).weak
  refine PF.imp h (fun v1 F1 h r1 hv => ?_)
  have h := h r1 hv
  refine PF.pr (k := 1) (pc' := 1098) (lv' := [(3, .int x3), (2, .ref 129), (1, .ref 0), (0, .ref KB)]) (st' := []) rfl ?_
  refine PF.pr (k := 1) (pc' := 1099) (lv' := [(3, .int x3), (2, .ref 129), (1, .ref 0), (0, .ref KB)]) (st' := [.ref 129]) rfl ?_
  refine PF.pr (k := 1) (pc' := 1100) (lv' := [(3, .int x3), (2, .ref 129), (1, .ref 0), (0, .ref KB)]) (st' := [.ref KB, .ref 129]) rfl ?_
  refine PF.pr (k := 1) (pc' := 1101) (lv' := [(3, .int x3), (2, .ref 129), (1, .ref 0), (0, .ref KB)]) (st' := [.int x3, .ref KB, .ref 129]) rfl ?_
  refine PF.pr (k := 1) (pc' := 1102) (lv' := [(3, .int x3), (2, .ref 129), (1, .ref 0), (0, .ref KB)]) (st' := [.int 1, .int x3, .ref KB, .ref 129]) rfl ?_
  refine PF.pr (k := 1) (pc' := 1103) (lv' := [(3, .int x3), (2, .ref 129), (1, .ref 0), (0, .ref KB)]) (st' := [.int (x3 + 1), .ref KB, .ref 129]) rfl ?_
  refine PF.scr rfl (fun c1 c2 => ?_)
  have h := h c1 c2
  refine PF.pr (k := 1) (pc' := 1105) (lv' := [(3, .int x3), (2, .ref 129), (1, .ref 0), (0, .ref KB)]) (st' := [.ref KB, .int (xl.getD (x3 + 1).toNatClampNeg 0), .ref 129]) rfl ?_
  refine PF.pr (k := 1) (pc' := 1106) (lv' := [(3, .int x3), (2, .ref 129), (1, .ref 0), (0, .ref KB)]) (st' := [.int x3, .ref KB, .int (xl.getD (x3 + 1).toNatClampNeg 0), .ref 129]) rfl ?_
  refine PF.pr (k := 1) (pc' := 1107) (lv' := [(3, .int x3), (2, .ref 129), (1, .ref 0), (0, .ref KB)]) (st' := [.int 2, .int x3, .ref KB, .int (xl.getD (x3 + 1).toNatClampNeg 0), .ref 129]) rfl ?_
  refine PF.pr (k := 1) (pc' := 1108) (lv' := [(3, .int x3), (2, .ref 129), (1, .ref 0), (0, .ref KB)]) (st' := [.int (x3 + 2), .ref KB, .int (xl.getD (x3 + 1).toNatClampNeg 0), .ref 129]) rfl ?_
  refine PF.scr rfl (fun c1 c2 => ?_)
  have h := h c1 c2
  refine PF.pr (k := 1) (pc' := 1110) (lv' := [(3, .int x3), (2, .ref 129), (1, .ref 0), (0, .ref KB)]) (st' := [.ref KB, .int (xl.getD (x3 + 2).toNatClampNeg 0), .int (xl.getD (x3 + 1).toNatClampNeg 0), .ref 129]) rfl ?_
  refine PF.pr (k := 1) (pc' := 1111) (lv' := [(3, .int x3), (2, .ref 129), (1, .ref 0), (0, .ref KB)]) (st' := [.int x3, .ref KB, .int (xl.getD (x3 + 2).toNatClampNeg 0), .int (xl.getD (x3 + 1).toNatClampNeg 0), .ref 129]) rfl ?_
  refine PF.pr (k := 1) (pc' := 1112) (lv' := [(3, .int x3), (2, .ref 129), (1, .ref 0), (0, .ref KB)]) (st' := [.int 3, .int x3, .ref KB, .int (xl.getD (x3 + 2).toNatClampNeg 0), .int (xl.getD (x3 + 1).toNatClampNeg 0), .ref 129]) rfl ?_
  refine PF.pr (k := 1) (pc' := 1113) (lv' := [(3, .int x3), (2, .ref 129), (1, .ref 0), (0, .ref KB)]) (st' := [.int (x3 + 3), .ref KB, .int (xl.getD (x3 + 2).toNatClampNeg 0), .int (xl.getD (x3 + 1).toNatClampNeg 0), .ref 129]) rfl ?_
  refine PF.scr rfl (fun c1 c2 => ?_)
  have h := h c1 c2
  refine (PF.callI (j := 233) (args := [.ref 129, .int (xl.getD (x3 + 1).toNatClampNeg 0), .int (xl.getD (x3 + 2).toNatClampNeg 0), .int (xl.getD (x3 + 3).toNatClampNeg 0)]) (rest := []) (M := cM233) (ty := .int) rfl rfl rfl rfl rfl (by decide) rfl rfl (by decide) ?_).weak
  refine PF.imp h (fun v2 F2 h r2 hv => ?_)
  have h := h r2 hv
  refine PF.pr (k := 1) (pc' := 1118) (lv' := [(3, .int x3), (2, .ref 129), (1, .ref 0), (0, .ref KB)]) (st' := []) rfl ?_
  refine PF.pr (k := 1) (pc' := 1253) (lv' := [(3, .int x3), (2, .ref 129), (1, .ref 0), (0, .ref KB)]) (st' := []) rfl ?_
  exact h

theorem l_1121 {xl : List Int32} {n : Nat} {F : MH} {Q : Option Value → MH → Prop} {x3 : Int32} (h : (0 ≤ (x3 + 1).toInt → (x3 + 1).toInt < xl.length → (0 ≤ (x3 + 2).toInt → (x3 + 2).toInt < xl.length → (0 ≤ (x3 + 3).toInt → (x3 + 3).toInt < xl.length → PF (tRo xl) n 136 0 [(0, .ref 0), (1, .int (xl.getD (x3 + 1).toNatClampNeg 0)), (2, .int (xl.getD (x3 + 2).toNatClampNeg 0)), (3, .int (xl.getD (x3 + 3).toNatClampNeg 0))] [] F (fun v1 F1 => ∀ r1, v1 = some (.int r1) → (0 ≤ (x3 + 1).toInt → (x3 + 1).toInt < xl.length → (0 ≤ (x3 + 2).toInt → (x3 + 2).toInt < xl.length → (0 ≤ (x3 + 3).toInt → (x3 + 3).toInt < xl.length → PF (tRo xl) n 235 0 [(0, .ref 129), (1, .int (xl.getD (x3 + 1).toNatClampNeg 0)), (2, .int (xl.getD (x3 + 2).toNatClampNeg 0)), (3, .int (xl.getD (x3 + 3).toNatClampNeg 0))] [] F1 (fun v2 F2 => ∀ r2, v2 = some (.int r2) → PF (tRo xl) n 0 1253 [(3, .int x3), (2, .ref 129), (1, .ref 0), (0, .ref KB)] [] F2 Q))))))))) : PF (tRo xl) (n + 1) 0 1121 [(3, .int x3), (2, .ref 129), (1, .ref 0), (0, .ref KB)] [] F Q := by
  refine PF.pr1 (k := 0) (pc' := 1122) (lv' := [(3, .int x3), (2, .ref 129), (1, .ref 0), (0, .ref KB)]) (st' := [.ref 0]) rfl ?_
  refine PF.pr (k := 1) (pc' := 1123) (lv' := [(3, .int x3), (2, .ref 129), (1, .ref 0), (0, .ref KB)]) (st' := [.ref KB, .ref 0]) rfl ?_
  refine PF.pr (k := 1) (pc' := 1124) (lv' := [(3, .int x3), (2, .ref 129), (1, .ref 0), (0, .ref KB)]) (st' := [.int x3, .ref KB, .ref 0]) rfl ?_
  refine PF.pr (k := 1) (pc' := 1125) (lv' := [(3, .int x3), (2, .ref 129), (1, .ref 0), (0, .ref KB)]) (st' := [.int 1, .int x3, .ref KB, .ref 0]) rfl ?_
  refine PF.pr (k := 1) (pc' := 1126) (lv' := [(3, .int x3), (2, .ref 129), (1, .ref 0), (0, .ref KB)]) (st' := [.int (x3 + 1), .ref KB, .ref 0]) rfl ?_
  refine PF.scr rfl (fun c1 c2 => ?_)
  have h := h c1 c2
  refine PF.pr (k := 1) (pc' := 1128) (lv' := [(3, .int x3), (2, .ref 129), (1, .ref 0), (0, .ref KB)]) (st' := [.ref KB, .int (xl.getD (x3 + 1).toNatClampNeg 0), .ref 0]) rfl ?_
  refine PF.pr (k := 1) (pc' := 1129) (lv' := [(3, .int x3), (2, .ref 129), (1, .ref 0), (0, .ref KB)]) (st' := [.int x3, .ref KB, .int (xl.getD (x3 + 1).toNatClampNeg 0), .ref 0]) rfl ?_
  refine PF.pr (k := 1) (pc' := 1130) (lv' := [(3, .int x3), (2, .ref 129), (1, .ref 0), (0, .ref KB)]) (st' := [.int 2, .int x3, .ref KB, .int (xl.getD (x3 + 1).toNatClampNeg 0), .ref 0]) rfl ?_
  refine PF.pr (k := 1) (pc' := 1131) (lv' := [(3, .int x3), (2, .ref 129), (1, .ref 0), (0, .ref KB)]) (st' := [.int (x3 + 2), .ref KB, .int (xl.getD (x3 + 1).toNatClampNeg 0), .ref 0]) rfl ?_
  refine PF.scr rfl (fun c1 c2 => ?_)
  have h := h c1 c2
  refine PF.pr (k := 1) (pc' := 1133) (lv' := [(3, .int x3), (2, .ref 129), (1, .ref 0), (0, .ref KB)]) (st' := [.ref KB, .int (xl.getD (x3 + 2).toNatClampNeg 0), .int (xl.getD (x3 + 1).toNatClampNeg 0), .ref 0]) rfl ?_
  refine PF.pr (k := 1) (pc' := 1134) (lv' := [(3, .int x3), (2, .ref 129), (1, .ref 0), (0, .ref KB)]) (st' := [.int x3, .ref KB, .int (xl.getD (x3 + 2).toNatClampNeg 0), .int (xl.getD (x3 + 1).toNatClampNeg 0), .ref 0]) rfl ?_
  refine PF.pr (k := 1) (pc' := 1135) (lv' := [(3, .int x3), (2, .ref 129), (1, .ref 0), (0, .ref KB)]) (st' := [.int 3, .int x3, .ref KB, .int (xl.getD (x3 + 2).toNatClampNeg 0), .int (xl.getD (x3 + 1).toNatClampNeg 0), .ref 0]) rfl ?_
  refine PF.pr (k := 1) (pc' := 1136) (lv' := [(3, .int x3), (2, .ref 129), (1, .ref 0), (0, .ref KB)]) (st' := [.int (x3 + 3), .ref KB, .int (xl.getD (x3 + 2).toNatClampNeg 0), .int (xl.getD (x3 + 1).toNatClampNeg 0), .ref 0]) rfl ?_
  refine PF.scr rfl (fun c1 c2 => ?_)
  have h := h c1 c2
  refine (PF.callI (j := 136) (args := [.ref 0, .int (xl.getD (x3 + 1).toNatClampNeg 0), .int (xl.getD (x3 + 2).toNatClampNeg 0), .int (xl.getD (x3 + 3).toNatClampNeg 0)]) (rest := []) (M := cM136) (ty := .int) rfl rfl rfl rfl rfl (by decide) rfl rfl (by decide) ?_).weak
  refine PF.imp h (fun v1 F1 h r1 hv => ?_)
  have h := h r1 hv
  refine PF.pr (k := 1) (pc' := 1141) (lv' := [(3, .int x3), (2, .ref 129), (1, .ref 0), (0, .ref KB)]) (st' := []) rfl ?_
  refine PF.pr (k := 1) (pc' := 1142) (lv' := [(3, .int x3), (2, .ref 129), (1, .ref 0), (0, .ref KB)]) (st' := [.ref 129]) rfl ?_
  refine PF.pr (k := 1) (pc' := 1143) (lv' := [(3, .int x3), (2, .ref 129), (1, .ref 0), (0, .ref KB)]) (st' := [.ref KB, .ref 129]) rfl ?_
  refine PF.pr (k := 1) (pc' := 1144) (lv' := [(3, .int x3), (2, .ref 129), (1, .ref 0), (0, .ref KB)]) (st' := [.int x3, .ref KB, .ref 129]) rfl ?_
  refine PF.pr (k := 1) (pc' := 1145) (lv' := [(3, .int x3), (2, .ref 129), (1, .ref 0), (0, .ref KB)]) (st' := [.int 1, .int x3, .ref KB, .ref 129]) rfl ?_
  refine PF.pr (k := 1) (pc' := 1146) (lv' := [(3, .int x3), (2, .ref 129), (1, .ref 0), (0, .ref KB)]) (st' := [.int (x3 + 1), .ref KB, .ref 129]) rfl ?_
  refine PF.scr rfl (fun c1 c2 => ?_)
  have h := h c1 c2
  refine PF.pr (k := 1) (pc' := 1148) (lv' := [(3, .int x3), (2, .ref 129), (1, .ref 0), (0, .ref KB)]) (st' := [.ref KB, .int (xl.getD (x3 + 1).toNatClampNeg 0), .ref 129]) rfl ?_
  refine PF.pr (k := 1) (pc' := 1149) (lv' := [(3, .int x3), (2, .ref 129), (1, .ref 0), (0, .ref KB)]) (st' := [.int x3, .ref KB, .int (xl.getD (x3 + 1).toNatClampNeg 0), .ref 129]) rfl ?_
  refine PF.pr (k := 1) (pc' := 1150) (lv' := [(3, .int x3), (2, .ref 129), (1, .ref 0), (0, .ref KB)]) (st' := [.int 2, .int x3, .ref KB, .int (xl.getD (x3 + 1).toNatClampNeg 0), .ref 129]) rfl ?_
  refine PF.pr (k := 1) (pc' := 1151) (lv' := [(3, .int x3), (2, .ref 129), (1, .ref 0), (0, .ref KB)]) (st' := [.int (x3 + 2), .ref KB, .int (xl.getD (x3 + 1).toNatClampNeg 0), .ref 129]) rfl ?_
  refine PF.scr rfl (fun c1 c2 => ?_)
  have h := h c1 c2
  refine PF.pr (k := 1) (pc' := 1153) (lv' := [(3, .int x3), (2, .ref 129), (1, .ref 0), (0, .ref KB)]) (st' := [.ref KB, .int (xl.getD (x3 + 2).toNatClampNeg 0), .int (xl.getD (x3 + 1).toNatClampNeg 0), .ref 129]) rfl ?_
  refine PF.pr (k := 1) (pc' := 1154) (lv' := [(3, .int x3), (2, .ref 129), (1, .ref 0), (0, .ref KB)]) (st' := [.int x3, .ref KB, .int (xl.getD (x3 + 2).toNatClampNeg 0), .int (xl.getD (x3 + 1).toNatClampNeg 0), .ref 129]) rfl ?_
  refine PF.pr (k := 1) (pc' := 1155) (lv' := [(3, .int x3), (2, .ref 129), (1, .ref 0), (0, .ref KB)]) (st' := [.int 3, .int x3, .ref KB, .int (xl.getD (x3 + 2).toNatClampNeg 0), .int (xl.getD (x3 + 1).toNatClampNeg 0), .ref 129]) rfl ?_
  refine PF.pr (k := 1) (pc' := 1156) (lv' := [(3, .int x3), (2, .ref 129), (1, .ref 0), (0, .ref KB)]) (st' := [.int (x3 + 3), .ref KB, .int (xl.getD (x3 + 2).toNatClampNeg 0), .int (xl.getD (x3 + 1).toNatClampNeg 0), .ref 129]) rfl ?_
  refine PF.scr rfl (fun c1 c2 => ?_)
  have h := h c1 c2
  refine (PF.callI (j := 235) (args := [.ref 129, .int (xl.getD (x3 + 1).toNatClampNeg 0), .int (xl.getD (x3 + 2).toNatClampNeg 0), .int (xl.getD (x3 + 3).toNatClampNeg 0)]) (rest := []) (M := cM235) (ty := .int) rfl rfl rfl rfl rfl (by decide) rfl rfl (by decide) ?_).weak
  refine PF.imp h (fun v2 F2 h r2 hv => ?_)
  have h := h r2 hv
  refine PF.pr (k := 1) (pc' := 1161) (lv' := [(3, .int x3), (2, .ref 129), (1, .ref 0), (0, .ref KB)]) (st' := []) rfl ?_
  refine PF.pr (k := 1) (pc' := 1253) (lv' := [(3, .int x3), (2, .ref 129), (1, .ref 0), (0, .ref KB)]) (st' := []) rfl ?_
  exact h

theorem l_1164 {xl : List Int32} {n : Nat} {F : MH} {Q : Option Value → MH → Prop} {x3 : Int32} (h : (0 ≤ (x3 + 1).toInt → (x3 + 1).toInt < xl.length → (0 ≤ (x3 + 2).toInt → (x3 + 2).toInt < xl.length → (0 ≤ (x3 + 3).toInt → (x3 + 3).toInt < xl.length → (0 ≤ (x3 + 4).toInt → (x3 + 4).toInt < xl.length → PF (tRo xl) n 139 0 [(0, .ref 0), (1, .int (xl.getD (x3 + 1).toNatClampNeg 0)), (2, .int (xl.getD (x3 + 2).toNatClampNeg 0)), (3, .int (xl.getD (x3 + 3).toNatClampNeg 0)), (4, .int (xl.getD (x3 + 4).toNatClampNeg 0))] [] F (fun v1 F1 => ∀ r1, v1 = some (.int r1) → (0 ≤ (x3 + 1).toInt → (x3 + 1).toInt < xl.length → (0 ≤ (x3 + 2).toInt → (x3 + 2).toInt < xl.length → (0 ≤ (x3 + 3).toInt → (x3 + 3).toInt < xl.length → (0 ≤ (x3 + 4).toInt → (x3 + 4).toInt < xl.length → PF (tRo xl) n 236 0 [(0, .ref 129), (1, .int (xl.getD (x3 + 1).toNatClampNeg 0)), (2, .int (xl.getD (x3 + 2).toNatClampNeg 0)), (3, .int (xl.getD (x3 + 3).toNatClampNeg 0)), (4, .int (xl.getD (x3 + 4).toNatClampNeg 0))] [] F1 (fun v2 F2 => ∀ r2, v2 = some (.int r2) → PF (tRo xl) n 0 1253 [(3, .int x3), (2, .ref 129), (1, .ref 0), (0, .ref KB)] [] F2 Q))))))))))) : PF (tRo xl) (n + 1) 0 1164 [(3, .int x3), (2, .ref 129), (1, .ref 0), (0, .ref KB)] [] F Q := by
  refine PF.pr1 (k := 0) (pc' := 1165) (lv' := [(3, .int x3), (2, .ref 129), (1, .ref 0), (0, .ref KB)]) (st' := [.ref 0]) rfl ?_
  refine PF.pr (k := 1) (pc' := 1166) (lv' := [(3, .int x3), (2, .ref 129), (1, .ref 0), (0, .ref KB)]) (st' := [.ref KB, .ref 0]) rfl ?_
  refine PF.pr (k := 1) (pc' := 1167) (lv' := [(3, .int x3), (2, .ref 129), (1, .ref 0), (0, .ref KB)]) (st' := [.int x3, .ref KB, .ref 0]) rfl ?_
  refine PF.pr (k := 1) (pc' := 1168) (lv' := [(3, .int x3), (2, .ref 129), (1, .ref 0), (0, .ref KB)]) (st' := [.int 1, .int x3, .ref KB, .ref 0]) rfl ?_
  refine PF.pr (k := 1) (pc' := 1169) (lv' := [(3, .int x3), (2, .ref 129), (1, .ref 0), (0, .ref KB)]) (st' := [.int (x3 + 1), .ref KB, .ref 0]) rfl ?_
  refine PF.scr rfl (fun c1 c2 => ?_)
  have h := h c1 c2
  refine PF.pr (k := 1) (pc' := 1171) (lv' := [(3, .int x3), (2, .ref 129), (1, .ref 0), (0, .ref KB)]) (st' := [.ref KB, .int (xl.getD (x3 + 1).toNatClampNeg 0), .ref 0]) rfl ?_
  refine PF.pr (k := 1) (pc' := 1172) (lv' := [(3, .int x3), (2, .ref 129), (1, .ref 0), (0, .ref KB)]) (st' := [.int x3, .ref KB, .int (xl.getD (x3 + 1).toNatClampNeg 0), .ref 0]) rfl ?_
  refine PF.pr (k := 1) (pc' := 1173) (lv' := [(3, .int x3), (2, .ref 129), (1, .ref 0), (0, .ref KB)]) (st' := [.int 2, .int x3, .ref KB, .int (xl.getD (x3 + 1).toNatClampNeg 0), .ref 0]) rfl ?_
  refine PF.pr (k := 1) (pc' := 1174) (lv' := [(3, .int x3), (2, .ref 129), (1, .ref 0), (0, .ref KB)]) (st' := [.int (x3 + 2), .ref KB, .int (xl.getD (x3 + 1).toNatClampNeg 0), .ref 0]) rfl ?_
  refine PF.scr rfl (fun c1 c2 => ?_)
  have h := h c1 c2
  refine PF.pr (k := 1) (pc' := 1176) (lv' := [(3, .int x3), (2, .ref 129), (1, .ref 0), (0, .ref KB)]) (st' := [.ref KB, .int (xl.getD (x3 + 2).toNatClampNeg 0), .int (xl.getD (x3 + 1).toNatClampNeg 0), .ref 0]) rfl ?_
  refine PF.pr (k := 1) (pc' := 1177) (lv' := [(3, .int x3), (2, .ref 129), (1, .ref 0), (0, .ref KB)]) (st' := [.int x3, .ref KB, .int (xl.getD (x3 + 2).toNatClampNeg 0), .int (xl.getD (x3 + 1).toNatClampNeg 0), .ref 0]) rfl ?_
  refine PF.pr (k := 1) (pc' := 1178) (lv' := [(3, .int x3), (2, .ref 129), (1, .ref 0), (0, .ref KB)]) (st' := [.int 3, .int x3, .ref KB, .int (xl.getD (x3 + 2).toNatClampNeg 0), .int (xl.getD (x3 + 1).toNatClampNeg 0), .ref 0]) rfl ?_
  refine PF.pr (k := 1) (pc' := 1179) (lv' := [(3, .int x3), (2, .ref 129), (1, .ref 0), (0, .ref KB)]) (st' := [.int (x3 + 3), .ref KB, .int (xl.getD (x3 + 2).toNatClampNeg 0), .int (xl.getD (x3 + 1).toNatClampNeg 0), .ref 0]) rfl ?_
  refine PF.scr rfl (fun c1 c2 => ?_)
  have h := h c1 c2
  refine PF.pr (k := 1) (pc' := 1181) (lv' := [(3, .int x3), (2, .ref 129), (1, .ref 0), (0, .ref KB)]) (st' := [.ref KB, .int (xl.getD (x3 + 3).toNatClampNeg 0), .int (xl.getD (x3 + 2).toNatClampNeg 0), .int (xl.getD (x3 + 1).toNatClampNeg 0), .ref 0]) rfl ?_
  refine PF.pr (k := 1) (pc' := 1182) (lv' := [(3, .int x3), (2, .ref 129), (1, .ref 0), (0, .ref KB)]) (st' := [.int x3, .ref KB, .int (xl.getD (x3 + 3).toNatClampNeg 0), .int (xl.getD (x3 + 2).toNatClampNeg 0), .int (xl.getD (x3 + 1).toNatClampNeg 0), .ref 0]) rfl ?_
  refine PF.pr (k := 1) (pc' := 1183) (lv' := [(3, .int x3), (2, .ref 129), (1, .ref 0), (0, .ref KB)]) (st' := [.int 4, .int x3, .ref KB, .int (xl.getD (x3 + 3).toNatClampNeg 0), .int (xl.getD (x3 + 2).toNatClampNeg 0), .int (xl.getD (x3 + 1).toNatClampNeg 0), .ref 0]) rfl ?_
  refine PF.pr (k := 1) (pc' := 1184) (lv' := [(3, .int x3), (2, .ref 129), (1, .ref 0), (0, .ref KB)]) (st' := [.int (x3 + 4), .ref KB, .int (xl.getD (x3 + 3).toNatClampNeg 0), .int (xl.getD (x3 + 2).toNatClampNeg 0), .int (xl.getD (x3 + 1).toNatClampNeg 0), .ref 0]) rfl ?_
  refine PF.scr rfl (fun c1 c2 => ?_)
  have h := h c1 c2
  refine (PF.callI (j := 139) (args := [.ref 0, .int (xl.getD (x3 + 1).toNatClampNeg 0), .int (xl.getD (x3 + 2).toNatClampNeg 0), .int (xl.getD (x3 + 3).toNatClampNeg 0), .int (xl.getD (x3 + 4).toNatClampNeg 0)]) (rest := []) (M := cM139) (ty := .int) rfl rfl rfl rfl rfl (by decide) rfl rfl (by decide) ?_).weak
  refine PF.imp h (fun v1 F1 h r1 hv => ?_)
  have h := h r1 hv
  refine PF.pr (k := 1) (pc' := 1189) (lv' := [(3, .int x3), (2, .ref 129), (1, .ref 0), (0, .ref KB)]) (st' := []) rfl ?_
  refine PF.pr (k := 1) (pc' := 1190) (lv' := [(3, .int x3), (2, .ref 129), (1, .ref 0), (0, .ref KB)]) (st' := [.ref 129]) rfl ?_
  refine PF.pr (k := 1) (pc' := 1191) (lv' := [(3, .int x3), (2, .ref 129), (1, .ref 0), (0, .ref KB)]) (st' := [.ref KB, .ref 129]) rfl ?_
  refine PF.pr (k := 1) (pc' := 1192) (lv' := [(3, .int x3), (2, .ref 129), (1, .ref 0), (0, .ref KB)]) (st' := [.int x3, .ref KB, .ref 129]) rfl ?_
  refine PF.pr (k := 1) (pc' := 1193) (lv' := [(3, .int x3), (2, .ref 129), (1, .ref 0), (0, .ref KB)]) (st' := [.int 1, .int x3, .ref KB, .ref 129]) rfl ?_
  refine PF.pr (k := 1) (pc' := 1194) (lv' := [(3, .int x3), (2, .ref 129), (1, .ref 0), (0, .ref KB)]) (st' := [.int (x3 + 1), .ref KB, .ref 129]) rfl ?_
  refine PF.scr rfl (fun c1 c2 => ?_)
  have h := h c1 c2
  refine PF.pr (k := 1) (pc' := 1196) (lv' := [(3, .int x3), (2, .ref 129), (1, .ref 0), (0, .ref KB)]) (st' := [.ref KB, .int (xl.getD (x3 + 1).toNatClampNeg 0), .ref 129]) rfl ?_
  refine PF.pr (k := 1) (pc' := 1197) (lv' := [(3, .int x3), (2, .ref 129), (1, .ref 0), (0, .ref KB)]) (st' := [.int x3, .ref KB, .int (xl.getD (x3 + 1).toNatClampNeg 0), .ref 129]) rfl ?_
  refine PF.pr (k := 1) (pc' := 1198) (lv' := [(3, .int x3), (2, .ref 129), (1, .ref 0), (0, .ref KB)]) (st' := [.int 2, .int x3, .ref KB, .int (xl.getD (x3 + 1).toNatClampNeg 0), .ref 129]) rfl ?_
  refine PF.pr (k := 1) (pc' := 1199) (lv' := [(3, .int x3), (2, .ref 129), (1, .ref 0), (0, .ref KB)]) (st' := [.int (x3 + 2), .ref KB, .int (xl.getD (x3 + 1).toNatClampNeg 0), .ref 129]) rfl ?_
  refine PF.scr rfl (fun c1 c2 => ?_)
  have h := h c1 c2
  refine PF.pr (k := 1) (pc' := 1201) (lv' := [(3, .int x3), (2, .ref 129), (1, .ref 0), (0, .ref KB)]) (st' := [.ref KB, .int (xl.getD (x3 + 2).toNatClampNeg 0), .int (xl.getD (x3 + 1).toNatClampNeg 0), .ref 129]) rfl ?_
  refine PF.pr (k := 1) (pc' := 1202) (lv' := [(3, .int x3), (2, .ref 129), (1, .ref 0), (0, .ref KB)]) (st' := [.int x3, .ref KB, .int (xl.getD (x3 + 2).toNatClampNeg 0), .int (xl.getD (x3 + 1).toNatClampNeg 0), .ref 129]) rfl ?_
  refine PF.pr (k := 1) (pc' := 1203) (lv' := [(3, .int x3), (2, .ref 129), (1, .ref 0), (0, .ref KB)]) (st' := [.int 3, .int x3, .ref KB, .int (xl.getD (x3 + 2).toNatClampNeg 0), .int (xl.getD (x3 + 1).toNatClampNeg 0), .ref 129]) rfl ?_
  refine PF.pr (k := 1) (pc' := 1204) (lv' := [(3, .int x3), (2, .ref 129), (1, .ref 0), (0, .ref KB)]) (st' := [.int (x3 + 3), .ref KB, .int (xl.getD (x3 + 2).toNatClampNeg 0), .int (xl.getD (x3 + 1).toNatClampNeg 0), .ref 129]) rfl ?_
  refine PF.scr rfl (fun c1 c2 => ?_)
  have h := h c1 c2
  refine PF.pr (k := 1) (pc' := 1206) (lv' := [(3, .int x3), (2, .ref 129), (1, .ref 0), (0, .ref KB)]) (st' := [.ref KB, .int (xl.getD (x3 + 3).toNatClampNeg 0), .int (xl.getD (x3 + 2).toNatClampNeg 0), .int (xl.getD (x3 + 1).toNatClampNeg 0), .ref 129]) rfl ?_
  refine PF.pr (k := 1) (pc' := 1207) (lv' := [(3, .int x3), (2, .ref 129), (1, .ref 0), (0, .ref KB)]) (st' := [.int x3, .ref KB, .int (xl.getD (x3 + 3).toNatClampNeg 0), .int (xl.getD (x3 + 2).toNatClampNeg 0), .int (xl.getD (x3 + 1).toNatClampNeg 0), .ref 129]) rfl ?_
  refine PF.pr (k := 1) (pc' := 1208) (lv' := [(3, .int x3), (2, .ref 129), (1, .ref 0), (0, .ref KB)]) (st' := [.int 4, .int x3, .ref KB, .int (xl.getD (x3 + 3).toNatClampNeg 0), .int (xl.getD (x3 + 2).toNatClampNeg 0), .int (xl.getD (x3 + 1).toNatClampNeg 0), .ref 129]) rfl ?_
  refine PF.pr (k := 1) (pc' := 1209) (lv' := [(3, .int x3), (2, .ref 129), (1, .ref 0), (0, .ref KB)]) (st' := [.int (x3 + 4), .ref KB, .int (xl.getD (x3 + 3).toNatClampNeg 0), .int (xl.getD (x3 + 2).toNatClampNeg 0), .int (xl.getD (x3 + 1).toNatClampNeg 0), .ref 129]) rfl ?_
  refine PF.scr rfl (fun c1 c2 => ?_)
  have h := h c1 c2
  refine (PF.callI (j := 236) (args := [.ref 129, .int (xl.getD (x3 + 1).toNatClampNeg 0), .int (xl.getD (x3 + 2).toNatClampNeg 0), .int (xl.getD (x3 + 3).toNatClampNeg 0), .int (xl.getD (x3 + 4).toNatClampNeg 0)]) (rest := []) (M := cM236) (ty := .int) rfl rfl rfl rfl rfl (by decide) rfl rfl (by decide) ?_).weak
  refine PF.imp h (fun v2 F2 h r2 hv => ?_)
  have h := h r2 hv
  refine PF.pr (k := 1) (pc' := 1214) (lv' := [(3, .int x3), (2, .ref 129), (1, .ref 0), (0, .ref KB)]) (st' := []) rfl ?_
  refine PF.pr (k := 1) (pc' := 1253) (lv' := [(3, .int x3), (2, .ref 129), (1, .ref 0), (0, .ref KB)]) (st' := []) rfl ?_
  exact h

theorem l_1217 {xl : List Int32} {n : Nat} {F : MH} {Q : Option Value → MH → Prop} {x3 : Int32} (h : PF (tRo xl) n 142 0 [(0, .ref 0)] [] F (fun v1 F1 => ∀ r1, v1 = some (.int r1) → PF (tRo xl) n 237 0 [(0, .ref 129)] [] F1 (fun v2 F2 => ∀ r2, v2 = some (.int r2) → PF (tRo xl) n 0 1253 [(3, .int x3), (2, .ref 129), (1, .ref 0), (0, .ref KB)] [] F2 Q))) : PF (tRo xl) (n + 1) 0 1217 [(3, .int x3), (2, .ref 129), (1, .ref 0), (0, .ref KB)] [] F Q := by
  refine PF.pr1 (k := 0) (pc' := 1218) (lv' := [(3, .int x3), (2, .ref 129), (1, .ref 0), (0, .ref KB)]) (st' := [.ref 0]) rfl ?_
  refine (PF.callI (j := 142) (args := [.ref 0]) (rest := []) (M := cM142) (ty := .int) rfl rfl rfl rfl rfl (by decide) rfl rfl (by decide) ?_).weak
  refine PF.imp h (fun v1 F1 h r1 hv => ?_)
  have h := h r1 hv
  refine PF.pr (k := 1) (pc' := 1222) (lv' := [(3, .int x3), (2, .ref 129), (1, .ref 0), (0, .ref KB)]) (st' := []) rfl ?_
  refine PF.pr (k := 1) (pc' := 1223) (lv' := [(3, .int x3), (2, .ref 129), (1, .ref 0), (0, .ref KB)]) (st' := [.ref 129]) rfl ?_
  refine (PF.callI (j := 237) (args := [.ref 129]) (rest := []) (M := cM237) (ty := .int) rfl rfl rfl rfl rfl (by decide) rfl rfl (by decide) ?_).weak
  refine PF.imp h (fun v2 F2 h r2 hv => ?_)
  have h := h r2 hv
  refine PF.pr (k := 1) (pc' := 1227) (lv' := [(3, .int x3), (2, .ref 129), (1, .ref 0), (0, .ref KB)]) (st' := []) rfl ?_
  refine PF.pr (k := 1) (pc' := 1253) (lv' := [(3, .int x3), (2, .ref 129), (1, .ref 0), (0, .ref KB)]) (st' := []) rfl ?_
  exact h

theorem l_1230 {xl : List Int32} {n : Nat} {F : MH} {Q : Option Value → MH → Prop} {x3 : Int32} (h : (0 ≤ (x3 + 1).toInt → (x3 + 1).toInt < xl.length → PF (tRo xl) n 143 0 [(0, .ref 0), (1, .int (xl.getD (x3 + 1).toNatClampNeg 0))] [] F (fun v1 F1 => ∀ r1, v1 = some (.int r1) → (0 ≤ (x3 + 1).toInt → (x3 + 1).toInt < xl.length → PF (tRo xl) n 238 0 [(0, .ref 129), (1, .int (xl.getD (x3 + 1).toNatClampNeg 0))] [] F1 (fun v2 F2 => ∀ r2, v2 = some (.int r2) → PF (tRo xl) n 0 1253 [(3, .int x3), (2, .ref 129), (1, .ref 0), (0, .ref KB)] [] F2 Q))))) : PF (tRo xl) (n + 1) 0 1230 [(3, .int x3), (2, .ref 129), (1, .ref 0), (0, .ref KB)] [] F Q := by
  refine PF.pr1 (k := 0) (pc' := 1231) (lv' := [(3, .int x3), (2, .ref 129), (1, .ref 0), (0, .ref KB)]) (st' := [.ref 0]) rfl ?_
  refine PF.pr (k := 1) (pc' := 1232) (lv' := [(3, .int x3), (2, .ref 129), (1, .ref 0), (0, .ref KB)]) (st' := [.ref KB, .ref 0]) rfl ?_
  refine PF.pr (k := 1) (pc' := 1233) (lv' := [(3, .int x3), (2, .ref 129), (1, .ref 0), (0, .ref KB)]) (st' := [.int x3, .ref KB, .ref 0]) rfl ?_
  refine PF.pr (k := 1) (pc' := 1234) (lv' := [(3, .int x3), (2, .ref 129), (1, .ref 0), (0, .ref KB)]) (st' := [.int 1, .int x3, .ref KB, .ref 0]) rfl ?_
  refine PF.pr (k := 1) (pc' := 1235) (lv' := [(3, .int x3), (2, .ref 129), (1, .ref 0), (0, .ref KB)]) (st' := [.int (x3 + 1), .ref KB, .ref 0]) rfl ?_
  refine PF.scr rfl (fun c1 c2 => ?_)
  have h := h c1 c2
  refine (PF.callI (j := 143) (args := [.ref 0, .int (xl.getD (x3 + 1).toNatClampNeg 0)]) (rest := []) (M := cM143) (ty := .int) rfl rfl rfl rfl rfl (by decide) rfl rfl (by decide) ?_).weak
  refine PF.imp h (fun v1 F1 h r1 hv => ?_)
  have h := h r1 hv
  refine PF.pr (k := 1) (pc' := 1240) (lv' := [(3, .int x3), (2, .ref 129), (1, .ref 0), (0, .ref KB)]) (st' := []) rfl ?_
  refine PF.pr (k := 1) (pc' := 1241) (lv' := [(3, .int x3), (2, .ref 129), (1, .ref 0), (0, .ref KB)]) (st' := [.ref 129]) rfl ?_
  refine PF.pr (k := 1) (pc' := 1242) (lv' := [(3, .int x3), (2, .ref 129), (1, .ref 0), (0, .ref KB)]) (st' := [.ref KB, .ref 129]) rfl ?_
  refine PF.pr (k := 1) (pc' := 1243) (lv' := [(3, .int x3), (2, .ref 129), (1, .ref 0), (0, .ref KB)]) (st' := [.int x3, .ref KB, .ref 129]) rfl ?_
  refine PF.pr (k := 1) (pc' := 1244) (lv' := [(3, .int x3), (2, .ref 129), (1, .ref 0), (0, .ref KB)]) (st' := [.int 1, .int x3, .ref KB, .ref 129]) rfl ?_
  refine PF.pr (k := 1) (pc' := 1245) (lv' := [(3, .int x3), (2, .ref 129), (1, .ref 0), (0, .ref KB)]) (st' := [.int (x3 + 1), .ref KB, .ref 129]) rfl ?_
  refine PF.scr rfl (fun c1 c2 => ?_)
  have h := h c1 c2
  refine (PF.callI (j := 238) (args := [.ref 129, .int (xl.getD (x3 + 1).toNatClampNeg 0)]) (rest := []) (M := cM238) (ty := .int) rfl rfl rfl rfl rfl (by decide) rfl rfl (by decide) ?_).weak
  refine PF.imp h (fun v2 F2 h r2 hv => ?_)
  have h := h r2 hv
  refine PF.pr (k := 1) (pc' := 1250) (lv' := [(3, .int x3), (2, .ref 129), (1, .ref 0), (0, .ref KB)]) (st' := []) rfl ?_
  refine PF.pr (k := 1) (pc' := 1253) (lv' := [(3, .int x3), (2, .ref 129), (1, .ref 0), (0, .ref KB)]) (st' := []) rfl ?_
  exact h

theorem l_1253 {xl : List Int32} {n : Nat} {F : MH} {Q : Option Value → MH → Prop} {x3 : Int32} (h : PF (tRo xl) n 0 18 [(3, .int (x3 + 5)), (2, .ref 129), (1, .ref 0), (0, .ref KB)] [] F Q) : PF (tRo xl) (n + 1) 0 1253 [(3, .int x3), (2, .ref 129), (1, .ref 0), (0, .ref KB)] [] F Q := by
  refine PF.pr1 (k := 0) (pc' := 1256) (lv' := [(3, .int (x3 + 5)), (2, .ref 129), (1, .ref 0), (0, .ref KB)]) (st' := []) rfl ?_
  refine PF.pr (k := 1) (pc' := 18) (lv' := [(3, .int (x3 + 5)), (2, .ref 129), (1, .ref 0), (0, .ref KB)]) (st' := []) rfl ?_
  exact h

