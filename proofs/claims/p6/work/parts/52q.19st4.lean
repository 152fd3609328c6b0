/-! THE START'S CELLS: their shape, empty tapes -/
def eqv4 (v w : Value) : Bool := match v, w with
  | .int x, .int y => x == y
  | .long x, .long y => x == y
  | .ref a, .ref b => a == b
  | .null, .null => true
  | _, _ => false
theorem eqv4_ok {v w : Value} (h : eqv4 v w = true) : v = w := by
  unfold eqv4 at h
  split at h
  · rw [eq_of_beq h]
  · rw [eq_of_beq h]
  · rw [eq_of_beq h]
  · rfl
  · cases h
def eqL4 : List Value → List Value → Bool
  | [], [] => true
  | v :: l, w :: m => eqv4 v w && eqL4 l m
  | _, _ => false
theorem eqL4_ok : ∀ {l m : List Value}, eqL4 l m = true → l = m
  | [], [], _ => rfl
  | v :: l, w :: m, h => by
    have h : (eqv4 v w && eqL4 l m) = true := h
    rw [Bool.and_eq_true] at h
    rw [eqv4_ok h.1, eqL4_ok h.2]
  | [], _ :: _, h => by cases h
  | _ :: _, [], h => by cases h
def eqc4 (c d : MC) : Bool := match c, d with
  | .inl o, .inl p => o.1 == p.1 && eqL4 o.2 p.2
  | .inr (.inl q), .inr (.inl r) => q.1 == r.1 && decide (q.2 = r.2)
  | .inr (.inr q), .inr (.inr r) => q.1 == r.1 && decide (q.2 = r.2)
  | _, _ => false
theorem eqc4_ok {c d : MC} (h : eqc4 c d = true) : c = d := by
  unfold eqc4 at h
  split at h
  · rename_i o p
    rw [Bool.and_eq_true] at h
    exact congrArg Sum.inl (Prod.ext (eq_of_beq h.1) (eqL4_ok h.2))
  · rename_i q r
    rw [Bool.and_eq_true] at h
    exact congrArg (fun t => Sum.inr (Sum.inl t)) (Prod.ext (eq_of_beq h.1) (of_decide_eq_true h.2))
  · rename_i q r
    rw [Bool.and_eq_true] at h
    exact congrArg (fun t => Sum.inr (Sum.inr t)) (Prod.ext (eq_of_beq h.1) (of_decide_eq_true h.2))
  · cases h
def eqH4 : MH → MH → Bool
  | [], [] => true
  | v :: l, w :: m => eqc4 v w && eqH4 l m
  | _, _ => false
theorem eqH4_ok : ∀ {l m : MH}, eqH4 l m = true → l = m
  | [], [], _ => rfl
  | v :: l, w :: m, h => by
    have h : (eqc4 v w && eqH4 l m) = true := h
    rw [Bool.and_eq_true] at h
    rw [eqc4_ok h.1, eqH4_ok h.2]
  | [], _ :: _, h => by cases h
  | _ :: _, [], h => by cases h
def zr4 (F : MH) (a : Nat) : Bool := match F[a]? with
  | some (.inr (.inl q)) => q.2.all (fun x => x == 0)
  | _ => false
theorem zr4_ok {F : MH} {a : Nat} (h : zr4 F a = true) (q : Nat) : iv F a q = 0 := by
  unfold zr4 at h
  split at h
  · rename_i p hp
    unfold iv
    rw [hp]
    show p.2.getD q 0 = 0
    rw [List.getD_eq_getElem?_getD]
    cases hq : p.2[q]? with
    | none => rfl
    | some x => exact eq_of_beq (List.all_eq_true.mp h x (List.mem_of_getElem? hq))
  · cases h
def st4B (F : MH) : Bool := eqH4 (F.map zc) sh0 && (decide (iv F 22 1 = 0) && (decide (iv F 129 13 = 0) && (zr4 F 23 && zr4 F 135)))
theorem st4_ok {F : MH} (h : st4B F = true) : F.map zc = sh0 ∧ BX (fun _ => 0) 0 (iv F) ∧ BM (fun _ => 0) 0 (iv F) := by
  unfold st4B at h
  simp only [Bool.and_eq_true, decide_eq_true_eq] at h
  obtain ⟨h1, h2, h3, h4, h5⟩ := h
  refine ⟨eqH4_ok h1, ⟨by omega, by rw [h2]; rfl, fun q => by rw [zr4_ok h4]; rfl⟩, ⟨by omega, by rw [h3]; rfl, fun q => by rw [zr4_ok h5]; rfl, fun q => Int.le_refl 0⟩⟩
