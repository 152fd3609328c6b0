/-! TABLES: what is checked of the links -/
def wIn (k : Nat) (w : Cond) : Bool := decide (lw_tbl[k]? = some w) && goodWord w
theorem wIn_spec {k : Nat} {w : Cond} (h : wIn k w = true) : w ∈ gw := by
  simp only [wIn, Bool.and_eq_true, decide_eq_true_eq] at h
  exact List.mem_filter.mpr ⟨List.mem_of_getElem? h.1, h.2⟩
/-- the word that an instruction's link is -/
def eW (own : String) (E : MI) : Option Cond := match E.2.1 with
  | .getfield idx => if E.2.2.2.1 = 99 then (if E.2.2.2.2.1 = 0 then some (.fieldLink own idx "java/lang/String" "value" "[B") else some (.fieldLink own idx "java/lang/String" "coder" "B")) else (tCls[E.2.2.2.1]?).map fun q => .fieldLink own idx (q.2.1 E.2.2.2.2.1).1 (q.2.1 E.2.2.2.2.1).2.1 (q.2.1 E.2.2.2.2.1).2.2.1
  | .putfield idx => (tCls[E.2.2.2.1]?).map fun q => .fieldLink own idx (q.2.1 E.2.2.2.2.1).1 (q.2.1 E.2.2.2.2.1).2.1 (q.2.1 E.2.2.2.2.1).2.2.1
  | .getstatic idx => if E.2.2.2.1 = 0 then some (.fieldLink own idx "java/lang/String" "COMPACT_STRINGS" "Z") else some (.fieldLink own idx "jdk/internal/util/Preconditions" "SIOOBE_FORMATTER" "Ljava/util/function/BiFunction;")
  | .ldc idx => some (.constant own idx (Int32.ofInt E.2.2.2.2.2))
  | .ldc_w idx => some (.constant own idx (Int32.ofInt E.2.2.2.2.2))
  | .ldc2_w idx => some (.constantLong own idx (Int64.ofInt E.2.2.2.2.2))
  | .new idx => (tCls[E.2.2.2.1]?).map fun q => .classLink own idx q.1
  | .anewarray idx => if E.2.2.2.1 = 3 then some (.classLink own idx "DoorPaints$Visitor") else if E.2.2.2.1 = 4 then some (.classLink own idx "DoorPaints$Door") else if E.2.2.2.1 = 5 then some (.classLink own idx "DoorPaints$Told") else if E.2.2.2.1 = 6 then some (.classLink own idx "DoorPaints$Sheet") else none
  | .invokestatic idx => if E.2.2.2.1 = 9998 then some (.methodLink own idx Lib.Math.max.name) else (tMT[E.2.2.2.1]?).map fun M => .methodLink own idx M.1
  | .invokevirtual idx => (tMT[E.2.2.2.1]?).map fun M => .methodLink own idx M.1
  | .invokespecial idx => if E.2.2.2.1 = 9999 then some (.methodLink own idx Lib.objectInit) else (tMT[E.2.2.2.1]?).map fun M => .methodLink own idx M.1
  | _ => none
def eWin (own : String) (E : MI) (k : Nat) : Bool := match eW own E with
  | some w => wIn k w
  | none => false
/-- a call of a nest mate: its row in tNest -/
def eNest (own : String) (E : MI) (idx k : Nat) : Bool := match tNest[k]?, tMT[E.2.2.2.1]? with
  | some q, some M => decide (q.1 = own ∧ q.2.1 = idx ∧ q.2.2.1 = M.1)
  | _, _ => false
def eKd (E : MI) (kd np : Nat) : Bool := match tKd[E.2.2.2.1]? with
  | some q => decide (0 < E.2.2.2.1 ∧ E.2.2.2.1 < 9000 ∧ q.1 = kd ∧ q.2.2.2.2.2 = np)
  | none => false
def eCl (E : MI) : Bool := match tMT[E.2.2.2.1]? with
  | some M => decide (E.2.2.2.2.2 = 99 ∧ M.1.cls = "java/lang/String") || (decide (0 ≤ E.2.2.2.2.2) && (match tCls[E.2.2.2.2.2.toNat]? with | some q => decide (q.1 = M.1.cls) | none => false))
  | none => false
def eB (own nm : String) (E : MI) (k : Nat) : Bool := match E.2.1 with
  | .getfield _ => eWin own E k && (if E.2.2.2.1 = 99 then decide (E.2.2.2.2.1 ≤ 1) else (match tCls[E.2.2.2.1]? with | some q => decide (E.2.2.2.2.1 < q.2.2) | none => false))
  | .putfield _ => eWin own E k && (match tCls[E.2.2.2.1]? with | some q => decide (E.2.2.2.2.1 < q.2.2) && (!(q.2.1 E.2.2.2.2.1).2.2.2 || decide (nm = "<init>" ∧ (q.2.1 E.2.2.2.2.1).1 = own)) | none => false)
  | .getstatic _ => eWin own E k && (if E.2.2.2.1 = 0 then decide (E.2.2.2.2.2 = 1) else decide (E.2.2.2.2.1 = 100))
  | .ldc idx => if E.2.2.2.1 = 0 then eWin own E k else decide (¬ E.2.2.2.2.1 = 100) && decide (tStr[k - 20000]? = some (own, idx, E.2.2.2.2.1))
  | .ldc_w _ => eWin own E k
  | .ldc2_w _ => eWin own E k
  | .new _ => eWin own E k
  | .anewarray _ => eWin own E k
  | .aastore => (match tCls[E.2.2.2.1]? with | some q => decide ((E.2.2.2.2.1 = 3 ∧ q.1 = "DoorPaints$Visitor") ∨ (E.2.2.2.2.1 = 4 ∧ q.1 = "DoorPaints$Door") ∨ (E.2.2.2.2.1 = 5 ∧ q.1 = "DoorPaints$Told") ∨ (E.2.2.2.2.1 = 6 ∧ q.1 = "DoorPaints$Sheet")) | none => false)
  | .invokestatic idx => if E.2.2.2.1 = 9998 then decide (E.2.2.2.2.1 = 2) && eWin own E k else eKd E 0 E.2.2.2.2.1 && (if k < 10000 then eWin own E k else eNest own E idx (k - 10000))
  | .invokespecial idx => if E.2.2.2.1 = 9999 then decide (E.2.2.2.2.1 = 1) && eWin own E k else eKd E 2 (E.2.2.2.2.1 - 1) && (if k < 10000 then eWin own E k else eNest own E idx (k - 10000))
  | .invokevirtual _ => eKd E 1 (E.2.2.2.2.1 - 1) && eWin own E k && eCl E
  | _ => true
def kOK (own nm : String) : List MI → List Nat → Bool
  | [], [] => true
  | E :: L, k :: K => eB own nm E k && kOK own nm L K
  | _, _ => false
def kAll (own nm : String) (L : List MI) : Prop := ∀ E ∈ L, ∃ k, eB own nm E k = true
theorem kOK_of {own nm : String} : ∀ {L : List MI} {K : List Nat}, kOK own nm L K = true → kAll own nm L
  | [], _, _ => fun E h => absurd h List.not_mem_nil
  | E :: L, [], h => by simp [kOK] at h
  | E :: L, k :: K, h => by
    simp only [kOK, Bool.and_eq_true] at h
    intro E' h'
    rcases List.mem_cons.mp h' with rfl | h'
    · exact ⟨k, h.1⟩
    · exact kOK_of h.2 E' h'
theorem kOK_app {own nm : String} {L L2 : List MI} {K : List Nat} (h : kOK own nm L K = true) (h2 : kAll own nm L2) : kAll own nm (L ++ L2) := by
  intro E hE
  rcases List.mem_append.mp hE with h' | h'
  · exact kOK_of h E h'
  · exact h2 E h'
