section
/-! CALLS, IX: those that try alone: what they leave, by the class -/
/-- cells but those of the trial, of the search, of the order, of what orders found -/
noncomputable def CFr (ι ι1 : IS) : Prop := ∀ a j, ¬ (86 ≤ a ∧ a ≤ 119) → ¬ (a = 0 ∧ (j = 11 ∨ j = 12)) → ι1 a j = ι a j
noncomputable def svB (S : Nat → Bool) (v : Value) : Bool := match v with
  | .ref a => S a || decide (KB ≤ a)
  | _ => true
noncomputable def sTr (a : Nat) : Bool := decide (86 ≤ a ∧ a ≤ 118)
noncomputable def pCl (k : Nat) : Bool := decide (10 ≤ k ∧ k ≤ 143)
noncomputable def nwL : List Nat := [26, 27, 28, 29, 30, 31, 32, 38, 41, 42, 48, 49, 50, 57, 58, 59, 60, 61, 63, 65, 68, 71, 73, 80, 90, 91, 92, 98, 99, 106, 110, 116, 122, 123, 125, 126]
noncomputable def pNw (k : Nat) : Bool := nwL.contains k
set_option maxRecDepth 100000 in
theorem cloTr : sClo sTr [] = true := by decide +kernel
set_option maxRecDepth 100000 in
theorem chkTr : sChk pCl [] [] = true := by decide +kernel
set_option maxRecDepth 100000 in
theorem chkNw : nwChk pNw = true := by decide +kernel
section Fra
variable {xl : List Int32} {n mi : Nat} {lv : LVs} {ι ι0 ι1 κ : IS} {x1 x2 x3 x4 x5 x6 : Int32} {Q : Option Value → IS → Prop}
theorem sLvB {S : Nat → Bool} (h : lv.all (fun q => svB S q.2) = true) : sLv S lv := by
  intro q hq b e
  have h1 := List.all_eq_true.mp h q hq
  rw [e] at h1
  simp only [svB, Bool.or_eq_true, decide_eq_true_eq] at h1
  exact h1
theorem rf_0_5 : rf 0 5 = 86 := rfl
theorem rf_0_6 : rf 0 6 = 101 := rfl
theorem rf_0_7 : rf 0 7 = 119 := rfl
theorem FS (hl : lv.all (fun q => svB sTr q.2) = true) (hp : pCl mi = true) (hs : Sm 86 118 ι0 ι) : PC xl n mi 0 lv [] ι (fun _ κ => Sm 86 118 ι0 κ) := (PC.side cloTr chkTr hp (sLvB hl)).imp (fun _ κ h => hs.trans (fun a j ha => h a j (Or.inl (by simpa [sTr] using ha))))
theorem FN (hp : pNw mi = true) : PC xl n mi 0 lv [] ι (fun _ κ => κ = ι) := PC.nw chkNw hp
theorem FB (hs : Sm 86 118 ι0 ι) : PC xl n 52 0 [(0, .ref 86), (1, .ref 25)] [] ι (fun _ κ => Sm 86 118 ι0 κ) := townB_sm (by decide) (fun ι' h => hs.trans (h.wide (by omega) (by omega)))
theorem CFr.rfl : CFr ι ι := fun _ _ _ _ => Eq.refl _
theorem CFr.trans {ι2 : IS} (h1 : CFr ι ι1) (h2 : CFr ι1 ι2) : CFr ι ι2 := fun a j g1 g2 => (h2 a j g1 g2).trans (h1 a j g1 g2)
theorem CFr.of (h : Sm 86 118 ι ι1) : CFr ι ι1 := fun a j g1 _ => h a j (by omega)
theorem actTL : ∀ (n : Nat) (ι : IS) (x3 x4 : Int32), Sm 86 118 ι0 ι → PC xl n 88 6 [(0, .ref 0), (1, .int x1), (2, .int x2), (3, .int x3), (4, .int x4)] [] ι (fun _ κ => Sm 86 118 ι0 κ)
  | 0, _, _, _, _ => PC.zero
  | n + 1, ι, x3, x4, hs => t_88_6 ⟨fun _ => hs, fun _ => ⟨fun _ => hs, fun _ _ _ => (FS rfl rfl hs).imp (fun v κ h r _ => ⟨fun _ => actTL n κ _ _ h, fun _ => ⟨fun _ => actTL n κ _ _ h, fun _ => actTL n κ _ _ h⟩⟩)⟩⟩
theorem actT (hs : Sm 86 118 ι0 ι) : PC xl n 88 0 [(0, .ref 0), (1, .int x1), (2, .int x2)] [] ι (fun _ κ => Sm 86 118 ι0 κ) := (t_88_0 (actTL n ι _ _ hs)).weak
theorem rehT (hs : Sm 86 118 ι0 ι) : PC xl n 87 0 [(0, .ref 0)] [] ι (fun _ κ => Sm 86 118 ι0 κ) := by
  refine (t_87_0 ?_).weak
  rw [rf_0_5, rf_0_2', rf_0_2]
  exact (FB hs).imp (fun _ κ1 h1 => (actT h1).imp (fun v κ2 h2 r _ => h2))
theorem runsF : PC xl n 86 0 [(0, .ref 0), (1, .int x1)] [] ι (fun _ κ => CFr ι κ) := by
  refine (t_86_0 ⟨fun _ => CFr.rfl, fun _ => ⟨fun _ => (rehT Sm.rfl).imp (fun v κ h r _ => ?_), fun _ => CFr.rfl⟩⟩).weak
  have f := CFr.of h
  exact ⟨fun _ => (FN rfl).imp (fun v κ2 e r _ => by rw [e]; exact f), fun _ => (FN rfl).imp (fun v κ2 e r _ => by rw [e]; exact f), fun _ => f, fun _ => (FN rfl).imp (fun v κ2 e r _ => by rw [e]; exact f), fun _ => (FN rfl).imp (fun v κ2 e r _ => by rw [e]; exact f)⟩
theorem aheadF : PC xl n 93 0 [(0, .ref 0), (1, .int x1)] [] ι (fun _ κ => CFr ι κ) := by
  refine (t_93_0 ((FN rfl).imp (fun v κ e r _ => ⟨fun _ => ?_, fun _ => by rw [e]; exact CFr.rfl⟩))).weak
  rw [e]
  exact (rehT Sm.rfl).imp (fun v κ h r _ _ _ => (FN rfl).imp (fun v κ2 e r _ => by rw [e]; exact CFr.of h))
theorem clearsL : ∀ (n : Nat) (ι : IS) (x2 x3 : Int32), Sm 86 118 ι0 ι → PC xl n 94 20 [(0, .ref 0), (1, .int x1), (2, .int x2), (3, .int x3)] [] ι (fun _ κ => Sm 86 118 ι0 κ)
  | 0, _, _, _, _ => PC.zero
  | n + 1, ι, x2, x3, hs => by
    refine t_94_20 ?_
    rw [rf_0_5, rf_0_2']
    refine ⟨fun _ => hs, fun _ => (FB hs).imp (fun _ κ1 h1 => (FS rfl rfl h1).imp (fun v κ2 h2 r _ => (FN rfl).imp (fun v κ3 e3 r _ => ?_)))⟩
    rw [e3]
    refine ⟨fun _ => clearsL n κ2 _ _ h2, fun _ _ _ => (FN rfl).imp (fun v κ4 e4 r _ => ?_)⟩
    rw [e4]
    exact ⟨fun _ => clearsL n κ2 _ _ h2, fun _ => clearsL n κ2 _ _ h2⟩
theorem clearsF : PC xl n 94 0 [(0, .ref 0), (1, .int x1)] [] ι (fun _ κ => CFr ι κ) := by
  refine (t_94_0 ((FN rfl).imp (fun v κ e r _ => ⟨fun _ => ?_, fun _ => by rw [e]; exact CFr.rfl⟩))).weak
  rw [e]
  exact (clearsL n ι _ _ Sm.rfl).imp (fun v κ h => CFr.of h)
theorem beginF (hs : Sm 86 118 ι0 ι) : PC xl n 97 0 [(0, .ref 101), (1, .ref 25), (2, .int x2)] [] ι (fun _ κ => Sm 86 118 ι0 κ) := by
  refine (t_97_0 (townB_sm (u := 102) (by decide) (fun κ1 h1 => (FN rfl).imp (fun v κ2 e r _ => ?_)))).weak
  have h2 := hs.trans (h1.wide (l2 := 86) (h2 := 118) (by omega) (by omega))
  rw [e]
  exact ⟨fun _ => (h2.up (by omega)).up (by omega), fun _ => (h2.up (by omega)).up (by omega)⟩
theorem forBestF (hs : Sm 86 118 ι0 ι) : PC xl n 96 0 [(0, .ref 101), (1, .ref 25), (2, .int x2)] [] ι (fun _ κ => Sm 86 118 ι0 κ) := by
  refine (t_96_0 ((beginF ((hs.up (by omega)).up (by omega))).imp (fun _ κ1 h1 => (FN rfl).imp (fun v κ2 e2 r _ => ?_)))).weak
  rw [e2]
  refine (FN rfl).imp (fun v κ3 e3 r _ => ?_)
  rw [e3]
  exact FS rfl rfl h1
theorem clearsAllF (hs : Sm 86 118 ι0 ι) : PC xl n 108 0 [(0, .ref 101), (1, .ref 25), (2, .int x2)] [] ι (fun _ κ => Sm 86 118 ι0 κ) := by
  refine (t_108_0 ((beginF ((hs.up (by omega)).up (by omega))).imp (fun _ κ1 h1 => (FN rfl).imp (fun v κ2 e2 r _ => ?_)))).weak
  rw [e2]
  refine (FN rfl).imp (fun v κ3 e3 r _ => ?_)
  rw [e3]
  exact (FS rfl rfl h1).imp (fun _ κ4 h4 => ⟨fun _ => h4, fun _ => h4⟩)
theorem bestF : PC xl n 95 0 [(0, .ref 0), (1, .int x1), (2, .int x2)] [] ι (fun _ κ => CFr ι κ) := by
  have l26 : PC xl n 95 26 [(0, .ref 0), (1, .int x1), (2, .int x2)] [] ι (fun _ κ => CFr ι κ) := by
    refine (t_95_26 ?_).weak
    rw [rf_0_6, rf_0_2']
    refine (forBestF Sm.rfl).imp (fun _ κ1 h1 => ⟨fun _ => CFr.of h1, fun _ => CFr.of h1, fun _ => (FN rfl).imp (fun v κ2 e r _ => ?_)⟩)
    rw [e]; exact CFr.of h1
  exact (t_95_0 ⟨fun _ => CFr.rfl, fun _ => ⟨fun _ => CFr.rfl, fun _ => ⟨fun _ => CFr.rfl, fun _ => ⟨fun _ => l26, fun _ => ⟨fun _ => l26, fun _ => CFr.rfl⟩⟩⟩⟩⟩).weak
theorem fewL : ∀ (n : Nat) (ι : IS) (x2 : Int32), Sm 86 118 ι0 ι → PC xl n 107 14 [(0, .ref 0), (1, .int x1), (2, .int x2)] [] ι (fun _ κ => Sm 86 118 ι0 κ)
  | 0, _, _, _ => PC.zero
  | n + 1, ι, x2, hs => by
    refine t_107_14 ?_
    rw [rf_0_6, rf_0_2']
    refine ⟨fun _ => hs, fun _ => (clearsAllF hs).imp (fun v κ1 h1 r _ => ⟨fun _ => fewL n κ1 _ h1, fun _ => ⟨fun _ => (FN rfl).imp (fun v κ2 e r _ => ?_), fun _ => h1⟩⟩)⟩
    rw [e]; exact h1
theorem fewF : PC xl n 107 0 [(0, .ref 0), (1, .int x1)] [] ι (fun _ κ => CFr ι κ) :=
  (t_107_0 ⟨fun _ => (fewL n ι _ Sm.rfl).imp (fun v κ h => CFr.of h), fun _ => ⟨fun _ => (fewL n ι _ Sm.rfl).imp (fun v κ h => CFr.of h), fun _ => CFr.rfl⟩⟩).weak
theorem potsL : ∀ (n : Nat) (ι : IS) (x2 x3 : Int32), Sm 86 118 ι0 ι → PC xl n 114 20 [(0, .ref 0), (1, .int x1), (2, .int x2), (3, .int x3)] [] ι (fun _ κ => Sm 86 118 ι0 κ)
  | 0, _, _, _, _ => PC.zero
  | n + 1, ι, x2, x3, hs => by
    refine t_114_20 ?_
    rw [rf_0_5, rf_0_2', rf_0_2]
    refine ⟨fun _ => hs, fun _ => (FB hs).imp (fun _ κ1 h1 => (FN rfl).imp (fun v κ2 e2 r _ => ?_))⟩
    rw [e2]
    refine (FS rfl rfl h1).imp (fun _ κ3 h3 => (actT h3).imp (fun v κ4 h4 r _ => (FN rfl).imp (fun v κ5 e5 r _ => ?_)))
    rw [e5]
    exact ⟨fun _ => potsL n κ4 _ _ h4, fun _ => potsL n κ4 _ _ h4⟩
theorem potsF : PC xl n 114 0 [(0, .ref 0), (1, .int x1)] [] ι (fun _ κ => CFr ι κ) := by
  refine (t_114_0 ((FN rfl).imp (fun v κ e r _ => ⟨fun _ => ?_, fun _ => by rw [e]; exact CFr.rfl⟩))).weak
  rw [e]
  exact (potsL n ι _ _ Sm.rfl).imp (fun v κ h => CFr.of h)
theorem rainedL : ∀ (n : Nat) (ι : IS) (x1 x2 : Int32), Sm 86 118 ι0 ι → PC xl n 117 4 [(0, .ref 0), (1, .int x1), (2, .int x2)] [] ι (fun _ κ => Sm 86 118 ι0 κ)
  | 0, _, _, _, _ => PC.zero
  | n + 1, ι, x1, x2, hs => by
    refine t_117_4 ?_
    rw [rf_0_5, rf_0_2', rf_0_2]
    refine ⟨fun _ => hs, fun _ => (FB hs).imp (fun _ κ1 h1 => (actT h1).imp (fun v κ2 h2 r _ => (FS rfl rfl h2).imp (fun _ κ3 h3 => (actT h3).imp (fun v κ4 h4 r _ => (FN rfl).imp (fun v κ5 e5 r _ => ?_)))))⟩
    rw [e5]
    exact ⟨fun _ => rainedL n κ4 _ _ h4, fun _ => rainedL n κ4 _ _ h4⟩
theorem rainedF : PC xl n 117 0 [(0, .ref 0)] [] ι (fun _ κ => CFr ι κ) := (t_117_0 ((rainedL n ι _ _ Sm.rfl).imp (fun v κ h => CFr.of h))).weak
theorem judgeL : ∀ (n : Nat) (ι : IS) (x2 : Int32), CFr ι0 ι → PC xl n 120 16 [(0, .ref 0), (1, .int x1), (2, .int x2)] [] ι (fun _ κ => CFr ι0 κ)
  | 0, _, _, _ => PC.zero
  | n + 1, ι, x2, hs => by
    have u : ∀ p q : Int32, CFr ι0 (up (up ι 0 11 p) 0 12 q) := fun p q a j g1 g2 => by rw [up_ne (by omega), up_ne (by omega)]; exact hs a j g1 g2
    refine t_120_16 ⟨fun _ => (FN rfl).imp (fun v κ e r _ => ?_), fun _ _ _ _ _ => (FS rfl rfl Sm.rfl).imp (fun v κ h r _ => judgeL n κ _ (hs.trans (CFr.of h)))⟩
    rw [e]
    exact ⟨fun _ => hs, fun _ => ⟨fun _ => u _ _, fun _ _ _ => u _ _⟩⟩
theorem judgeF (hs : CFr ι0 ι) : PC xl n 120 0 [(0, .ref 0), (1, .int x1)] [] ι (fun _ κ => CFr ι0 κ) := by
  refine (t_120_0 ?_).weak
  rw [rf_0_5, rf_0_2']
  exact (FB Sm.rfl).imp (fun _ κ h => judgeL n κ _ (hs.trans (CFr.of h)))
theorem arrF : ∀ (n : Nat) (ι : IS), (∀ x1 x2 : Int32, CFr ι0 ι → PC xl n 119 0 [(0, .ref 0), (1, .int x1), (2, .int x2)] [] ι (fun _ κ => CFr ι0 κ)) ∧ ∀ x1 x2 x3 : Int32, CFr ι0 ι → PC xl n 119 24 [(0, .ref 0), (1, .int x1), (2, .int x2), (3, .int x3)] [] ι (fun _ κ => CFr ι0 κ)
  | 0, _ => ⟨fun _ _ _ => PC.zero, fun _ _ _ _ => PC.zero⟩
  | n + 1, ι => by
    refine ⟨fun x1 x2 hs => t_119_0 ⟨fun _ => judgeF hs, fun _ => ⟨fun _ => (arrF n ι).2 _ _ _ hs, fun _ => judgeF hs⟩⟩, fun x1 x2 x3 hs => t_119_24 ⟨fun _ => hs, fun _ => ⟨fun _ => (arrF n ι).2 _ _ _ hs, fun _ _ _ => ?_⟩⟩⟩
    rw [rf_0_7]
    refine ((arrF n _).1 _ _ ?_).imp (fun _ κ h => (arrF n κ).2 _ _ _ h)
    exact fun a j g1 g2 => by rw [up_ne (by omega)]; exact hs a j g1 g2
theorem ordersF : PC xl n 118 0 [(0, .ref 0), (1, .int x1)] [] ι (fun _ κ => CFr ι κ) := by
  refine (t_118_0 ⟨fun _ => CFr.rfl, fun _ => ⟨fun _ => ⟨fun _ => ((arrF n _).1 _ _ ?_).imp (fun _ κ h => ⟨fun _ => h, fun _ => h⟩), fun _ => CFr.rfl⟩, fun _ => CFr.rfl⟩⟩).weak
  exact fun a j g1 g2 => by rw [up_ne (by omega), up_ne (by omega)]
theorem chosenL : ∀ (n : Nat) (ι : IS) (x2 x3 : Int32) (w4 : Value), Sm 86 118 ι0 ι → PC xl n 124 18 [(0, .ref 0), (1, .int x1), (2, .int x2), (3, .int x3), (4, w4)] [] ι (fun _ κ => Sm 86 118 ι0 κ)
  | 0, _, _, _, _, _ => PC.zero
  | n + 1, ι, x2, x3, w4, hs => by
    refine t_124_18 ⟨fun _ => hs, fun _ _ _ => (FN rfl).imp (fun v κ e r _ => ?_)⟩
    rw [e]
    exact ⟨fun _ => ⟨fun _ => chosenL n ι _ _ _ hs, fun _ => (FS rfl rfl hs).imp (fun v κ2 h r _ => chosenL n κ2 _ _ _ h)⟩, fun _ => (FS rfl rfl hs).imp (fun _ κ2 h => chosenL n κ2 _ _ _ h)⟩
theorem chosenF (hs : Sm 86 118 ι0 ι) : PC xl n 124 0 [(0, .ref 0), (1, .int x1)] [] ι (fun _ κ => Sm 86 118 ι0 κ) := by
  refine (t_124_0 ?_).weak
  rw [rf_0_5, rf_0_2']
  exact (FB hs).imp (fun _ κ h => chosenL n κ _ _ _ h)
theorem luckL : ∀ (n : Nat) (ι : IS) (y5 : Int64) (x7 : Int32) (w8 : Value), Sm 86 118 ι0 ι → PC xl n 121 52 [(0, .ref 0), (1, .int x1), (2, .int x2), (3, .int x3), (4, .int x4), (5, .long y5), (7, .int x7), (8, w8)] [] ι (fun _ κ => Sm 86 118 ι0 κ)
  | 0, _, _, _, _, _ => PC.zero
  | n + 1, ι, y5, x7, w8, hs => by
    refine t_121_52 ⟨fun _ => (FN rfl).imp (fun v κ e r _ => ?_), fun _ => (FN rfl).imp (fun v κ e r _ => ?_)⟩
    · rw [e]
      exact (FN rfl).imp (fun v κ2 e2 r _ => by rw [e2]; exact hs)
    · rw [e]
      refine ⟨fun _ => luckL n ι _ _ _ hs, fun _ => (chosenF hs).imp (fun _ κ4 h4 _ _ => (FN rfl).imp (fun v κ5 e5 r _ => ?_))⟩
      rw [e5]
      exact ⟨fun _ => luckL n κ4 _ _ _ h4, fun _ => luckL n κ4 _ _ _ h4⟩
theorem luckF : PC xl n 121 0 [(0, .ref 0), (1, .int x1), (2, .int x2), (3, .int x3)] [] ι (fun _ κ => CFr ι κ) := by
  refine (t_121_0 ⟨fun _ => CFr.rfl, fun _ => ⟨fun _ => CFr.rfl, fun _ => (FN rfl).imp (fun v κ e r _ => ?_)⟩⟩).weak
  rw [e]
  refine ⟨fun _ => CFr.rfl, fun _ => ⟨fun _ => CFr.rfl, fun _ => ⟨fun _ => (FN rfl).imp (fun v κ2 e2 r _ => ?_), fun _ => CFr.rfl⟩⟩⟩
  rw [e2]
  exact (luckL n ι _ _ _ Sm.rfl).imp (fun v κ h => CFr.of h)
theorem meanL : ∀ (n : Nat) (ι : IS) (y4 : Int64) (x6 : Int32) (w7 : Value), Sm 86 118 ι0 ι → PC xl n 127 37 [(0, .ref 0), (1, .int x1), (2, .int x2), (3, .int x3), (4, .long y4), (6, .int x6), (7, w7)] [] ι (fun _ κ => Sm 86 118 ι0 κ)
  | 0, _, _, _, _, _ => PC.zero
  | n + 1, ι, y4, x6, w7, hs => by
    refine t_127_37 ⟨fun _ => (FN rfl).imp (fun v κ e r _ => ?_), fun _ => (FN rfl).imp (fun v κ e r _ => ?_)⟩
    · rw [e]
      exact (FN rfl).imp (fun v κ2 e2 r _ => by rw [e2]; exact hs)
    · rw [e]
      refine ⟨fun _ => meanL n ι _ _ _ hs, fun _ => (chosenF hs).imp (fun _ κ4 h4 => (FN rfl).imp (fun v κ5 e5 r _ => ?_))⟩
      rw [e5]
      exact meanL n κ4 _ _ _ h4
theorem meanF : PC xl n 127 0 [(0, .ref 0), (1, .int x1), (2, .int x2)] [] ι (fun _ κ => CFr ι κ) := by
  refine (t_127_0 ⟨fun _ => CFr.rfl, fun _ => ⟨fun _ => CFr.rfl, fun _ => ⟨fun _ => CFr.rfl, fun _ => ⟨fun _ => (FN rfl).imp (fun v κ2 e2 r _ => ?_), fun _ => CFr.rfl⟩⟩⟩⟩).weak
  rw [e2]
  exact (meanL n ι _ _ _ Sm.rfl).imp (fun v κ h => CFr.of h)
theorem driftL : ∀ (n : Nat) (ι : IS) (x4 x5 : Int32), Sm 86 118 ι0 ι → PC xl n 128 58 [(0, .ref 0), (1, .int x1), (2, .int x2), (3, .int x3), (4, .int x4), (5, .int x5)] [] ι (fun _ κ => Sm 86 118 ι0 κ)
  | 0, _, _, _, _ => PC.zero
  | n + 1, ι, x4, x5, hs => t_128_58 ⟨fun _ => ⟨fun _ => (FN rfl).imp (fun v κ e r _ => by rw [e]; exact hs), fun _ => (FN rfl).imp (fun v κ e r _ => by rw [e]; exact hs)⟩, fun _ => (FS rfl rfl hs).imp (fun _ κ h => driftL n κ _ _ h)⟩
theorem driftF : PC xl n 128 0 [(0, .ref 0), (1, .int x1), (2, .int x2), (3, .int x3)] [] ι (fun _ κ => CFr ι κ) := by
  refine (t_128_0 ⟨fun _ => CFr.rfl, fun _ => ⟨fun _ => CFr.rfl, fun _ => ⟨fun _ => CFr.rfl, fun _ => ⟨fun _ => (FN rfl).imp (fun v κ e r _ => ?_), fun _ => CFr.rfl⟩⟩⟩⟩).weak
  rw [e, rf_0_5, rf_0_2']
  exact ⟨fun _ => (FB Sm.rfl).imp (fun _ κ1 h1 => (driftL n κ1 _ _ h1).imp (fun v κ2 h2 => CFr.of h2)), fun _ => CFr.rfl⟩
end Fra
end
section
/-! THE START'S CELLS: class and model are related -/
noncomputable def st6B (F : MH) : Bool := st5B F && ([((25, 2), (0 : Int32)), ((25, 3), 0), ((24, 2), 0), ((24, 6), 0), ((25, 4), -4), ((129, 3), 0), ((129, 4), 0), ((0, 10), 0), ((129, 31), 0), ((121, 2), -4), ((123, 2), -4), ((125, 2), -4), ((127, 2), -4), ((121, 1), 0), ((123, 1), 0), ((125, 1), 0), ((127, 1), 0), ((137, 0), -4), ((137, 1), -4), ((137, 2), -4), ((137, 3), -4)].all (fun q => decide (iv F q.1.1 q.1.2 = q.2)) && [130, 132, 138, 139, 122, 124, 126, 128].all (fun a => zr4 F a))
theorem st6_ok {F : MH} (h : st6B F = true) : F.map zc = sh0 ∧ RRel (iv F) (iv F) := by
  unfold st6B at h
  simp only [Bool.and_eq_true] at h
  obtain ⟨h5, hv, hz⟩ := h
  have g5 := st5_ok h5
  have g4 := st4_ok g5.1
  have v : ∀ a j x, ((a, j), x) ∈ [((25, 2), (0 : Int32)), ((25, 3), 0), ((24, 2), 0), ((24, 6), 0), ((25, 4), -4), ((129, 3), 0), ((129, 4), 0), ((0, 10), 0), ((129, 31), 0), ((121, 2), -4), ((123, 2), -4), ((125, 2), -4), ((127, 2), -4), ((121, 1), 0), ((123, 1), 0), ((125, 1), 0), ((127, 1), 0), ((137, 0), -4), ((137, 1), -4), ((137, 2), -4), ((137, 3), -4)] → iv F a j = x := fun a j x hm => of_decide_eq_true (List.all_eq_true.mp hv _ hm)
  have z : ∀ a, a ∈ [130, 132, 138, 139, 122, 124, 126, 128] → ∀ q, iv F a q = 0 := fun a ha q => zr4_ok (List.all_eq_true.mp hz a ha) q
  have z130 : ∀ q, rO 0 (iv F 130) q = 0 := fun q => by
    unfold rO
    split
    · exact z 130 (by simp) _
    · rfl
  refine ⟨g4.1, 0, 0, ⟨by omega, by rw [v 129 3 0 (by simp)]; rfl⟩, ⟨by omega, by rw [v 129 4 0 (by simp)]; rfl⟩, ⟨⟨⟨⟨by omega, by rw [v 25 2 0 (by simp)]; rfl⟩, ⟨by omega, by rw [v 25 3 0 (by simp)]; rfl⟩, fun w hw => absurd hw (Nat.not_lt_zero _), fun w hw => absurd hw (Nat.not_lt_zero _)⟩, ⟨?_, ?_, fun i hi => ?_⟩, ⟨?_, ?_, fun i hi => ?_⟩⟩, v 25 4 (-4) (by simp)⟩, fun k hk => ?_, ⟨fun k hk => ?_, ?_⟩, ⟨_, _, g4.2.1, g4.2.2⟩⟩
  · rw [v 24 2 0 (by simp), z130]
  · rw [z130]; decide
  · rw [z130] at hi; exact absurd hi (by rw [n0]; omega)
  · rw [v 24 6 0 (by simp), z130]
  · rw [z130]; decide
  · rw [z130] at hi; exact absurd hi (by rw [n0]; omega)
  · exact ⟨g5.2 k, fun q => absurd (z 132 (by simp) k) q⟩
  · have c138 := z 138 (by simp) k
    have c139 := z 139 (by simp)
    match k, hk, c138 with
    | 0, _, c138 => exact ⟨by rw [v 121 2 (-4) (by simp), v 137 0 (-4) (by simp)], by rw [v 121 1 0 (by simp), c138], by rw [c138]; decide, fun i hi => by rw [z 122 (by simp) i, c139]⟩
    | 1, _, c138 => exact ⟨by rw [v 123 2 (-4) (by simp), v 137 1 (-4) (by simp)], by rw [v 123 1 0 (by simp), c138], by rw [c138]; decide, fun i hi => by rw [z 124 (by simp) i, c139]⟩
    | 2, _, c138 => exact ⟨by rw [v 125 2 (-4) (by simp), v 137 2 (-4) (by simp)], by rw [v 125 1 0 (by simp), c138], by rw [c138]; decide, fun i hi => by rw [z 126 (by simp) i, c139]⟩
    | 3, _, c138 => exact ⟨by rw [v 127 2 (-4) (by simp), v 137 3 (-4) (by simp)], by rw [v 127 1 0 (by simp), c138], by rw [c138]; decide, fun i hi => by rw [z 128 (by simp) i, c139]⟩
  · rw [v 0 10 0 (by simp), v 129 31 0 (by simp)]
end
section
/-! ACTS, one behind another, by class and model -/
noncomputable def avF (a : Int32) : Nat := (a.toInt / 10).toNat
noncomputable def adF (a : Int32) : Nat := (a.toInt % 10).toNat
/-- whether an ACT can be -/
abbrev cbF (f : Nat → Int32) (a : Int32) : Prop := 90 ≤ a.toInt ∨ koF f (avF a) (adF a) = 0
noncomputable def stp (nd : Nat) (bo : Int) (lw : Nat) (f : Nat → Int32) (a : Int32) : Nat → Int32 := if 90 ≤ a.toInt then goF a.toInt f nd else if koF f (avF a) (adF a) = 0 then viF bo lw f (avF a) (adF a) else f
noncomputable def usS (f : Nat → Int32) (a : Int32) : Int32 := if 90 ≤ a.toInt then 0 else if koF f (avF a) (adF a) = 0 then usF f (avF a) (adF a) else 0
/-- an ACT of VISITORS and DOORS that there are -/
noncomputable def VA (nv nd : Nat) (a : Int32) : Prop := 0 ≤ a.toInt ∧ knP nv nd a.toInt
/-- m ACTS of p from s on -/
noncomputable def sq (nd : Nat) (bo : Int) (lw : Nat) (p : Nat → Int32) (s : Nat) (g : Nat → Int32) : Nat → Nat → Int32
  | 0 => g
  | m + 1 => stp nd bo lw (sq nd bo lw p s g m) (p (s + m))
/-- the first that can not be -/
noncomputable def fl1 (nd : Nat) (bo : Int) (lw : Nat) (p : Nat → Int32) (s : Nat) (g : Nat → Int32) : Nat → Int32
  | 0 => -4
  | m + 1 => if fl1 nd bo lw p s g m = -4 then (if cbF (sq nd bo lw p s g m) (p (s + m)) then -4 else Int32.ofNat (s + m)) else fl1 nd bo lw p s g m
/-- PAINT that they take -/
noncomputable def tk (nd : Nat) (bo : Int) (lw : Nat) (p : Nat → Int32) (s : Nat) (g : Nat → Int32) : Nat → Int32
  | 0 => 0
  | m + 1 => tk nd bo lw p s g m + usS (sq nd bo lw p s g m) (p (s + m))
section Acts
variable {xl : List Int32} {n : Nat} {ι ι0 κ κ0 : IS} {Q : Option Value → IS → Prop} {x1 x2 x3 x a : Int32} {u v d nd nv m s : Nat} {f g : Nat → Int32} {bo : Int} {lw : Nat} {p : Nat → Int32}
theorem va_lt (h : VA nv nd a) (h9 : ¬ 90 ≤ a.toInt) : avF a < nv ∧ adF a < nd ∧ (a.toInt / 10 = avF a) ∧ a.toInt % 10 = adF a := by
  unfold VA knP at h
  unfold avF adF
  omega
theorem va_sky (h : VA nv nd a) (h4 : nv ≤ 4) (h9 : 90 ≤ a.toInt) : a.toInt ≤ 92 := by
  unfold VA knP at h
  omega
theorem WF.stK (hw : WF f) (h : VA nv nd a) (h4 : nv ≤ 4) (h5 : nd ≤ 4) (hl : 0 ≤ bo → lw < 4) : WF (stp nd bo lw f a) := by
  unfold stp
  split
  · exact WF.goK hw nd h5
  · rename_i h9
    have := va_lt h h9
    split
    · rename_i c
      exact hw.vi (by omega) (by omega) c hl
    · exact hw
theorem go_ow {z : Int} {w : Nat} (hw : WF f) (h5 : nd ≤ 4) (hv : w < 4) : owF (goF z f nd) w = owF f w := by
  unfold owF
  rw [go_v hw (by omega) nd h5, go_v hw (by omega) nd h5, go_v hw (by omega) nd h5]
theorem st_ow {w : Nat} (hw : WF f) (h : VA nv nd a) (h4 : nv ≤ 4) (h5 : nd ≤ 4) (hv : w < 4) : owF (stp nd bo lw f a) w = owF f w := by
  unfold stp
  split
  · exact go_ow hw h5 hv
  · rename_i h9
    have := va_lt h h9
    split
    · rename_i c
      exact vi_ow hw (by omega) (by omega) c hv
    · rfl
theorem ko_ref (h : ¬ koF f v d = 0) : refP (koF f v d) := by
  unfold koF at h ⊢
  split
  · exact Or.inr (Or.inl rfl)
  · rename_i c
    rw [if_neg c] at h
    split
    · exact Or.inr (Or.inr rfl)
    · rename_i c2
      rw [if_neg c2] at h; exact absurd rfl h
theorem sh_nref (h : WD f d) : ¬ refP (shF f d) := by
  intro hr
  by_cases e : f (16 + 9 * d) = 0
  · rw [shF_0 e] at hr
    rcases hr with hr | hr | hr <;> exact absurd hr (by decide)
  · have := (h.sh e).1
    rcases hr with hr | hr | hr <;> rw [hr] at this <;> exact absurd this (by decide)
theorem undX_spec (hu : isTown u) (hT : TW u nv nd f ι) (hw : WF f) (hB : BO u bo lw f ι) (ha : VA nv nd x) (hl : 0 ≤ bo → lw < 4) (h : ∀ ι', Sm u (u + 14) ι ι' → (∀ j, ι' u j = ι u j) → TW u nv nd (stp nd bo lw f x) ι' → ∀ r : Int32, (r = 0 ↔ ¬ cbF f x) → Q (some (.int r)) ι') : PC xl n 89 0 [(0, .ref u), (1, .int x)] [] ι Q := by
  have h4 := hT.1.1
  have h5 := hT.2.1.1
  refine (t_89_0 (sky_spec (z := x.toInt) rfl (fun r hr => ?_))).weak
  intro r2 e; cases e
  refine ⟨fun c => ?_, fun c => ?_⟩
  · have ns := hr.mp c
    have h9 : ¬ 90 ≤ x.toInt := fun q => ns ⟨q, va_sky ha h4 q⟩
    obtain ⟨v1, v2, v3, v4⟩ := va_lt ha h9
    have ed := i_d10 (x := x) rfl ha.1
    have em := i_m10 (x := x) rfl ha.1
    rw [v3] at ed
    rw [v4] at em
    refine rcX_spec hu hT hw hB (fun c => ?_) (fun v d hv hvl hd hdl hk => ?_) (fun v d hv hvl hd hdl hk ι1 s1 j1 t1 => ?_) hl
    · rw [ed, em] at c; omega
    · obtain rfl : v = avF x := by omega
      obtain rfl : d = adF x := by omega
      intro r e; cases e
      refine isRef_spec (fun r hr2 => ?_)
      intro r2 e; cases e
      refine ⟨fun _ => h ι Sm.rfl (fun _ => rfl) ?_ 0 ⟨fun _ q => ?_, fun _ => rfl⟩, fun z => absurd (ko_ref hk) (hr2.mp z)⟩
      · unfold stp; rw [if_neg h9, if_neg hk]; exact hT
      · rcases q with q | q
        · exact h9 q
        · exact hk q
    · obtain rfl : v = avF x := by omega
      obtain rfl : d = adF x := by omega
      intro r e; cases e
      refine isRef_spec (fun r hr2 => ?_)
      intro r2 e; cases e
      refine ⟨fun z => absurd (hr2.mpr (sh_nref ((hw.vi (by omega) (by omega) hk hl).1 _ (by omega)))) z, fun _ => h ι1 s1 j1 ?_ 1 ⟨fun z => absurd z (by decide), fun z => absurd (Or.inr hk) z⟩⟩
      unfold stp; rw [if_neg h9, if_pos hk]; exact t1
  · have sk : 90 ≤ x.toInt ∧ x.toInt ≤ 92 := by false_or_by_contra; rename_i hh; exact c (hr.mpr hh)
    refine weaX_spec hu hw hT rfl sk (fun ι1 s1 j1 t1 => h ι1 s1 j1 ?_ 1 ⟨fun z => absurd z (by decide), fun z => absurd (Or.inl sk.1) z⟩)
    unfold stp; rw [if_pos sk.1]; exact t1
/-- what ACTS in the model leave -/
noncomputable def AF (κ κ' : IS) : Prop := (∀ a, ¬ a = 131 → ¬ a = 129 → κ' a = κ a) ∧ ∀ j, ¬ j = 22 → ¬ j = 23 → κ' 129 j = κ 129 j
theorem AF.rfl : AF κ κ := ⟨fun _ _ _ => Eq.refl _, fun _ _ _ => Eq.refl _⟩
theorem AF.trans {κ1 κ2 : IS} (h1 : AF κ κ1) (h2 : AF κ1 κ2) : AF κ κ2 := ⟨fun a g1 g2 => (h2.1 a g1 g2).trans (h1.1 a g1 g2), fun j g1 g2 => (h2.2 j g1 g2).trans (h1.2 j g1 g2)⟩
theorem AF.mg {κ1 : IS} (h : AF κ κ1) : MG κ κ1 := ⟨fun a g1 _ g3 _ _ => h.1 a g3 g1, fun j g => h.2 j (by omega) (by omega), fun j _ => by rw [h.1 130 (by omega) (by omega)]⟩
theorem actM_spec (hw : WF (κ 131)) (hn : (κ 129 4).toInt = nd) (h4 : nv ≤ 4) (h5 : nd ≤ 4) (ha : VA nv nd x) (hB : BM2 bo lw κ) (h : ∀ κ', κ' 131 = stp nd bo lw (κ 131) x → AF κ κ' → κ' 129 22 = κ 129 22 + usS (κ 131) x → (κ' 129 23 = 0 ↔ ¬ cbF (κ 131) x) → Q none κ') : PC xl n 203 0 [(0, .ref 129), (1, .int x)] [] κ Q := by
  have n90 : (90 : Int32).toInt = 90 := rfl
  have a1 : ∀ y : Int32, AF κ (up κ 129 23 y) := fun y => ⟨fun a _ g => up_oth g, fun j _ g => up_ne (by omega)⟩
  have r131 : (up κ 129 23 1) 131 = κ 131 := up_oth (by omega)
  refine (t_203_0 ⟨fun c => ?_, fun c => ?_⟩).weak
  · rw [i_lt, n90] at c
    have h9 : ¬ 90 ≤ x.toInt := by omega
    obtain ⟨v1, v2, v3, v4⟩ := va_lt ha h9
    have ed := i_d10 (x := x) rfl ha.1
    have em := i_m10 (x := x) rfl ha.1
    rw [v3] at ed
    rw [v4] at em
    refine koM_spec ed (by omega) em (by omega) ?_
    intro r e; cases e
    rw [r131]
    refine ⟨fun k => h _ ?_ ((a1 1).trans ⟨fun a _ g => up_oth g, fun j _ g => up_ne (by omega)⟩) ?_ ?_, fun k => viM_spec (bo := bo) (lw := lw) ed (by omega) em (by omega) (by rw [r131]; exact hw.1 _ (by omega)) ?_ (fun κ2 k1 k2 => ?_)⟩
    · rw [up_oth (by omega), r131]
      unfold stp; rw [if_neg h9, if_neg k]
    · rw [up_ne (by omega), up_ne (by omega)]
      unfold usS; rw [if_neg h9, if_neg k, Int32.add_zero]
    · rw [up_same]
      refine ⟨fun _ q => ?_, fun _ => rfl⟩
      rcases q with q | q
      · exact h9 q
      · exact k q
    · unfold BM2; rw [up_ne (by omega), up_ne (by omega)]; exact hB
    · intro r e; cases e
      rw [r131] at k1
      refine h _ ?_ ((a1 1).trans ⟨fun a g1 g2 => by rw [up_oth g2]; exact k2 a g1, fun j g1 g2 => by rw [up_ne (by omega), k2 129 (by omega)]⟩) ?_ ?_
      · rw [up_oth (by omega), k1]
        unfold stp; rw [if_neg h9, if_pos k]
      · rw [up_same, up_ne (by omega), r131]
        unfold usS; rw [if_neg h9, if_pos k]
      · rw [up_ne (by omega), k2 129 (by omega), up_same]
        exact ⟨fun z => absurd z (by decide), fun z => absurd (Or.inr k) z⟩
  · rw [i_lt, n90] at c
    have h9 : 90 ≤ x.toInt := by omega
    refine goM_spec (by rw [r131]; exact hw) rfl ⟨h9, va_sky ha h4 h9⟩ (by rw [up_ne (by omega)]; exact hn) h5 (fun κ2 k1 k2 => ?_)
    rw [r131] at k1
    refine h κ2 ?_ ((a1 1).trans ⟨fun a g1 g2 => k2 a g1, fun j g1 g2 => by rw [k2 129 (by omega)]⟩) ?_ ?_
    · rw [k1]; unfold stp; rw [if_pos h9]
    · rw [k2 129 (by omega), up_ne (by omega)]
      unfold usS; rw [if_pos h9, Int32.add_zero]
    · rw [k2 129 (by omega), up_same]
      exact ⟨fun z => absurd z (by decide), fun z => absurd (Or.inl h9) z⟩
theorem WF.sqK (hw : WF g) (h4 : nv ≤ 4) (h5 : nd ≤ 4) (hl : 0 ≤ bo → lw < 4) : ∀ m, (∀ i, i < m → VA nv nd (p (s + i))) → WF (sq nd bo lw p s g m)
  | 0, _ => hw
  | m + 1, hp => (WF.sqK hw h4 h5 hl m (fun i hi => hp i (by omega))).stK (hp m (by omega)) h4 h5 hl
theorem sq_ow {w : Nat} (hw : WF g) (h4 : nv ≤ 4) (h5 : nd ≤ 4) (hl : 0 ≤ bo → lw < 4) (hv : w < 4) : ∀ m, (∀ i, i < m → VA nv nd (p (s + i))) → owF (sq nd bo lw p s g m) w = owF g w
  | 0, _ => rfl
  | m + 1, hp => by
    show owF (stp nd bo lw (sq nd bo lw p s g m) (p (s + m))) w = owF g w
    rw [st_ow (WF.sqK hw h4 h5 hl m (fun i hi => hp i (by omega))) (hp m (by omega)) h4 h5 hv]
    exact sq_ow hw h4 h5 hl hv m (fun i hi => hp i (by omega))
/-- ACTS of THE PLAN from s to e, in the trial -/
theorem actXL {e : Nat} (hP : PX 24 nv nd f ι0) (hg : TW 86 nv nd g ι0) (hw : WF g) (hB : BO 86 bo lw g ι0) (hl : 0 ≤ bo → lw < 4) (hx2 : x2.toInt = e) (he : (e : Int) ≤ (f 52).toInt) (hq : ∀ ι', Sm 86 100 ι0 ι' → (∀ j, ι' 86 j = ι0 86 j) → TW 86 nv nd (sq nd bo lw (fun i => f (53 + i)) s g (e - s)) ι' → Q (some (.int (fl1 nd bo lw (fun i => f (53 + i)) s g (e - s)))) ι') : ∀ (n m : Nat) (ι : IS) (x4 : Int32), x4.toInt = (s + m : Nat) → s + m ≤ e → Sm 86 100 ι0 ι → (∀ j, ι 86 j = ι0 86 j) → TW 86 nv nd (sq nd bo lw (fun i => f (53 + i)) s g m) ι → PC xl n 88 6 [(0, .ref 0), (1, .int x1), (2, .int x2), (3, .int (fl1 nd bo lw (fun i => f (53 + i)) s g m)), (4, .int x4)] [] ι Q
  | 0, _, _, _, _, _, _, _, _ => PC.zero
  | n + 1, m, ι, x4, hx, hm, hs, hj, hT => by
    have h4 := hg.1.1
    have h5 := hg.2.1.1
    have b8 := hP.2.1
    have va : ∀ i, i < e - s → VA nv nd ((fun i => f (53 + i)) (s + i)) := fun i hi => (hP.2.2 (s + i) (by omega)).2
    have e2 : ι 24 2 = f 52 := by rw [hs _ _ (by omega)]; exact hP.1
    refine t_88_6 ?_
    rw [rf_0_2, rf_24_1, rf_0_5]
    refine ⟨fun c => ?_, fun c => ⟨fun c2 => ?_, fun c2 _ _ => ?_⟩⟩
    · rw [i_lt, hx, hx2] at c
      have : m = e - s := by omega
      subst this
      exact hq ι hs hj hT
    · rw [i_lt, hx, hx2] at c
      rw [i_lt, hx, e2] at c2
      omega
    · rw [i_lt, hx, hx2] at c
      have pv := hP.2.2 (s + m) (by omega)
      rw [i_ixn hx, hs _ _ (by omega), pv.1]
      have hwm := WF.sqK (p := fun i => f (53 + i)) (s := s) hw h4 h5 hl m (fun i hi => va i (by omega))
      have hBm : BO 86 bo lw (sq nd bo lw (fun i => f (53 + i)) s g m) ι := ⟨by rw [hj]; exact hB.1, fun q => by rw [hj, hB.2 q, sq_ow hw h4 h5 hl (hl q) m (fun i hi => va i (by omega))]⟩
      refine undX_spec (by decide) hT hwm hBm (va m (by omega)) hl (fun ι1 s1 j1 t1 r hr => ?_)
      intro r2 e3; cases e3
      have go := fun (y : Int32) (hy : y = fl1 nd bo lw (fun i => f (53 + i)) s g (m + 1)) => actXL hP hg hw hB hl hx2 he hq n (m + 1) ι1 (x4 + 1) (i_s hx (by show s + m < _; omega)) (by omega) (hs.trans s1) (fun j => by rw [j1]; exact hj j) t1
      have hfl : fl1 nd bo lw (fun i => f (53 + i)) s g (m + 1) = if fl1 nd bo lw (fun i => f (53 + i)) s g m = -4 then (if cbF (sq nd bo lw (fun i => f (53 + i)) s g m) (f (53 + (s + m))) then -4 else Int32.ofNat (s + m)) else fl1 nd bo lw (fun i => f (53 + i)) s g m := rfl
      refine ⟨fun c3 => ?_, fun c3 => ⟨fun c4 => ?_, fun c4 => ?_⟩⟩
      · have cb : cbF (sq nd bo lw (fun i => f (53 + i)) s g m) (f (53 + (s + m))) := by false_or_by_contra; rename_i hh; exact c3 (hr.mpr hh)
        have ef : fl1 nd bo lw (fun i => f (53 + i)) s g (m + 1) = fl1 nd bo lw (fun i => f (53 + i)) s g m := by
          rw [hfl, if_pos cb]
          split
          · rename_i z; rw [z]
          · rfl
        have := go _ rfl
        rw [ef] at this; exact this
      · have ef : fl1 nd bo lw (fun i => f (53 + i)) s g (m + 1) = fl1 nd bo lw (fun i => f (53 + i)) s g m := by rw [hfl, if_neg c4]
        have := go _ rfl
        rw [ef] at this; exact this
      · have ef : fl1 nd bo lw (fun i => f (53 + i)) s g (m + 1) = x4 := by rw [hfl, if_pos c4, if_neg (hr.mp c3), i_on hx]
        have := go _ rfl
        rw [ef] at this; exact this
theorem actX_spec {e : Nat} (hP : PX 24 nv nd f ι) (hg : TW 86 nv nd g ι) (hw : WF g) (hB : BO 86 bo lw g ι) (hl : 0 ≤ bo → lw < 4) (hx1 : x1.toInt = s) (hx2 : x2.toInt = e) (hse : s ≤ e) (he : (e : Int) ≤ (f 52).toInt) (hq : ∀ ι', Sm 86 100 ι ι' → (∀ j, ι' 86 j = ι 86 j) → TW 86 nv nd (sq nd bo lw (fun i => f (53 + i)) s g (e - s)) ι' → Q (some (.int (fl1 nd bo lw (fun i => f (53 + i)) s g (e - s)))) ι') : PC xl n 88 0 [(0, .ref 0), (1, .int x1), (2, .int x2)] [] ι Q :=
  (t_88_0 (actXL hP hg hw hB hl hx2 he hq n 0 ι x1 hx1 hse Sm.rfl (fun _ => rfl) hg)).weak
/-- PAINT: what is gone was taken -/
theorem sF_up {g' : Nat → Int32} {y : Int32} (h1 : g' v = g v - y) (h2 : ∀ w, ¬ w = v → g' w = g w) : ∀ m, sF g' m = if v < m then sF g m - y else sF g m
  | 0 => by rw [if_neg (Nat.not_lt_zero _)]; rfl
  | m + 1 => by
    simp only [sF]
    rw [sF_up h1 h2 m]
    by_cases e : v = m
    · subst e
      rw [if_neg (Nat.lt_irrefl _), if_pos (Nat.lt_succ_self _), h1, Int32.sub_eq_add_neg, Int32.sub_eq_add_neg, Int32.add_assoc]
    · rw [h2 m (fun q => e q.symm)]
      by_cases l : v < m
      · rw [if_pos l, if_pos (by omega), Int32.sub_eq_add_neg, Int32.sub_eq_add_neg, Int32.add_assoc, Int32.add_comm (-y), ← Int32.add_assoc]
      · rw [if_neg l, if_neg (by omega)]
theorem vi_pt {w : Nat} (hw : WF f) (hv : v < 4) (hd : d < 4) (hk : koF f v d = 0) (hw4 : w < 4) : viF bo lw f v d (4 * w + 2) = if w = v then f (4 * v + 2) - usF f v d else f (4 * w + 2) := by
  have ta : taF f v d (4 * w + 2) = if w = v then f (4 * v + 2) - usF f v d else f (4 * w + 2) := by
    unfold taF
    by_cases e : w = v
    · subst e
      rw [if_pos rfl]
      split
      · rw [fs_ne (by omega), fs_same]
      · rw [fs_same]
    · rw [if_neg e]
      split
      · rw [fs_ne (by omega), fs_ne (by omega)]
      · rw [fs_ne (by omega)]
  unfold viF
  split
  · exact ta
  · rename_i hm
    have hr2 : ¬ (taF f v d (16 + 9 * d) = 6 ∧ taF f v d (17 + 9 * d) = 0) := by rw [ta_d hv (by omega), ta_d hv (by omega)]; exact ko_room hk hm
    rw [pa_o ((hw.1 d hd).ta hv) hr2 (by omega)]; exact ta
theorem sF_cg {g' : Nat → Int32} : ∀ m, (∀ w, w < m → g' w = g w) → sF g' m = sF g m
  | 0, _ => rfl
  | m + 1, h => by simp only [sF]; rw [sF_cg m (fun w hw => h w (by omega)), h m (by omega)]
theorem st_pt (hw : WF f) (h : VA nv nd a) (h4 : nv ≤ 4) (h5 : nd ≤ 4) : ptF (stp nd bo lw f a) nv = ptF f nv - usS f a := by
  unfold ptF stp usS
  split
  · rw [Int32.sub_zero]
    exact sF_cg nv (fun w hv => go_v hw (by omega) nd h5)
  · rename_i h9
    have hv := va_lt h h9
    split
    · rename_i c
      have key := sF_up (g := fun w => f (4 * w + 2)) (g' := fun w => if w = avF a then f (4 * avF a + 2) - usF f (avF a) (adF a) else f (4 * w + 2)) (v := avF a) (y := usF f (avF a) (adF a)) (by simp) (fun w hw => by simp [hw]) nv
      rw [if_pos hv.1] at key
      rw [← key]
      exact sF_cg nv (fun w hv2 => vi_pt hw (by omega) (by omega) c (by omega))
    · rw [Int32.sub_zero]
theorem sq_pt (hw : WF g) (h4 : nv ≤ 4) (h5 : nd ≤ 4) (hl : 0 ≤ bo → lw < 4) : ∀ m, (∀ i, i < m → VA nv nd (p (s + i))) → ptF g nv - ptF (sq nd bo lw p s g m) nv = tk nd bo lw p s g m
  | 0, _ => by show ptF g nv - ptF g nv = 0; rw [Int32.sub_self]
  | m + 1, hp => by
    have ih := sq_pt hw h4 h5 hl m (fun i hi => hp i (by omega))
    show ptF g nv - ptF (stp nd bo lw (sq nd bo lw p s g m) (p (s + m))) nv = tk nd bo lw p s g m + usS (sq nd bo lw p s g m) (p (s + m))
    rw [st_pt (WF.sqK hw h4 h5 hl m (fun i hi => hp i (by omega))) (hp m (by omega)) h4 h5, ← ih]
    rw [Int32.sub_eq_add_neg, Int32.sub_eq_add_neg, Int32.sub_eq_add_neg, Int32.neg_add, Int32.sub_eq_add_neg, Int32.neg_neg, Int32.add_assoc]
end Acts
end
