section
/-! CALLS, IX: those that try alone: what they leave, by the class -/
/-- cells but those of the trial, of the search, of the order, of what orders found -/
noncomputable def CFr (ι ι1 : IS) : Prop := ∀ a j, ¬ (86 ≤ a ∧ a ≤ 119) → ¬ (a = 0 ∧ (j = 11 ∨ j = 12)) → ι1 a j = ι a j
noncomputable def svB (S : Nat → Bool) (v : Value) : Bool := match v with
  | .ref a => S a || decide (KB ≤ a)
  | _ => true
noncomputable def sTr (a : Nat) : Bool := decide (86 ≤ a ∧ a ≤ 118)
noncomputable def pCl (k : Nat) : Bool := decide (10 ≤ k ∧ k ≤ 143)
noncomputable def nwL : List Nat := [26, 27, 28, 29, 30, 31, 32, 38, 41, 42, 48, 49, 50, 57, 58, 59, 60, 61, 63, 65, 68, 71, 73, 80, 90, 91, 92, 98, 99, 106, 110, 116, 122, 123, 125, 126]
noncomputable def pNw (k : Nat) : Bool := nwL.contains k
set_option maxRecDepth 100000 in
theorem cloTr : sClo sTr [] = true := by decide +kernel
set_option maxRecDepth 100000 in
theorem chkTr : sChk pCl [] [] = true := by decide +kernel
set_option maxRecDepth 100000 in
theorem chkNw : nwChk pNw = true := by decide +kernel
section Fra
variable {xl : List Int32} {n mi : Nat} {lv : LVs} {ι ι0 ι1 κ : IS} {x1 x2 x3 x4 x5 x6 : Int32} {Q : Option Value → IS → Prop}
theorem sLvB {S : Nat → Bool} (h : lv.all (fun q => svB S q.2) = true) : sLv S lv := by
  intro q hq b e
  have h1 := List.all_eq_true.mp h q hq
  rw [e] at h1
  simp only [svB, Bool.or_eq_true, decide_eq_true_eq] at h1
  exact h1
theorem rf_0_5 : rf 0 5 = 86 := rfl
theorem rf_0_6 : rf 0 6 = 101 := rfl
theorem rf_0_7 : rf 0 7 = 119 := rfl
theorem FS (hl : lv.all (fun q => svB sTr q.2) = true) (hp : pCl mi = true) (hs : Sm 86 118 ι0 ι) : PC xl n mi 0 lv [] ι (fun _ κ => Sm 86 118 ι0 κ) := (PC.side cloTr chkTr hp (sLvB hl)).imp (fun _ κ h => hs.trans (fun a j ha => h a j (Or.inl (by simpa [sTr] using ha))))
theorem FN (hp : pNw mi = true) : PC xl n mi 0 lv [] ι (fun _ κ => κ = ι) := PC.nw chkNw hp
theorem FB (hs : Sm 86 118 ι0 ι) : PC xl n 52 0 [(0, .ref 86), (1, .ref 25)] [] ι (fun _ κ => Sm 86 118 ι0 κ) := townB_sm (by decide) (fun ι' h => hs.trans (h.wide (by omega) (by omega)))
theorem CFr.rfl : CFr ι ι := fun _ _ _ _ => Eq.refl _
theorem CFr.trans {ι2 : IS} (h1 : CFr ι ι1) (h2 : CFr ι1 ι2) : CFr ι ι2 := fun a j g1 g2 => (h2 a j g1 g2).trans (h1 a j g1 g2)
theorem CFr.of (h : Sm 86 118 ι ι1) : CFr ι ι1 := fun a j g1 _ => h a j (by omega)
theorem actTL : ∀ (n : Nat) (ι : IS) (x3 x4 : Int32), Sm 86 118 ι0 ι → PC xl n 88 6 [(0, .ref 0), (1, .int x1), (2, .int x2), (3, .int x3), (4, .int x4)] [] ι (fun _ κ => Sm 86 118 ι0 κ)
  | 0, _, _, _, _ => PC.zero
  | n + 1, ι, x3, x4, hs => t_88_6 ⟨fun _ => hs, fun _ => ⟨fun _ => hs, fun _ _ _ => (FS rfl rfl hs).imp (fun v κ h r _ => ⟨fun _ => actTL n κ _ _ h, fun _ => ⟨fun _ => actTL n κ _ _ h, fun _ => actTL n κ _ _ h⟩⟩)⟩⟩
theorem actT (hs : Sm 86 118 ι0 ι) : PC xl n 88 0 [(0, .ref 0), (1, .int x1), (2, .int x2)] [] ι (fun _ κ => Sm 86 118 ι0 κ) := (t_88_0 (actTL n ι _ _ hs)).weak
theorem rehT (hs : Sm 86 118 ι0 ι) : PC xl n 87 0 [(0, .ref 0)] [] ι (fun _ κ => Sm 86 118 ι0 κ) := by
  refine (t_87_0 ?_).weak
  rw [rf_0_5, rf_0_2', rf_0_2]
  exact (FB hs).imp (fun _ κ1 h1 => (actT h1).imp (fun v κ2 h2 r _ => h2))
theorem runsF : PC xl n 86 0 [(0, .ref 0), (1, .int x1)] [] ι (fun _ κ => CFr ι κ) := by
  refine (t_86_0 ⟨fun _ => CFr.rfl, fun _ => ⟨fun _ => (rehT Sm.rfl).imp (fun v κ h r _ => ?_), fun _ => CFr.rfl⟩⟩).weak
  have f := CFr.of h
  exact ⟨fun _ => (FN rfl).imp (fun v κ2 e r _ => by rw [e]; exact f), fun _ => (FN rfl).imp (fun v κ2 e r _ => by rw [e]; exact f), fun _ => f, fun _ => (FN rfl).imp (fun v κ2 e r _ => by rw [e]; exact f), fun _ => (FN rfl).imp (fun v κ2 e r _ => by rw [e]; exact f)⟩
theorem aheadF : PC xl n 93 0 [(0, .ref 0), (1, .int x1)] [] ι (fun _ κ => CFr ι κ) := by
  refine (t_93_0 ((FN rfl).imp (fun v κ e r _ => ⟨fun _ => ?_, fun _ => by rw [e]; exact CFr.rfl⟩))).weak
  rw [e]
  exact (rehT Sm.rfl).imp (fun v κ h r _ _ _ => (FN rfl).imp (fun v κ2 e r _ => by rw [e]; exact CFr.of h))
theorem clearsL : ∀ (n : Nat) (ι : IS) (x2 x3 : Int32), Sm 86 118 ι0 ι → PC xl n 94 20 [(0, .ref 0), (1, .int x1), (2, .int x2), (3, .int x3)] [] ι (fun _ κ => Sm 86 118 ι0 κ)
  | 0, _, _, _, _ => PC.zero
  | n + 1, ι, x2, x3, hs => by
    refine t_94_20 ?_
    rw [rf_0_5, rf_0_2']
    refine ⟨fun _ => hs, fun _ => (FB hs).imp (fun _ κ1 h1 => (FS rfl rfl h1).imp (fun v κ2 h2 r _ => (FN rfl).imp (fun v κ3 e3 r _ => ?_)))⟩
    rw [e3]
    refine ⟨fun _ => clearsL n κ2 _ _ h2, fun _ _ _ => (FN rfl).imp (fun v κ4 e4 r _ => ?_)⟩
    rw [e4]
    exact ⟨fun _ => clearsL n κ2 _ _ h2, fun _ => clearsL n κ2 _ _ h2⟩
theorem clearsF : PC xl n 94 0 [(0, .ref 0), (1, .int x1)] [] ι (fun _ κ => CFr ι κ) := by
  refine (t_94_0 ((FN rfl).imp (fun v κ e r _ => ⟨fun _ => ?_, fun _ => by rw [e]; exact CFr.rfl⟩))).weak
  rw [e]
  exact (clearsL n ι _ _ Sm.rfl).imp (fun v κ h => CFr.of h)
theorem beginF (hs : Sm 86 118 ι0 ι) : PC xl n 97 0 [(0, .ref 101), (1, .ref 25), (2, .int x2)] [] ι (fun _ κ => Sm 86 118 ι0 κ) := by
  refine (t_97_0 (townB_sm (u := 102) (by decide) (fun κ1 h1 => (FN rfl).imp (fun v κ2 e r _ => ?_)))).weak
  have h2 := hs.trans (h1.wide (l2 := 86) (h2 := 118) (by omega) (by omega))
  rw [e]
  exact ⟨fun _ => (h2.up (by omega)).up (by omega), fun _ => (h2.up (by omega)).up (by omega)⟩
theorem forBestF (hs : Sm 86 118 ι0 ι) : PC xl n 96 0 [(0, .ref 101), (1, .ref 25), (2, .int x2)] [] ι (fun _ κ => Sm 86 118 ι0 κ) := by
  refine (t_96_0 ((beginF ((hs.up (by omega)).up (by omega))).imp (fun _ κ1 h1 => (FN rfl).imp (fun v κ2 e2 r _ => ?_)))).weak
  rw [e2]
  refine (FN rfl).imp (fun v κ3 e3 r _ => ?_)
  rw [e3]
  exact FS rfl rfl h1
theorem clearsAllF (hs : Sm 86 118 ι0 ι) : PC xl n 108 0 [(0, .ref 101), (1, .ref 25), (2, .int x2)] [] ι (fun _ κ => Sm 86 118 ι0 κ) := by
  refine (t_108_0 ((beginF ((hs.up (by omega)).up (by omega))).imp (fun _ κ1 h1 => (FN rfl).imp (fun v κ2 e2 r _ => ?_)))).weak
  rw [e2]
  refine (FN rfl).imp (fun v κ3 e3 r _ => ?_)
  rw [e3]
  exact (FS rfl rfl h1).imp (fun _ κ4 h4 => ⟨fun _ => h4, fun _ => h4⟩)
theorem bestF : PC xl n 95 0 [(0, .ref 0), (1, .int x1), (2, .int x2)] [] ι (fun _ κ => CFr ι κ) := by
  have l26 : PC xl n 95 26 [(0, .ref 0), (1, .int x1), (2, .int x2)] [] ι (fun _ κ => CFr ι κ) := by
    refine (t_95_26 ?_).weak
    rw [rf_0_6, rf_0_2']
    refine (forBestF Sm.rfl).imp (fun _ κ1 h1 => ⟨fun _ => CFr.of h1, fun _ => CFr.of h1, fun _ => (FN rfl).imp (fun v κ2 e r _ => ?_)⟩)
    rw [e]; exact CFr.of h1
  exact (t_95_0 ⟨fun _ => CFr.rfl, fun _ => ⟨fun _ => CFr.rfl, fun _ => ⟨fun _ => CFr.rfl, fun _ => ⟨fun _ => l26, fun _ => ⟨fun _ => l26, fun _ => CFr.rfl⟩⟩⟩⟩⟩).weak
theorem fewL : ∀ (n : Nat) (ι : IS) (x2 : Int32), Sm 86 118 ι0 ι → PC xl n 107 14 [(0, .ref 0), (1, .int x1), (2, .int x2)] [] ι (fun _ κ => Sm 86 118 ι0 κ)
  | 0, _, _, _ => PC.zero
  | n + 1, ι, x2, hs => by
    refine t_107_14 ?_
    rw [rf_0_6, rf_0_2']
    refine ⟨fun _ => hs, fun _ => (clearsAllF hs).imp (fun v κ1 h1 r _ => ⟨fun _ => fewL n κ1 _ h1, fun _ => ⟨fun _ => (FN rfl).imp (fun v κ2 e r _ => ?_), fun _ => h1⟩⟩)⟩
    rw [e]; exact h1
theorem fewF : PC xl n 107 0 [(0, .ref 0), (1, .int x1)] [] ι (fun _ κ => CFr ι κ) :=
  (t_107_0 ⟨fun _ => (fewL n ι _ Sm.rfl).imp (fun v κ h => CFr.of h), fun _ => ⟨fun _ => (fewL n ι _ Sm.rfl).imp (fun v κ h => CFr.of h), fun _ => CFr.rfl⟩⟩).weak
theorem potsL : ∀ (n : Nat) (ι : IS) (x2 x3 : Int32), Sm 86 118 ι0 ι → PC xl n 114 20 [(0, .ref 0), (1, .int x1), (2, .int x2), (3, .int x3)] [] ι (fun _ κ => Sm 86 118 ι0 κ)
  | 0, _, _, _, _ => PC.zero
  | n + 1, ι, x2, x3, hs => by
    refine t_114_20 ?_
    rw [rf_0_5, rf_0_2', rf_0_2]
    refine ⟨fun _ => hs, fun _ => (FB hs).imp (fun _ κ1 h1 => (FN rfl).imp (fun v κ2 e2 r _ => ?_))⟩
    rw [e2]
    refine (FS rfl rfl h1).imp (fun _ κ3 h3 => (actT h3).imp (fun v κ4 h4 r _ => (FN rfl).imp (fun v κ5 e5 r _ => ?_)))
    rw [e5]
    exact ⟨fun _ => potsL n κ4 _ _ h4, fun _ => potsL n κ4 _ _ h4⟩
theorem potsF : PC xl n 114 0 [(0, .ref 0), (1, .int x1)] [] ι (fun _ κ => CFr ι κ) := by
  refine (t_114_0 ((FN rfl).imp (fun v κ e r _ => ⟨fun _ => ?_, fun _ => by rw [e]; exact CFr.rfl⟩))).weak
  rw [e]
  exact (potsL n ι _ _ Sm.rfl).imp (fun v κ h => CFr.of h)
theorem rainedL : ∀ (n : Nat) (ι : IS) (x1 x2 : Int32), Sm 86 118 ι0 ι → PC xl n 117 4 [(0, .ref 0), (1, .int x1), (2, .int x2)] [] ι (fun _ κ => Sm 86 118 ι0 κ)
  | 0, _, _, _, _ => PC.zero
  | n + 1, ι, x1, x2, hs => by
    refine t_117_4 ?_
    rw [rf_0_5, rf_0_2', rf_0_2]
    refine ⟨fun _ => hs, fun _ => (FB hs).imp (fun _ κ1 h1 => (actT h1).imp (fun v κ2 h2 r _ => (FS rfl rfl h2).imp (fun _ κ3 h3 => (actT h3).imp (fun v κ4 h4 r _ => (FN rfl).imp (fun v κ5 e5 r _ => ?_)))))⟩
    rw [e5]
    exact ⟨fun _ => rainedL n κ4 _ _ h4, fun _ => rainedL n κ4 _ _ h4⟩
theorem rainedF : PC xl n 117 0 [(0, .ref 0)] [] ι (fun _ κ => CFr ι κ) := (t_117_0 ((rainedL n ι _ _ Sm.rfl).imp (fun v κ h => CFr.of h))).weak
theorem judgeL : ∀ (n : Nat) (ι : IS) (x2 : Int32), CFr ι0 ι → PC xl n 120 16 [(0, .ref 0), (1, .int x1), (2, .int x2)] [] ι (fun _ κ => CFr ι0 κ)
  | 0, _, _, _ => PC.zero
  | n + 1, ι, x2, hs => by
    have u : ∀ p q : Int32, CFr ι0 (up (up ι 0 11 p) 0 12 q) := fun p q a j g1 g2 => by rw [up_ne (by omega), up_ne (by omega)]; exact hs a j g1 g2
    refine t_120_16 ⟨fun _ => (FN rfl).imp (fun v κ e r _ => ?_), fun _ _ _ _ _ => (FS rfl rfl Sm.rfl).imp (fun v κ h r _ => judgeL n κ _ (hs.trans (CFr.of h)))⟩
    rw [e]
    exact ⟨fun _ => hs, fun _ => ⟨fun _ => u _ _, fun _ _ _ => u _ _⟩⟩
theorem judgeF (hs : CFr ι0 ι) : PC xl n 120 0 [(0, .ref 0), (1, .int x1)] [] ι (fun _ κ => CFr ι0 κ) := by
  refine (t_120_0 ?_).weak
  rw [rf_0_5, rf_0_2']
  exact (FB Sm.rfl).imp (fun _ κ h => judgeL n κ _ (hs.trans (CFr.of h)))
theorem arrF : ∀ (n : Nat) (ι : IS), (∀ x1 x2 : Int32, CFr ι0 ι → PC xl n 119 0 [(0, .ref 0), (1, .int x1), (2, .int x2)] [] ι (fun _ κ => CFr ι0 κ)) ∧ ∀ x1 x2 x3 : Int32, CFr ι0 ι → PC xl n 119 24 [(0, .ref 0), (1, .int x1), (2, .int x2), (3, .int x3)] [] ι (fun _ κ => CFr ι0 κ)
  | 0, _ => ⟨fun _ _ _ => PC.zero, fun _ _ _ _ => PC.zero⟩
  | n + 1, ι => by
    refine ⟨fun x1 x2 hs => t_119_0 ⟨fun _ => judgeF hs, fun _ => ⟨fun _ => (arrF n ι).2 _ _ _ hs, fun _ => judgeF hs⟩⟩, fun x1 x2 x3 hs => t_119_24 ⟨fun _ => hs, fun _ => ⟨fun _ => (arrF n ι).2 _ _ _ hs, fun _ _ _ => ?_⟩⟩⟩
    rw [rf_0_7]
    refine ((arrF n _).1 _ _ ?_).imp (fun _ κ h => (arrF n κ).2 _ _ _ h)
    exact fun a j g1 g2 => by rw [up_ne (by omega)]; exact hs a j g1 g2
theorem ordersF : PC xl n 118 0 [(0, .ref 0), (1, .int x1)] [] ι (fun _ κ => CFr ι κ) := by
  refine (t_118_0 ⟨fun _ => CFr.rfl, fun _ => ⟨fun _ => ⟨fun _ => ((arrF n _).1 _ _ ?_).imp (fun _ κ h => ⟨fun _ => h, fun _ => h⟩), fun _ => CFr.rfl⟩, fun _ => CFr.rfl⟩⟩).weak
  exact fun a j g1 g2 => by rw [up_ne (by omega), up_ne (by omega)]
theorem chosenL : ∀ (n : Nat) (ι : IS) (x2 x3 : Int32) (w4 : Value), Sm 86 118 ι0 ι → PC xl n 124 18 [(0, .ref 0), (1, .int x1), (2, .int x2), (3, .int x3), (4, w4)] [] ι (fun _ κ => Sm 86 118 ι0 κ)
  | 0, _, _, _, _, _ => PC.zero
  | n + 1, ι, x2, x3, w4, hs => by
    refine t_124_18 ⟨fun _ => hs, fun _ _ _ => (FN rfl).imp (fun v κ e r _ => ?_)⟩
    rw [e]
    exact ⟨fun _ => ⟨fun _ => chosenL n ι _ _ _ hs, fun _ => (FS rfl rfl hs).imp (fun v κ2 h r _ => chosenL n κ2 _ _ _ h)⟩, fun _ => (FS rfl rfl hs).imp (fun _ κ2 h => chosenL n κ2 _ _ _ h)⟩
theorem chosenF (hs : Sm 86 118 ι0 ι) : PC xl n 124 0 [(0, .ref 0), (1, .int x1)] [] ι (fun _ κ => Sm 86 118 ι0 κ) := by
  refine (t_124_0 ?_).weak
  rw [rf_0_5, rf_0_2']
  exact (FB hs).imp (fun _ κ h => chosenL n κ _ _ _ h)
theorem luckL : ∀ (n : Nat) (ι : IS) (y5 : Int64) (x7 : Int32) (w8 : Value), Sm 86 118 ι0 ι → PC xl n 121 52 [(0, .ref 0), (1, .int x1), (2, .int x2), (3, .int x3), (4, .int x4), (5, .long y5), (7, .int x7), (8, w8)] [] ι (fun _ κ => Sm 86 118 ι0 κ)
  | 0, _, _, _, _, _ => PC.zero
  | n + 1, ι, y5, x7, w8, hs => by
    refine t_121_52 ⟨fun _ => (FN rfl).imp (fun v κ e r _ => ?_), fun _ => (FN rfl).imp (fun v κ e r _ => ?_)⟩
    · rw [e]
      exact (FN rfl).imp (fun v κ2 e2 r _ => by rw [e2]; exact hs)
    · rw [e]
      refine ⟨fun _ => luckL n ι _ _ _ hs, fun _ => (chosenF hs).imp (fun _ κ4 h4 _ _ => (FN rfl).imp (fun v κ5 e5 r _ => ?_))⟩
      rw [e5]
      exact ⟨fun _ => luckL n κ4 _ _ _ h4, fun _ => luckL n κ4 _ _ _ h4⟩
theorem luckF : PC xl n 121 0 [(0, .ref 0), (1, .int x1), (2, .int x2), (3, .int x3)] [] ι (fun _ κ => CFr ι κ) := by
  refine (t_121_0 ⟨fun _ => CFr.rfl, fun _ => ⟨fun _ => CFr.rfl, fun _ => (FN rfl).imp (fun v κ e r _ => ?_)⟩⟩).weak
  rw [e]
  refine ⟨fun _ => CFr.rfl, fun _ => ⟨fun _ => CFr.rfl, fun _ => ⟨fun _ => (FN rfl).imp (fun v κ2 e2 r _ => ?_), fun _ => CFr.rfl⟩⟩⟩
  rw [e2]
  exact (luckL n ι _ _ _ Sm.rfl).imp (fun v κ h => CFr.of h)
theorem meanL : ∀ (n : Nat) (ι : IS) (y4 : Int64) (x6 : Int32) (w7 : Value), Sm 86 118 ι0 ι → PC xl n 127 37 [(0, .ref 0), (1, .int x1), (2, .int x2), (3, .int x3), (4, .long y4), (6, .int x6), (7, w7)] [] ι (fun _ κ => Sm 86 118 ι0 κ)
  | 0, _, _, _, _, _ => PC.zero
  | n + 1, ι, y4, x6, w7, hs => by
    refine t_127_37 ⟨fun _ => (FN rfl).imp (fun v κ e r _ => ?_), fun _ => (FN rfl).imp (fun v κ e r _ => ?_)⟩
    · rw [e]
      exact (FN rfl).imp (fun v κ2 e2 r _ => by rw [e2]; exact hs)
    · rw [e]
      refine ⟨fun _ => meanL n ι _ _ _ hs, fun _ => (chosenF hs).imp (fun _ κ4 h4 => (FN rfl).imp (fun v κ5 e5 r _ => ?_))⟩
      rw [e5]
      exact meanL n κ4 _ _ _ h4
theorem meanF : PC xl n 127 0 [(0, .ref 0), (1, .int x1), (2, .int x2)] [] ι (fun _ κ => CFr ι κ) := by
  refine (t_127_0 ⟨fun _ => CFr.rfl, fun _ => ⟨fun _ => CFr.rfl, fun _ => ⟨fun _ => CFr.rfl, fun _ => ⟨fun _ => (FN rfl).imp (fun v κ2 e2 r _ => ?_), fun _ => CFr.rfl⟩⟩⟩⟩).weak
  rw [e2]
  exact (meanL n ι _ _ _ Sm.rfl).imp (fun v κ h => CFr.of h)
theorem driftL : ∀ (n : Nat) (ι : IS) (x4 x5 : Int32), Sm 86 118 ι0 ι → PC xl n 128 58 [(0, .ref 0), (1, .int x1), (2, .int x2), (3, .int x3), (4, .int x4), (5, .int x5)] [] ι (fun _ κ => Sm 86 118 ι0 κ)
  | 0, _, _, _, _ => PC.zero
  | n + 1, ι, x4, x5, hs => t_128_58 ⟨fun _ => ⟨fun _ => (FN rfl).imp (fun v κ e r _ => by rw [e]; exact hs), fun _ => (FN rfl).imp (fun v κ e r _ => by rw [e]; exact hs)⟩, fun _ => (FS rfl rfl hs).imp (fun _ κ h => driftL n κ _ _ h)⟩
theorem driftF : PC xl n 128 0 [(0, .ref 0), (1, .int x1), (2, .int x2), (3, .int x3)] [] ι (fun _ κ => CFr ι κ) := by
  refine (t_128_0 ⟨fun _ => CFr.rfl, fun _ => ⟨fun _ => CFr.rfl, fun _ => ⟨fun _ => CFr.rfl, fun _ => ⟨fun _ => (FN rfl).imp (fun v κ e r _ => ?_), fun _ => CFr.rfl⟩⟩⟩⟩).weak
  rw [e, rf_0_5, rf_0_2']
  exact ⟨fun _ => (FB Sm.rfl).imp (fun _ κ1 h1 => (driftL n κ1 _ _ h1).imp (fun v κ2 h2 => CFr.of h2)), fun _ => CFr.rfl⟩
end Fra
end
section
/-! THE START'S CELLS: class and model are related -/
noncomputable def st6B (F : MH) : Bool := st5B F && ([((25, 2), (0 : Int32)), ((25, 3), 0), ((24, 2), 0), ((24, 6), 0), ((25, 4), -4), ((129, 3), 0), ((129, 4), 0), ((0, 10), 0), ((129, 31), 0), ((121, 2), -4), ((123, 2), -4), ((125, 2), -4), ((127, 2), -4), ((121, 1), 0), ((123, 1), 0), ((125, 1), 0), ((127, 1), 0), ((137, 0), -4), ((137, 1), -4), ((137, 2), -4), ((137, 3), -4)].all (fun q => decide (iv F q.1.1 q.1.2 = q.2)) && [130, 132, 138, 139, 122, 124, 126, 128].all (fun a => zr4 F a))
theorem st6_ok {F : MH} (h : st6B F = true) : F.map zc = sh0 ∧ RRel (iv F) (iv F) := by
  unfold st6B at h
  simp only [Bool.and_eq_true] at h
  obtain ⟨h5, hv, hz⟩ := h
  have g5 := st5_ok h5
  have g4 := st4_ok g5.1
  have v : ∀ a j x, ((a, j), x) ∈ [((25, 2), (0 : Int32)), ((25, 3), 0), ((24, 2), 0), ((24, 6), 0), ((25, 4), -4), ((129, 3), 0), ((129, 4), 0), ((0, 10), 0), ((129, 31), 0), ((121, 2), -4), ((123, 2), -4), ((125, 2), -4), ((127, 2), -4), ((121, 1), 0), ((123, 1), 0), ((125, 1), 0), ((127, 1), 0), ((137, 0), -4), ((137, 1), -4), ((137, 2), -4), ((137, 3), -4)] → iv F a j = x := fun a j x hm => of_decide_eq_true (List.all_eq_true.mp hv _ hm)
  have z : ∀ a, a ∈ [130, 132, 138, 139, 122, 124, 126, 128] → ∀ q, iv F a q = 0 := fun a ha q => zr4_ok (List.all_eq_true.mp hz a ha) q
  have z130 : ∀ q, rO 0 (iv F 130) q = 0 := fun q => by
    unfold rO
    split
    · exact z 130 (by simp) _
    · rfl
  refine ⟨g4.1, 0, 0, ⟨by omega, by rw [v 129 3 0 (by simp)]; rfl⟩, ⟨by omega, by rw [v 129 4 0 (by simp)]; rfl⟩, ⟨⟨⟨⟨by omega, by rw [v 25 2 0 (by simp)]; rfl⟩, ⟨by omega, by rw [v 25 3 0 (by simp)]; rfl⟩, fun w hw => absurd hw (Nat.not_lt_zero _), fun w hw => absurd hw (Nat.not_lt_zero _)⟩, ⟨?_, ?_, fun i hi => ?_⟩, ⟨?_, ?_, fun i hi => ?_⟩⟩, v 25 4 (-4) (by simp)⟩, fun k hk => ?_, ⟨fun k hk => ?_, ?_⟩, ⟨_, _, g4.2.1, g4.2.2⟩⟩
  · rw [v 24 2 0 (by simp), z130]
  · rw [z130]; decide
  · rw [z130] at hi; exact absurd hi (by rw [n0]; omega)
  · rw [v 24 6 0 (by simp), z130]
  · rw [z130]; decide
  · rw [z130] at hi; exact absurd hi (by rw [n0]; omega)
  · exact ⟨g5.2 k, fun q => absurd (z 132 (by simp) k) q⟩
  · have c138 := z 138 (by simp) k
    have c139 := z 139 (by simp)
    match k, hk, c138 with
    | 0, _, c138 => exact ⟨by rw [v 121 2 (-4) (by simp), v 137 0 (-4) (by simp)], by rw [v 121 1 0 (by simp), c138], by rw [c138]; decide, fun i hi => by rw [z 122 (by simp) i, c139]⟩
    | 1, _, c138 => exact ⟨by rw [v 123 2 (-4) (by simp), v 137 1 (-4) (by simp)], by rw [v 123 1 0 (by simp), c138], by rw [c138]; decide, fun i hi => by rw [z 124 (by simp) i, c139]⟩
    | 2, _, c138 => exact ⟨by rw [v 125 2 (-4) (by simp), v 137 2 (-4) (by simp)], by rw [v 125 1 0 (by simp), c138], by rw [c138]; decide, fun i hi => by rw [z 126 (by simp) i, c139]⟩
    | 3, _, c138 => exact ⟨by rw [v 127 2 (-4) (by simp), v 137 3 (-4) (by simp)], by rw [v 127 1 0 (by simp), c138], by rw [c138]; decide, fun i hi => by rw [z 128 (by simp) i, c139]⟩
  · rw [v 0 10 0 (by simp), v 129 31 0 (by simp)]
end
