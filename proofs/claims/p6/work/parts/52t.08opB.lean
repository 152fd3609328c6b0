/-! CALLS, II: visit, sky, scrape, alter, ought, plans, cut, see, forget -/
section OpB
variable {xl : List Int32} {n : Nat} {ι ι1 κ κ1 : IS} {nv nd : Nat} {f g : Nat → Int32} {x1 x2 x3 : Int32} {Q : Option Value → IS → Prop} {r : Int32}
theorem rO_up {k : Nat} {x : Int32} (hk : k < 80) : rO 0 ((up κ 130 k x) 130) = fs (rO 0 (κ 130)) k x := by
  rw [up_row]
  funext j
  unfold rO fs
  by_cases e : j = k
  · subst e
    rw [if_pos hk, if_pos (Nat.zero_add _), if_pos rfl]
  · by_cases g : j < 80
    · rw [if_pos g, if_neg (by omega), if_neg e]; exact (if_pos g).symm
    · rw [if_neg g, if_neg e]; exact (if_neg g).symm
theorem MG.up0 {k : Nat} {x : Int32} (hk : k < 80) (h : MG κ κ1) : MG κ (up κ1 130 k x) := h.trans (MG.se (fun a ha => up_oth ha) (fun j hj => up_ne (by omega)))
theorem TW.row {u : Nat} (h : TW u nv nd f ι) (hg : ∀ k, k < 52 → g k = f k) (hw : WF f) : TW u nv nd g ι := by
  have h4 := h.1.1
  have h5 := h.2.1.1
  exact ⟨h.1, h.2.1, fun v hv => (h.2.2.1 v hv).keep (fun _ => rfl) (fun j hj => hg _ (by omega)), fun d hd => (h.2.2.2 d hd).keep (fun _ => rfl) (fun _ => rfl) (fun j hj => hg _ (by omega)) (hw.1 d (by omega)).1.2⟩
abbrev okVD (nv nd : Nat) (x1 x2 : Int32) : Prop := 0 ≤ x1.toInt ∧ x1.toInt < nv ∧ 0 ≤ x2.toInt ∧ x2.toInt < nd
def visG (nv nd : Nat) (f : Nat → Int32) (x1 x2 : Int32) : Nat → Int32 := if okVD nv nd x1 x2 ∧ koF f x1.toInt.toNat x2.toInt.toNat = 0 then viF (-4) 0 f x1.toInt.toNat x2.toInt.toNat else f
def visR (nv nd : Nat) (f : Nat → Int32) (x1 x2 : Int32) : Int32 := if okVD nv nd x1 x2 then (if koF f x1.toInt.toNat x2.toInt.toNat = 0 then shF (viF (-4) 0 f x1.toInt.toNat x2.toInt.toNat) x2.toInt.toNat else koF f x1.toInt.toNat x2.toInt.toNat) else -1
theorem visitX (h : HX nv nd f ι) : PC xl n 69 0 [(0, .ref 0), (1, .int x1), (2, .int x2)] [] ι (XR nv nd (visG nv nd f x1 x2) (visR nv nd f x1 x2) ι) := by
  have h4 := h.tw.1.1
  have h5 := h.tw.2.1.1
  refine (t_69_0 ?_).weak
  rw [rf_0_2']
  unfold visG visR
  refine rcX_spec (by decide) h.tw h.2.2 h.bo (fun c => ?_) (fun v d hv hvl hd hdl hk => ?_) (fun v d hv hvl hd hdl hk ι1 s1 j1 t1 => ?_) (fun g => absurd g (by decide))
  · intro r e; cases e
    rw [if_neg (fun q => c q.1), if_neg c]; exact h.same
  · intro r e; cases e
    rw [show x1.toInt.toNat = v by omega, show x2.toInt.toNat = d by omega, if_neg (fun q => hk q.2), if_pos (by unfold okVD; omega), if_neg hk]; exact h.same
  · intro r e; cases e
    rw [show x1.toInt.toNat = v by omega, show x2.toInt.toNat = d by omega, if_pos ⟨by unfold okVD; omega, hk⟩, if_pos (by unfold okVD; omega), if_pos hk]
    exact h.town s1 j1 t1 (fun k hk2 => vi_hi h.2.2 (by omega) (by omega) hk hk2)
theorem visitM (h : HM nv nd κ) : PC xl n 185 0 [(0, .ref 129), (1, .int x1), (2, .int x2)] [] κ (MR (visG nv nd (rO 0 (κ 130)) x1 x2) (visR nv nd (rO 0 (κ 130)) x1 x2) κ) := by
  have h4 := h.1.1
  have h5 := h.2.1.1
  unfold visG visR
  refine (t_185_0 (isV_spec h.1.2 h.1.1 (fun c => ?_) (fun v hv hvl r hr => ?_))).weak
  · intro r e; cases e
    rw [if_neg (by unfold okVD; omega), if_neg (by unfold okVD; omega)]
    exact ⟨fun _ => MR.same MG.rfl rfl, fun q => absurd rfl q⟩
  · intro r2 e; cases e
    refine ⟨fun q => absurd q hr, fun _ => isD_spec h.2.1.2 h.2.1.1 (fun c => ?_) (fun d hd hdl r hr => ?_)⟩
    · intro r e; cases e
      rw [if_neg (by unfold okVD; omega), if_neg (by unfold okVD; omega)]
      exact ⟨fun q => absurd rfl q, fun _ => MR.same MG.rfl rfl⟩
    · intro r2 e; cases e
      rw [show x1.toInt.toNat = v by omega, show x2.toInt.toNat = d by omega]
      have ok : okVD nv nd x1 x2 := by unfold okVD; omega
      rw [if_pos ok]
      refine ⟨fun _ => st_M h (fun κ1 g1 g2 g3 g4 g5 g6 g7 => koM_spec hv (by omega) hd (by omega) ?_), fun q => absurd q hr⟩
      intro r e; cases e
      rw [g3]
      refine ⟨fun c => viM_spec (bo := -4) (lw := 0) hv (by omega) hd (by omega) (by rw [g3]; exact h.2.2.1 d (by omega)) g7 (fun κ2 k1 k2 => ?_), fun c => ?_⟩
      · intro r e
        rw [g3] at k1
        rw [if_pos ⟨ok, c⟩, if_pos c]
        refine settles_spec (fun κ3 m1 m2 m3 => shM_spec hd (by omega) ?_ ?_)
        · rw [m1 131 (by omega), k1]; exact (h.2.2.vi (by omega) (by omega) c (fun g => absurd g (by decide))).1 d (by omega) |>.1
        · intro r e; cases e
          rw [m1 131 (by omega), k1]
          exact ⟨rfl, (g1.trans (MG.at131 k2)).trans (MG.se m1 m3), by rw [m2, k1]⟩
      · rw [if_neg (fun q => c q.2), if_neg c]; exact MR.same g1 g2
def skyG (nd : Nat) (f : Nat → Int32) (x : Int32) : Nat → Int32 := if 0 ≤ x.toInt ∧ x.toInt ≤ 2 then goF (90 + x.toInt) f nd else f
def skyR (nd : Nat) (f : Nat → Int32) (x : Int32) : Int32 := if 0 ≤ x.toInt ∧ x.toInt ≤ 2 then alF (goF (90 + x.toInt) f nd) nd else -1
theorem i_90 (h : 0 ≤ x1.toInt ∧ x1.toInt ≤ 2) : (90 + x1).toInt = 90 + x1.toInt := by
  have t : (90 : Int32).toInt = 90 := rfl
  rw [i_add (by rw [t]; omega), t]
theorem skyX (h : HX nv nd f ι) : PC xl n 75 0 [(0, .ref 0), (1, .int x1)] [] ι (XR nv nd (skyG nd f x1) (skyR nd f x1) ι) := by
  refine (t_75_0 ?_).weak
  rw [rf_0_2']
  unfold skyG skyR
  refine ⟨fun c => ?_, fun c => ⟨fun c2 => ?_, fun c2 => ?_⟩⟩
  · rw [i_lt, n0] at c
    rw [if_neg (by omega), if_neg (by omega)]; exact h.same
  · rw [i_lt, n0] at c
    rw [i_lt, n2i] at c2
    have c3 : 0 ≤ x1.toInt ∧ x1.toInt ≤ 2 := by omega
    rw [if_pos c3, if_pos c3]
    refine weaX_spec (by decide) h.2.2 h.tw (i_90 c3) (by omega) (fun ι1 s1 j1 t1 => alX_spec (by decide) t1 ?_)
    intro r e; cases e
    exact h.town s1 j1 t1 (fun k hk => go_hi h.2.2 hk nd h.tw.2.1.1)
  · rw [i_lt, n2i] at c2
    rw [if_neg (by omega), if_neg (by omega)]; exact h.same
theorem skyM (h : HM nv nd κ) : PC xl n 190 0 [(0, .ref 129), (1, .int x1)] [] κ (MR (skyG nd (rO 0 (κ 130)) x1) (skyR nd (rO 0 (κ 130)) x1) κ) := by
  unfold skyG skyR
  refine (t_190_0 (inL (l := 0) (g := 2) rfl rfl (fun r hr => ?_))).weak
  intro r2 e; cases e
  refine ⟨fun c => ?_, fun c => ?_⟩
  · have c3 : 0 ≤ x1.toInt ∧ x1.toInt ≤ 2 := by false_or_by_contra; rename_i hh; exact c (hr.mpr hh)
    rw [if_pos c3, if_pos c3]
    refine st_M h (fun κ1 g1 g2 g3 g4 g5 g6 g7 => goM_spec (by rw [g3]; exact h.2.2) (i_90 c3) (by omega) g6 h.2.1.1 (fun κ2 k1 k2 => settles_spec (fun κ3 m1 m2 m3 => laM_spec (nd := nd) ?_ h.2.1.1 ?_)))
    · rw [m1 129 (by omega), k2 129 (by omega)]; exact g6
    · intro r e; cases e
      rw [g3] at k1
      rw [m1 131 (by omega), k1]
      exact ⟨rfl, (g1.trans (MG.at131 k2)).trans (MG.se m1 m3), by rw [m2, k1]⟩
  · have c3 := hr.mp c
    rw [if_neg c3, if_neg c3]; exact MR.same MG.rfl rfl
abbrev okD (nd : Nat) (x : Int32) : Prop := 0 ≤ x.toInt ∧ x.toInt < nd
def scrF (f : Nat → Int32) (d : Nat) : Nat → Int32 := fs (fs f (16 + 9 * d) (f (16 + 9 * d) - 1)) (17 + 9 * d) 0
def scrG (nd : Nat) (f : Nat → Int32) (x : Int32) : Nat → Int32 := if okD nd x ∧ ¬ f (16 + 9 * x.toInt.toNat) = 0 then scrF f x.toInt.toNat else f
def scrR (nd : Nat) (f : Nat → Int32) (x : Int32) : Int32 := if okD nd x then (if f (16 + 9 * x.toInt.toNat) = 0 then -2 else shF (scrF f x.toInt.toNat) x.toInt.toNat) else -1
theorem scrW {d : Nat} (hw : WD f d) (h0 : ¬ f (16 + 9 * d) = 0) : 0 ≤ (scrF f d (16 + 9 * d)).toInt ∧ (scrF f d (16 + 9 * d)).toInt ≤ 6 := by
  have h1 := i_nz h0 hw.1.1
  have h6 := hw.1.2
  unfold scrF
  rw [fs_ne (by omega), fs_same, i_sub (by rw [n1]; omega), n1]; omega
theorem scrapeX (h : HX nv nd f ι) : PC xl n 81 0 [(0, .ref 0), (1, .int x1)] [] ι (XR nv nd (scrG nd f x1) (scrR nd f x1) ι) := by
  have h5 := h.tw.2.1.1
  refine (t_81_0 ?_).weak
  rw [rf_0_2']
  unfold scrG scrR
  refine hasDr_spec h.tw.2.1.2 (fun c => ?_) (fun d hd hdl r hr => ?_)
  · intro r e; cases e
    rw [if_neg (fun q => c q.1), if_neg c]
    exact ⟨fun q => absurd rfl q, fun _ => h.same⟩
  · intro r2 e; cases e
    have hD := h.tw.2.2.2 d hdl
    have hW := h.2.2.1 d (by omega)
    obtain ⟨tr1, tr2⟩ := town_d (u := 25) (by decide) (d := d) (by omega)
    have ok : okD nd x1 := by unfold okD; omega
    rw [i_ixn hd, tr1, show x1.toInt.toNat = d by omega, hD.1, if_pos ok]
    refine ⟨fun _ _ _ => ⟨fun c => ?_, fun c => ?_⟩, fun q => absurd q hr⟩
    · have h1 := i_nz c hW.1.1
      obtain ⟨k, hk⟩ : ∃ k : Nat, (f (16 + 9 * d)).toInt = (k + 1 : Nat) := ⟨(f (16 + 9 * d)).toInt.toNat - 1, by omega⟩
      rw [if_pos ⟨ok, c⟩, if_neg c]
      refine loseX_spec hD hk (fun ι1 s1 d1 => ?_)
      have d2 : DX (25 + 7 + 2 * d) d (scrF f d) (up ι1 (25 + 7 + 2 * d) 3 0) := d1.wet
      refine shX_spec tr2 d2 (scrW hW c) ?_
      intro r e; cases e
      have s2 : Sm (25 + 7 + 2 * d) (25 + 7 + 2 * d + 1) ι (up ι1 (25 + 7 + 2 * d) 3 0) := s1.up (by omega)
      refine h.town (s2.wide (by omega) (by omega)) (fun j => s2 _ _ (by omega)) (h.tw.door h.2.2 hdl s2 (fun j hj => ?_) d2) (fun k hk => ?_)
      · unfold scrF; rw [fs_ne (by omega), fs_ne (by omega)]
      · unfold scrF; rw [fs_ne (by omega), fs_ne (by omega)]
    · rw [if_neg (fun q => q.2 c), if_pos c]; exact h.same
theorem scrapeM (h : HM nv nd κ) : PC xl n 194 0 [(0, .ref 129), (1, .int x1)] [] κ (MR (scrG nd (rO 0 (κ 130)) x1) (scrR nd (rO 0 (κ 130)) x1) κ) := by
  have h5 := h.2.1.1
  unfold scrG scrR
  refine (t_194_0 (isD_spec h.2.1.2 h.2.1.1 (fun c => ?_) (fun d hd hdl r hr => ?_))).weak
  · intro r e; cases e
    rw [if_neg (fun q => c q.1), if_neg c]
    exact ⟨fun q => absurd rfl q, fun _ => MR.same MG.rfl rfl⟩
  · intro r2 e; cases e
    have ok : okD nd x1 := by unfold okD; omega
    have hW := h.2.2.1 d (by omega)
    rw [show x1.toInt.toNat = d by omega, if_pos ok]
    refine ⟨fun _ => st_M h (fun κ1 g1 g2 g3 g4 g5 g6 g7 => shM_spec hd (by omega) (by rw [g3]; exact hW.1) ?_), fun q => absurd q hr⟩
    intro r e; cases e
    rw [g3]
    refine ⟨fun c => ofD_spec (m := 16 + 9 * d) hd (by omega) (j := 0) rfl (by omega) (by omega) ?_, fun c => ?_⟩
    · intro r e; cases e
      have c0 : ¬ rO 0 (κ 130) (16 + 9 * d) = 0 := fun e => c (shF_0 e)
      rw [if_pos ⟨ok, c0⟩, if_neg c0]
      refine becD_spec (m := 16 + 9 * d) hd (by omega) (j := 0) rfl (by omega) (by omega) ?_
      refine becD_spec (m := 17 + 9 * d) hd (by omega) (j := 1) rfl (by omega) (by omega) ?_
      have k1 : (up (up κ1 131 (16 + 9 * d) (κ1 131 (16 + 9 * d) - 1)) 131 (17 + 9 * d) 0) 131 = scrF (rO 0 (κ 130)) d := by rw [rowE (rowE g3), g3]; rfl
      refine settles_spec (fun κ3 m1 m2 m3 => shM_spec hd (by omega) ?_ ?_)
      · rw [m1 131 (by omega), k1]; exact scrW hW c0
      · intro r e; cases e
        rw [m1 131 (by omega), k1]
        exact ⟨rfl, (g1.trans (MG.at131 (fun a ha => by rw [up_oth ha, up_oth ha]))).trans (MG.se m1 m3), by rw [m2, k1]⟩
    · have c0 := hW.sh4.mp c
      rw [if_neg (fun q => q.2 c0), if_pos c0]; exact MR.same g1 g2
def moF (x : Int32) : Int := if x.toInt = 0 then 3 else if x.toInt = 1 then 5 else if x.toInt = 2 then 99 else 0
abbrev okAl (nv : Nat) (x1 x2 x3 : Int32) : Prop := 0 ≤ x1.toInt ∧ x1.toInt < nv ∧ 0 ≤ x2.toInt ∧ x2.toInt ≤ 3 ∧ 0 ≤ x3.toInt ∧ x3.toInt ≤ moF x2
def altG (nv : Nat) (f : Nat → Int32) (x1 x2 x3 : Int32) : Nat → Int32 := if okAl nv x1 x2 x3 then fs f (4 * x1.toInt.toNat + x2.toInt.toNat) x3 else f
def altR (nv : Nat) (f : Nat → Int32) (x1 x2 x3 : Int32) : Int32 := if okAl nv x1 x2 x3 then f (4 * x1.toInt.toNat + x2.toInt.toNat) else -1
theorem altX1 {v j : Nat} (h : HX nv nd f ι) (hvl : v < nv) (hj : j < 4) (hr : ι (25 + 2 + v) j = f (4 * v + j)) : XR nv nd (fs f (4 * v + j) x3) (f (4 * v + j)) ι (some (.int (ι (25 + 2 + v) j))) (up ι (25 + 2 + v) j x3) := by
  have h4 := h.tw.1.1
  have hV := h.tw.2.2.1 v hvl
  have s1 : Sm (25 + 2 + v) (25 + 2 + v) ι (up ι (25 + 2 + v) j x3) := Sm.rfl.up (by omega)
  have V1 : VX (25 + 2 + v) v (fs f (4 * v + j) x3) (up ι (25 + 2 + v) j x3) := by
    have e : ∀ k, k < 4 → ι (25 + 2 + v) k = f (4 * v + k) → (up ι (25 + 2 + v) j x3) (25 + 2 + v) k = fs f (4 * v + j) x3 (4 * v + k) := by
      intro k hk hh
      by_cases ek : k = j
      · subst ek; rw [up_same, fs_same]
      · rw [up_ne (by omega), fs_ne (by omega)]; exact hh
    exact ⟨e 0 (by omega) hV.1, e 1 (by omega) hV.2.1, e 2 (by omega) hV.2.2.1, e 3 (by omega) hV.2.2.2⟩
  have := h.town (r := f (4 * v + j)) (s1.wide (by omega) (by omega)) (fun j => s1 _ _ (by omega)) (h.tw.vis h.2.2 hvl s1 (fun k hk => fs_ne (by omega)) V1) (fun k hk => fs_ne (by omega))
  rw [hr]; exact this
theorem alterX (h : HX nv nd f ι) : PC xl n 82 0 [(0, .ref 0), (1, .int x1), (2, .int x2), (3, .int x3)] [] ι (XR nv nd (altG nv f x1 x2 x3) (altR nv f x1 x2 x3) ι) := by
  have h4 := h.tw.1.1
  have t99 : (99 : Int32).toInt = 99 := rfl
  refine (t_82_0 ?_).weak
  rw [rf_0_2']
  unfold altG altR
  refine hasV_spec h.tw.1.2 (fun c => ?_) (fun v hv hvl r hr => ?_)
  · intro r e; cases e
    rw [if_neg (by unfold okAl; omega), if_neg (by unfold okAl; omega)]
    exact ⟨fun _ => h.same, fun q => absurd rfl q⟩
  · intro r2 e; cases e
    have hV := h.tw.2.2.1 v hvl
    rw [i_ixn hv, town_v (u := 25) (by decide) (v := v) (by omega), show x1.toInt.toNat = v by omega]
    have bad : ¬ okAl nv x1 x2 x3 → XR nv nd (if okAl nv x1 x2 x3 then fs f (4 * v + x2.toInt.toNat) x3 else f) (if okAl nv x1 x2 x3 then f (4 * v + x2.toInt.toNat) else -1) ι (some (.int (-1))) ι := fun q => by rw [if_neg q, if_neg q]; exact h.same
    have good : ∀ j : Nat, j < 4 → x2.toInt = j → okAl nv x1 x2 x3 → ι (25 + 2 + v) j = f (4 * v + j) → XR nv nd (if okAl nv x1 x2 x3 then fs f (4 * v + x2.toInt.toNat) x3 else f) (if okAl nv x1 x2 x3 then f (4 * v + x2.toInt.toNat) else -1) ι (some (.int (ι (25 + 2 + v) j))) (up ι (25 + 2 + v) j x3) := fun j hj e q hh => by
      rw [if_pos q, if_pos q, show x2.toInt.toNat = j by omega]; exact altX1 h hvl hj hh
    have l113 : ¬ (x2.toInt = 0 ∧ x3.toInt < 4) → ¬ (x2.toInt = 1 ∧ x3.toInt < 6) → ¬ (x2.toInt = 2 ∧ x3.toInt ≤ 99) → 0 ≤ x3.toInt → ∀ w0 w1 : Value, PC xl n 82 113 [(0, w0), (1, w1), (2, .int x2), (3, .int x3), (4, .ref (25 + 2 + v))] [] ι (XR nv nd (if okAl nv x1 x2 x3 then fs f (4 * v + x2.toInt.toNat) x3 else f) (if okAl nv x1 x2 x3 then f (4 * v + x2.toInt.toNat) else -1) ι) := by
      intro q0 q1 q2 q3 w0 w1
      refine (t_82_113 ⟨fun c => bad ?_, fun c => ⟨fun c2 => bad ?_, fun c2 => ?_⟩⟩).weak
      · rw [i_eq, n3] at c
        unfold okAl moF
        split
        · omega
        · split
          · omega
          · split <;> omega
      · rw [i_eq, n3] at c
        rw [i_eq, n0] at c2
        unfold okAl moF
        rw [if_neg (by omega), if_neg (by omega), if_neg (by omega)]; omega
      · rw [i_eq, n3] at c
        subst c2
        refine good 3 (by omega) c ?_ hV.2.2.2
        unfold okAl moF
        rw [n0, if_neg (by omega), if_neg (by omega), if_neg (by omega)]; omega
    have l86 : ¬ (x2.toInt = 0 ∧ x3.toInt < 4) → ¬ (x2.toInt = 1 ∧ x3.toInt < 6) → 0 ≤ x3.toInt → ∀ w0 w1 : Value, PC xl n 82 86 [(0, w0), (1, w1), (2, .int x2), (3, .int x3), (4, .ref (25 + 2 + v))] [] ι (XR nv nd (if okAl nv x1 x2 x3 then fs f (4 * v + x2.toInt.toNat) x3 else f) (if okAl nv x1 x2 x3 then f (4 * v + x2.toInt.toNat) else -1) ι) := by
      intro q0 q1 q3 w0 w1
      refine (t_82_86 ⟨fun c => l113 q0 q1 ?_ q3 w0 w1, fun c => ⟨fun c2 => l113 q0 q1 ?_ q3 w0 w1, fun c2 => ?_⟩⟩).weak
      · rw [i_eq, n2i] at c; omega
      · rw [i_lt, t99] at c2; omega
      · rw [i_eq, n2i] at c
        rw [i_lt, t99] at c2
        refine good 2 (by omega) c ?_ hV.2.2.1
        unfold okAl moF
        rw [if_neg (by omega), if_neg (by omega), if_pos (by omega)]; omega
    have l59 : ¬ (x2.toInt = 0 ∧ x3.toInt < 4) → 0 ≤ x3.toInt → ∀ w0 w1 : Value, PC xl n 82 59 [(0, w0), (1, w1), (2, .int x2), (3, .int x3), (4, .ref (25 + 2 + v))] [] ι (XR nv nd (if okAl nv x1 x2 x3 then fs f (4 * v + x2.toInt.toNat) x3 else f) (if okAl nv x1 x2 x3 then f (4 * v + x2.toInt.toNat) else -1) ι) := by
      intro q0 q3 w0 w1
      refine (t_82_59 ⟨fun c => l86 q0 ?_ q3 w0 w1, fun c => ⟨fun c2 => l86 q0 ?_ q3 w0 w1, fun c2 => ?_⟩⟩).weak
      · rw [i_eq, n1] at c; omega
      · rw [i_lt, n6] at c2; omega
      · rw [i_eq, n1] at c
        rw [i_lt, n6] at c2
        refine good 1 (by omega) c ?_ hV.2.1
        unfold okAl moF
        rw [if_neg (by omega), if_pos (by omega)]; omega
    refine ⟨fun q => absurd q hr, fun _ => ⟨fun c _ _ => ⟨fun c2 => l59 ?_ ?_ _ _, fun c2 => ⟨fun c3 => l59 ?_ ?_ _ _, fun c3 => ?_⟩⟩, fun c => bad ?_⟩⟩
    · rw [i_eq, n0] at c2; omega
    · rw [i_lt, n0] at c; omega
    · rw [i_lt, n4] at c3; omega
    · rw [i_lt, n0] at c; omega
    · rw [i_lt, n0] at c
      rw [i_eq, n0] at c2
      rw [i_lt, n4] at c3
      refine good 0 (by omega) c2 ?_ hV.1
      unfold okAl moF
      rw [if_pos (by omega)]; omega
    · rw [i_lt, n0] at c
      unfold okAl; omega
theorem becSt {k : Nat} (hk : x1.toInt = k) (h : Q (some (.int (κ 130 k))) (up κ 130 k x2)) : PC xl n 197 0 [(0, .ref 129), (1, .int x1), (2, .int x2)] [] κ Q := by
  refine (t_197_0 (fun _ _ _ _ => ?_)).weak
  rw [rf_129_0, i_ixn hk]; exact h
theorem moM (h : ∀ y : Int32, y.toInt = moF x1 → Q (some (.int y)) κ) : PC xl n 196 0 [(0, .int x1)] [] κ Q := by
  unfold moF at h
  refine (t_196_0 ⟨fun c => ⟨fun c2 => ⟨fun c3 => h 0 ?_, fun c3 => h 99 ?_⟩, fun c2 => h 5 ?_⟩, fun c => h 3 ?_⟩).weak
  · rw [i_eq, n0] at c; rw [i_eq, n1] at c2; rw [i_eq, n2i] at c3
    rw [if_neg c, if_neg c2, if_neg c3]; rfl
  · rw [i_eq, n0] at c; rw [i_eq, n1] at c2; rw [i_eq, n2i] at c3
    rw [if_neg c, if_neg c2, if_pos c3]; rfl
  · rw [i_eq, n0] at c; rw [i_eq, n1] at c2
    rw [if_neg c, if_pos c2]; rfl
  · rw [i_eq, n0] at c
    rw [if_pos c]; rfl
theorem alterM (h : HM nv nd κ) : PC xl n 195 0 [(0, .ref 129), (1, .int x1), (2, .int x2), (3, .int x3)] [] κ (MR (altG nv (rO 0 (κ 130)) x1 x2 x3) (altR nv (rO 0 (κ 130)) x1 x2 x3) κ) := by
  have h4 := h.1.1
  unfold altG altR
  have bad : ¬ okAl nv x1 x2 x3 → MR (if okAl nv x1 x2 x3 then fs (rO 0 (κ 130)) (4 * x1.toInt.toNat + x2.toInt.toNat) x3 else rO 0 (κ 130)) (if okAl nv x1 x2 x3 then rO 0 (κ 130) (4 * x1.toInt.toNat + x2.toInt.toNat) else -1) κ (some (.int (-1))) κ := fun q => by rw [if_neg q, if_neg q]; exact MR.same MG.rfl rfl
  refine (t_195_0 (isV_spec h.1.2 h.1.1 (fun c => ?_) (fun v hv hvl r hr => ?_))).weak
  · intro r e; cases e
    exact ⟨fun _ => bad (by unfold okAl; omega), fun q => absurd rfl q⟩
  · intro r2 e; cases e
    refine ⟨fun q => absurd q hr, fun _ => inL (l := 0) (g := 3) rfl rfl (fun r hr => ?_)⟩
    intro r2 e; cases e
    refine ⟨fun c => bad (by have := hr.mp c; unfold okAl; omega), fun c => moM (fun y hy => ?_)⟩
    have c3 : 0 ≤ x2.toInt ∧ x2.toInt ≤ 3 := by false_or_by_contra; rename_i hh; exact c (hr.mpr hh)
    intro r2 e; cases e
    refine in32 rfl (fun r hr => ?_)
    rw [hy] at hr
    intro r2 e; cases e
    refine ⟨fun c => bad (by have := hr.mp c; unfold okAl; omega), fun c => ?_⟩
    have c4 : 0 ≤ x3.toInt ∧ x3.toInt ≤ moF x2 := by false_or_by_contra; rename_i hh; exact c (hr.mpr hh)
    have ok : okAl nv x1 x2 x3 := by unfold okAl; omega
    rw [if_pos ok, if_pos ok, show x1.toInt.toNat = v by omega]
    refine becSt (k := 4 * v + x2.toInt.toNat) ?_ ?_
    · have e : (4 * x1).toInt = 4 * v := by rw [i_mul (by rw [n4, hv]; omega), n4, hv]
      rw [i_add (by rw [e]; omega), e]; omega
    · intro r e; cases e
      refine ⟨by rw [r_st (by omega)], MG.up0 (by omega) MG.rfl, rO_up (by omega)⟩
def ouF (f : Nat → Int32) (x2 x3 : Int32) (d : Nat) : Int32 := if x3 = 0 then f (18 + 9 * d) &&& ((1 <<< (x2 &&& 31)) ^^^ (-1)) else f (18 + 9 * d) ||| (1 <<< (x2 &&& 31))
abbrev okOu (nd : Nat) (x1 x2 : Int32) : Prop := 0 ≤ x1.toInt ∧ x1.toInt < nd ∧ 0 ≤ x2.toInt ∧ x2.toInt ≤ 5
def ouG (nd : Nat) (f : Nat → Int32) (x1 x2 x3 : Int32) : Nat → Int32 := if okOu nd x1 x2 then fs f (18 + 9 * x1.toInt.toNat) (ouF f x2 x3 x1.toInt.toNat) else f
def ouRX (nd : Nat) (x1 x2 x3 : Int32) : Int32 := if okOu nd x1 x2 then (if x3 = 0 then 0 else 1) else -1
def ouRM (nd : Nat) (f : Nat → Int32) (x1 x2 : Int32) : Int32 := if okOu nd x1 x2 then (f (18 + 9 * x1.toInt.toNat) >>> (x2 &&& 31)) &&& 1 else -1
theorem oughtX (h : HX nv nd f ι) : PC xl n 83 0 [(0, .ref 0), (1, .int x1), (2, .int x2), (3, .int x3)] [] ι (XR nv nd (ouG nd f x1 x2 x3) (ouRX nd x1 x2 x3) ι) := by
  have h5 := h.tw.2.1.1
  refine (t_83_0 ?_).weak
  rw [rf_0_2']
  unfold ouG ouRX
  refine hasDr_spec h.tw.2.1.2 (fun c => ?_) (fun d hd hdl r hr => ?_)
  · intro r e; cases e
    rw [if_neg (by unfold okOu; omega), if_neg (by unfold okOu; omega)]
    exact ⟨fun _ => h.same, fun q => absurd rfl q⟩
  · intro r2 e; cases e
    refine ⟨fun q => absurd q hr, fun _ => isCol_spec (fun r hr => ?_)⟩
    intro r2 e; cases e
    refine ⟨fun c _ _ => ?_, fun c => ?_⟩
    · have c2 : 0 ≤ x2.toInt ∧ x2.toInt ≤ 5 := by false_or_by_contra; rename_i hh; exact c (hr.mpr hh)
      have ok : okOu nd x1 x2 := by unfold okOu; omega
      have hD := h.tw.2.2.2 d hdl
      obtain ⟨tr1, tr2⟩ := town_d (u := 25) (by decide) (d := d) (by omega)
      rw [i_ixn hd, tr1, show x1.toInt.toNat = d by omega, if_pos ok, if_pos ok]
      have fin : ∀ y : Int32, y = ouF f x2 x3 d → ∀ r, XR nv nd (fs f (18 + 9 * d) (ouF f x2 x3 d)) r ι (some (.int r)) (up ι (25 + 7 + 2 * d) 2 y) := by
        intro y hy r
        rw [hy]
        have s1 : Sm (25 + 7 + 2 * d) (25 + 7 + 2 * d + 1) ι (up ι (25 + 7 + 2 * d) 2 (ouF f x2 x3 d)) := Sm.rfl.up (by omega)
        refine h.town (s1.wide (by omega) (by omega)) (fun j => s1 _ _ (by omega)) (h.tw.door h.2.2 hdl s1 (fun k hk => fs_ne (by omega)) ⟨?_, ?_, ?_, fun i hi => ?_⟩) (fun k hk => fs_ne (by omega))
        · rw [up_ne (by omega), fs_ne (by omega)]; exact hD.1
        · rw [up_ne (by omega), fs_ne (by omega)]; exact hD.2.1
        · rw [up_same, fs_same]
        · rw [fs_ne (by omega)] at hi
          rw [up_ne (by omega), fs_ne (by omega)]; exact hD.2.2.2 i hi
      refine (t_39_0 ?_).weak
      rw [hD.2.2.1]
      refine ⟨fun c3 => ⟨fun _ => ?_, fun q => absurd c3 q⟩, fun c3 => ⟨fun q => absurd q c3, fun _ => ?_⟩⟩
      · rw [if_pos c3]
        exact fin _ (by unfold ouF; rw [if_pos c3]) 0
      · rw [if_neg c3]
        exact fin _ (by unfold ouF; rw [if_neg c3]) 1
    · rw [if_neg (by have := hr.mp c; unfold okOu; omega), if_neg (by have := hr.mp c; unfold okOu; omega)]; exact h.same
theorem oughtM (h : HM nv nd κ) : PC xl n 198 0 [(0, .ref 129), (1, .int x1), (2, .int x2), (3, .int x3)] [] κ (MR (ouG nd (rO 0 (κ 130)) x1 x2 x3) (ouRM nd (rO 0 (κ 130)) x1 x2) κ) := by
  have h5 := h.2.1.1
  unfold ouG ouRM
  refine (t_198_0 (isD_spec h.2.1.2 h.2.1.1 (fun c => ?_) (fun d hd hdl r hr => ?_))).weak
  · intro r e; cases e
    rw [if_neg (by unfold okOu; omega), if_neg (by unfold okOu; omega)]
    exact ⟨fun _ => MR.same MG.rfl rfl, fun q => absurd rfl q⟩
  · intro r2 e; cases e
    refine ⟨fun q => absurd q hr, fun _ => inL (l := 0) (g := 5) rfl rfl (fun r hr => ?_)⟩
    intro r2 e; cases e
    refine ⟨fun c _ _ => ?_, fun c => ?_⟩
    · have c2 : 0 ≤ x2.toInt ∧ x2.toInt ≤ 5 := by false_or_by_contra; rename_i hh; exact c (hr.mpr hh)
      have ok : okOu nd x1 x2 := by unfold okOu; omega
      rw [rf_129_0, ixD hd (by omega) (j := 2) rfl (by omega), show 16 + 9 * d + 2 = 18 + 9 * d by omega, show x1.toInt.toNat = d by omega, if_pos ok, if_pos ok, ← r_st (h := κ 130) (show 18 + 9 * d < 80 by omega)]
      refine ⟨fun c3 _ _ => ⟨rfl, MG.up0 (by omega) MG.rfl, ?_⟩, fun c3 _ _ => ⟨rfl, MG.up0 (by omega) MG.rfl, ?_⟩⟩
      · rw [rO_up (by omega)]; unfold ouF; rw [if_pos c3]
      · rw [rO_up (by omega)]; unfold ouF; rw [if_neg c3]
    · rw [if_neg (by have := hr.mp c; unfold okOu; omega), if_neg (by have := hr.mp c; unfold okOu; omega)]; exact MR.same MG.rfl rfl
end OpB
