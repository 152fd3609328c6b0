section
/-! ODDS, II: longs; in lowest terms; by class and model -/
section Eucl
variable {xl : List Int32} {n : Nat} {ι κ : IS} {Q : Option Value → IS → Prop} {x y g : Int64} {x4 : Int32}
theorem j_rng (x : Int64) : -9223372036854775808 ≤ x.toInt ∧ x.toInt ≤ 9223372036854775807 := ⟨Int64.le_toInt x, by have := Int64.toInt_lt x; omega⟩
theorem j_bm {z : Int} (h : -9223372036854775808 ≤ z ∧ z ≤ 9223372036854775807) : z.bmod (2 ^ 64) = z := Int.bmod_eq_of_le (by omega) (by omega)
theorem j_add (h : -9223372036854775808 ≤ x.toInt + y.toInt ∧ x.toInt + y.toInt ≤ 9223372036854775807) : (x + y).toInt = x.toInt + y.toInt := by
  rw [Int64.toInt_add]; exact j_bm h
theorem j_sub (h : -9223372036854775808 ≤ x.toInt - y.toInt ∧ x.toInt - y.toInt ≤ 9223372036854775807) : (x - y).toInt = x.toInt - y.toInt := by
  rw [Int64.toInt_sub]; exact j_bm h
theorem j_mul (h : -9223372036854775808 ≤ x.toInt * y.toInt ∧ x.toInt * y.toInt ≤ 9223372036854775807) : (x * y).toInt = x.toInt * y.toInt := by
  rw [Int64.toInt_mul]; exact j_bm h
theorem j_md (h0 : 0 ≤ x.toInt) (h1 : 0 < y.toInt) : (x - x / y * y).toInt = x.toInt % y.toInt := by
  have hr := j_rng x
  have a : x.toInt / y.toInt ≤ x.toInt := Int.ediv_le_self y.toInt h0
  have b : 0 ≤ x.toInt / y.toInt := Int.ediv_nonneg h0 (by omega)
  have h2 : (x / y).toInt = x.toInt / y.toInt := by
    rw [Int64.toInt_div, Int.tdiv_eq_ediv_of_nonneg h0]; exact j_bm (by omega)
  have d : x.toInt / y.toInt * y.toInt ≤ x.toInt := Int.ediv_mul_le _ (by omega)
  have c : 0 ≤ x.toInt / y.toInt * y.toInt := Int.mul_nonneg b (by omega)
  have h3 : (x / y * y).toInt = x.toInt / y.toInt * y.toInt := by rw [j_mul (by rw [h2]; omega), h2]
  have e := Int.emod_def x.toInt y.toInt
  rw [Int.mul_comm] at e
  rw [j_sub (by rw [h3]; omega), h3, e]
theorem j_z : (0 : Int64).toInt = 0 := rfl
/-- what all that divides both divides -/
def Gd (g x y : Int64) : Prop := 0 ≤ x.toInt ∧ 0 ≤ y.toInt ∧ ¬ (x.toInt = 0 ∧ y.toInt = 0) ∧ g.toInt = Int.gcd x.toInt y.toInt
theorem g_md (X Y : Nat) : Int.gcd (X : Int) Y = Int.gcd (Y : Int) ((X : Int) % (Y : Int)) := by
  show Nat.gcd X Y = Nat.gcd Y (X % Y)
  exact (Nat.gcd_comm X Y).trans ((Nat.gcd_rec Y X).trans (Nat.gcd_comm _ _))
theorem Gd.step (h : Gd g x y) (hy : 0 < y.toInt) : Gd g y (x - x / y * y) ∧ (x - x / y * y).toInt < y.toInt := by
  obtain ⟨h1, h2, h3, h4⟩ := h
  have e := j_md h1 hy
  refine ⟨⟨h2, ?_, fun q => by omega, ?_⟩, ?_⟩
  · rw [e]; exact Int.emod_nonneg _ (by omega)
  · have g1 := g_md x.toInt.toNat y.toInt.toNat
    rw [Int.toNat_of_nonneg h1, Int.toNat_of_nonneg h2] at g1
    rw [h4, e, g1]
  · rw [e]; exact Int.emod_lt_of_pos _ hy
theorem Gd.fin (h : Gd g x y) (hy : ¬ 0 < y.toInt) : x = g ∧ 0 < x.toInt := by
  obtain ⟨h1, h2, h3, h4⟩ := h
  have e : y.toInt = 0 := by omega
  rw [e, Int.gcd_zero_right] at h4
  refine ⟨?_, by omega⟩
  rw [← Int64.toInt_inj, h4]; omega
def frR (part whole g : Int64) (x4 : Int32) : Int64 := if x4 = 0 then part / g else whole / g
/-- a step halves the product -/
theorem Gd.half {m : Nat} (h : Gd g x y) (hy : 0 < y.toInt) (hm : x.toInt * y.toInt < 2 ^ m) : (y.toInt ≤ x.toInt → 0 < m ∧ y.toInt * (x - x / y * y).toInt < 2 ^ (m - 1)) ∧ (¬ y.toInt ≤ x.toInt → y.toInt * (x - x / y * y).toInt < 2 ^ m) := by
  obtain ⟨h1, h2, h3, h4⟩ := h
  rw [j_md h1 hy]
  refine ⟨fun hle => ?_, fun hle => ?_⟩
  · have x0 : 0 < x.toInt := by omega
    have p0 : 0 < x.toInt * y.toInt := Int.mul_pos x0 hy
    obtain ⟨m, rfl⟩ : ∃ q, m = q + 1 := by
      cases m with
      | zero => have e : (2 : Int) ^ 0 = 1 := rfl
                rw [e] at hm; omega
      | succ m => exact ⟨m, rfl⟩
    refine ⟨by omega, ?_⟩
    rw [Nat.add_sub_cancel]
    rw [Int.pow_succ] at hm
    have e := Int.emod_add_mul_ediv x.toInt y.toInt
    have q1 : 1 ≤ x.toInt / y.toInt := by
      have := Int.ediv_le_ediv hy hle
      rw [Int.ediv_self (by omega)] at this
      exact this
    have q2 : y.toInt * 1 ≤ y.toInt * (x.toInt / y.toInt) := Int.mul_le_mul_of_nonneg_left q1 (by omega)
    have q3 : x.toInt % y.toInt < y.toInt := Int.emod_lt_of_pos _ hy
    have q4 : 2 * (x.toInt % y.toInt) < x.toInt := by omega
    have q5 : y.toInt * (2 * (x.toInt % y.toInt)) < y.toInt * x.toInt := Int.mul_lt_mul_of_pos_left q4 hy
    have q6 : y.toInt * (2 * (x.toInt % y.toInt)) = 2 * (y.toInt * (x.toInt % y.toInt)) := Int.mul_left_comm _ _ _
    have q7 : y.toInt * x.toInt = x.toInt * y.toInt := Int.mul_comm _ _
    omega
  · rw [Int.emod_eq_of_lt h1 (by omega), Int.mul_comm]; exact hm
/-- by the class -/
theorem euX {part whole : Int64} (hq : Q (some (.long (frR part whole g x4))) ι) : ∀ (n i m : Nat) (x y : Int64) (x9 : Int32) (w : Value), Gd g x y → x9.toInt = i → x.toInt * y.toInt < 2 ^ m → (y.toInt ≤ x.toInt → i + m ≤ 100) → (¬ y.toInt ≤ x.toInt → i + m < 100) → PC xl n 126 9 [(0, .long part), (2, .long whole), (4, .int x4), (5, .long x), (7, .long y), (9, .int x9), (10, w)] [] ι Q
  | 0, _, _, _, _, _, _, _, _, _, _, _ => PC.zero
  | n + 1, i, m, x, y, x9, w, hg, h9, hb, hi, hj => by
    have fin : ¬ 0 < y.toInt → ((0 < lg_cmp x 0 → ((¬ x4 = 0 → (¬ x = 0 → Q (some (.long (whole / x))) ι)) ∧ (x4 = 0 → (¬ x = 0 → Q (some (.long (part / x))) ι)))) ∧ (¬ 0 < lg_cmp x 0 → Q (some (.long (-1))) ι)) := fun hy => by
      obtain ⟨e, e2⟩ := hg.fin hy
      subst e
      refine ⟨fun _ => ⟨fun q _ => ?_, fun q _ => ?_⟩, fun q => ?_⟩
      · unfold frR at hq; rw [if_neg q] at hq; exact hq
      · unfold frR at hq; rw [if_pos q] at hq; exact hq
      · rw [lg_cmp_gt, Int64.lt_iff_toInt_lt, j_z] at q; omega
    have c100 : (100 : Int32).toInt = 100 := rfl
    refine t_126_9 ⟨fun c => fin (fun hy => ?_), fun c => ⟨fun c2 => fin ?_, fun c2 c3 => ?_⟩⟩
    · rw [i_lt, h9, c100] at c
      have hh := hg.half hy hb
      by_cases e : y.toInt ≤ x.toInt
      · have := hi e; have := (hh.1 e).1; omega
      · have := hj e; omega
    · rw [lg_cmp_gt, Int64.lt_iff_toInt_lt, j_z] at c2; exact c2
    · rw [lg_cmp_gt, Int64.lt_iff_toInt_lt, j_z] at c2
      obtain ⟨g1, g2⟩ := hg.step c2
      have hh := hg.half c2 hb
      rw [i_lt, h9, c100] at c
      have e9 : (x9 + 1).toInt = ((i + 1 : Nat) : Int) := i_s h9 (by omega)
      by_cases e : y.toInt ≤ x.toInt
      · have h1 := hi e
        have h2 := hh.1 e
        exact euX hq n (i + 1) (m - 1) y _ (x9 + 1) _ g1 e9 h2.2 (fun _ => by omega) (fun q => by omega)
      · have h1 := hj e
        exact euX hq n (i + 1) m y _ (x9 + 1) _ g1 e9 (hh.2 e) (fun _ => by omega) (fun q => by omega)
theorem ofFr_spec {part whole : Int64} (hg : Gd g whole part) (hw : whole.toInt < 2 ^ 30) (hp : part.toInt < 2 ^ 60) (hq : Q (some (.long (frR part whole g x4))) ι) : PC xl n 126 0 [(0, .long part), (2, .long whole), (4, .int x4)] [] ι Q := by
  refine (t_126_0 (euX hq n 0 90 whole part 0 .null hg rfl ?_ (fun _ => by omega) (fun _ => by omega))).weak
  have e1 : (2 : Int) ^ 30 = 1073741824 := rfl
  have e2 : (2 : Int) ^ 60 = 1152921504606846976 := rfl
  have e3 : (2 : Int) ^ 90 = 1073741824 * 1152921504606846976 := rfl
  rw [e1] at hw
  rw [e2] at hp
  rw [e3]
  have a1 : whole.toInt * part.toInt ≤ 1073741824 * part.toInt := Int.mul_le_mul_of_nonneg_right (by omega) hg.2.1
  omega
/-- by the model -/
theorem coL (hq : Q (some (.long g)) ι) : ∀ (n : Nat) (a b x y : Int64) (w : Value), Gd g x y → PC xl n 227 6 [(0, .long a), (2, .long b), (4, .long x), (6, .long y), (8, w)] [] ι Q
  | 0, _, _, _, _, _, _ => PC.zero
  | n + 1, a, b, x, y, w, hg => by
    refine t_227_6 ⟨fun c => ?_, fun c c3 => ?_⟩
    · rw [lg_cmp_eq] at c
      have := (hg.fin (by rw [c, j_z]; omega)).1
      rw [this]; exact hq
    · rw [lg_cmp_eq] at c
      have hy : 0 < y.toInt := by
        have h2 := hg.2.1
        have : ¬ y.toInt = 0 := fun e => c (by rw [← Int64.toInt_inj, e]; rfl)
        omega
      exact coL hq n a b y _ _ (hg.step hy).1
theorem told_spec {part whole : Int64} (hg : Gd g whole part) (hq : Q (some (.long (frR part whole g x4))) ι) : PC xl n 226 0 [(0, .long part), (2, .long whole), (4, .int x4)] [] ι Q := by
  refine (t_226_0 ((t_227_0 (coL (g := g) ?_ n _ _ _ _ _ hg)).weak)).weak
  intro r e; cases e
  unfold frR at hq
  refine ⟨fun c _ => ?_, fun c _ => ?_⟩
  · rw [if_neg c] at hq; exact hq
  · rw [if_pos c] at hq; exact hq
theorem Gd.mk {part whole : Int64} (hw : 0 < whole.toInt) (hp : 0 ≤ part.toInt) : Gd (Int64.ofInt (Int.gcd whole.toInt part.toInt)) whole part := by
  refine ⟨by omega, hp, fun q => by omega, ?_⟩
  have h1 := Int.gcd_le_left (b := part.toInt) hw
  have h2 := j_rng whole
  rw [Int64.toInt_ofInt]
  exact j_bm (by omega)
end Eucl
end
section
/-! ODDS, III: by the class -/
/-- ACTS that come to be, in turn -/
def cq (nd : Nat) (p : Nat → Int32) (g : Nat → Int32) (b : Nat → Bool) : Nat → Nat → Int32
  | 0 => g
  | m + 1 => if b m = true then stp nd (-4) 0 (cq nd p g b m) (p m) else cq nd p g b m
def ck (nd : Nat) (p : Nat → Int32) (g : Nat → Int32) (b : Nat → Bool) : Nat → Int32
  | 0 => 0
  | m + 1 => if b m = true then ck nd p g b m + usS (cq nd p g b m) (p m) else ck nd p g b m
def cOdB (p : Nat → Int32) (ch i : Nat) : Bool := if skA p i then true else ch.testBit (vsN p i)
/-- the odds, by ten to the power of VISITS -/
def wX (x : Int32) (ch : Nat) : Nat → Int64
  | 0 => 1
  | v + 1 => wX x ch v * (if ch.testBit v = true then x.toInt64 else (10 - x).toInt64)
def tenX : Nat → Int64
  | 0 => 1
  | v + 1 => tenX v * 10
def b8B : Bool := (List.range 256).all (fun m => (List.range 8).all (fun i => decide (((Int32.ofNat m >>> (Int32.ofNat i &&& 31)) &&& 1) = 1) == m.testBit i))
set_option maxRecDepth 100000 in
theorem b8B_ok : b8B = true := by decide +kernel
section OddX
variable {xl : List Int32} {n : Nat} {ι ι0 : IS} {Q : Option Value → IS → Prop} {x0 x1 x2 x3 x4 x5 x : Int32} {d nd nv m ch v i c : Nat} {f g p : Nat → Int32} {b b' : Nat → Bool}
theorem p10 (hv : v ≤ 8) : 0 < (10 : Int) ^ v ∧ (10 : Int) ^ v ≤ 10 ^ 8 := by
  have : ∀ v, v < 9 → 0 < (10 : Int) ^ v ∧ (10 : Int) ^ v ≤ 10 ^ 8 := by decide
  exact this v (by omega)
theorem b8_ok (hm : m < 256) (hi : i < 8) : (((Int32.ofNat m >>> (Int32.ofNat i &&& 31)) &&& 1) = 1) ↔ m.testBit i = true := by
  have h := b8B_ok
  unfold b8B at h
  have h1 := List.all_eq_true.mp (List.all_eq_true.mp h m (List.mem_range.mpr hm)) i (List.mem_range.mpr hi)
  rw [beq_iff_eq] at h1
  rw [← h1, decide_eq_true_eq]
theorem cq_cg : ∀ m, (∀ i, i < m → b i = b' i) → cq nd p g b m = cq nd p g b' m ∧ ck nd p g b m = ck nd p g b' m
  | 0, _ => ⟨rfl, rfl⟩
  | m + 1, h => by
    have ih := cq_cg m (fun i hi => h i (by omega))
    constructor
    · simp only [cq]; rw [ih.1, h m (by omega)]
    · simp only [ck]; rw [ih.1, ih.2, h m (by omega)]
theorem WF.cqK (hw : WF g) (h4 : nv ≤ 4) (h5 : nd ≤ 4) : ∀ m, (∀ i, i < m → VA nv nd (p i)) → WF (cq nd p g b m)
  | 0, _ => hw
  | m + 1, hp => by
    have ih := WF.cqK hw h4 h5 m (fun i hi => hp i (by omega))
    simp only [cq]
    split
    · exact ih.stK (hp m (by omega)) h4 h5 no4
    · exact ih
theorem cq_pt (hw : WF g) (h4 : nv ≤ 4) (h5 : nd ≤ 4) : ∀ m, (∀ i, i < m → VA nv nd (p i)) → ptF g nv - ptF (cq nd p g b m) nv = ck nd p g b m
  | 0, _ => by show ptF g nv - ptF g nv = 0; rw [Int32.sub_self]
  | m + 1, hp => by
    have ih := cq_pt hw h4 h5 m (fun i hi => hp i (by omega))
    simp only [cq, ck]
    split
    · rw [st_pt (WF.cqK hw h4 h5 m (fun i hi => hp i (by omega))) (hp m (by omega)) h4 h5, ← ih, Int32.sub_eq_add_neg, Int32.sub_eq_add_neg, Int32.sub_eq_add_neg, Int32.neg_add, Int32.sub_eq_add_neg, Int32.neg_neg, Int32.add_assoc]
    · exact ih
theorem us_b (hw : WF f) (h : VA nv nd x) (h4 : nv ≤ 4) (h5 : nd ≤ 4) : 0 ≤ (usS f x).toInt ∧ (usS f x).toInt ≤ 6 := by
  unfold usS
  split
  · decide
  split
  · rename_i h9 _
    have hk := h.2
    have hd : adF x < 4 := by unfold knP at hk; unfold adF; omega
    have w := (hw.1 (adF x) hd).1
    have e3 : (f (16 + 9 * adF x) / 3).toInt = (f (16 + 9 * adF x)).toInt / 3 := i_dv rfl rfl (by omega) (by omega)
    have e1 : (1 + f (16 + 9 * adF x) / 3).toInt = 1 + (f (16 + 9 * adF x)).toInt / 3 := by rw [i_add (by rw [n1, e3]; omega), n1, e3]
    have t2 : (2 : Int32).toInt = 2 := rfl
    unfold usF
    split
    · decide
    split
    · rw [i_mul (by rw [t2, e1]; omega), t2, e1]; omega
    · rw [e1]; omega
  · decide
theorem ck_b (hw : WF g) (h4 : nv ≤ 4) (h5 : nd ≤ 4) : ∀ m, m ≤ 8 → (∀ i, i < m → VA nv nd (p i)) → 0 ≤ (ck nd p g b m).toInt ∧ (ck nd p g b m).toInt ≤ 6 * m
  | 0, _, _ => by show 0 ≤ (0 : Int32).toInt ∧ (0 : Int32).toInt ≤ 6 * ((0 : Nat) : Int); decide
  | m + 1, hm, hp => by
    have ih := ck_b hw h4 h5 m (by omega) (fun i hi => hp i (by omega))
    have hu := us_b (WF.cqK (b := b) hw h4 h5 m (fun i hi => hp i (by omega))) (hp m (by omega)) h4 h5
    simp only [ck]
    split
    · rw [i_add (by omega)]; omega
    · omega
theorem w_b {ch : Nat} (h0 : 0 ≤ x.toInt) (h1 : x.toInt ≤ 10) : ∀ v, v ≤ 8 → 0 ≤ (wX x ch v).toInt ∧ (wX x ch v).toInt ≤ 10 ^ v
  | 0, _ => by show 0 ≤ (1 : Int64).toInt ∧ (1 : Int64).toInt ≤ 10 ^ 0; decide
  | v + 1, hv => by
    have ih := w_b (ch := ch) h0 h1 v (by omega)
    have t10 : (10 : Int32).toInt = 10 := rfl
    have hy : ∀ y : Int64, 0 ≤ y.toInt → y.toInt ≤ 10 → 0 ≤ (wX x ch v * y).toInt ∧ (wX x ch v * y).toInt ≤ 10 ^ (v + 1) := fun y a1 a2 => by
      have p1 : 0 ≤ (wX x ch v).toInt * y.toInt := Int.mul_nonneg ih.1 a1
      have p2 : (wX x ch v).toInt * y.toInt ≤ 10 ^ v * 10 := Int.mul_le_mul ih.2 a2 a1 (by omega)
      have p3 : (10 : Int) ^ v ≤ 10 ^ 8 := (p10 (by omega)).2
      have p4 : (10 : Int) ^ 8 = 100000000 := rfl
      rw [j_mul (by omega), Int.pow_succ]; exact ⟨p1, p2⟩
    rw [wX]
    split
    · exact hy _ (by rw [Int32.toInt_toInt64]; exact h0) (by rw [Int32.toInt_toInt64]; exact h1)
    · have e : (10 - x).toInt = 10 - x.toInt := by rw [i_sub (by rw [t10]; omega), t10]
      exact hy _ (by rw [Int32.toInt_toInt64, e]; omega) (by rw [Int32.toInt_toInt64, e]; omega)
theorem ten_v : ∀ v, v ≤ 8 → (tenX v).toInt = 10 ^ v
  | 0, _ => by decide
  | v + 1, hv => by
    have ih := ten_v v (by omega)
    have t10 : (10 : Int64).toInt = 10 := rfl
    have p3 : (10 : Int) ^ v ≤ 10 ^ 8 := (p10 (by omega)).2
    have p4 : (10 : Int) ^ 8 = 100000000 := rfl
    have p5 : 0 < (10 : Int) ^ v := (p10 (by omega)).1
    rw [tenX, j_mul (by rw [ih, t10]; omega), ih, t10, Int.pow_succ]
theorem weiXL (h0 : x0 = Int32.ofNat ch) (hch : ch < 256) (h1 : x1.toInt = v) (hv : v ≤ 8) (hq : Q (some (.long (wX x2 ch v))) ι) : ∀ (n i : Nat) (x5 : Int32), x5.toInt = i → i ≤ v → PC xl n 123 5 [(0, .int x0), (1, .int x1), (2, .int x2), (3, .long (wX x2 ch i)), (5, .int x5)] [] ι Q
  | 0, _, _, _, _ => PC.zero
  | n + 1, i, x5, h5, hi => by
    refine t_123_5 ⟨fun c => ?_, fun c => ?_⟩
    · rw [i_lt, h5, h1] at c
      have : i = v := by omega
      subst this; exact hq
    · rw [i_lt, h5, h1] at c
      have go := weiXL h0 hch h1 hv hq n (i + 1) (x5 + 1) (i_s h5 (by omega)) (by omega)
      rw [wX] at go
      rw [h0, i_on h5]
      rw [h0, i_on h5] at go
      refine ⟨fun q => ?_, fun q => ?_⟩
      · rw [if_neg (fun z => q ((b8_ok hch (by omega)).mpr z))] at go; exact go
      · rw [if_pos ((b8_ok hch (by omega)).mp q)] at go; exact go
theorem weiX_spec (h0 : x0 = Int32.ofNat ch) (hch : ch < 256) (h1 : x1.toInt = v) (hv : v ≤ 8) (hq : Q (some (.long (wX x2 ch v))) ι) : PC xl n 123 0 [(0, .int x0), (1, .int x1), (2, .int x2)] [] ι Q :=
  (t_123_0 (weiXL h0 hch h1 hv hq n 0 0 rfl (Nat.zero_le _))).weak
theorem tenXL (h0 : x0.toInt = v) (hv : v ≤ 8) (hq : Q (some (.long (tenX v))) ι) : ∀ (n i : Nat) (x3 : Int32), x3.toInt = i → i ≤ v → PC xl n 125 4 [(0, .int x0), (1, .long (tenX i)), (3, .int x3)] [] ι Q
  | 0, _, _, _, _ => PC.zero
  | n + 1, i, x3, h3, hi => by
    refine t_125_4 ⟨fun c => ?_, fun c => ?_⟩
    · rw [i_lt, h3, h0] at c
      have : i = v := by omega
      subst this; exact hq
    · rw [i_lt, h3, h0] at c
      exact tenXL h0 hv hq n (i + 1) (x3 + 1) (i_s h3 (by omega)) (by omega)
theorem tenX_spec (h0 : x0.toInt = v) (hv : v ≤ 8) (hq : Q (some (.long (tenX v))) ι) : PC xl n 125 0 [(0, .int x0)] [] ι Q :=
  (t_125_0 (tenXL h0 hv hq n 0 0 rfl (Nat.zero_le _))).weak
theorem va_sk2 (h : VA nv nd x) (h4 : nv ≤ 4) : (90 ≤ x.toInt ∧ x.toInt ≤ 92) ↔ 90 ≤ x.toInt := by
  have := h.2
  unfold knP at this
  omega
theorem vspL (h : HX nv nd f ι) (hq : ∀ r : Int32, r.toInt = (vsN (plF f) (cnF f) : Nat) → Q (some (.int r)) ι) : ∀ (n i : Nat) (x1 x2 : Int32), x1.toInt = (vsN (plF f) i : Nat) → x2.toInt = i → i ≤ cnF f → PC xl n 122 4 [(0, .ref 24), (1, .int x1), (2, .int x2)] [] ι Q
  | 0, _, _, _, _, _, _ => PC.zero
  | n + 1, i, x1, x2, h1, h2, hi => by
    have b8 := h.1.2.1.2.1
    have hcn : cnF f = (f 52).toInt.toNat := rfl
    have h4 := h.tw.1.1
    have vl := vs_le (p := plF f) i
    refine t_122_4 ?_
    rw [rf_24_1, h.1.2.1.1]
    refine ⟨fun c => ?_, fun c _ _ => ?_⟩
    · rw [i_lt, h2] at c
      have : i = cnF f := by omega
      subst this; exact hq x1 h1
    · rw [i_lt, h2] at c
      have pv := h.1.2.1.2.2 i (by omega)
      have va : VA nv nd (f (53 + i)) := pv.2
      rw [i_ixn h2, show (40 : Nat) = 24 + 16 from rfl, pv.1]
      refine sky_spec rfl (fun r hr => ?_)
      intro r2 e; cases e
      rw [va_sk2 va h4] at hr
      have e1 : vsN (plF f) (i + 1) = if skA (plF f) i then vsN (plF f) i else vsN (plF f) i + 1 := rfl
      refine ⟨fun z => vspL h hq n (i + 1) _ _ ?_ (i_s h2 (by omega)) (by omega), fun z => vspL h hq n (i + 1) _ _ ?_ (i_s h2 (by omega)) (by omega)⟩
      · rw [e1, if_neg (hr.mp z)]; exact i_s h1 (by omega)
      · have hs : skA (plF f) i := by false_or_by_contra; rename_i hh; exact z (hr.mpr hh)
        rw [e1, if_pos hs, Int32.add_zero]; exact h1
theorem vsp_spec (h : HX nv nd f ι) (hq : ∀ r : Int32, r.toInt = (vsN (plF f) (cnF f) : Nat) → Q (some (.int r)) ι) : PC xl n 122 0 [(0, .ref 24)] [] ι Q :=
  (t_122_0 (vspL h hq n 0 0 0 rfl rfl (Nat.zero_le _))).weak
/-- VISITS that are chosen come to be, in the trial -/
theorem choXL (h : HX nv nd f ι0) (hch : ch < 256) (hx1 : x1 = Int32.ofNat ch) (hq : ∀ ι', Sm 86 100 ι0 ι' → TW 86 nv nd (cq nd (plF f) f (cOdB (plF f) ch) (cnF f)) ι' → Q none ι') : ∀ (n m : Nat) (ι : IS) (x2 x3 : Int32) (w4 : Value), x2.toInt = (vsN (plF f) m : Nat) → x3.toInt = m → m ≤ cnF f → Sm 86 100 ι0 ι → ι 86 4 = -4 → TW 86 nv nd (cq nd (plF f) f (cOdB (plF f) ch) m) ι → PC xl n 124 18 [(0, .ref 0), (1, .int x1), (2, .int x2), (3, .int x3), (4, w4)] [] ι Q
  | 0, _, _, _, _, _, _, _, _, _, _, _ => PC.zero
  | n + 1, m, ι, x2, x3, w4, h2, h3, hm, hs, hb, hT => by
    have h4 := h.tw.1.1
    have h5 := h.tw.2.1.1
    have b8 := h.1.2.1.2.1
    have hcn : cnF f = (f 52).toInt.toNat := rfl
    have vl := vs_le (p := plF f) m
    have va : ∀ i, i < cnF f → VA nv nd (plF f i) := fun i hi => (h.1.2.1.2.2 i (by have hcn : cnF f = (f 52).toInt.toNat := rfl; omega)).2
    have hw := WF.cqK (b := cOdB (plF f) ch) h.2.2 h4 h5 m (fun i hi => va i (by omega))
    have e2 : ι 24 2 = f 52 := by rw [hs _ _ (by omega)]; exact h.1.2.1.1
    refine t_124_18 ?_
    rw [rf_0_2, rf_24_1, rf_0_5, e2]
    refine ⟨fun c => ?_, fun c _ _ => ?_⟩
    · rw [i_lt, h3] at c
      have : m = cnF f := by omega
      subst this; exact hq ι hs hT
    rw [i_lt, h3] at c
    have pv := h.1.2.1.2.2 m (by omega)
    have vm : VA nv nd (plF f m) := va m (by omega)
    rw [i_ixn h3, show ι 40 m = f (53 + m) by rw [hs _ _ (by omega)]; exact pv.1]
    refine sky_spec rfl (fun r hr => ?_)
    intro r2 e; cases e
    rw [va_sk2 vm h4] at hr
    have e1 : vsN (plF f) (m + 1) = if skA (plF f) m then vsN (plF f) m else vsN (plF f) m + 1 := rfl
    have ec : cq nd (plF f) f (cOdB (plF f) ch) (m + 1) = if cOdB (plF f) ch m = true then stp nd (-4) 0 (cq nd (plF f) f (cOdB (plF f) ch) m) (plF f m) else cq nd (plF f) f (cOdB (plF f) ch) m := rfl
    have i3 : (x3 + 1).toInt = ((m + 1 : Nat) : Int) := i_s h3 (by omega)
    refine ⟨fun z => ?_, fun z => ?_⟩
    · have hn : ¬ skA (plF f) m := hr.mp z
      have ecb : cOdB (plF f) ch m = ch.testBit (vsN (plF f) m) := by unfold cOdB; rw [if_neg hn]
      have i2 : (x2 + 1).toInt = (vsN (plF f) (m + 1) : Nat) := by rw [e1, if_neg hn]; exact i_s h2 (by omega)
      rw [hx1, i_on h2]
      have bk := b8_ok (m := ch) (i := vsN (plF f) m) hch (by omega)
      refine ⟨fun q => ?_, fun q => ?_⟩
      · have hf : ¬ cOdB (plF f) ch m = true := by rw [ecb]; exact fun y => q (bk.mpr y)
        have := choXL h hch hx1 hq n (m + 1) ι (x2 + 1) (x3 + 1) (.int (f (53 + m))) i2 i3 (by omega) hs hb (by rw [ec, if_neg hf]; exact hT)
        rw [hx1, i_on h2] at this; exact this
      · have hf : cOdB (plF f) ch m = true := by rw [ecb]; exact bk.mp q
        refine undX_spec (bo := -4) (lw := 0) (by decide) hT hw ⟨by rw [hb]; rfl, no4⟩ vm no4 (fun ι1 s1 j1 t1 r hr => ?_)
        intro r2 e; cases e
        have := choXL h hch hx1 hq n (m + 1) ι1 (x2 + 1) (x3 + 1) (.int (f (53 + m))) i2 i3 (by omega) (hs.trans s1) (by rw [j1]; exact hb) (by rw [ec, if_pos hf]; exact t1)
        rw [hx1, i_on h2] at this; exact this
    · have hk : skA (plF f) m := by false_or_by_contra; rename_i hh; exact z (hr.mpr hh)
      have k92 := (va_sk2 vm h4).mpr hk
      have ecb : cOdB (plF f) ch m = true := by unfold cOdB; rw [if_pos hk]
      refine weaX_spec (z := (plF f m).toInt) (by decide) hw hT rfl k92 (fun ι1 s1 j1 t1 => ?_)
      refine choXL h hch hx1 hq n (m + 1) ι1 x2 (x3 + 1) (.int (f (53 + m))) (by rw [e1, if_pos hk]; exact h2) i3 (by omega) (hs.trans s1) (by rw [j1]; exact hb) ?_
      rw [ec, if_pos ecb, stp, if_pos hk]; exact t1
theorem choX_spec (h : HX nv nd f ι) (hch : ch < 256) (hx1 : x1 = Int32.ofNat ch) (hq : ∀ ι', Sm 86 100 ι ι' → TW 86 nv nd (cq nd (plF f) f (cOdB (plF f) ch) (cnF f)) ι' → Q none ι') : PC xl n 124 0 [(0, .ref 0), (1, .int x1)] [] ι Q := by
  refine (t_124_0 ?_).weak
  rw [rf_0_5, rf_0_2']
  refine bcT_spec h (fun ι1 s1 h1 t1 b1 => ?_)
  exact choXL h hch hx1 hq n 0 ι1 0 0 .null rfl rfl (Nat.zero_le _) s1 b1 t1
/-- what luck and mean come to -/
def luS (nd : Nat) (f : Nat → Int32) (x : Int32) (d ch : Nat) : Int64 := if wrB (cq nd (plF f) f (cOdB (plF f) ch) (cnF f)) d = 0 then 0 else wX x ch (vsN (plF f) (cnF f))
def meS (nd : Nat) (f : Nat → Int32) (x : Int32) (ch : Nat) : Int64 := wX x ch (vsN (plF f) (cnF f)) * (ck nd (plF f) f (cOdB (plF f) ch) (cnF f)).toInt64
/-- in lowest terms -/
def frO (part whole : Int64) (x4 : Int32) : Int64 := frR part whole (Int64.ofInt (Int.gcd whole.toInt part.toInt)) x4
def luR (nd : Nat) (f : Nat → Int32) (x1 x2 x3 : Int32) : Int64 := if (0 ≤ x1.toInt ∧ x1.toInt ≤ 10) ∧ okD nd x2 ∧ (0 ≤ x3.toInt ∧ x3.toInt ≤ 1) then frO (sm64 (luS nd f x1 x2.toInt.toNat) (List.range (2 ^ vsN (plF f) (cnF f)))) (tenX (vsN (plF f) (cnF f))) x3 else -1
def meR (nd : Nat) (f : Nat → Int32) (x1 x2 : Int32) : Int64 := if (0 ≤ x1.toInt ∧ x1.toInt ≤ 10) ∧ (0 ≤ x2.toInt ∧ x2.toInt ≤ 1) then frO (sm64 (meS nd f x1) (List.range (2 ^ vsN (plF f) (cnF f)))) (tenX (vsN (plF f) (cnF f))) x2 else -1
end OddX
end
