/-! ODDS, II: longs; in lowest terms; by class and model -/
section Eucl
variable {xl : List Int32} {n : Nat} {ι κ : IS} {Q : Option Value → IS → Prop} {x y g : Int64} {x4 : Int32}
theorem j_rng (x : Int64) : -9223372036854775808 ≤ x.toInt ∧ x.toInt ≤ 9223372036854775807 := ⟨Int64.le_toInt x, by have := Int64.toInt_lt x; omega⟩
theorem j_bm {z : Int} (h : -9223372036854775808 ≤ z ∧ z ≤ 9223372036854775807) : z.bmod (2 ^ 64) = z := Int.bmod_eq_of_le (by omega) (by omega)
theorem j_add (h : -9223372036854775808 ≤ x.toInt + y.toInt ∧ x.toInt + y.toInt ≤ 9223372036854775807) : (x + y).toInt = x.toInt + y.toInt := by
  rw [Int64.toInt_add]; exact j_bm h
theorem j_sub (h : -9223372036854775808 ≤ x.toInt - y.toInt ∧ x.toInt - y.toInt ≤ 9223372036854775807) : (x - y).toInt = x.toInt - y.toInt := by
  rw [Int64.toInt_sub]; exact j_bm h
theorem j_mul (h : -9223372036854775808 ≤ x.toInt * y.toInt ∧ x.toInt * y.toInt ≤ 9223372036854775807) : (x * y).toInt = x.toInt * y.toInt := by
  rw [Int64.toInt_mul]; exact j_bm h
theorem j_md (h0 : 0 ≤ x.toInt) (h1 : 0 < y.toInt) : (x - x / y * y).toInt = x.toInt % y.toInt := by
  have hr := j_rng x
  have a : x.toInt / y.toInt ≤ x.toInt := Int.ediv_le_self y.toInt h0
  have b : 0 ≤ x.toInt / y.toInt := Int.ediv_nonneg h0 (by omega)
  have h2 : (x / y).toInt = x.toInt / y.toInt := by
    rw [Int64.toInt_div, Int.tdiv_eq_ediv_of_nonneg h0]; exact j_bm (by omega)
  have d : x.toInt / y.toInt * y.toInt ≤ x.toInt := Int.ediv_mul_le _ (by omega)
  have c : 0 ≤ x.toInt / y.toInt * y.toInt := Int.mul_nonneg b (by omega)
  have h3 : (x / y * y).toInt = x.toInt / y.toInt * y.toInt := by rw [j_mul (by rw [h2]; omega), h2]
  have e := Int.emod_def x.toInt y.toInt
  rw [Int.mul_comm] at e
  rw [j_sub (by rw [h3]; omega), h3, e]
theorem j_z : (0 : Int64).toInt = 0 := rfl
/-- what all that divides both divides -/
def Gd (g x y : Int64) : Prop := 0 ≤ x.toInt ∧ 0 ≤ y.toInt ∧ ¬ (x.toInt = 0 ∧ y.toInt = 0) ∧ g.toInt = Int.gcd x.toInt y.toInt
theorem g_md (X Y : Nat) : Int.gcd (X : Int) Y = Int.gcd (Y : Int) ((X : Int) % (Y : Int)) := by
  show Nat.gcd X Y = Nat.gcd Y (X % Y)
  exact (Nat.gcd_comm X Y).trans ((Nat.gcd_rec Y X).trans (Nat.gcd_comm _ _))
theorem Gd.step (h : Gd g x y) (hy : 0 < y.toInt) : Gd g y (x - x / y * y) ∧ (x - x / y * y).toInt < y.toInt := by
  obtain ⟨h1, h2, h3, h4⟩ := h
  have e := j_md h1 hy
  refine ⟨⟨h2, ?_, fun q => by omega, ?_⟩, ?_⟩
  · rw [e]; exact Int.emod_nonneg _ (by omega)
  · have g1 := g_md x.toInt.toNat y.toInt.toNat
    rw [Int.toNat_of_nonneg h1, Int.toNat_of_nonneg h2] at g1
    rw [h4, e, g1]
  · rw [e]; exact Int.emod_lt_of_pos _ hy
theorem Gd.fin (h : Gd g x y) (hy : ¬ 0 < y.toInt) : x = g ∧ 0 < x.toInt := by
  obtain ⟨h1, h2, h3, h4⟩ := h
  have e : y.toInt = 0 := by omega
  rw [e, Int.gcd_zero_right] at h4
  refine ⟨?_, by omega⟩
  rw [← Int64.toInt_inj, h4]; omega
def frR (part whole g : Int64) (x4 : Int32) : Int64 := if x4 = 0 then part / g else whole / g
/-- a step halves the product -/
theorem Gd.half {m : Nat} (h : Gd g x y) (hy : 0 < y.toInt) (hm : x.toInt * y.toInt < 2 ^ m) : (y.toInt ≤ x.toInt → 0 < m ∧ y.toInt * (x - x / y * y).toInt < 2 ^ (m - 1)) ∧ (¬ y.toInt ≤ x.toInt → y.toInt * (x - x / y * y).toInt < 2 ^ m) := by
  obtain ⟨h1, h2, h3, h4⟩ := h
  rw [j_md h1 hy]
  refine ⟨fun hle => ?_, fun hle => ?_⟩
  · have x0 : 0 < x.toInt := by omega
    have p0 : 0 < x.toInt * y.toInt := Int.mul_pos x0 hy
    obtain ⟨m, rfl⟩ : ∃ q, m = q + 1 := by
      cases m with
      | zero => have e : (2 : Int) ^ 0 = 1 := rfl
                rw [e] at hm; omega
      | succ m => exact ⟨m, rfl⟩
    refine ⟨by omega, ?_⟩
    rw [Nat.add_sub_cancel]
    rw [Int.pow_succ] at hm
    have e := Int.emod_add_mul_ediv x.toInt y.toInt
    have q1 : 1 ≤ x.toInt / y.toInt := by
      have := Int.ediv_le_ediv hy hle
      rw [Int.ediv_self (by omega)] at this
      exact this
    have q2 : y.toInt * 1 ≤ y.toInt * (x.toInt / y.toInt) := Int.mul_le_mul_of_nonneg_left q1 (by omega)
    have q3 : x.toInt % y.toInt < y.toInt := Int.emod_lt_of_pos _ hy
    have q4 : 2 * (x.toInt % y.toInt) < x.toInt := by omega
    have q5 : y.toInt * (2 * (x.toInt % y.toInt)) < y.toInt * x.toInt := Int.mul_lt_mul_of_pos_left q4 hy
    have q6 : y.toInt * (2 * (x.toInt % y.toInt)) = 2 * (y.toInt * (x.toInt % y.toInt)) := Int.mul_left_comm _ _ _
    have q7 : y.toInt * x.toInt = x.toInt * y.toInt := Int.mul_comm _ _
    omega
  · rw [Int.emod_eq_of_lt h1 (by omega), Int.mul_comm]; exact hm
/-- by the class -/
theorem euX {part whole : Int64} (hq : Q (some (.long (frR part whole g x4))) ι) : ∀ (n i m : Nat) (x y : Int64) (x9 : Int32) (w : Value), Gd g x y → x9.toInt = i → x.toInt * y.toInt < 2 ^ m → (y.toInt ≤ x.toInt → i + m ≤ 100) → (¬ y.toInt ≤ x.toInt → i + m < 100) → PC xl n 126 9 [(0, .long part), (2, .long whole), (4, .int x4), (5, .long x), (7, .long y), (9, .int x9), (10, w)] [] ι Q
  | 0, _, _, _, _, _, _, _, _, _, _, _ => PC.zero
  | n + 1, i, m, x, y, x9, w, hg, h9, hb, hi, hj => by
    have fin : ¬ 0 < y.toInt → ((0 < lg_cmp x 0 → ((¬ x4 = 0 → (¬ x = 0 → Q (some (.long (whole / x))) ι)) ∧ (x4 = 0 → (¬ x = 0 → Q (some (.long (part / x))) ι)))) ∧ (¬ 0 < lg_cmp x 0 → Q (some (.long (-1))) ι)) := fun hy => by
      obtain ⟨e, e2⟩ := hg.fin hy
      subst e
      refine ⟨fun _ => ⟨fun q _ => ?_, fun q _ => ?_⟩, fun q => ?_⟩
      · unfold frR at hq; rw [if_neg q] at hq; exact hq
      · unfold frR at hq; rw [if_pos q] at hq; exact hq
      · rw [lg_cmp_gt, Int64.lt_iff_toInt_lt, j_z] at q; omega
    have c100 : (100 : Int32).toInt = 100 := rfl
    refine t_126_9 ⟨fun c => fin (fun hy => ?_), fun c => ⟨fun c2 => fin ?_, fun c2 c3 => ?_⟩⟩
    · rw [i_lt, h9, c100] at c
      have hh := hg.half hy hb
      by_cases e : y.toInt ≤ x.toInt
      · have := hi e; have := (hh.1 e).1; omega
      · have := hj e; omega
    · rw [lg_cmp_gt, Int64.lt_iff_toInt_lt, j_z] at c2; exact c2
    · rw [lg_cmp_gt, Int64.lt_iff_toInt_lt, j_z] at c2
      obtain ⟨g1, g2⟩ := hg.step c2
      have hh := hg.half c2 hb
      rw [i_lt, h9, c100] at c
      have e9 : (x9 + 1).toInt = ((i + 1 : Nat) : Int) := i_s h9 (by omega)
      by_cases e : y.toInt ≤ x.toInt
      · have h1 := hi e
        have h2 := hh.1 e
        exact euX hq n (i + 1) (m - 1) y _ (x9 + 1) _ g1 e9 h2.2 (fun _ => by omega) (fun q => by omega)
      · have h1 := hj e
        exact euX hq n (i + 1) m y _ (x9 + 1) _ g1 e9 (hh.2 e) (fun _ => by omega) (fun q => by omega)
theorem ofFr_spec {part whole : Int64} (hg : Gd g whole part) (hw : whole.toInt < 2 ^ 30) (hp : part.toInt < 2 ^ 60) (hq : Q (some (.long (frR part whole g x4))) ι) : PC xl n 126 0 [(0, .long part), (2, .long whole), (4, .int x4)] [] ι Q := by
  refine (t_126_0 (euX hq n 0 90 whole part 0 .null hg rfl ?_ (fun _ => by omega) (fun _ => by omega))).weak
  have e1 : (2 : Int) ^ 30 = 1073741824 := rfl
  have e2 : (2 : Int) ^ 60 = 1152921504606846976 := rfl
  have e3 : (2 : Int) ^ 90 = 1073741824 * 1152921504606846976 := rfl
  rw [e1] at hw
  rw [e2] at hp
  rw [e3]
  have a1 : whole.toInt * part.toInt ≤ 1073741824 * part.toInt := Int.mul_le_mul_of_nonneg_right (by omega) hg.2.1
  omega
/-- by the model -/
theorem coL (hq : Q (some (.long g)) ι) : ∀ (n : Nat) (a b x y : Int64) (w : Value), Gd g x y → PC xl n 227 6 [(0, .long a), (2, .long b), (4, .long x), (6, .long y), (8, w)] [] ι Q
  | 0, _, _, _, _, _, _ => PC.zero
  | n + 1, a, b, x, y, w, hg => by
    refine t_227_6 ⟨fun c => ?_, fun c c3 => ?_⟩
    · rw [lg_cmp_eq] at c
      have := (hg.fin (by rw [c, j_z]; omega)).1
      rw [this]; exact hq
    · rw [lg_cmp_eq] at c
      have hy : 0 < y.toInt := by
        have h2 := hg.2.1
        have : ¬ y.toInt = 0 := fun e => c (by rw [← Int64.toInt_inj, e]; rfl)
        omega
      exact coL hq n a b y _ _ (hg.step hy).1
theorem told_spec {part whole : Int64} (hg : Gd g whole part) (hq : Q (some (.long (frR part whole g x4))) ι) : PC xl n 226 0 [(0, .long part), (2, .long whole), (4, .int x4)] [] ι Q := by
  refine (t_226_0 ((t_227_0 (coL (g := g) ?_ n _ _ _ _ _ hg)).weak)).weak
  intro r e; cases e
  unfold frR at hq
  refine ⟨fun c _ => ?_, fun c _ => ?_⟩
  · rw [if_neg c] at hq; exact hq
  · rw [if_pos c] at hq; exact hq
theorem Gd.mk {part whole : Int64} (hw : 0 < whole.toInt) (hp : 0 ≤ part.toInt) : Gd (Int64.ofInt (Int.gcd whole.toInt part.toInt)) whole part := by
  refine ⟨by omega, hp, fun q => by omega, ?_⟩
  have h1 := Int.gcd_le_left (b := part.toInt) hw
  have h2 := j_rng whole
  rw [Int64.toInt_ofInt]
  exact j_bm (by omega)
end Eucl
