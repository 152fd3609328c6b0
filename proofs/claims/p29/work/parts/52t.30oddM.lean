/-! ODDS, V: by the model -/
def nlP (j : Nat) : Bool := [148, 168, 169, 170, 172, 173, 174, 175, 178, 179, 181, 184, 186, 187, 188, 191, 192, 203, 208, 226, 227].contains j
set_option maxRecDepth 100000 in
theorem nlP_ok : nlChk nlP = true := by decide +kernel
def wM (p : Nat → Int32) (x : Int32) (s : Nat) : Nat → Int64
  | 0 => 1
  | i + 1 => wM p x s i * (if skA p i then 1 else if s.testBit i = true then x.toInt64 else (10 - x).toInt64)
def orB : Bool := (List.range 256).all (fun m => (List.range 8).all (fun i => !(decide (m < 2 ^ i)) || decide (Int32.ofNat m ||| (1 <<< (Int32.ofNat i &&& 31)) = Int32.ofNat (2 ^ i + m))))
set_option maxRecDepth 100000 in
theorem orB_ok : orB = true := by decide +kernel
/-- the sums' terms -/
def luH (nd c : Nat) (f : Nat → Int32) (x : Int32) (d s : Nat) : Int64 := if wrB (cq nd (plF f) f (fun i => s.testBit i) c) d = 0 then 0 else wM (plF f) x s c
def meH (nd c : Nat) (f : Nat → Int32) (x : Int32) (s : Nat) : Int64 := wM (plF f) x s c * (ck nd (plF f) f (fun i => s.testBit i) c).toInt64
def MRJ (f : Nat → Int32) (r : Int64) (κ : IS) (v : Option Value) (κ1 : IS) : Prop := v = some (.long r) ∧ MG κ κ1 ∧ rO 0 (κ1 130) = f
section OddM
variable {xl : List Int32} {n : Nat} {ι κ κ0 κ1 : IS} {l l0 : Nat → Int64} {Q : Option Value → IS → (Nat → Int64) → Prop} {x1 x2 x3 x4 x5 x : Int32} {d nd nv c m s t i : Nat} {f p : Nat → Int32}
theorem PL.sub {mi pc : Nat} {lv : LVs} {st : List Value} (hp : nlP mi = true) (h : PC xl n mi pc lv st ι (fun v κ => Q v κ l)) : PL xl n mi pc lv st ι l Q := (PL.ofPC nlP_ok hp h).imp (fun _ _ _ q => q.2 ▸ q.1)
theorem or_ok (hm : m < 2 ^ i) (hi : i < 8) : Int32.ofNat m ||| (1 <<< (Int32.ofNat i &&& 31)) = Int32.ofNat (2 ^ i + m) := by
  have h := orB_ok
  unfold orB at h
  have p8 := p2_8 (V := i) (by omega)
  have h1 := List.all_eq_true.mp (List.all_eq_true.mp h m (List.mem_range.mpr (by omega))) i (List.mem_range.mpr hi)
  simpa [hm] using h1
theorem sk_bit : ∀ c i, i < c → ((skN p c).testBit i = true ↔ skA p i)
  | 0, _, h => absurd h (by omega)
  | c + 1, i, h => by
    have lt := sk_lt (p := p) c
    rw [skN]
    by_cases e : i = c
    · subst e
      split
      · rename_i hs
        rw [Nat.testBit_two_pow_add_eq, Nat.testBit_lt_two_pow lt]
        exact ⟨fun _ => hs, fun _ => rfl⟩
      · rename_i hs
        rw [Nat.testBit_lt_two_pow lt]
        exact ⟨fun q => (by cases q), fun q => absurd q hs⟩
    · have ih := sk_bit c i (by omega)
      split
      · rw [Nat.testBit_two_pow_add_gt (by omega)]; exact ih
      · exact ih
theorem pB_iff : ∀ c, (pB p s c = true ↔ ∀ i, i < c → skA p i → s.testBit i = true)
  | 0 => ⟨fun _ i hi => absurd hi (by omega), fun _ => rfl⟩
  | c + 1 => by
    have ih := pB_iff c
    rw [pB]
    by_cases hs : skA p c
    · rw [if_pos hs, Bool.and_eq_true, ih]
      refine ⟨fun q i hi hk => ?_, fun q => ⟨fun i hi hk => q i (by omega) hk, q c (by omega) hs⟩⟩
      by_cases e : i = c
      · subst e; exact q.2
      · exact q.1 i (by omega) hk
    · rw [if_neg hs, ih]
      refine ⟨fun q i hi hk => ?_, fun q i hi hk => q i (by omega) hk⟩
      by_cases e : i = c
      · subst e; exact absurd hk hs
      · exact q i (by omega) hk
theorem and_iff : s &&& t = t ↔ ∀ i, t.testBit i = true → s.testBit i = true := by
  constructor
  · intro h i hi
    rw [← h, Nat.testBit_and, Bool.and_eq_true] at hi
    exact hi.1
  · intro h
    apply Nat.eq_of_testBit_eq
    intro i
    rw [Nat.testBit_and]
    cases e : t.testBit i with
    | false => rw [Bool.and_false]
    | true => rw [h i e]; rfl
theorem and_on (s t : Nat) : Int32.ofNat s &&& Int32.ofNat t = Int32.ofNat (s &&& t) := by
  apply Int32.toBitVec_inj.mp
  rw [Int32.toBitVec_and]
  apply BitVec.eq_of_toNat_eq
  rw [BitVec.toNat_and]
  show s % 2 ^ 32 &&& t % 2 ^ 32 = (s &&& t) % 2 ^ 32
  rw [Nat.and_mod_two_pow]
theorem sel_ok (hc : c ≤ 8) (hs : s < 256) : (Int32.ofNat s &&& Int32.ofNat (skN p c) = Int32.ofNat (skN p c)) ↔ pB p s c = true := by
  have lt := sk_lt (p := p) c
  have p8 := p2_8 hc
  have hle : s &&& skN p c ≤ s := Nat.and_le_left
  rw [and_on]
  have e1 : (Int32.ofNat (s &&& skN p c) = Int32.ofNat (skN p c)) ↔ s &&& skN p c = skN p c := ⟨fun q => on_inj (by omega) (by omega) q, fun q => by rw [q]⟩
  rw [e1, and_iff, pB_iff]
  refine ⟨fun q i hi hk => q i ((sk_bit c i hi).mpr hk), fun q i hi => ?_⟩
  by_cases e : i < c
  · exact q i e ((sk_bit c i e).mp hi)
  · have : skN p c < 2 ^ i := Nat.lt_of_lt_of_le lt (Nat.pow_le_pow_right (by omega) (by omega))
    rw [Nat.testBit_lt_two_pow this] at hi
    cases hi
theorem wM_X {q : Nat × Nat} (hq : q ∈ KL p c) : ∀ i, i ≤ c → wM p x q.1 i = wX x q.2 (vsN p i)
  | 0, _ => rfl
  | i + 1, hi => by
    have ih := wM_X hq i (by omega)
    have k := (KL_ok c q hq).2.2 i (by omega)
    rw [wM, vsN, ih]
    by_cases hs : skA p i
    · rw [if_pos hs, if_pos hs, Int64.mul_one]
    · rw [if_neg hs, if_neg hs, wX, k.2 hs]
theorem cB_X {q : Nat × Nat} (hq : q ∈ KL p c) (hi : i < c) : cB p q.2 i = q.1.testBit i := by
  have k := (KL_ok c q hq).2.2 i hi
  unfold cB
  by_cases hs : skA p i
  · rw [if_pos hs, k.1 hs]
  · rw [if_neg hs, k.2 hs]
theorem lu_eq (hc : cnF f = c) : sm64 (luS nd f x d) (List.range (2 ^ vsN (plF f) (cnF f))) = sm64 (luH nd c f x d) ((List.range (2 ^ c)).filter (fun s => pB (plF f) s c)) := by
  subst hc
  refine sm_two (fun q hq => ?_)
  unfold luS luH
  rw [(cq_cg (cnF f) (fun i hi => cB_X hq hi)).1, wM_X hq _ (Nat.le_refl _)]
theorem me_eq (hc : cnF f = c) : sm64 (meS nd f x) (List.range (2 ^ vsN (plF f) (cnF f))) = sm64 (meH nd c f x) ((List.range (2 ^ c)).filter (fun s => pB (plF f) s c)) := by
  subst hc
  refine sm_two (fun q hq => ?_)
  unfold meS meH
  rw [(cq_cg (cnF f) (fun i hi => cB_X hq hi)).2, wM_X hq _ (Nat.le_refl _)]
end OddM
