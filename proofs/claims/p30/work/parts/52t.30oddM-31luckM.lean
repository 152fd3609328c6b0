section
/-! ODDS, V: by the model -/
def nlP (j : Nat) : Bool := [148, 168, 169, 170, 172, 173, 174, 175, 178, 179, 181, 184, 186, 187, 188, 191, 192, 203, 208, 226, 227].contains j
set_option maxRecDepth 100000 in
theorem nlP_ok : nlChk nlP = true := by decide +kernel
def wM (p : Nat → Int32) (x : Int32) (s : Nat) : Nat → Int64
  | 0 => 1
  | i + 1 => wM p x s i * (if skA p i then 1 else if s.testBit i = true then x.toInt64 else (10 - x).toInt64)
def orB : Bool := (List.range 256).all (fun m => (List.range 8).all (fun i => !(decide (m < 2 ^ i)) || decide (Int32.ofNat m ||| (1 <<< (Int32.ofNat i &&& 31)) = Int32.ofNat (2 ^ i + m))))
set_option maxRecDepth 100000 in
theorem orB_ok : orB = true := by decide +kernel
/-- the sums' terms -/
def luH (nd c : Nat) (f : Nat → Int32) (x : Int32) (d s : Nat) : Int64 := if wrB (cq nd (plF f) f (fun i => s.testBit i) c) d = 0 then 0 else wM (plF f) x s c
def meH (nd c : Nat) (f : Nat → Int32) (x : Int32) (s : Nat) : Int64 := wM (plF f) x s c * (ck nd (plF f) f (fun i => s.testBit i) c).toInt64
def MRJ (f : Nat → Int32) (r : Int64) (κ : IS) (v : Option Value) (κ1 : IS) : Prop := v = some (.long r) ∧ MG κ κ1 ∧ rO 0 (κ1 130) = f
section OddM
variable {xl : List Int32} {n : Nat} {ι κ κ0 κ1 : IS} {l l0 : Nat → Int64} {Q : Option Value → IS → (Nat → Int64) → Prop} {x1 x2 x3 x4 x5 x : Int32} {d nd nv c m s t i : Nat} {f p : Nat → Int32}
theorem PL.sub {mi pc : Nat} {lv : LVs} {st : List Value} (hp : nlP mi = true) (h : PC xl n mi pc lv st ι (fun v κ => Q v κ l)) : PL xl n mi pc lv st ι l Q := (PL.ofPC nlP_ok hp h).imp (fun _ _ _ q => q.2 ▸ q.1)
theorem or_ok (hm : m < 2 ^ i) (hi : i < 8) : Int32.ofNat m ||| (1 <<< (Int32.ofNat i &&& 31)) = Int32.ofNat (2 ^ i + m) := by
  have h := orB_ok
  unfold orB at h
  have p8 := p2_8 (V := i) (by omega)
  have h1 := List.all_eq_true.mp (List.all_eq_true.mp h m (List.mem_range.mpr (by omega))) i (List.mem_range.mpr hi)
  simpa [hm] using h1
theorem sk_bit : ∀ c i, i < c → ((skN p c).testBit i = true ↔ skA p i)
  | 0, _, h => absurd h (by omega)
  | c + 1, i, h => by
    have lt := sk_lt (p := p) c
    rw [skN]
    by_cases e : i = c
    · subst e
      split
      · rename_i hs
        rw [Nat.testBit_two_pow_add_eq, Nat.testBit_lt_two_pow lt]
        exact ⟨fun _ => hs, fun _ => rfl⟩
      · rename_i hs
        rw [Nat.testBit_lt_two_pow lt]
        exact ⟨fun q => (by cases q), fun q => absurd q hs⟩
    · have ih := sk_bit c i (by omega)
      split
      · rw [Nat.testBit_two_pow_add_gt (by omega)]; exact ih
      · exact ih
theorem pB_iff : ∀ c, (pB p s c = true ↔ ∀ i, i < c → skA p i → s.testBit i = true)
  | 0 => ⟨fun _ i hi => absurd hi (by omega), fun _ => rfl⟩
  | c + 1 => by
    have ih := pB_iff c
    rw [pB]
    by_cases hs : skA p c
    · rw [if_pos hs, Bool.and_eq_true, ih]
      refine ⟨fun q i hi hk => ?_, fun q => ⟨fun i hi hk => q i (by omega) hk, q c (by omega) hs⟩⟩
      by_cases e : i = c
      · subst e; exact q.2
      · exact q.1 i (by omega) hk
    · rw [if_neg hs, ih]
      refine ⟨fun q i hi hk => ?_, fun q i hi hk => q i (by omega) hk⟩
      by_cases e : i = c
      · subst e; exact absurd hk hs
      · exact q i (by omega) hk
theorem and_iff : s &&& t = t ↔ ∀ i, t.testBit i = true → s.testBit i = true := by
  constructor
  · intro h i hi
    rw [← h, Nat.testBit_and, Bool.and_eq_true] at hi
    exact hi.1
  · intro h
    apply Nat.eq_of_testBit_eq
    intro i
    rw [Nat.testBit_and]
    cases e : t.testBit i with
    | false => rw [Bool.and_false]
    | true => rw [h i e]; rfl
theorem and_on (s t : Nat) : Int32.ofNat s &&& Int32.ofNat t = Int32.ofNat (s &&& t) := by
  apply Int32.toBitVec_inj.mp
  rw [Int32.toBitVec_and]
  apply BitVec.eq_of_toNat_eq
  rw [BitVec.toNat_and]
  show s % 2 ^ 32 &&& t % 2 ^ 32 = (s &&& t) % 2 ^ 32
  rw [Nat.and_mod_two_pow]
theorem sel_ok (hc : c ≤ 8) (hs : s < 256) : (Int32.ofNat s &&& Int32.ofNat (skN p c) = Int32.ofNat (skN p c)) ↔ pB p s c = true := by
  have lt := sk_lt (p := p) c
  have p8 := p2_8 hc
  have hle : s &&& skN p c ≤ s := Nat.and_le_left
  rw [and_on]
  have e1 : (Int32.ofNat (s &&& skN p c) = Int32.ofNat (skN p c)) ↔ s &&& skN p c = skN p c := ⟨fun q => on_inj (by omega) (by omega) q, fun q => by rw [q]⟩
  rw [e1, and_iff, pB_iff]
  refine ⟨fun q i hi hk => q i ((sk_bit c i hi).mpr hk), fun q i hi => ?_⟩
  by_cases e : i < c
  · exact q i e ((sk_bit c i e).mp hi)
  · have : skN p c < 2 ^ i := Nat.lt_of_lt_of_le lt (Nat.pow_le_pow_right (by omega) (by omega))
    rw [Nat.testBit_lt_two_pow this] at hi
    cases hi
theorem wM_X {q : Nat × Nat} (hq : q ∈ KL p c) : ∀ i, i ≤ c → wM p x q.1 i = wX x q.2 (vsN p i)
  | 0, _ => rfl
  | i + 1, hi => by
    have ih := wM_X hq i (by omega)
    have k := (KL_ok c q hq).2.2 i (by omega)
    rw [wM, vsN, ih]
    by_cases hs : skA p i
    · rw [if_pos hs, if_pos hs, Int64.mul_one]
    · rw [if_neg hs, if_neg hs, wX, k.2 hs]
theorem cB_X {q : Nat × Nat} (hq : q ∈ KL p c) (hi : i < c) : cOdB p q.2 i = q.1.testBit i := by
  have k := (KL_ok c q hq).2.2 i hi
  unfold cOdB
  by_cases hs : skA p i
  · rw [if_pos hs, k.1 hs]
  · rw [if_neg hs, k.2 hs]
theorem lu_eq (hc : cnF f = c) : sm64 (luS nd f x d) (List.range (2 ^ vsN (plF f) (cnF f))) = sm64 (luH nd c f x d) ((List.range (2 ^ c)).filter (fun s => pB (plF f) s c)) := by
  subst hc
  refine sm_two (fun q hq => ?_)
  unfold luS luH
  rw [(cq_cg (cnF f) (fun i hi => cB_X hq hi)).1, wM_X hq _ (Nat.le_refl _)]
theorem me_eq (hc : cnF f = c) : sm64 (meS nd f x) (List.range (2 ^ vsN (plF f) (cnF f))) = sm64 (meH nd c f x) ((List.range (2 ^ c)).filter (fun s => pB (plF f) s c)) := by
  subst hc
  refine sm_two (fun q hq => ?_)
  unfold meS meH
  rw [(cq_cg (cnF f) (fun i hi => cB_X hq hi)).2, wM_X hq _ (Nat.le_refl _)]
end OddM
end
section
/-! ODDS, VI: luck and mean by the model -/
section LuckM
variable {xl : List Int32} {n : Nat} {κ κ0 κ1 : IS} {l l0 : Nat → Int64} {Q : Option Value → IS → (Nat → Int64) → Prop} {x1 x2 x3 x4 x5 x : Int32} {d nd nv c m s i : Nat} {f p : Nat → Int32}
theorem odL1 {nb : Nat} (hc : c ≤ 8) (hx3 : x3.toInt = c) (hq : ∀ (l' : Nat → Int64) (w6 : Value), l' 25 = l0 25 → l' 26 = l0 26 → l' 27 = tenX (vsN (plF (rO 0 (κ 130))) c) → PL xl nb 225 100 [(0, .ref 129), (1, .int x1), (2, .int x2), (3, .int x3), (4, .int (Int32.ofNat (skN (plF (rO 0 (κ 130))) c))), (5, .int 0), (6, w6), (8, .null), (9, .null)] [] κ l' Q) : ∀ (n i : Nat) (l : Nat → Int64) (x5 : Int32) (w6 : Value), n ≤ nb + 1 → x5.toInt = i → i ≤ c → l 25 = l0 25 → l 26 = l0 26 → l 27 = tenX (vsN (plF (rO 0 (κ 130))) i) → PL xl n 225 29 [(0, .ref 129), (1, .int x1), (2, .int x2), (3, .int x3), (4, .int (Int32.ofNat (skN (plF (rO 0 (κ 130))) i))), (5, .int x5), (6, w6)] [] κ l Q
  | 0, _, _, _, _, _, _, _, _, _, _ => PL.zero
  | n + 1, i, l, x5, w6, hn, hx, hi, h1, h2, h3 => by
    have n90 : (90 : Int32).toInt = 90 := rfl
    refine t_225_29 ⟨fun q => ?_, fun q => ?_⟩
    · rw [i_lt, hx, hx3] at q
      have : i = c := by omega
      subst this
      exact (hq l w6 h1 h2 h3).le (by omega)
    rw [i_lt, hx, hx3] at q
    rw [rf_129_0, st53 (κ := κ) hx (by omega)]
    have es : skN (plF (rO 0 (κ 130))) (i + 1) = if skA (plF (rO 0 (κ 130))) i then 2 ^ i + skN (plF (rO 0 (κ 130))) i else skN (plF (rO 0 (κ 130))) i := rfl
    have ev : vsN (plF (rO 0 (κ 130))) (i + 1) = if skA (plF (rO 0 (κ 130))) i then vsN (plF (rO 0 (κ 130))) i else vsN (plF (rO 0 (κ 130))) i + 1 := rfl
    have go := fun (l' : Nat → Int64) w6 => odL1 (nb := nb) hc hx3 hq n (i + 1) l' (x5 + 1) w6 (by omega) (i_s hx (by omega)) (by omega)
    intro _ _
    refine ⟨fun z => (t_225_55 (PL.sub rfl ?_)).weak, fun z => (t_225_55 (PL.sub rfl ?_)).weak⟩
    · rw [i_lt, n90] at z
      have hs : ¬ skA (plF (rO 0 (κ 130))) i := by show ¬ 90 ≤ (rO 0 (κ 130) (53 + i)).toInt; omega
      rw [if_neg hs] at es ev
      refine (t_175_0 ⟨fun _ => ?_, fun z0 => absurd rfl z0⟩).weak
      intro r e; cases e
      refine ⟨fun _ => (t_225_87 ?_).weak, fun z0 => absurd rfl z0⟩
      have g := go (ul l 27 (l 27 * 10)) (.int 0) (by rw [ul_ne (by omega)]; exact h1) (by rw [ul_ne (by omega)]; exact h2) (by rw [ul_same, ev, h3]; rfl)
      rw [es] at g
      rw [z_shl, z_or]; exact g
    · rw [i_lt, n90] at z
      have hs : skA (plF (rO 0 (κ 130))) i := by show 90 ≤ (rO 0 (κ 130) (53 + i)).toInt; omega
      rw [if_pos hs] at es ev
      refine (t_175_0 ⟨fun z0 => absurd z0 (by decide), fun _ => ?_⟩).weak
      intro r e; cases e
      refine ⟨fun z0 => absurd z0 (by decide), fun _ => (t_225_87 ?_).weak⟩
      have g := go (ul l 27 (l 27 * 1)) (.int 1) (by rw [ul_ne (by omega)]; exact h1) (by rw [ul_ne (by omega)]; exact h2) (by rw [ul_same, ev, h3, Int64.mul_one])
      have e4 : Int32.ofNat (skN (plF (rO 0 (κ 130))) i) ||| (1 <<< (x5 &&& 31)) = Int32.ofNat (2 ^ i + skN (plF (rO 0 (κ 130))) i) := by
        rw [i_on hx]; exact or_ok (sk_lt i) (by omega)
      rw [es] at g
      rw [e4]; exact g
/-- ACTS that come to be -/
theorem odL3 {nb : Nat} (h : HM nv nd κ0) (hp : HP κ0) (hv : HV nv nd κ0) (hB : BM2 (-4) 0 κ0) (hcn : cnF (rO 0 (κ0 130)) = c) (hc : c ≤ 8) (hx3 : x3.toInt = c) (hs : s < 256) (hq : ∀ (κ' : IS) (y8 : Int32) (w9 : Value), AF κ0 κ' → κ' 131 = cq nd (plF (rO 0 (κ0 130))) (rO 0 (κ0 130)) (fun i => s.testBit i) c → κ' 129 22 = ck nd (plF (rO 0 (κ0 130))) (rO 0 (κ0 130)) (fun i => s.testBit i) c → y8.toInt = c → PL xl nb 225 133 [(0, .ref 129), (1, .int x1), (2, .int x2), (3, .int x3), (4, .int (Int32.ofNat (skN (plF (rO 0 (κ0 130))) c))), (5, .int (Int32.ofNat s)), (6, .long (wM (plF (rO 0 (κ0 130))) x1 s c)), (8, .int y8), (9, w9)] [] κ' l Q) : ∀ (n i : Nat) (κ : IS) (x8 : Int32) (w9 : Value), n ≤ nb → x8.toInt = i → i ≤ c → AF κ0 κ → κ 131 = cq nd (plF (rO 0 (κ0 130))) (rO 0 (κ0 130)) (fun i => s.testBit i) i → κ 129 22 = ck nd (plF (rO 0 (κ0 130))) (rO 0 (κ0 130)) (fun i => s.testBit i) i → PL xl n 225 133 [(0, .ref 129), (1, .int x1), (2, .int x2), (3, .int x3), (4, .int (Int32.ofNat (skN (plF (rO 0 (κ0 130))) c))), (5, .int (Int32.ofNat s)), (6, .long (wM (plF (rO 0 (κ0 130))) x1 s i)), (8, .int x8), (9, w9)] [] κ l Q
  | 0, _, _, _, _, _, _, _, _, _, _ => PL.zero
  | n + 1, i, κ, x8, w9, hn, hx, hi, ha, hk, ht => by
    have h4 := h.1.1
    have h5 := h.2.1.1
    by_cases e : i = c
    · subst e
      exact (hq κ x8 w9 ha hk ht hx).le hn
    have lt := sk_lt (p := plF (rO 0 (κ0 130))) c
    have p8 := p2_8 hc
    have va : ∀ j, j < c → VA nv nd (plF (rO 0 (κ0 130)) j) := fun j hj => by
      have := HM.va hv j (by rw [hcn]; exact hj)
      rw [Nat.zero_add] at this
      exact this
    have hw := WF.cqK (b := fun i => s.testBit i) h.2.2 h4 h5 i (fun j hj => va j (by omega))
    have r130 : κ 130 = κ0 130 := ha.1 130 (by omega) (by omega)
    have hBk : BM2 (-4) 0 κ := by unfold BM2; rw [ha.2 20 (by omega) (by omega), ha.2 21 (by omega) (by omega)]; exact hB
    have b5 : (((Int32.ofNat s >>> (x8 &&& 31)) &&& 1) = 1) ↔ s.testBit i = true := by rw [i_on hx]; exact b8_ok hs (by omega)
    have b4 : (((Int32.ofNat (skN (plF (rO 0 (κ0 130))) c) >>> (x8 &&& 31)) &&& 1) = 1) ↔ skA (plF (rO 0 (κ0 130))) i := by rw [i_on hx]; exact (b8_ok (by omega) (by omega)).trans (sk_bit c i (by omega))
    have l189 : ∀ (b : Int32) (F : Int64), (b = 0 ↔ s.testBit i = false) → F = (if skA (plF (rO 0 (κ0 130))) i then 1 else if s.testBit i = true then x1.toInt64 else (10 - x1).toInt64) → PL xl n 225 189 [(0, .ref 129), (1, .int x1), (2, .int x2), (3, .int x3), (4, .int (Int32.ofNat (skN (plF (rO 0 (κ0 130))) c))), (5, .int (Int32.ofNat s)), (6, .long (wM (plF (rO 0 (κ0 130))) x1 s i)), (8, .int x8), (9, .int b)] [.long F, .long (wM (plF (rO 0 (κ0 130))) x1 s i)] κ l Q := by
      intro b F hb hF
      have ew : wM (plF (rO 0 (κ0 130))) x1 s (i + 1) = wM (plF (rO 0 (κ0 130))) x1 s i * F := by rw [hF]; rfl
      have go := fun κ1 w => odL3 (nb := nb) h hp hv hB hcn hc hx3 hs hq n (i + 1) κ1 (x8 + 1) w (by omega) (i_s hx (by omega)) (by omega)
      rw [ew] at go
      refine (t_225_189 ⟨fun z => (t_225_211 (go κ (.int b) ha ?_ ?_)).weak, fun z _ _ => ?_⟩).weak
      · rw [hk, cq, if_neg (by rw [hb.mp z]; decide)]
      · rw [ht, ck, if_neg (by rw [hb.mp z]; decide)]
      · have tb : s.testBit i = true := by
          cases e : s.testBit i with
          | false => exact absurd (hb.mpr e) z
          | true => rfl
        rw [rf_129_0, st53 (κ := κ) hx (by omega), r130]
        refine PL.sub rfl (actM_spec (bo := -4) (lw := 0) (by rw [hk]; exact hw) (by rw [ha.2 4 (by omega) (by omega)]; exact h.2.1.2) h4 h5 (va i (by omega)) hBk (fun κ1 k1 k2 k3 k4 => (t_225_211 (go κ1 (.int b) (ha.trans k2) ?_ ?_)).weak))
        · rw [k1, hk, cq, if_pos tb]
        · rw [k3, ht, hk, ck, if_pos tb]
    refine t_225_133 ⟨fun q => ?_, fun q => ⟨fun z => (t_225_155 ⟨fun k => ⟨fun _ => l189 _ _ ?_ ?_, fun y => absurd rfl y⟩, fun k => l189 _ _ ?_ ?_⟩).weak, fun z => (t_225_155 ⟨fun k => ⟨fun y => absurd y (by decide), fun _ => l189 _ _ ?_ ?_⟩, fun k => l189 _ _ ?_ ?_⟩).weak⟩⟩
    · rw [i_lt, hx, hx3] at q; omega
    · exact ⟨fun _ => by rw [b5] at z; exact Bool.eq_false_iff.mpr z, fun _ => rfl⟩
    · rw [b4] at k; rw [b5] at z; rw [if_neg k, if_neg z]
    · exact ⟨fun _ => by rw [b5] at z; exact Bool.eq_false_iff.mpr z, fun _ => rfl⟩
    · rw [b4] at k; rw [if_pos k]
    · rw [b5] at z; exact ⟨fun y => absurd y (by decide), fun y => by rw [z] at y; cases y⟩
    · rw [b4] at k; rw [b5] at z; rw [if_neg k, if_pos z]
    · rw [b5] at z; exact ⟨fun y => absurd y (by decide), fun y => by rw [z] at y; cases y⟩
    · rw [b4] at k; rw [if_pos k]
theorem fl_t {P : Nat → Bool} (h : P s = true) : (List.range (s + 1)).filter P = (List.range s).filter P ++ [s] := by
  rw [List.range_succ, List.filter_append]; simp [h]
theorem fl_f {P : Nat → Bool} (h : ¬ P s = true) : (List.range (s + 1)).filter P = (List.range s).filter P := by
  rw [List.range_succ, List.filter_append]; simp [h]
theorem odL2 {W : Int64} (h : HM nv nd κ0) (hp : HP κ0) (hv : HV nv nd κ0) (hcn : cnF (rO 0 (κ0 130)) = c) (hc : c ≤ 8) (hx3 : x3.toInt = c) (hd : x2.toInt = d) (hd4 : d < 4) (hq : ∀ (κ' : IS) (l' : Nat → Int64), MG κ0 κ' → κ' 130 = κ0 130 → l' 25 = sm64 (luH nd c (rO 0 (κ0 130)) x1 d) ((List.range (2 ^ c)).filter (fun s => pB (plF (rO 0 (κ0 130))) s c)) → l' 26 = sm64 (meH nd c (rO 0 (κ0 130)) x1) ((List.range (2 ^ c)).filter (fun s => pB (plF (rO 0 (κ0 130))) s c)) → l' 27 = W → Q none κ' l') : ∀ (n s : Nat) (κ : IS) (l : Nat → Int64) (x5 : Int32) (w6 w8 w9 : Value), x5.toInt = s → s ≤ 2 ^ c → MG κ0 κ → κ 130 = κ0 130 → l 25 = sm64 (luH nd c (rO 0 (κ0 130)) x1 d) ((List.range s).filter (fun s => pB (plF (rO 0 (κ0 130))) s c)) → l 26 = sm64 (meH nd c (rO 0 (κ0 130)) x1) ((List.range s).filter (fun s => pB (plF (rO 0 (κ0 130))) s c)) → l 27 = W → PL xl n 225 100 [(0, .ref 129), (1, .int x1), (2, .int x2), (3, .int x3), (4, .int (Int32.ofNat (skN (plF (rO 0 (κ0 130))) c))), (5, .int x5), (6, w6), (8, w8), (9, w9)] [] κ l Q
  | 0, _, _, _, _, _, _, _, _, _, _, _, _, _, _ => PL.zero
  | n + 1, s, κ, l, x5, w6, w8, w9, hx, hs, hg, h0, q25, q26, q27 => by
    have h4 := h.1.1
    have h5 := h.2.1.1
    have p8 := p2_8 hc
    obtain rfl : x5 = Int32.ofNat s := i_on hx
    have go := fun κ1 l1 w6 w8 w9 => odL2 h hp hv hcn hc hx3 hd hd4 hq n (s + 1) κ1 l1 (Int32.ofNat s + 1) w6 w8 w9 (i_s hx (by omega))
    refine t_225_100 ⟨fun q => ?_, fun q => ⟨fun z => (t_225_257 ?_).weak, fun z => PL.sub rfl (st_M (h.mg hg h0) (fun κ1 g1 g2 g3 g4 g5 g6 g7 => ?_))⟩⟩
    · rw [i_lt, hx, sh1 hx3 hc] at q
      have : s = 2 ^ c := by omega
      subst this
      exact hq κ l hg h0 q25 q26 q27
    · rw [i_lt, hx, sh1 hx3 hc] at q
      rw [sel_ok hc (by omega)] at z
      have zf := fl_f (P := fun s => pB (plF (rO 0 (κ0 130))) s c) z
      exact go κ l w6 w8 w9 (by omega) hg h0 (by rw [q25, zf]) (by rw [q26, zf]) q27
    rw [i_lt, hx, sh1 hx3 hc] at q
    rw [sel_ok hc (by omega)] at z
    have zt := fl_t (P := fun s => pB (plF (rO 0 (κ0 130))) s c) z
    rw [h0] at g2 g3
    have o130 : (up κ1 129 22 0) 130 = κ0 130 := by rw [up_oth (by omega)]; exact g2
    have hM1 : HM nv nd (up κ1 129 22 0) := ⟨⟨h4, by rw [up_ne (by omega)]; exact g5⟩, ⟨h5, by rw [up_ne (by omega)]; exact g6⟩, by rw [o130]; exact h.2.2⟩
    have m1 : MG κ0 (up κ1 129 22 0) := (hg.trans g1).trans ⟨fun a a1 _ _ _ _ => up_oth a1, fun j a1 => up_ne (by omega), fun j _ => by rw [up_oth (by omega)]⟩
    have key := odL3 (xl := xl) (nb := n) (x1 := x1) (x2 := x2) (x3 := x3) (l := l) (Q := Q) (s := s) (c := c) hM1 (by unfold HP; rw [o130]; exact hp) (by unfold HV; rw [o130]; exact hv) (by unfold BM2; rw [up_ne (by omega), up_ne (by omega)]; exact g7)
    rw [o130] at key
    refine key hcn hc hx3 (by omega) (fun κ2 y8 w9 a2 k131 k22 hy => ?_) n 0 _ 0 w9 (Nat.le_refl _) rfl (Nat.zero_le _) AF.rfl (by rw [up_oth (by omega), g3]; rfl) (by rw [up_same]; rfl)
    have va : ∀ j, j < c → VA nv nd (plF (rO 0 (κ0 130)) j) := fun j hj => by
      have := HM.va hv j (by rw [hcn]; exact hj)
      rw [Nat.zero_add] at this
      exact this
    have hw := WF.cqK (b := fun i => s.testBit i) h.2.2 h4 h5 c va
    have l236 : ∀ u0 : Int64, u0 = luH nd c (rO 0 (κ0 130)) x1 d s → PL xl n 225 236 [(0, .ref 129), (1, .int x1), (2, .int x2), (3, .int x3), (4, .int (Int32.ofNat (skN (plF (rO 0 (κ0 130))) c))), (5, .int (Int32.ofNat s)), (6, .long (wM (plF (rO 0 (κ0 130))) x1 s c)), (8, .int y8), (9, w9)] [.long u0, .long (l 25), .ref 129] κ2 l Q := fun u0 hu => (t_225_236 ((t_225_257 (go _ _ _ _ _ (by omega) (m1.trans a2.mg) (by rw [a2.1 130 (by omega) (by omega)]; exact o130) (by rw [ul_ne (by omega), ul_same, q25, hu, zt, sm_app]) (by rw [ul_same, ul_ne (by omega), q26, k22, zt, sm_app]; rfl) (by rw [ul_ne (by omega), ul_ne (by omega)]; exact q27))).weak)).weak
    refine (t_225_133 ⟨fun _ => PL.sub rfl (isWM_spec hd hd4 (by rw [k131]; exact hw.1 d hd4) ?_), fun q2 => ?_⟩).weak
    · intro r e; cases e
      rw [k131]
      refine ⟨fun y => l236 _ ?_, fun y => l236 _ ?_⟩
      · unfold luH; rw [if_pos y]
      · unfold luH; rw [if_neg y]
    · rw [i_lt, hy, hx3] at q2; omega
theorem odds_spec (h : HM nv nd κ) (hp : HP κ) (hv : HV nv nd κ) (hcn : cnF (rO 0 (κ 130)) = c) (hd : x2.toInt = d) (hd4 : d < 4) (hq : ∀ (κ' : IS) (l' : Nat → Int64), MG κ κ' → κ' 130 = κ 130 → l' 25 = sm64 (luH nd c (rO 0 (κ 130)) x1 d) ((List.range (2 ^ c)).filter (fun s => pB (plF (rO 0 (κ 130))) s c)) → l' 26 = sm64 (meH nd c (rO 0 (κ 130)) x1) ((List.range (2 ^ c)).filter (fun s => pB (plF (rO 0 (κ 130))) s c)) → l' 27 = tenX (vsN (plF (rO 0 (κ 130))) c) → Q none κ' l') : PL xl n 225 0 [(0, .ref 129), (1, .int x1), (2, .int x2)] [] κ l Q := by
  have b8 := hp.1
  have hcn0 : cnF (rO 0 (κ 130)) = (rO 0 (κ 130) 52).toInt.toNat := rfl
  have hc : c ≤ 8 := by omega
  refine (t_225_0 ?_).weak
  rw [rf_129_0, c52, ← r_st (h := κ 130) (show 52 < 80 by omega)]
  have hx3 : (rO 0 (κ 130) 52).toInt = c := by omega
  refine fun _ _ => odL1 (nb := n) (l0 := ul (ul (ul l 25 0) 26 0) 27 1) hc hx3 (fun l' w6 a1 a2 a3 => ?_) n 0 _ 0 .null (by omega) rfl (Nat.zero_le _) rfl rfl (by rw [ul_same]; rfl)
  refine odL2 h hp hv hcn hc hx3 hd hd4 hq n 0 κ l' 0 w6 .null .null rfl (Nat.zero_le _) MG.rfl rfl ?_ ?_ a3
  · rw [a1]; rfl
  · rw [a2]; rfl
theorem MRJ.same {r : Int64} (hm : MG κ κ1) (h : κ1 130 = κ 130) : MRJ (rO 0 (κ 130)) r κ (some (.long r)) κ1 := ⟨rfl, hm, by rw [h]⟩
theorem luckM (h : HM nv nd κ) (hp : HP κ) (hv : HV nv nd κ) : PC xl n 224 0 [(0, .ref 129), (1, .int x1), (2, .int x2), (3, .int x3)] [] κ (MRJ (rO 0 (κ 130)) (luR nd (rO 0 (κ 130)) x1 x2 x3) κ) := by
  refine PL.toPC (fun l => ?_)
  have b8 := hp.1
  have hcn0 : cnF (rO 0 (κ 130)) = (rO 0 (κ 130) 52).toInt.toNat := rfl
  have h4 := h.1.1
  have h5 := h.2.1.1
  unfold luR
  refine (t_224_0 (PL.sub rfl (inL (l := 0) (g := 10) rfl rfl (fun r hr => ?_)))).weak
  intro r2 e; cases e
  refine ⟨fun z => ?_, fun z => PL.sub rfl (isD_spec h.2.1.2 h5 (fun c => ?_) (fun d hd hdl r' hr2 => ?_))⟩
  · rw [if_neg (fun q => hr.mp z q.1)]; exact MRJ.same MG.rfl rfl
  · intro r e; cases e
    refine ⟨fun _ => ?_, fun q => absurd rfl q⟩
    rw [if_neg (fun q => c q.2.1)]; exact MRJ.same MG.rfl rfl
  have ok : 0 ≤ x1.toInt ∧ x1.toInt ≤ 10 := by false_or_by_contra; rename_i hh; exact z (hr.mpr hh)
  intro r2 e; cases e
  refine ⟨fun q => absurd q hr2, fun _ => PL.sub rfl ((t_208_0 (inL (l := 0) (g := 1) rfl rfl (fun r3 hr3 => ?_))).weak)⟩
  intro r4 e; cases e
  intro r5 e; cases e
  refine ⟨fun z3 => odds_spec (c := cnF (rO 0 (κ 130))) h hp hv rfl hd (by omega) (fun κ' l' g1 g2 s25 s26 s27 => ?_), fun z3 => ?_⟩
  · have ok3 : 0 ≤ x3.toInt ∧ x3.toInt ≤ 1 := by false_or_by_contra; rename_i hh; exact z3 (hr3.mpr hh)
    have hV : vsN (plF (rO 0 (κ 130))) (cnF (rO 0 (κ 130))) ≤ 8 := by have := vs_le (p := plF (rO 0 (κ 130))) (cnF (rO 0 (κ 130))); omega
    have p8 := p2_8 hV
    rw [← lu_eq rfl] at s25
    have sb := sm64_b (F := luS nd (rO 0 (κ 130)) x1 d) (l := List.range (2 ^ vsN (plF (rO 0 (κ 130))) (cnF (rO 0 (κ 130))))) (b := 100000000) (fun x _ => lu_b ok.1 ok.2 hV) (by rw [List.length_range]; omega)
    have t := ten_v _ hV
    have p5 := (p10 hV).1
    rw [s25, s27]
    refine PL.sub rfl (told_spec (Gd.mk (by omega) sb.1) ?_)
    intro r e; cases e
    rw [if_pos ⟨ok, ⟨by omega, by omega⟩, ok3⟩, show x2.toInt.toNat = d by omega]
    exact MRJ.same g1 g2
  · rw [if_neg (fun q => hr3.mp z3 q.2.2)]; exact MRJ.same MG.rfl rfl
theorem meanM (h : HM nv nd κ) (hp : HP κ) (hv : HV nv nd κ) : PC xl n 228 0 [(0, .ref 129), (1, .int x1), (2, .int x2)] [] κ (MRJ (rO 0 (κ 130)) (meR nd (rO 0 (κ 130)) x1 x2) κ) := by
  refine PL.toPC (fun l => ?_)
  have b8 := hp.1
  have hcn0 : cnF (rO 0 (κ 130)) = (rO 0 (κ 130) 52).toInt.toNat := rfl
  have h4 := h.1.1
  have h5 := h.2.1.1
  unfold meR
  refine (t_228_0 (PL.sub rfl (inL (l := 0) (g := 10) rfl rfl (fun r hr => ?_)))).weak
  intro r2 e; cases e
  refine ⟨fun z => ?_, fun z => PL.sub rfl ((t_208_0 (inL (l := 0) (g := 1) rfl rfl (fun r3 hr3 => ?_))).weak)⟩
  · rw [if_neg (fun q => hr.mp z q.1)]; exact MRJ.same MG.rfl rfl
  have ok : 0 ≤ x1.toInt ∧ x1.toInt ≤ 10 := by false_or_by_contra; rename_i hh; exact z (hr.mpr hh)
  intro r4 e; cases e
  intro r5 e; cases e
  refine ⟨fun z3 => odds_spec (c := cnF (rO 0 (κ 130))) (d := 0) h hp hv rfl rfl (by omega) (fun κ' l' g1 g2 s25 s26 s27 => ?_), fun z3 => ?_⟩
  · have ok3 : 0 ≤ x2.toInt ∧ x2.toInt ≤ 1 := by false_or_by_contra; rename_i hh; exact z3 (hr3.mpr hh)
    have hV : vsN (plF (rO 0 (κ 130))) (cnF (rO 0 (κ 130))) ≤ 8 := by have := vs_le (p := plF (rO 0 (κ 130))) (cnF (rO 0 (κ 130))); omega
    have p8 := p2_8 hV
    have va : ∀ j, j < cnF (rO 0 (κ 130)) → VA nv nd (plF (rO 0 (κ 130)) j) := fun j hj => by
      have := HM.va hv j hj
      rw [Nat.zero_add] at this
      exact this
    rw [← me_eq rfl] at s26
    have sb := sm64_b (F := meS nd (rO 0 (κ 130)) x1) (l := List.range (2 ^ vsN (plF (rO 0 (κ 130))) (cnF (rO 0 (κ 130))))) (b := 4800000000) (fun x _ => me_b h.2.2 h4 h5 va (by omega) ok.1 ok.2) (by rw [List.length_range]; omega)
    have t := ten_v _ hV
    have p5 := (p10 hV).1
    rw [s26, s27]
    refine PL.sub rfl (told_spec (Gd.mk (by omega) sb.1) ?_)
    intro r e; cases e
    rw [if_pos ⟨ok, ok3⟩]
    exact MRJ.same g1 g2
  · rw [if_neg (fun q => hr3.mp z3 q.2)]; exact MRJ.same MG.rfl rfl
end LuckM
theorem call_ofJ {xl : List Int32} {n n2 kx km nv nd : Nat} {lvx lvm : LVs} {ι κ : IS} {f : Nat → Int32} {r : Int64} (h : RN nv nd ι κ) (hx : PC xl n kx 0 lvx [] ι (XRJ nv nd f r ι)) (hm : PC xl n2 km 0 lvm [] κ (MRJ f r κ)) : CALL xl n n2 kx km lvx lvm (fun v1 v2 => v1 = v2) ι κ :=
  PC.imp hx (fun v1 ι1 g1 => PC.imp hm (fun v2 κ1 g2 => ⟨by rw [g1.1, g2.1], nv, nd, h.town g1.2.1 g2.2.1 g1.2.2.1 (by rw [g2.2.2]; exact g1.2.2.2)⟩))
end
