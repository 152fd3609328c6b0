section
/-! ODDS, IV: luck and mean by the class -/
def XRJ (nv nd : Nat) (f : Nat → Int32) (r : Int64) (ι : IS) (v : Option Value) (ι1 : IS) : Prop := v = some (.long r) ∧ CG ι ι1 ∧ ι1 25 4 = -4 ∧ TO 24 nv nd f ι1
section LuckX
variable {xl : List Int32} {n : Nat} {ι ι0 ι1 : IS} {Q : Option Value → IS → Prop} {x1 x2 x3 x4 x : Int32} {d nd nv V ch : Nat} {f : Nat → Int32} {r : Int64}
theorem HX.trJ (h : HX nv nd f ι) (hs : Sm 86 100 ι ι1) : XRJ nv nd f r ι (some (.long r)) ι1 := ⟨rfl, CG.of hs (by omega), by rw [hs 25 4 (by omega)]; exact h.2.1, h.1.keep (fun a j g1 g2 => hs a j (by omega))⟩
theorem HX.sameJ (h : HX nv nd f ι) : XRJ nv nd f r ι (some (.long r)) ι := h.trJ Sm.rfl
theorem sh1 (hx : x.toInt = V) (hV : V ≤ 8) : (1 <<< (x &&& 31)).toInt = ((2 ^ V : Nat) : Int) := by
  rw [i_on hx]
  have : ∀ v, v < 9 → (1 <<< (Int32.ofNat v &&& 31)).toInt = ((2 ^ v : Nat) : Int) := by decide +kernel
  exact this V (by omega)
theorem p2_8 (hV : V ≤ 8) : 2 ^ V ≤ 256 := Nat.pow_le_pow_right (n := 2) (by omega) hV
theorem HX.cn8 (h : HX nv nd f ι) : cnF f ≤ 8 := by have := h.1.2.1.2.1; have hcn : cnF f = (f 52).toInt.toNat := rfl; omega
theorem lu_b (h0 : 0 ≤ x1.toInt) (h1 : x1.toInt ≤ 10) (hv : vsN (plF f) (cnF f) ≤ 8) : 0 ≤ (luS nd f x1 d ch).toInt ∧ (luS nd f x1 d ch).toInt ≤ 100000000 := by
  have w := w_b (x := x1) (ch := ch) h0 h1 (vsN (plF f) (cnF f)) hv
  have p3 : (10 : Int) ^ vsN (plF f) (cnF f) ≤ 10 ^ 8 := (p10 hv).2
  have p4 : (10 : Int) ^ 8 = 100000000 := rfl
  unfold luS
  split
  · decide
  · omega
theorem me_b (hw : WF f) (h4 : nv ≤ 4) (h5 : nd ≤ 4) (hp : ∀ i, i < cnF f → VA nv nd (plF f i)) (hc : cnF f ≤ 8) (h0 : 0 ≤ x1.toInt) (h1 : x1.toInt ≤ 10) : 0 ≤ (meS nd f x1 ch).toInt ∧ (meS nd f x1 ch).toInt ≤ 4800000000 := by
  have hv : vsN (plF f) (cnF f) ≤ 8 := by have := vs_le (p := plF f) (cnF f); omega
  have w := w_b (x := x1) (ch := ch) h0 h1 (vsN (plF f) (cnF f)) hv
  have p3 : (10 : Int) ^ vsN (plF f) (cnF f) ≤ 10 ^ 8 := (p10 hv).2
  have p4 : (10 : Int) ^ 8 = 100000000 := rfl
  have k := ck_b (b := cOdB (plF f) ch) hw h4 h5 (cnF f) hc hp
  have q1 : 0 ≤ (wX x1 ch (vsN (plF f) (cnF f))).toInt * (ck nd (plF f) f (cOdB (plF f) ch) (cnF f)).toInt := Int.mul_nonneg w.1 k.1
  have q2 : (wX x1 ch (vsN (plF f) (cnF f))).toInt * (ck nd (plF f) f (cOdB (plF f) ch) (cnF f)).toInt ≤ 100000000 * 48 := Int.mul_le_mul (by omega) (by omega) k.1 (by omega)
  unfold meS
  rw [j_mul (by rw [Int32.toInt_toInt64]; omega), Int32.toInt_toInt64]
  omega
theorem fr_spec {part : Int64} (hV : V ≤ 8) (hx4 : x4.toInt = V) (hp0 : 0 ≤ part.toInt) (hp1 : part.toInt < 2 ^ 60) (hq : Q (some (.long (frO part (tenX V) x3))) ι) : PC xl n 125 0 [(0, .int x4)] [] ι (fun v1 κ1 => ∀ r1, v1 = some (.long r1) → PC xl n 126 0 [(0, .long part), (2, .long r1), (4, .int x3)] [] κ1 (fun v2 κ2 => ∀ r2, v2 = some (.long r2) → Q (some (.long r2)) κ2)) := by
  refine tenX_spec hx4 hV ?_
  intro r e; cases e
  have t := ten_v V hV
  have p3 : (10 : Int) ^ V ≤ 10 ^ 8 := (p10 hV).2
  have p4 : (10 : Int) ^ 8 = 100000000 := rfl
  have p5 : 0 < (10 : Int) ^ V := (p10 (by omega)).1
  have p6 : (2 : Int) ^ 30 = 1073741824 := rfl
  refine ofFr_spec (Gd.mk (by omega) hp0) (by omega) hp1 ?_
  intro r e; cases e
  exact hq
theorem luXL (h : HX nv nd f ι0) (h0 : 0 ≤ x1.toInt) (h1 : x1.toInt ≤ 10) (h2 : x2.toInt = d) (hdl : d < nd) (hx4 : x4.toInt = (vsN (plF f) (cnF f) : Nat)) : ∀ (n ch : Nat) (ι : IS) (x7 : Int32) (w8 : Value), x7.toInt = ch → ch ≤ 2 ^ vsN (plF f) (cnF f) → Sm 86 100 ι0 ι → PC xl n 121 52 [(0, .ref 0), (1, .int x1), (2, .int x2), (3, .int x3), (4, .int x4), (5, .long (sm64 (luS nd f x1 d) (List.range ch))), (7, .int x7), (8, w8)] [] ι (XRJ nv nd f (frO (sm64 (luS nd f x1 d) (List.range (2 ^ vsN (plF f) (cnF f)))) (tenX (vsN (plF f) (cnF f))) x3) ι0)
  | 0, _, _, _, _, _, _, _ => PC.zero
  | n + 1, ch, ι, x7, w8, h7, hc, hs => by
    have h4 := h.tw.1.1
    have h5 := h.tw.2.1.1
    have hv : vsN (plF f) (cnF f) ≤ 8 := by have := vs_le (p := plF f) (cnF f); have := h.cn8; omega
    have p8 := p2_8 hv
    have hi := h.keep hs
    have lb := fun ch => lu_b (nd := nd) (d := d) (ch := ch) h0 h1 hv
    refine t_121_52 ⟨fun c => ?_, fun c => weiX_spec (ch := ch) (i_on h7) (by rw [i_lt, h7, sh1 hx4 hv] at c; omega) hx4 hv ?_⟩
    · rw [i_lt, h7, sh1 hx4 hv] at c
      have : ch = 2 ^ vsN (plF f) (cnF f) := by omega
      subst this
      have sb := sm64_b (F := luS nd f x1 d) (l := List.range (2 ^ vsN (plF f) (cnF f))) (b := 100000000) (fun x _ => lb x) (by rw [List.length_range]; omega)
      rw [List.length_range] at sb
      have p6 : (2 : Int) ^ 60 = 1152921504606846976 := rfl
      exact fr_spec hv hx4 sb.1 (by omega) (h.trJ hs)
    · rw [i_lt, h7, sh1 hx4 hv] at c
      intro r e; cases e
      have wb := w_b (x := x1) (ch := ch) h0 h1 _ hv
      have e1 : sm64 (luS nd f x1 d) (List.range (ch + 1)) = sm64 (luS nd f x1 d) (List.range ch) + luS nd f x1 d ch := by rw [List.range_succ, sm_app]
      have go := fun ι2 w (s2 : Sm 86 100 ι0 ι2) => luXL h h0 h1 h2 hdl hx4 n (ch + 1) ι2 (x7 + 1) w (i_s h7 (by omega)) (by omega) s2
      rw [e1] at go
      refine ⟨fun q => ?_, fun q => choX_spec hi (ch := ch) (by omega) (i_on h7) (fun ι1 s1 t1 => ?_)⟩
      · rw [lg_cmp_gt, Int64.lt_iff_toInt_lt, j_z] at q
        have w0 : wX x1 ch (vsN (plF f) (cnF f)) = 0 := by rw [← Int64.toInt_inj, j_z]; omega
        have l0 : luS nd f x1 d ch = 0 := by unfold luS; rw [w0]; split <;> rfl
        have := go ι (.long (wX x1 ch (vsN (plF f) (cnF f)))) hs
        rw [l0, Int64.add_zero] at this; exact this
      · obtain ⟨tr1, tr2⟩ := town_d (u := 86) (by decide) (d := d) (by omega)
        have hw := WF.cqK (b := cOdB (plF f) ch) h.2.2 h4 h5 (cnF f) (fun i hi => (h.1.2.1.2.2 i (by have hcn : cnF f = (f 52).toInt.toNat := rfl; omega)).2)
        rw [rf_0_5]
        intro _ _
        rw [i_ixn h2, tr1]
        refine isWX_spec tr2 (t1.2.2.2 d hdl) (hw.1 d (by omega)) ?_
        intro r e; cases e
        have := go ι1 (.long (wX x1 ch (vsN (plF f) (cnF f)))) (hs.trans s1)
        refine ⟨fun z => ?_, fun z => ?_⟩
        · rw [luS, if_pos z] at this; exact this
        · rw [luS, if_neg z] at this; exact this
theorem luckX (h : HX nv nd f ι) : PC xl n 121 0 [(0, .ref 0), (1, .int x1), (2, .int x2), (3, .int x3)] [] ι (XRJ nv nd f (luR nd f x1 x2 x3) ι) := by
  have t10 : (10 : Int32).toInt = 10 := rfl
  unfold luR
  refine (t_121_0 ⟨fun c => ?_, fun c => ⟨fun c2 => ?_, fun c2 => ?_⟩⟩).weak
  · rw [i_lt, n0] at c
    rw [if_neg (by omega)]; exact h.sameJ
  · rw [i_lt, t10] at c2
    rw [if_neg (by omega)]; exact h.sameJ
  rw [i_lt, n0] at c
  rw [i_lt, t10] at c2
  rw [rf_0_2']
  refine hasDr_spec h.tw.2.1.2 (fun c3 => ?_) (fun d hd hdl r hr => ?_)
  · intro r e; cases e
    refine ⟨fun _ => ?_, fun q => absurd rfl q⟩
    rw [if_neg (fun q => c3 q.2.1)]; exact h.sameJ
  intro r2 e; cases e
  refine ⟨fun q => absurd q hr, fun _ => ⟨fun c4 => ?_, fun c4 => ⟨fun c5 => ?_, fun c5 => ?_⟩⟩⟩
  · rw [i_lt, n0] at c4
    rw [if_neg (by omega)]; exact h.sameJ
  · rw [i_lt, n0] at c4
    rw [i_lt, n1] at c5
    rw [if_pos ⟨⟨by omega, by omega⟩, ⟨by omega, by omega⟩, by omega, by omega⟩, show x2.toInt.toNat = d by omega, rf_0_2]
    refine vsp_spec h (fun r hr => ?_)
    intro r2 e; cases e
    exact luXL h (by omega) (by omega) hd hdl hr n 0 ι 0 .null rfl (Nat.zero_le _) Sm.rfl
  · rw [i_lt, n1] at c5
    rw [if_neg (by omega)]; exact h.sameJ
theorem meXL (h : HX nv nd f ι0) (h0 : 0 ≤ x1.toInt) (h1 : x1.toInt ≤ 10) (hx3 : x3.toInt = (vsN (plF f) (cnF f) : Nat)) : ∀ (n ch : Nat) (ι : IS) (x6 : Int32) (w7 : Value), x6.toInt = ch → ch ≤ 2 ^ vsN (plF f) (cnF f) → Sm 86 100 ι0 ι → PC xl n 127 37 [(0, .ref 0), (1, .int x1), (2, .int x2), (3, .int x3), (4, .long (sm64 (meS nd f x1) (List.range ch))), (6, .int x6), (7, w7)] [] ι (XRJ nv nd f (frO (sm64 (meS nd f x1) (List.range (2 ^ vsN (plF f) (cnF f)))) (tenX (vsN (plF f) (cnF f))) x2) ι0)
  | 0, _, _, _, _, _, _, _ => PC.zero
  | n + 1, ch, ι, x6, w7, h6, hc, hs => by
    have h4 := h.tw.1.1
    have h5 := h.tw.2.1.1
    have hv : vsN (plF f) (cnF f) ≤ 8 := by have := vs_le (p := plF f) (cnF f); have := h.cn8; omega
    have p8 := p2_8 hv
    have hi := h.keep hs
    have va : ∀ i, i < cnF f → VA nv nd (plF f i) := fun i hi => (h.1.2.1.2.2 i (by have hcn : cnF f = (f 52).toInt.toNat := rfl; omega)).2
    have lb := fun ch => me_b (x1 := x1) (ch := ch) h.2.2 h4 h5 va h.cn8 h0 h1
    refine t_127_37 ⟨fun c => ?_, fun c => weiX_spec (ch := ch) (i_on h6) (by rw [i_lt, h6, sh1 hx3 hv] at c; omega) hx3 hv ?_⟩
    · rw [i_lt, h6, sh1 hx3 hv] at c
      have : ch = 2 ^ vsN (plF f) (cnF f) := by omega
      subst this
      have sb := sm64_b (F := meS nd f x1) (l := List.range (2 ^ vsN (plF f) (cnF f))) (b := 4800000000) (fun x _ => lb x) (by rw [List.length_range]; omega)
      rw [List.length_range] at sb
      have p6 : (2 : Int) ^ 60 = 1152921504606846976 := rfl
      exact fr_spec hv hx3 sb.1 (by omega) (h.trJ hs)
    · rw [i_lt, h6, sh1 hx3 hv] at c
      intro r e; cases e
      have wb := w_b (x := x1) (ch := ch) h0 h1 _ hv
      have e1 : sm64 (meS nd f x1) (List.range (ch + 1)) = sm64 (meS nd f x1) (List.range ch) + meS nd f x1 ch := by rw [List.range_succ, sm_app]
      have go := fun ι2 w (s2 : Sm 86 100 ι0 ι2) => meXL h h0 h1 hx3 n (ch + 1) ι2 (x6 + 1) w (i_s h6 (by omega)) (by omega) s2
      rw [e1] at go
      refine ⟨fun q => ?_, fun q => choX_spec hi (ch := ch) (by omega) (i_on h6) (fun ι1 s1 t1 => ?_)⟩
      · rw [lg_cmp_gt, Int64.lt_iff_toInt_lt, j_z] at q
        have w0 : wX x1 ch (vsN (plF f) (cnF f)) = 0 := by rw [← Int64.toInt_inj, j_z]; omega
        have l0 : meS nd f x1 ch = 0 := by unfold meS; rw [w0, Int64.zero_mul]
        have := go ι (.long (wX x1 ch (vsN (plF f) (cnF f)))) hs
        rw [l0, Int64.add_zero] at this; exact this
      · refine takX_spec (hi.keep s1) t1 ?_
        intro r e; cases e
        rw [cq_pt h.2.2 h4 h5 (cnF f) va]
        exact go ι1 (.long (wX x1 ch (vsN (plF f) (cnF f)))) (hs.trans s1)
theorem meanX (h : HX nv nd f ι) : PC xl n 127 0 [(0, .ref 0), (1, .int x1), (2, .int x2)] [] ι (XRJ nv nd f (meR nd f x1 x2) ι) := by
  have t10 : (10 : Int32).toInt = 10 := rfl
  unfold meR
  refine (t_127_0 ⟨fun c => ?_, fun c => ⟨fun c2 => ?_, fun c2 => ⟨fun c4 => ?_, fun c4 => ⟨fun c5 => ?_, fun c5 => ?_⟩⟩⟩⟩).weak
  · rw [i_lt, n0] at c
    rw [if_neg (by omega)]; exact h.sameJ
  · rw [i_lt, t10] at c2
    rw [if_neg (by omega)]; exact h.sameJ
  · rw [i_lt, n0] at c4
    rw [if_neg (by omega)]; exact h.sameJ
  · rw [i_lt, n0] at c c4
    rw [i_lt, t10] at c2
    rw [i_lt, n1] at c5
    rw [if_pos ⟨⟨by omega, by omega⟩, by omega, by omega⟩, rf_0_2]
    refine vsp_spec h (fun r hr => ?_)
    intro r2 e; cases e
    exact meXL h (by omega) (by omega) hr n 0 ι 0 .null rfl (Nat.zero_le _) Sm.rfl
  · rw [i_lt, n1] at c5
    rw [if_neg (by omega)]; exact h.sameJ
end LuckX
end
section
/-! PARTIAL CORRECTNESS, VII: the model's longs too -/
def lgv (F : MH) : Nat → Int64 := fun j => match F[(129 : Nat)]? with
  | some (.inl o) => (match o.2[j]? with | some (.long x) => x | _ => 0)
  | _ => 0
def ul (l : Nat → Int64) (j : Nat) (x : Int64) : Nat → Int64 := fun k => if k = j then x else l k
/-- an instruction that writes no long, and calls what P holds -/
def nlE (P : Nat → Bool) (E : MI) : Bool := okS1 E && ((match E.2.1 with
  | .putfield _ => kindT (tFty E.2.2.2.1 E.2.2.2.2.1) == 0
  | _ => true) && (!(ivI E.2.1) || (E.2.2.2.1 == 9999 || (E.2.2.2.1 == 9998 || P E.2.2.2.1))))
def nlChk (P : Nat → Bool) : Bool := (tMT.zip (List.range tMT.length)).all (fun q => !(P q.2) || q.1.2.2.2.2.all (nlE P))
section PcL
variable {xl : List Int32} {n mi pc : Nat} {lv : LVs} {st r : List Value} {ι κ : IS} {l : Nat → Int64} {Q Q2 : Option Value → IS → (Nat → Int64) → Prop} {rt : Option FieldType} {a : Nat} {x y i : Int32} {F : MH}
theorem ul_same {j : Nat} {x : Int64} : ul l j x j = x := if_pos rfl
theorem ul_ne {j k : Nat} {x : Int64} (h : ¬ k = j) : ul l j x k = l k := if_neg h
theorem lg_setO {ci j : Nat} {fs : List Value} {x y : Int32} (h : F[a]? = some (.inl (ci, fs))) (hj : fs[j]? = some (.int y)) : lgv (F.set a (.inl (ci, fs.set j (.int x)))) = lgv F := by
  have ha : a < F.length := (List.getElem?_eq_some_iff.mp h).1
  have hl : j < fs.length := (List.getElem?_eq_some_iff.mp hj).1
  funext k
  unfold lgv
  by_cases hb : 129 = a
  · subst hb
    rw [List.getElem?_set_self ha, h]
    simp only
    by_cases hk : k = j
    · subst hk
      rw [List.getElem?_set_self hl, hj]
    · rw [List.getElem?_set_ne (fun e => hk e.symm)]
  · rw [List.getElem?_set_ne (fun e => hb e.symm)]
theorem lg_setJ {ci j : Nat} {fs : List Value} {x : Int64} (h : F[(129 : Nat)]? = some (.inl (ci, fs))) (hl : j < fs.length) : lgv (F.set 129 (.inl (ci, fs.set j (.long x)))) = ul (lgv F) j x := by
  have ha : 129 < F.length := (List.getElem?_eq_some_iff.mp h).1
  funext k
  unfold lgv ul
  rw [List.getElem?_set_self ha, h]
  simp only
  by_cases hk : k = j
  · subst hk
    rw [List.getElem?_set_self hl, if_pos rfl]
  · rw [List.getElem?_set_ne (fun e => hk e.symm), if_neg hk]
theorem iv_setJ {ci j : Nat} {fs : List Value} {x y : Int64} (h : F[a]? = some (.inl (ci, fs))) (hj : fs[j]? = some (.long y)) : iv (F.set a (.inl (ci, fs.set j (.long x)))) = iv F := by
  have ha : a < F.length := (List.getElem?_eq_some_iff.mp h).1
  have hl : j < fs.length := (List.getElem?_eq_some_iff.mp hj).1
  funext b k
  simp only [iv]
  by_cases hb : b = a
  · subst hb
    rw [List.getElem?_set_self ha, h]
    simp only
    by_cases hk : k = j
    · subst hk
      rw [List.getElem?_set_self hl, hj]
    · rw [List.getElem?_set_ne (fun e => hk e.symm)]
  · rw [List.getElem?_set_ne (fun e => hb e.symm)]
theorem lg_setR {q q2 : Nat × List Int32} (h : F[a]? = some (.inr (.inl q))) : lgv (F.set a (.inr (.inl q2))) = lgv F := by
  have ha : a < F.length := (List.getElem?_eq_some_iff.mp h).1
  funext k
  unfold lgv
  by_cases hb : 129 = a
  · subst hb
    rw [List.getElem?_set_self ha, h]
  · rw [List.getElem?_set_ne (fun e => hb e.symm)]
theorem wr_nl {P : Nat → Bool} {E : MI} {q : MH × List Value} (hs : F.map zc = sh0) (ho : nlE P E = true) (h : m_wr tFty tDfl F E st = some q) : lgv q.1 = lgv F := by
  unfold nlE at ho
  simp only [Bool.and_eq_true] at ho
  obtain ⟨ho, ho2, -⟩ := ho
  unfold m_wr at h
  split at h
  · rename_i he
    rw [he] at ho2
    simp only [beq_iff_eq] at ho2
    split at h
    · split at h
      · rename_i ci fs hc
        split at h
        · rename_i v a r hw
          cases h
          obtain ⟨hw1, hw2, hw3, hw4, hw5⟩ := hw
          subst hw2
          have hold : ∃ v, fs[E.2.2.2.2.1]? = some v := ⟨_, List.getElem?_eq_getElem hw3⟩
          obtain ⟨v0, hv0⟩ := hold
          have hf := sh_fld hs hc hv0
          obtain ⟨x, rfl⟩ := fits_int ho2 hw5
          have e0 := hf.1 ho2
          subst e0
          exact lg_setO hc hv0
        · cases h
      · cases h
    · cases h
  · split at h
    · split at h
      · rename_i hc
        split at h
        · cases h
          exact lg_setR hc
        · cases h
      · cases h
    · cases h
  · split at h
    · split at h
      · rename_i hc
        split at h
        · cases h
          exact lg_setR hc
        · cases h
      · cases h
    · cases h
  · rename_i he; unfold okS1 at ho; rw [he] at ho; cases ho
  · rename_i he; unfold okS1 at ho; rw [he] at ho; cases ho
  · rename_i he; unfold okS1 at ho; rw [he] at ho; cases ho
  · rename_i he; unfold okS1 at ho; rw [he] at ho; cases ho
  · cases h
theorem one_nl {P : Nat → Bool} {ro : Nat → Option MC} {E : MI} {q : MS} (hs : F.map zc = sh0) (ho : nlE P E = true) (h : m_one ro tFty tDfl E F lv st = some q) : lgv q.1 = lgv F := by
  unfold m_one at h
  split at h
  · cases h; rfl
  split at h
  · cases h; rfl
  split at h
  · cases h; rfl
  split at h
  · cases h; rfl
  split at h
  · cases h; rfl
  split at h
  · cases h; rfl
  split at h
  · rename_i hw
    cases h
    exact wr_nl hs ho hw
  · cases h
theorem ex_nl {P : Nat → Bool} {ro : Nat → Option MC} (hk : nlChk P = true) : ∀ (n d mi : Nat) (F : MH) (pc : Nat) (lv : LVs) (st : List Value) (z : Option Value × MH), P mi = true → F.map zc = sh0 → ex tMT ro tFty tDfl n d mi F pc lv st = some z → lgv z.2 = lgv F ∧ z.2.map zc = sh0 := by
  intro n
  induction n with
  | zero => intro d mi F pc lv st z _ _ h; cases h
  | succ n ih =>
    intro d mi F pc lv st z hp hs h
    rw [ex] at h
    split at h
    · cases h
    · rename_i E hE
      obtain ⟨M, hM, hm, -⟩ := at_mem hE
      have h1 := List.all_eq_true.mp hk _ (zip_mem hM)
      simp only [hp, Bool.not_true, Bool.false_or] at h1
      have ho := List.all_eq_true.mp h1 _ hm
      have ho1 : okS1 E.1 = true := by
        unfold nlE at ho
        simp only [Bool.and_eq_true] at ho
        exact ho.1
      split at h
      · rename_i q hq
        have := ih _ _ _ _ _ _ _ hp (one_sh hs ho1 hq) h
        rw [one_nl hs ho hq] at this
        exact this
      · split at h
        · cases h; exact ⟨rfl, hs⟩
        · split at h
          · cases h
          · rename_i q hi
            obtain ⟨hq, hI⟩ := inv_q hi
            have ht : E.1.2.2.2.1 = 9999 ∨ E.1.2.2.2.1 = 9998 ∨ P E.1.2.2.2.1 = true := by
              unfold nlE at ho
              simp only [Bool.and_eq_true] at ho
              have h3 := ho.2.2
              rw [hI] at h3
              simpa using h3
            have hq1 : q.1 = E.1.2.2.2.1 := by rw [hq]
            rw [← hq1] at ht
            split at h
            · split at h
              · split at h
                · exact ih _ _ _ _ _ _ _ hp hs h
                · cases h
              · cases h
            · rename_i h9
              split at h
              · split at h
                · exact ih _ _ _ _ _ _ _ hp hs h
                · cases h
              · rename_i h8
                split at h
                · split at h
                  · cases h
                  · split at h
                    · cases h
                    · rename_i z1 hz1
                      have i1 := ih _ _ _ _ _ _ _ ((ht.resolve_left h9).resolve_left h8) hs hz1
                      have i2 := ih _ _ _ _ _ _ _ hp i1.2 h
                      exact ⟨i2.1.trans i1.1, i2.2⟩
                · cases h
/-- every run from here that ends, ends so: ints and longs -/
def PL (xl : List Int32) (n mi pc : Nat) (lv : LVs) (st : List Value) (ι : IS) (l : Nat → Int64) (Q : Option Value → IS → (Nat → Int64) → Prop) : Prop := ∀ F, F.map zc = sh0 → iv F = ι → lgv F = l → PF (tRo xl) n mi pc lv st F (fun v F1 => Q v (iv F1) (lgv F1))
theorem PL.zero : PL xl 0 mi pc lv st ι l Q := fun _ _ _ _ => PF.zero
theorem PL.weak (h : PL xl (n + 1) mi pc lv st ι l Q) : PL xl n mi pc lv st ι l Q := fun F hs hi hl => (h F hs hi hl).weak
theorem PL.imp (h : PL xl n mi pc lv st ι l Q) (hq : ∀ v κ k, Q v κ k → Q2 v κ k) : PL xl n mi pc lv st ι l Q2 := fun F hs hi hl => (h F hs hi hl).imp fun v F1 q => hq v (iv F1) (lgv F1) q
theorem PL.le {m : Nat} (h : PL xl m mi pc lv st ι l Q) (hm : n ≤ m) : PL xl n mi pc lv st ι l Q := by
  induction m with
  | zero => rw [Nat.le_zero.mp hm]; exact h
  | succ m ih =>
    by_cases e : n = m + 1
    · rw [e]; exact h
    · exact ih h.weak (by omega)
/-- longs are left out -/
theorem PL.toPC {Q : Option Value → IS → Prop} (h : ∀ l, PL xl n mi pc lv st ι l (fun v κ _ => Q v κ)) : PC xl n mi pc lv st ι Q := fun F hs hi => h (lgv F) F hs hi rfl
/-- a method that writes none -/
theorem PL.ofPC {P : Nat → Bool} {Q : Option Value → IS → Prop} (hk : nlChk P = true) (hp : P mi = true) (h : PC xl n mi pc lv st ι Q) : PL xl n mi pc lv st ι l (fun v κ k => Q v κ ∧ k = l) := fun F hs hi hl d z hx => ⟨h F hs hi d z hx, by rw [(ex_nl hk n d mi F pc lv st z hp hs hx).1]; exact hl⟩
theorem PL.pr {k pc' : Nat} {lv' : LVs} {st' : List Value} (hk : m_pr k mi pc lv st = some (pc', lv', st')) (h : PL xl n mi pc' lv' st' ι l Q) : PL xl n mi pc lv st ι l Q := fun F hs hi hl => PF.pr hk (h F hs hi hl)
theorem PL.pr1 {k pc' : Nat} {lv' : LVs} {st' : List Value} (hk : m_pr (k + 1) mi pc lv st = some (pc', lv', st')) (h : PL xl n mi pc' lv' st' ι l Q) : PL xl (n + 1) mi pc lv st ι l Q := fun F hs hi hl => PF.pr1 hk (h F hs hi hl)
end PcL
end
