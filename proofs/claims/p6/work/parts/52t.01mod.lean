/-! TOWNS, II: the model's row: what is read of it, a VISIT -/
section Mod1
variable {xl : List Int32} {n mi pc : Nat} {lv : LVs} {st : List Value} {ι κ : IS} {Q : Option Value → IS → Prop} {x1 x2 x3 : Int32} {d v j m nd nv : Nat} {f : Nat → Int32} {bo : Int} {lw : Nat}
/-- behind its end a row of ints holds nothing -/
theorem PC.z (h : (∀ a j, 0 < ln a → ln a ≤ j → ι a j = 0) → PC xl n mi pc lv st ι Q) : PC xl n mi pc lv st ι Q := by
  intro F hs hi
  refine h (fun a j h0 hl => ?_) F hs hi
  rw [← hi]
  unfold iv
  cases hF : F[a]? with
  | none => rfl
  | some c =>
    rcases c with o | q | q
    · have h1 := sh_get hs hF
      unfold ln at h0
      rw [h1] at h0
      exact absurd h0 (Nat.lt_irrefl _)
    · have h1 := (sh_row hs hF).1
      show q.2.getD j 0 = 0
      rw [List.getD_eq_getElem?_getD, List.getElem?_eq_none (by omega)]; rfl
    · rfl
theorem ln_130 : ln 130 = 240 := by decide +kernel
theorem ln_131 : ln 131 = 80 := by decide +kernel
theorem rf_129_1 : rf 129 1 = 131 := by decide +kernel
theorem i_s {x : Int32} {k : Nat} (hx : x.toInt = k) (hk : k < 2147483647) : (x + 1).toInt = (k + 1 : Nat) := by
  rw [i_add (by rw [hx, n1]; omega), hx, n1]; rfl
theorem i_p {x : Int32} {k : Nat} (hx : x.toInt = (k + 1 : Nat)) (hk : k < 2147483647) : (x - 1).toInt = k := by
  rw [i_sub (by rw [hx, n1]; omega), hx, n1]; omega
theorem i_on {x : Int32} {k : Nat} (hx : x.toInt = k) : x = Int32.ofNat k := by
  have := i_rng x
  rw [i_eq, hx, i_of (by omega)]
theorem startsL : ∀ (n k : Nat) (κ : IS) (x : Int32), x.toInt = k → k ≤ 80 → (∀ κ', (∀ a, ¬ a = 131 → ¬ a = 129 → κ' a = κ a) → (∀ j, ¬ j = 20 → κ' 129 j = κ 129 j) → κ' 129 20 = -4 → (∀ j, κ' 131 j = if k ≤ j ∧ j < 80 then κ 130 j else κ 131 j) → Q none κ') → PC xl n 168 2 [(0, .ref 129), (1, .int x)] [] κ Q
  | 0, _, _, _, _, _, _ => PC.zero
  | n + 1, k, κ, x, hx, hk, hq => by
    refine t_168_2 ⟨fun c => ?_, fun c _ _ _ _ => ?_⟩
    · rw [i_lt, hx, n80] at c
      refine hq _ (fun a h1 h2 => up_oth h2) (fun j hj => up_ne (by omega)) (up_same _ _ _ _) (fun j => ?_)
      rw [if_neg (by omega)]; exact up_ne (by omega)
    · rw [i_lt, hx, n80] at c
      rw [rf_129_0, rf_129_1, i_ixn hx]
      refine startsL n (k + 1) _ (x + 1) (i_s hx (by omega)) (by omega) (fun κ' h1 h2 h3 h4 => hq κ' (fun a g1 g2 => ?_) (fun j hj => ?_) h3 (fun j => ?_))
      · rw [h1 a g1 g2]; exact up_oth g1
      · rw [h2 j hj]; exact up_ne (by omega)
      · rw [h4 j]
        by_cases e : j = k
        · subst e
          rw [if_neg (by omega), if_pos (by omega), up_same]
        · by_cases g : k + 1 ≤ j ∧ j < 80
          · rw [if_pos g, if_pos (by omega)]; exact up_ne (by omega)
          · rw [if_neg g, if_neg (by omega)]; exact up_ne (by omega)
theorem starts_spec (hq : ∀ κ', (∀ a, ¬ a = 131 → ¬ a = 129 → κ' a = κ a) → (∀ j, ¬ j = 20 → κ' 129 j = κ 129 j) → κ' 129 20 = -4 → κ' 131 = rO 0 (κ 130) → Q none κ') : PC xl n 168 0 [(0, .ref 129)] [] κ Q := by
  refine PC.z (fun hz => (t_168_0 (startsL n 0 κ 0 rfl (by omega) (fun κ' h1 h2 h3 h4 => hq κ' h1 h2 h3 ?_))).weak)
  funext j
  rw [h4 j]
  unfold rO
  by_cases g : j < 80
  · rw [if_pos ⟨Nat.zero_le _, g⟩, if_pos g, Nat.zero_add]
  · rw [if_neg (by omega), if_neg g]; exact hz 131 j (by rw [ln_131]; omega) (by rw [ln_131]; omega)
theorem settlesL : ∀ (n k : Nat) (κ : IS) (x : Int32), x.toInt = k → k ≤ 80 → (∀ κ', (∀ a, ¬ a = 130 → κ' a = κ a) → (∀ j, κ' 130 j = if k ≤ j ∧ j < 80 then κ 131 j else κ 130 j) → Q none κ') → PC xl n 189 2 [(0, .ref 129), (1, .int x)] [] κ Q
  | 0, _, _, _, _, _, _ => PC.zero
  | n + 1, k, κ, x, hx, hk, hq => by
    refine t_189_2 ⟨fun c => ?_, fun c _ _ _ _ => ?_⟩
    · rw [i_lt, hx, n80] at c
      refine hq κ (fun a h1 => rfl) (fun j => ?_)
      rw [if_neg (by omega)]
    · rw [i_lt, hx, n80] at c
      rw [rf_129_0, rf_129_1, i_ixn hx]
      refine settlesL n (k + 1) _ (x + 1) (i_s hx (by omega)) (by omega) (fun κ' h1 h4 => hq κ' (fun a g1 => ?_) (fun j => ?_))
      · rw [h1 a g1]; exact up_oth g1
      · rw [h4 j]
        by_cases e : j = k
        · subst e
          rw [if_neg (by omega), if_pos (by omega), up_same]
        · by_cases g : k + 1 ≤ j ∧ j < 80
          · rw [if_pos g, if_pos (by omega)]; exact up_ne (by omega)
          · rw [if_neg g, if_neg (by omega)]; exact up_ne (by omega)
theorem settles_spec (hq : ∀ κ', (∀ a, ¬ a = 130 → κ' a = κ a) → rO 0 (κ' 130) = κ 131 → (∀ j, 80 ≤ j → κ' 130 j = κ 130 j) → Q none κ') : PC xl n 189 0 [(0, .ref 129)] [] κ Q := by
  refine PC.z (fun hz => (t_189_0 (settlesL n 0 κ 0 rfl (by omega) (fun κ' h1 h4 => hq κ' h1 ?_ (fun j hj => ?_)))).weak)
  · funext j
    unfold rO
    by_cases g : j < 80
    · rw [if_pos g, Nat.zero_add, h4 j, if_pos ⟨Nat.zero_le _, g⟩]
    · rw [if_neg g]; exact (hz 131 j (by rw [ln_131]; omega) (by rw [ln_131]; omega)).symm
  · rw [h4 j, if_neg (by omega)]
theorem ofD_spec (hd : x1.toInt = d) (h4 : d < 4) (hj : x2.toInt = j) (h9 : j < 10) (hm : m = 16 + 9 * d + j) (h : Q (some (.int (κ 131 m))) κ) : PC xl n 169 0 [(0, .ref 129), (1, .int x1), (2, .int x2)] [] κ Q := by
  refine (t_169_0 (fun _ _ => ?_)).weak
  rw [rf_129_1, ixD hd h4 hj h9, ← hm]; exact h
theorem of_spec (hv : x1.toInt = v) (h4 : v < 4) (hj : x2.toInt = j) (h9 : j < 9) (hm : m = 4 * v + j) (h : Q (some (.int (κ 131 m))) κ) : PC xl n 170 0 [(0, .ref 129), (1, .int x1), (2, .int x2)] [] κ Q := by
  refine (t_170_0 (fun _ _ => ?_)).weak
  rw [rf_129_1, ixV hv h4 hj h9, ← hm]; exact h
theorem becD_spec (hd : x1.toInt = d) (h4 : d < 4) (hj : x2.toInt = j) (h9 : j < 10) (hm : m = 16 + 9 * d + j) (h : Q none (up κ 131 m x3)) : PC xl n 188 0 [(0, .ref 129), (1, .int x1), (2, .int x2), (3, .int x3)] [] κ Q := by
  refine (t_188_0 (fun _ _ => ?_)).weak
  rw [rf_129_1, ixD hd h4 hj h9, ← hm]; exact h
theorem i_3 {k : Nat} (h : x2.toInt = k) (hk : k < 100) : (3 + x2).toInt = (3 + k : Nat) := by
  rw [i_add (by rw [n3, h]; omega), n3, h]; omega
theorem layM_spec (hd : x1.toInt = d) (h4 : d < 4) (hj : x2.toInt = j) (h9 : j < 7) (h : Q (some (.int (κ 131 (19 + 9 * d + j)))) κ) : PC xl n 174 0 [(0, .ref 129), (1, .int x1), (2, .int x2)] [] κ Q := by
  refine (t_174_0 (ofD_spec (m := 19 + 9 * d + j) hd h4 (i_3 hj (by omega)) (by omega) (by omega) ?_)).weak
  intro r e; cases e; exact h
theorem shM_spec (hd : x1.toInt = d) (h4 : d < 4) (hw : 0 ≤ (κ 131 (16 + 9 * d)).toInt ∧ (κ 131 (16 + 9 * d)).toInt ≤ 6) (h : Q (some (.int (shF (κ 131) d))) κ) : PC xl n 173 0 [(0, .ref 129), (1, .int x1)] [] κ Q := by
  refine (t_173_0 (ofD_spec (m := 16 + 9 * d) hd h4 (j := 0) rfl (by omega) (by omega) ?_)).weak
  intro r e; cases e
  refine ⟨fun c => ofD_spec (m := 16 + 9 * d) hd h4 (j := 0) rfl (by omega) (by omega) ?_, fun c => ?_⟩
  · intro r e; cases e
    have h1 := i_nz c hw.1
    obtain ⟨k, hk⟩ : ∃ k : Nat, (κ 131 (16 + 9 * d)).toInt = (k + 1 : Nat) := ⟨(κ 131 (16 + 9 * d)).toInt.toNat - 1, by omega⟩
    refine layM_spec (j := k) hd h4 (i_p hk (by omega)) (by omega) ?_
    intro r e; cases e
    rw [shF_s hk] at h
    exact h
  · rw [shF_0 c] at h; exact h
theorem usM_spec (hv : x1.toInt = v) (hv4 : v < 4) (hd : x2.toInt = d) (hd4 : d < 4) (h : Q (some (.int (usF (κ 131) v d))) κ) : PC xl n 184 0 [(0, .ref 129), (1, .int x1), (2, .int x2)] [] κ Q := by
  refine (t_184_0 (ofD_spec (m := 16 + 9 * d) hd hd4 (j := 0) rfl (by omega) (by omega) ?_)).weak
  intro r e; cases e
  refine of_spec (m := 4 * v) hv hv4 (j := 0) rfl (by omega) (by omega) ?_
  intro r e; cases e
  unfold usF at h
  refine ⟨fun c => ⟨fun c2 => ?_, fun c2 => ?_⟩, fun c => ?_⟩
  · rw [if_neg c, if_neg c2] at h; exact h
  · rw [if_neg c, if_pos c2] at h; exact h
  · rw [if_pos c] at h; exact h
theorem owM_spec (hv : x1.toInt = v) (hv4 : v < 4) (h : Q (some (.int (owF (κ 131) v))) κ) : PC xl n 179 0 [(0, .ref 129), (1, .int x1)] [] κ Q := by
  unfold owF at h
  refine (t_179_0 (of_spec (m := 4 * v) hv hv4 (j := 0) rfl (by omega) (by omega) ?_)).weak
  intro r e; cases e
  refine ⟨fun c => of_spec (m := 4 * v + 1) hv hv4 (j := 1) rfl (by omega) (by omega) ?_, fun c => of_spec (m := 1) (v := 0) rfl (by omega) (j := 1) rfl (by omega) (by omega) ?_⟩
  · intro r e; cases e
    rw [if_neg c] at h; exact h
  · intro r e; cases e
    rw [if_pos c] at h; exact h
/-- who borrows, in the model -/
def BM2 (bo : Int) (lw : Nat) (κ : IS) : Prop := (κ 129 20).toInt = bo ∧ (0 ≤ bo → lw < 4 ∧ (κ 129 21).toInt = lw)
theorem brM_spec (hv : x1.toInt = v) (hv4 : v < 4) (hB : BM2 bo lw κ) (h : Q (some (.int (brF bo lw (κ 131) v))) κ) : PC xl n 178 0 [(0, .ref 129), (1, .int x1)] [] κ Q := by
  unfold brF at h
  refine (t_178_0 ⟨fun c => owM_spec hv hv4 ?_, fun c => ?_⟩).weak
  · intro r e; cases e
    rw [i_eq, hv, hB.1] at c
    rw [if_neg c] at h; exact h
  · rw [i_eq, hv, hB.1] at c
    have := hB.2 (by omega)
    refine owM_spec this.2 this.1 ?_
    intro r e; cases e
    rw [if_pos c] at h; exact h
theorem koM_spec (hv : x1.toInt = v) (hv4 : v < 4) (hd : x2.toInt = d) (hd4 : d < 4) (h : Q (some (.int (koF (κ 131) v d))) κ) : PC xl n 186 0 [(0, .ref 129), (1, .int x1), (2, .int x2)] [] κ Q := by
  have l35 : ∀ u : Int32, (u = 0 ↔ ¬ (¬ κ 131 (4 * v) = 2 ∧ κ 131 (16 + 9 * d) = 6 ∧ κ 131 (17 + 9 * d) = 0)) → PC xl n 186 35 [(0, .ref 129), (1, .int x1), (2, .int x2)] [.int u] κ Q := by
    intro u hu
    refine (t_186_35 (of_spec (m := 4 * v + 2) hv hv4 (j := 2) rfl (by omega) (by omega) ?_)).weak
    intro r e; cases e
    refine usM_spec hv hv4 hd hd4 ?_
    intro r e; cases e
    unfold koF at h
    refine ⟨fun c => ⟨fun c2 => ?_, fun c2 => ?_⟩, fun c => ?_⟩
    · rw [if_neg c, if_neg (hu.mp c2)] at h; exact h
    · have c3 : ¬ κ 131 (4 * v) = 2 ∧ κ 131 (16 + 9 * d) = 6 ∧ κ 131 (17 + 9 * d) = 0 := by
        false_or_by_contra; rename_i hh; exact c2 (hu.mpr hh)
      rw [if_neg c, if_pos c3] at h; exact h
    · rw [if_pos c] at h; exact h
  have l34 : ¬ (¬ κ 131 (4 * v) = 2 ∧ κ 131 (16 + 9 * d) = 6 ∧ κ 131 (17 + 9 * d) = 0) → PC xl n 186 34 [(0, .ref 129), (1, .int x1), (2, .int x2)] [] κ Q := fun hh => (t_186_34 (l35 0 ⟨fun _ => hh, fun _ => rfl⟩)).weak
  refine (t_186_0 (of_spec (m := 4 * v) hv hv4 (j := 0) rfl (by omega) (by omega) ?_)).weak
  intro r e; cases e
  refine ⟨fun c => l34 (fun hh => hh.1 c), fun c => ofD_spec (m := 16 + 9 * d) hd hd4 (j := 0) rfl (by omega) (by omega) ?_⟩
  intro r e; cases e
  refine ⟨fun c2 => l34 (fun hh => c2 hh.2.1), fun c2 => ofD_spec (m := 17 + 9 * d) hd hd4 (j := 1) rfl (by omega) (by omega) ?_⟩
  intro r e; cases e
  refine ⟨fun c3 => l34 (fun hh => c3 hh.2.2), fun c3 => l35 1 ⟨fun q => absurd q (by decide), fun q => absurd ⟨c, c2, c3⟩ q⟩⟩
theorem ta_d (hv : v < 4) {k : Nat} (hk : 16 ≤ k) : taF f v d k = f k := by
  unfold taF
  split
  · rw [fs_ne (by omega), fs_ne (by omega)]
  · rw [fs_ne (by omega)]
theorem ta_v {k : Nat} (hk : ¬ k = 4 * v + 2 ∧ ¬ k = 4 * v + 3) : taF f v d k = f k := by
  unfold taF
  split
  · rw [fs_ne (by omega), fs_ne (by omega)]
  · rw [fs_ne (by omega)]
theorem ta_br {w : Nat} : brF bo lw (taF f v d) w = brF bo lw f w := by
  unfold brF owF
  rw [ta_v (by omega), ta_v (by omega), ta_v (by omega), ta_v (by omega), ta_v (by omega)]
theorem ta_sh (hv : v < 4) : shF (taF f v d) d = shF f d := by
  unfold shF
  rw [ta_d hv (by omega), ta_d hv (by omega)]
theorem rowE {g : Nat → Int32} {k : Nat} {x : Int32} (h : κ 131 = g) : (up κ 131 k x) 131 = fs g k x := by rw [up_row, h]
theorem viM_spec (hv : x1.toInt = v) (hv4 : v < 4) (hd : x2.toInt = d) (hd4 : d < 4) (hw : WD (κ 131) d) (hB : BM2 bo lw κ) (h : ∀ κ', κ' 131 = viF bo lw (κ 131) v d → (∀ a, ¬ a = 131 → κ' a = κ a) → Q (some (.int (usF (κ 131) v d))) κ') : PC xl n 187 0 [(0, .ref 129), (1, .int x1), (2, .int x2)] [] κ Q := by
  have l74 : ∀ (κ1 : IS) (u : Int32), κ1 131 = taF (κ 131) v d → (∀ a, ¬ a = 131 → κ1 a = κ a) → (u = 0 ↔ ¬ iwF (κ 131) d) → PC xl n 187 74 [(0, .ref 129), (1, .int x1), (2, .int x2), (3, .int (usF (κ 131) v d)), (4, .int (shF (κ 131) d)), (5, .int u)] [] κ1 Q := by
    intro κ1 u h1 h2 hu
    have e0 : κ1 131 (16 + 9 * d) = κ 131 (16 + 9 * d) := by rw [h1, ta_d hv4 (by omega)]
    have e1 : κ1 131 (17 + 9 * d) = κ 131 (17 + 9 * d) := by rw [h1, ta_d hv4 (by omega)]
    refine (t_187_74 (of_spec (m := 4 * v) hv hv4 (j := 0) rfl (by omega) (by omega) ?_)).weak
    intro r e; cases e
    have e3 : κ1 131 (4 * v) = κ 131 (4 * v) := by rw [h1, ta_v (by omega)]
    rw [e3]
    refine ⟨fun c => h κ1 (by rw [h1]; exact (if_pos c).symm) h2, fun c => ofD_spec (m := 16 + 9 * d) hd hd4 (j := 0) rfl (by omega) (by omega) ?_⟩
    intro r e; cases e
    have hvi : viF bo lw (κ 131) v d = paF (taF (κ 131) v d) d (brF bo lw (κ 131) v) := if_neg c
    have hB1 : BM2 bo lw κ1 := by unfold BM2; rw [h2 129 (by omega)]; exact hB
    have hbr : brF bo lw (κ1 131) v = brF bo lw (κ 131) v := by rw [h1, ta_br]
    have iw1 : iwF (taF (κ 131) v d) d ↔ iwF (κ 131) d := by
      unfold iwF
      rw [ta_d hv4 (by omega), ta_d hv4 (by omega)]
    obtain ⟨q, hq⟩ : ∃ q : Nat, (κ 131 (16 + 9 * d)).toInt = q := ⟨(κ 131 (16 + 9 * d)).toInt.toNat, by have := hw.1.1; omega⟩
    have q6 : q ≤ 6 := by have := hw.1.2; omega
    refine ⟨fun c2 => ?_, fun c2 => ?_⟩
    · have ni : ¬ iwF (κ 131) d := hu.mp c2
      refine (t_187_109 ⟨fun _ => brM_spec hv hv4 hB1 ?_, fun c3 => absurd c2 c3⟩).weak
      intro r e; cases e
      refine becD_spec (m := 19 + 9 * d + q) hd hd4 (j := 3 + q) (i_3 (by rw [e0]; exact hq) (by omega)) (by omega) (by omega) ?_
      refine ⟨fun _ => becD_spec (m := 16 + 9 * d) hd hd4 (j := 0) rfl (by omega) (by omega) (becD_spec (m := 17 + 9 * d) hd hd4 (j := 1) rfl (by omega) (by omega) ?_), fun c3 => absurd c2 c3⟩
      refine h _ ?_ (fun a ha => by rw [up_oth ha, up_oth ha, up_oth ha]; exact h2 a ha)
      rw [rowE (rowE (rowE h1)), hbr, hvi]
      unfold paF
      rw [if_neg (fun hh => ni (iw1.mp hh)), ta_d hv4 (show 16 ≤ 16 + 9 * d by omega), hq, e0]
      rfl
    · have yi : iwF (κ 131) d := by false_or_by_contra; rename_i hh; exact c2 (hu.mpr hh)
      have q0 : 0 < q := by
        have := i_nz yi.2 hw.1.1
        omega
      obtain ⟨k, rfl⟩ : ∃ k, q = k + 1 := ⟨q - 1, by omega⟩
      refine (t_187_109 ⟨fun c3 => absurd c3 c2, fun _ => brM_spec hv hv4 hB1 ?_⟩).weak
      intro r e; cases e
      refine becD_spec (m := 19 + 9 * d + k) hd hd4 (j := 3 + k) (i_3 (i_p (by rw [e0]; exact hq) (by omega)) (by omega)) (by omega) (by omega) ?_
      refine ⟨fun c3 => absurd c3 c2, fun _ => becD_spec (m := 16 + 9 * d) hd hd4 (j := 0) rfl (by omega) (by omega) (becD_spec (m := 17 + 9 * d) hd hd4 (j := 1) rfl (by omega) (by omega) ?_)⟩
      refine h _ ?_ (fun a ha => by rw [up_oth ha, up_oth ha, up_oth ha]; exact h2 a ha)
      rw [rowE (rowE (rowE h1)), hbr, hvi]
      unfold paF
      rw [if_pos (iw1.mpr yi), ta_d hv4 (show 16 ≤ 16 + 9 * d by omega), hq, e0, ta_sh hv4, show 18 + 9 * d + ((k + 1 : Nat) : Int).toNat = 19 + 9 * d + k by rw [Int.toNat_natCast]; omega]
  have l36 : ∀ u : Int32, (u = 0 ↔ ¬ iwF (κ 131) d) → PC xl n 187 36 [(0, .ref 129), (1, .int x1), (2, .int x2), (3, .int (usF (κ 131) v d)), (4, .int (shF (κ 131) d))] [.int u] κ Q := by
    intro u hu
    refine (t_187_36 (fun _ _ _ _ => ⟨fun c => ?_, fun c _ _ _ _ => ?_⟩)).weak
    · rw [rf_129_1, ixV hv hv4 (j := 2) rfl (by omega)]
      refine l74 _ u ?_ (fun a ha => up_oth ha) hu
      rw [up_row]; exact (if_neg (hu.mp c)).symm
    · have yi : iwF (κ 131) d := by false_or_by_contra; rename_i hh; exact c (hu.mpr hh)
      rw [rf_129_1, ixV hv hv4 (j := 2) rfl (by omega), ixV hv hv4 (j := 3) rfl (by omega)]
      refine l74 _ u ?_ (fun a ha => by rw [up_oth ha, up_oth ha]) hu
      rw [up_row, up_row, fs_ne (by omega)]; exact (if_pos yi).symm
  refine (t_187_0 (usM_spec hv hv4 hd hd4 ?_)).weak
  intro r e; cases e
  refine shM_spec hd hd4 hw.1 ?_
  intro r e; cases e
  refine ofD_spec (m := 17 + 9 * d) hd hd4 (j := 1) rfl (by omega) (by omega) ?_
  intro r e; cases e
  have l35 : ¬ iwF (κ 131) d → PC xl n 187 35 [(0, .ref 129), (1, .int x1), (2, .int x2), (3, .int (usF (κ 131) v d)), (4, .int (shF (κ 131) d))] [] κ Q := fun hh => (t_187_35 (l36 0 ⟨fun _ => hh, fun _ => rfl⟩)).weak
  refine ⟨fun c => l35 (fun hh => c hh.1), fun c => ⟨fun c2 => l35 (fun hh => hh.2 (hw.sh4.mp c2)), fun c2 => l36 1 ⟨fun q => absurd q (by decide), fun q => absurd ⟨c, fun z => c2 (shF_0 z)⟩ q⟩⟩⟩
end Mod1
