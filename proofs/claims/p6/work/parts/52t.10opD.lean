/-! CALLS, IV: keep, back, sheet, lay, torn, count, fault; feed, end -/
/-- what keep leaves, by the class -/
def kpX (nv nd : Nat) (f : Nat → Int32) (x1 : Int32) (ι : IS) (v : Option Value) (ι1 : IS) : Prop := (∃ k : Nat, x1.toInt = k ∧ k < 2 ∧ v = some (.int (if ι 85 k = 0 then 0 else 1)) ∧ (∀ a j, ¬ (45 + 20 * k ≤ a ∧ a ≤ 64 + 20 * k) → ¬ (a = 85 ∧ j = k) → ι1 a j = ι a j) ∧ ι1 85 k = 1 ∧ TO (45 + 20 * k) nv nd f ι1) ∨ (¬ (0 ≤ x1.toInt ∧ x1.toInt < 2) ∧ v = some (.int (-1)) ∧ ι1 = ι)
section OpD
variable {xl : List Int32} {n n2 : Nat} {ι ι1 κ κ1 : IS} {nv nd : Nat} {f g : Nat → Int32} {x1 x2 x3 : Int32} {Q : Option Value → IS → Prop} {r : Int32}
theorem img_at {k : Nat} (hk : k < 2) : re (rf 0 3) k = 45 + 20 * k ∧ isTold (45 + 20 * k) := by
  match k, hk with
  | 0, _ => exact ⟨re_img0, by decide⟩
  | 1, _ => exact ⟨re_img1, by decide⟩
/-- rows copied: to t from s -/
theorem copL {t s : Nat} (hx1 : x1.toInt = t) (hx2 : x2.toInt = s) (ht : t ≤ 160) (hs : s ≤ 160) (hts : s + 80 ≤ t ∨ t + 80 ≤ s) (hq : ∀ κ', (∀ a, ¬ a = 130 → κ' a = κ a) → (∀ j, κ' 130 j = if t ≤ j ∧ j < t + 80 then κ 130 (s + (j - t)) else κ 130 j) → Q none κ') : ∀ (n i : Nat) (κ2 : IS) (x3 : Int32), x3.toInt = i → i ≤ 80 → (∀ a, ¬ a = 130 → κ2 a = κ a) → (∀ j, κ2 130 j = if t ≤ j ∧ j < t + i then κ 130 (s + (j - t)) else κ 130 j) → PC xl n 231 2 [(0, .ref 129), (1, .int x1), (2, .int x2), (3, .int x3)] [] κ2 Q
  | 0, _, _, _, _, _, _, _ => PC.zero
  | n + 1, i, κ2, x3, hx, hi, h1, h2 => by
    refine t_231_2 ⟨fun c => ?_, fun c _ _ _ _ => ?_⟩
    · rw [i_lt, hx, n80] at c
      have : i = 80 := by omega
      subst this
      exact hq κ2 h1 h2
    · rw [i_lt, hx, n80] at c
      have e1 : (x1 + x3).toInt = (t + i : Nat) := by rw [i_add (by rw [hx1, hx]; omega), hx1, hx]; rfl
      have e2 : (x2 + x3).toInt = (s + i : Nat) := by rw [i_add (by rw [hx2, hx]; omega), hx2, hx]; rfl
      rw [rf_129_0, i_ixn e1, i_ixn e2, h2 (s + i), if_neg (by omega)]
      refine copL hx1 hx2 ht hs hts hq n (i + 1) _ (x3 + 1) (i_s hx (by omega)) (by omega) (fun a ha => by rw [up_oth ha]; exact h1 a ha) (fun j => ?_)
      by_cases e : j = t + i
      · subst e
        rw [up_same, if_pos (by omega), show t + i - t = i by omega]
      · rw [up_ne (by omega), h2 j]
        by_cases g : t ≤ j ∧ j < t + i
        · rw [if_pos g, if_pos (by omega)]
        · rw [if_neg g, if_neg (by omega)]
theorem cop_spec {t s : Nat} (hx1 : x1.toInt = t) (hx2 : x2.toInt = s) (ht : t ≤ 160) (hs : s ≤ 160) (hts : s + 80 ≤ t ∨ t + 80 ≤ s) (hq : ∀ κ', (∀ a, ¬ a = 130 → κ' a = κ a) → (∀ j, κ' 130 j = if t ≤ j ∧ j < t + 80 then κ 130 (s + (j - t)) else κ 130 j) → Q none κ') : PC xl n 231 0 [(0, .ref 129), (1, .int x1), (2, .int x2)] [] κ Q :=
  (t_231_0 (copL hx1 hx2 ht hs hts hq n 0 κ 0 rfl (Nat.zero_le _) (fun _ _ => rfl) (fun j => by rw [if_neg (by omega)]))).weak
theorem i_80 {k : Nat} (hk : x1.toInt = k) (h2 : k < 2) : (80 * (x1 + 1)).toInt = (80 * (k + 1) : Nat) := by
  have e := i_s hk (by omega)
  rw [i_mul (by rw [n80, e]; omega), n80, e]; rfl
/-- an image is kept -/
theorem keep_call (h : RN nv nd ι κ) (w : WW κ) : CALL xl n n2 130 230 [(0, .ref 0), (1, .int x1)] [(0, .ref 129), (1, .int x1)] (fun v1 v2 => v1 = v2) ι κ := by
  have hx := h.hx w
  have key : PC xl n 130 0 [(0, .ref 0), (1, .int x1)] [] ι (kpX nv nd (rO 0 (κ 130)) x1 ι) := by
    refine (t_130_0 ⟨fun c => ?_, fun c => ⟨fun c2 _ _ => ?_, fun c2 => ?_⟩⟩).weak
    · rw [i_lt, n0] at c
      exact Or.inr ⟨by omega, rfl, rfl⟩
    · rw [i_lt, n0] at c
      rw [i_lt, n2i] at c2
      obtain ⟨k, hk⟩ : ∃ k : Nat, x1.toInt = k := ⟨x1.toInt.toNat, by omega⟩
      have hk2 : k < 2 := by omega
      obtain ⟨e1, e2⟩ := img_at hk2
      rw [rf_0_4, rf_0_2, i_ixn hk, e1, show vp_nar .boolean 1 = 1 from rfl]
      have fin : ∀ (ι1 : IS) (y : Int32), (y = if ι 85 k = 0 then 0 else 1) → Sm (45 + 20 * k) (45 + 20 * k + 19) ι ι1 → TO (45 + 20 * k) nv nd (rO 0 (κ 130)) ι1 → kpX nv nd (rO 0 (κ 130)) x1 ι (some (.int y)) (up ι1 85 k 1) := fun ι1 y hy s1 t1 =>
        Or.inl ⟨k, hk, hk2, by rw [hy], fun a j g1 g2 => by rw [up_ne (by omega)]; exact s1 a j (by omega), up_same _ _ _ _, t1.keep (fun a j g1 g2 => up_ne (by omega))⟩
      refine ⟨fun e _ _ => tolB_spec e2 (by decide) (by omega) w.1.hb hx.1 (fun ι1 s1 t1 _ _ _ => ?_), fun e _ _ => tolB_spec e2 (by decide) (by omega) w.1.hb hx.1 (fun ι1 s1 t1 _ _ _ => ?_)⟩
      · exact fin ι1 0 (by rw [if_pos e]) s1 t1
      · exact fin ι1 1 (by rw [if_neg e]) s1 t1
    · rw [i_lt, n2i] at c2
      exact Or.inr ⟨by omega, rfl, rfl⟩
  refine PC.imp key (fun v1 ι1 g1 => ?_)
  refine (t_230_0 (inL (l := 0) (g := 1) rfl rfl (fun r hr => ?_))).weak
  intro r2 e; cases e
  refine ⟨fun c _ _ => ?_, fun c => ?_⟩
  · have c2 : 0 ≤ x1.toInt ∧ x1.toInt ≤ 1 := by false_or_by_contra; rename_i hh; exact c (hr.mpr hh)
    rcases g1 with ⟨k, hk, hk2, q1, q2, q3, q4⟩ | ⟨q0, -⟩
    · have fin : ∀ y : Int32, (y = if κ 132 k = 0 then 0 else 1) → ∀ κ3 : IS, (∀ a, ¬ a = 130 → κ3 a = (up κ 132 k 1) a) → (∀ j, κ3 130 j = if 80 * (k + 1) ≤ j ∧ j < 80 * (k + 1) + 80 then (up κ 132 k 1) 130 (0 + (j - 80 * (k + 1))) else (up κ 132 k 1) 130 j) → v1 = some (Value.int y) ∧ RRel ι1 κ3 := by
        intro y hy κ3 m1 m2
        obtain ⟨⟨a1, a2⟩, ⟨b1, b2⟩, ⟨c1, c3⟩, dd, ee, gg⟩ := h
        have o130 : (up κ 132 k 1) 130 = κ 130 := up_oth (by omega)
        have o129 : κ3 129 = κ 129 := by rw [m1 129 (by omega)]; exact up_oth (by omega)
        rw [o130] at m2
        have f0 : rO 0 (κ3 130) = rO 0 (κ 130) := by
          funext j
          unfold rO
          split
          · rw [m2, if_neg (by omega)]
          · rfl
        refine ⟨by rw [q1, hy, (dd k hk2).1], nv, nd, ⟨a1, by rw [o129]; exact a2⟩, ⟨b1, by rw [o129]; exact b2⟩, ⟨by rw [f0]; exact c1.keep (fun a j g1 g2 => q2 a j (by omega) (by omega)), by rw [q2 25 4 (by omega) (by omega)]; exact c3⟩, fun q hq => ?_, ?_, ?_⟩
        · by_cases e : q = k
          · subst e
            rw [q3, m1 132 (by omega), up_same]
            refine ⟨rfl, fun _ => ?_⟩
            have : rO (80 * (q + 1)) (κ3 130) = rO 0 (κ 130) := by
              funext j
              unfold rO
              split
              · rw [m2, if_pos (by omega), show 0 + (80 * (q + 1) + j - 80 * (q + 1)) = 0 + j by omega]
              · rfl
            rw [this]; exact q4
          · rw [q2 85 q (by omega) (by omega), m1 132 (by omega), up_ne (by omega)]
            refine ⟨(dd q hq).1, fun z => ?_⟩
            have : rO (80 * (q + 1)) (κ3 130) = rO (80 * (q + 1)) (κ 130) := by
              funext j
              unfold rO
              split
              · rw [m2, if_neg (by omega)]
              · rfl
            rw [this]; exact ((dd q hq).2 z).keep (fun a j g1 g2 => q2 a j (by omega) (by omega))
        · exact ee.keep (fun a j g1 g2 => q2 a j (by omega) (by omega)) (q2 0 10 (by omega) (by omega)) ⟨by rw [m1 137 (by omega)]; exact up_oth (by omega), by rw [m1 138 (by omega)]; exact up_oth (by omega), by rw [m1 139 (by omega)]; exact up_oth (by omega)⟩ (by rw [o129])
        · exact gg.keep (fun a j g1 g2 => q2 a j (by omega) (by omega)) (by rw [o129]) (by rw [m1 135 (by omega)]; exact up_oth (by omega))
      rw [rf_129_2, i_ixn hk, show vp_nar .boolean 1 = 1 from rfl]
      refine (t_175_0 ⟨fun e => ?_, fun e => ?_⟩).weak
      · intro r2 e2 _ _; cases e2
        exact cop_spec (s := 0) (i_80 hk hk2) rfl (by omega) (by omega) (by omega) (fun κ3 m1 m2 => fin 0 (by rw [if_pos e]) κ3 m1 m2)
      · intro r2 e2 _ _; cases e2
        exact cop_spec (s := 0) (i_80 hk hk2) rfl (by omega) (by omega) (by omega) (fun κ3 m1 m2 => fin 1 (by rw [if_neg e]) κ3 m1 m2)
    · omega
  · have no := hr.mp c
    rcases g1 with ⟨k, hk, hk2, -⟩ | ⟨-, q1, q2⟩
    · omega
    · rw [q2]; exact ⟨q1, nv, nd, h⟩
theorem WW.img (w : WW κ) {k : Nat} (hk : k < 2) : WF (rO (80 * (k + 1)) (κ 130)) := by
  match k, hk with
  | 0, _ => exact w.2.1
  | 1, _ => exact w.2.2
def baG (κ : IS) (x : Int32) : Nat → Int32 := if 0 ≤ x.toInt ∧ x.toInt < 2 ∧ ¬ κ 132 x.toInt.toNat = 0 then rO (80 * (x.toInt.toNat + 1)) (κ 130) else rO 0 (κ 130)
def baR (nd : Nat) (κ : IS) (x : Int32) : Int32 := if 0 ≤ x.toInt ∧ x.toInt < 2 then (if κ 132 x.toInt.toNat = 0 then -2 else alF (rO (80 * (x.toInt.toNat + 1)) (κ 130)) nd) else -1
theorem backX (h : RN nv nd ι κ) (w : WW κ) : PC xl n 131 0 [(0, .ref 0), (1, .int x1)] [] ι (XR nv nd (baG κ x1) (baR nd κ x1) ι) := by
  have hx := h.hx w
  unfold baG baR
  refine (t_131_0 ?_).weak
  rw [rf_0_2', rf_0_2, rf_0_4]
  refine ⟨fun c => ?_, fun c => ⟨fun c2 _ _ => ?_, fun c2 => ?_⟩⟩
  · rw [i_lt, n0] at c
    rw [if_neg (by omega), if_neg (by omega)]; exact hx.same
  · rw [i_lt, n0] at c
    rw [i_lt, n2i] at c2
    obtain ⟨k, hk⟩ : ∃ k : Nat, x1.toInt = k := ⟨x1.toInt.toNat, by omega⟩
    have hk2 : k < 2 := by omega
    obtain ⟨e1, e2⟩ := img_at hk2
    have hd := h.2.2.2.1 k hk2
    rw [i_ixn hk, e1, hd.1, show x1.toInt.toNat = k by omega, if_pos (show 0 ≤ x1.toInt ∧ x1.toInt < 2 by omega)]
    refine ⟨fun c3 _ _ => tolB_spec (by decide) e2 (by omega) (w.img hk2).hb (hd.2 c3) (fun ι1 s1 t1 b1 => alX_spec (by decide) t1.1 ?_), fun c3 => ?_⟩
    · intro r e; cases e
      rw [if_pos ⟨by omega, by omega, c3⟩, if_neg c3]
      exact ⟨rfl, CG.of s1 (by omega), b1, t1⟩
    · rw [if_neg (fun z => z.2.2 c3), if_pos c3]; exact hx.same
  · rw [i_lt, n2i] at c2
    rw [if_neg (by omega), if_neg (by omega)]; exact hx.same
theorem backM (h : RN nv nd ι κ) (w : WW κ) : PC xl n 232 0 [(0, .ref 129), (1, .int x1)] [] κ (MR (baG κ x1) (baR nd κ x1) κ) := by
  unfold baG baR
  refine (t_232_0 (inL (l := 0) (g := 1) rfl rfl (fun r hr => ?_))).weak
  intro r2 e; cases e
  refine ⟨fun c _ _ => ?_, fun c => ?_⟩
  · have c2 : 0 ≤ x1.toInt ∧ x1.toInt ≤ 1 := by false_or_by_contra; rename_i hh; exact c (hr.mpr hh)
    obtain ⟨k, hk⟩ : ∃ k : Nat, x1.toInt = k := ⟨x1.toInt.toNat, by omega⟩
    have hk2 : k < 2 := by omega
    rw [rf_129_2, i_ixn hk, show x1.toInt.toNat = k by omega, if_pos (show 0 ≤ x1.toInt ∧ x1.toInt < 2 by omega)]
    refine ⟨fun c3 => cop_spec (t := 0) rfl (i_80 hk hk2) (by omega) (by omega) (by omega) (fun κ1 m1 m2 => ?_), fun c3 => ?_⟩
    · have f0 : rO 0 (κ1 130) = rO (80 * (k + 1)) (κ 130) := by
        funext j
        unfold rO
        split
        · rw [m2, if_pos (by omega), show 80 * (k + 1) + (0 + j - 0) = 80 * (k + 1) + j by omega]
        · rfl
      have g0 : MG κ κ1 := MG.se m1 (fun j hj => by rw [m2, if_neg (by omega)])
      have hM : HM nv nd κ1 := ⟨⟨h.1.1, by rw [m1 129 (by omega)]; exact h.1.2⟩, ⟨h.2.1.1, by rw [m1 129 (by omega)]; exact h.2.1.2⟩, by rw [f0]; exact w.img hk2⟩
      refine st_M hM (fun κ2 g1 g2 g3 g4 g5 g6 g7 => laM_spec (nd := nd) g6 h.2.1.1 ?_)
      intro r e; cases e
      rw [if_pos ⟨by omega, by omega, c3⟩, if_neg c3, g3, f0]
      exact ⟨rfl, g0.trans g1, by rw [g2, f0]⟩
    · rw [if_neg (fun z => z.2.2 c3), if_pos c3]; exact MR.same MG.rfl rfl
  · have no := hr.mp c
    rw [if_neg (by omega), if_neg (by omega)]; exact MR.same MG.rfl rfl
theorem back_call (h : RN nv nd ι κ) (w : WW κ) : CALL xl n n2 131 232 [(0, .ref 0), (1, .int x1)] [(0, .ref 129), (1, .int x1)] (fun v1 v2 => v1 = v2) ι κ := call_of h (backX h w) (backM h w)
theorem torn_call (h : RN nv nd ι κ) : CALL xl n n2 142 237 [(0, .ref 0)] [(0, .ref 129)] (fun v1 v2 => v1 = v2) ι κ :=
  (t_142_0 ((t_237_0 ⟨by rw [h.2.2.2.2.1.2], nv, nd, h⟩).weak)).weak
theorem fault_call (h : RN nv nd ι κ) : CALL xl n n2 55 166 [(0, .ref 0)] [(0, .ref 129)] (fun _ _ => True) ι κ :=
  (t_55_0 ((t_166_0 ⟨trivial, nv, nd, h⟩).weak)).weak
theorem re_sh {k : Nat} (hk : k < 4) : re (rf 0 8) k = 121 + 2 * k ∧ rf (121 + 2 * k) 0 = 122 + 2 * k := by
  match k, hk with
  | 0, _ => exact ⟨by decide +kernel, by decide +kernel⟩
  | 1, _ => exact ⟨by decide +kernel, by decide +kernel⟩
  | 2, _ => exact ⟨by decide +kernel, by decide +kernel⟩
  | 3, _ => exact ⟨by decide +kernel, by decide +kernel⟩
theorem rf_129_28 : rf 129 28 = 137 := by decide +kernel
theorem rf_129_29 : rf 129 29 = 138 := by decide +kernel
theorem rf_129_30 : rf 129 30 = 139 := by decide +kernel
theorem count_call (h : RN nv nd ι κ) (w : WW κ) : CALL xl n n2 143 238 [(0, .ref 0), (1, .int x1)] [(0, .ref 129), (1, .int x1)] (fun v1 v2 => v1 = v2) ι κ := by
  have hx := h.hx w
  have hm := h.hm w
  obtain ⟨b, L, hX, hM⟩ := h.2.2.2.2.2
  have i0 := h.2.2.2.1 0 (by omega)
  have i1 := h.2.2.2.1 1 (by omega)
  have s0 := h.2.2.2.2.1.1 0 (by omega)
  have key : ∀ v : Option Value, (∀ κ1 : IS, MG κ κ1 → κ1 130 = κ 130 → κ1 131 = rO 0 (κ 130) → (κ1 129 4).toInt = nd → (((x1.toInt = 0 → PC xl n2 193 0 [(0, .ref 129)] [] κ1 (fun v2 κ2 => ∀ r2, v2 = some (.int r2) → v = some (.int r2) ∧ RRel ι κ2)) ∧ (x1.toInt = 1 → v = some (.int (κ1 130 61))) ∧ (x1.toInt = 2 → v = some (.int ((if κ1 132 0 = 0 then 0 else 1) + (if κ1 132 1 = 0 then 0 else 1)))) ∧ (x1.toInt = 3 → v = some (.int (κ1 129 13))) ∧ (x1.toInt = 4 → v = some (.int (if κ1 137 0 = -4 then -4 else κ1 138 0))) ∧ ((x1.toInt < 0 ∨ 4 < x1.toInt) → v = some (.int (-1)))))) → PC xl n2 238 0 [(0, .ref 129), (1, .int x1)] [] κ (fun v2 κ1 => v = v2 ∧ RRel ι κ1) := by
    intro v hv
    refine (t_238_0 (st_M hm (fun κ1 g1 g2 g3 g4 g5 g6 g7 => ?_))).weak
    have hR : RRel ι κ1 := ⟨nv, nd, h.town CG.rfl g1 h.2.2.1.2 (by rw [g2]; exact h.2.2.1.1)⟩
    obtain ⟨q0, q1, q2, q3, q4, q5⟩ := hv κ1 g1 g2 g3 g6
    rw [rf_129_0, rf_129_2, rf_129_28, rf_129_29, c61, show (0 : Int32).toNatClampNeg = 0 from rfl, show (1 : Int32).toNatClampNeg = 1 from rfl]
    refine ⟨fun c => q0 c, fun c _ _ => ⟨q1 c, hR⟩, fun c _ _ => ?_, fun c => ⟨q3 c, hR⟩, fun c _ _ => ⟨fun c2 _ _ => ⟨?_, hR⟩, fun c2 => ⟨?_, hR⟩⟩, fun c => ⟨q5 c, hR⟩⟩
    · have q := q2 c
      have flag : ∀ (y : Int32) {Q2 : Option Value → IS → Prop}, Q2 (some (.int (if y = 0 then 0 else 1))) κ1 → PC xl n2 175 0 [(0, .int y)] [] κ1 Q2 := by
        intro y Q2 hq
        refine (t_175_0 ⟨fun e => ?_, fun e => ?_⟩).weak
        · rw [if_pos e] at hq; exact hq
        · rw [if_neg e] at hq; exact hq
      refine flag _ ?_
      intro r e _ _; cases e
      refine flag _ ?_
      intro r e; cases e
      exact ⟨q, hR⟩
    · rw [q4 c, if_neg c2]
    · rw [q4 c, if_pos c2]
  have m132 : ∀ κ1 : IS, MG κ κ1 → κ1 132 = κ 132 ∧ κ1 137 = κ 137 ∧ κ1 138 = κ 138 ∧ κ1 129 13 = κ 129 13 := fun κ1 g => ⟨g.1 132 (by omega) (by omega) (by omega) (by omega) (by omega), g.1 137 (by omega) (by omega) (by omega) (by omega) (by omega), g.1 138 (by omega) (by omega) (by omega) (by omega) (by omega), g.2.1 13 (by omega)⟩
  refine (t_143_0 ?_).weak
  rw [rf_0_2', rf_0_2, rf_0_4, rf_0_1, show (0 : Int32).toNatClampNeg = 0 from rfl, show (1 : Int32).toNatClampNeg = 1 from rfl, (re_sh (k := 0) (by omega)).1]
  refine ⟨fun c => alX_spec (by decide) hx.tw ?_, fun c => key _ (fun κ1 g1 g2 g3 g4 => ?_), fun c _ _ => ?_, fun c => key _ (fun κ1 g1 g2 g3 g4 => ?_), fun c _ _ => ⟨fun c2 _ _ => key _ (fun κ1 g1 g2 g3 g4 => ?_), fun c2 => key _ (fun κ1 g1 g2 g3 g4 => ?_)⟩, fun c => key _ (fun κ1 g1 g2 g3 g4 => ?_)⟩
  · intro r e; cases e
    refine key _ (fun κ1 g1 g2 g3 g4 => ⟨fun _ => laM_spec g4 h.2.1.1 ?_, fun z => by omega, fun z => by omega, fun z => by omega, fun z => by omega, fun z => by omega⟩)
    intro r e; cases e
    rw [g3]
    exact ⟨rfl, nv, nd, h.town CG.rfl g1 h.2.2.1.2 (by rw [g2]; exact h.2.2.1.1)⟩
  · refine ⟨fun z => by omega, fun _ => ?_, fun z => by omega, fun z => by omega, fun z => by omega, fun z => by omega⟩
    rw [g2, hx.1.2.2.1, r_st (by omega)]
  · have fin : ∀ y : Int32, y = (if κ 132 0 = 0 then 0 else 1) + (if κ 132 1 = 0 then 0 else 1) → PC xl n2 238 0 [(0, .ref 129), (1, .int x1)] [] κ (fun v2 κ1 => some (.int y) = v2 ∧ RRel ι κ1) := fun y hy => key _ (fun κ1 g1 g2 g3 g4 => ⟨fun z => by omega, fun z => by omega, fun _ => by rw [(m132 κ1 g1).1, hy], fun z => by omega, fun z => by omega, fun z => by omega⟩)
    rw [i0.1, i1.1]
    refine ⟨fun c2 _ _ => ⟨fun c3 => fin _ ?_, fun c3 => fin _ ?_⟩, fun c2 _ _ => ⟨fun c3 => fin _ ?_, fun c3 => fin _ ?_⟩⟩
    · rw [if_pos c2, if_pos c3]
    · rw [if_pos c2, if_neg c3]
    · rw [if_neg c2, if_pos c3]
    · rw [if_neg c2, if_neg c3]
  · refine ⟨fun z => by omega, fun z => by omega, fun z => by omega, fun _ => ?_, fun z => by omega, fun z => by omega⟩
    rw [(m132 κ1 g1).2.2.2, i_eq.mpr (hX.2.1.trans hM.2.1.symm)]
  · refine ⟨fun z => by omega, fun z => by omega, fun z => by omega, fun z => by omega, fun _ => ?_, fun z => by omega⟩
    rw [s0.1] at c2
    rw [(m132 κ1 g1).2.1, (m132 κ1 g1).2.2.1, if_neg c2, s0.2.1]
  · refine ⟨fun z => by omega, fun z => by omega, fun z => by omega, fun z => by omega, fun _ => ?_, fun z => by omega⟩
    rw [s0.1] at c2
    rw [(m132 κ1 g1).2.1, (m132 κ1 g1).2.2.1, if_pos c2]
  · exact ⟨fun z => by omega, fun z => by omega, fun z => by omega, fun z => by omega, fun z => by omega, fun _ => rfl⟩
/-- a byte is fed, bytes are cut off -/
theorem RN.tape (h : RN nv nd ι κ) (h1 : ∀ a j, ¬ (22 ≤ a ∧ a ≤ 23) → ι1 a j = ι a j) (h2 : ∀ a j, ¬ (a = 129 ∧ j = 13) → ¬ a = 135 → κ1 a j = κ a j) (hB : RB ι1 κ1) : RN nv nd ι1 κ1 := by
  obtain ⟨⟨a1, a2⟩, ⟨b1, b2⟩, ⟨c1, c3⟩, dd, ee, gg⟩ := h
  have r130 : κ1 130 = κ 130 := funext (fun j => h2 130 j (by omega) (by omega))
  refine ⟨⟨a1, by rw [h2 129 3 (by omega) (by omega)]; exact a2⟩, ⟨b1, by rw [h2 129 4 (by omega) (by omega)]; exact b2⟩, ⟨by rw [r130]; exact c1.keep (fun a j g1 g2 => h1 a j (by omega)), by rw [h1 25 4 (by omega)]; exact c3⟩, ?_, ?_, hB⟩
  · exact dd.keep (fun a j g1 g2 => h1 a j (by omega)) (funext (fun j => h2 132 j (by omega) (by omega))) (fun j _ => by rw [r130])
  · exact ee.keep (fun a j g1 g2 => h1 a j (by omega)) (h1 0 10 (by omega)) ⟨funext (fun j => h2 137 j (by omega) (by omega)), funext (fun j => h2 138 j (by omega) (by omega)), funext (fun j => h2 139 j (by omega) (by omega))⟩ (h2 129 31 (by omega) (by omega))
theorem feed_call (h : RN nv nd ι κ) : CALL xl n n2 10 147 [(0, .ref 0), (1, .int x1)] [(0, .ref 129), (1, .int x1)] (fun _ _ => True) ι κ := by
  obtain ⟨b, L, hX, hM⟩ := h.2.2.2.2.2
  refine feedX hX.2.1 (fun h1 h2 h3 ι' h4 h5 h6 v => feedM hM.2.1 hM.1 (fun _ _ _ κ' k4 k5 k6 v2 => ⟨trivial, nv, nd, h.tape (fun a j g => h4 a j (by omega) (by omega)) (fun a j g1 g2 => k4 a j g1 (by omega)) ?_⟩) (fun c _ => absurd ⟨h1, h2, h3⟩ c)) (fun c v => feedM hM.2.1 hM.1 (fun h1 h2 h3 _ _ _ _ _ => absurd ⟨h1, h2, h3⟩ c) (fun _ _ => ⟨trivial, nv, nd, h⟩))
  refine ⟨fun q => if q = L then x1.toInt else b q, L + 1, ⟨by omega, h5, fun q => ?_⟩, ⟨by omega, k5, fun q => ?_, fun q => ?_⟩⟩
  · show _ = if q = L then x1.toInt else b q
    split
    · rename_i e; rw [e, h6]
    · rw [h4 23 q (by omega) (by omega)]; exact hX.2.2 q
  · show _ = if q = L then x1.toInt else b q
    split
    · rename_i e; rw [e, k6]
    · rw [k4 135 q (by omega) (by omega)]; exact hM.2.2.1 q
  · show 0 ≤ if q = L then x1.toInt else b q
    split
    · exact h1
    · exact hM.2.2.2 q
theorem end_call (h : RN nv nd ι κ) : CALL xl n n2 12 149 [(0, .ref 0), (1, .int x1)] [(0, .ref 129), (1, .int x1)] (fun _ _ => True) ι κ := by
  obtain ⟨b, L, hX, hM⟩ := h.2.2.2.2.2
  refine endXs hX.2.1 (fun h1 h2 v => endMs hM.2.1 (fun _ _ v2 => ⟨trivial, nv, nd, h.tape (fun a j g => up_ne (by omega)) (fun a j g1 g2 => up_ne g1) ?_⟩) (fun c _ => absurd ⟨h1, h2⟩ c)) (fun c v => endMs hM.2.1 (fun h1 h2 _ => absurd ⟨h1, h2⟩ c) (fun _ _ => ⟨trivial, nv, nd, h⟩))
  have hn : ((x1.toInt.toNat : Nat) : Int) = x1.toInt := Int.toNat_of_nonneg h1
  have hl := hX.1
  refine ⟨b, x1.toInt.toNat, ⟨by omega, ?_, fun q => ?_⟩, ⟨by omega, ?_, fun q => ?_, hM.2.2.2⟩⟩
  · rw [up_same, hn]
  · rw [up_ne (by omega)]; exact hX.2.2 q
  · rw [up_same, hn]
  · rw [up_ne (by omega)]; exact hM.2.2.1 q
end OpD
