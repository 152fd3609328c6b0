section
/-! LINES: any, by class and model -/
section RLine
variable {xl : List Int32} {b : Nat → Int} {lo L n n2 nv nd cnt : Nat} {ι ι' κ κ' : IS} {t : TK} {Q R : Option Value → IS → Prop} {x1 : Int32} {w : Value} {s e : Nat}
theorem lf_door (h : isDoorN b s e) : lineF b s e = 4 := by
  unfold lineF
  rw [if_neg (fun hh => by have := hh.1; have := h.1; omega), if_neg (fun hh => by have := hh.1; have := h.1; omega), if_neg (fun hh => by have := hh.1; have := h.1; omega), if_neg (fun hh => by have := hh.1; have := h.1; omega), if_pos h]
theorem lf_not (h : isNot b s e) : lineF b s e = 5 := by
  unfold lineF
  rw [if_neg (fun hh => by have := hh.1; have := h.1; omega), if_neg (fun hh => by have := hh.1; have := h.1; omega), if_neg (fun hh => by have := hh.1; have := h.1; omega), if_neg (fun hh => by have := hh.2.1; have := h.2.1; omega), if_neg (fun hh => by have := hh.1; have := h.1; omega), if_pos h]
theorem lf_plan (h : isPlan b s e) : lineF b s e = 6 := by
  unfold lineF
  rw [if_neg (fun hh => by have := hh.1; have := h.1; omega), if_neg (fun hh => by have := hh.1; have := h.1; omega), if_neg (fun hh => by have := hh.1; have := h.1; omega), if_neg (fun hh => by have := hh.1; have := h.1; omega), if_neg (fun hh => by have := hh.2.1; have := h.2.1; omega), if_neg (fun hh => by have := hh.1; have := h.1; omega), if_pos h]
noncomputable def kindF (b : Nat → Int) (s e : Nat) : Int := if isPlain b s e then 0 else if isPriest b s e then 1 else if isMiser b s e then 2 else if isSpy b s e then 3 else -4
theorem lf_kind (h1 : ¬ isDoorN b s e) (h2 : ¬ isNot b s e) (h3 : ¬ isPlan b s e) : lineF b s e = kindF b s e := by
  unfold lineF kindF
  rw [if_neg h1, if_neg h2, if_neg h3]
theorem kf_rng : kindF b s e = -4 ∨ (0 ≤ kindF b s e ∧ kindF b s e ≤ 3) := by
  unfold kindF
  split
  · omega
  · split
    · omega
    · split
      · omega
      · split <;> omega
theorem lf_rng : lineF b s e = -4 ∨ (0 ≤ lineF b s e ∧ lineF b s e ≤ 6) := by
  unfold lineF
  split
  · omega
  · split
    · omega
    · split
      · omega
      · split
        · omega
        · split
          · omega
          · split
            · omega
            · split <;> omega
theorem kind_spec (hk : ι 22 2 = 1) (hs : (ι 22 3).toInt = s) (he : (ι 22 4).toInt = e) (hse : s ≤ e) (he2 : e ≤ 160) (hb : ∀ q, (ι 23 q).toInt = b q) (h : ∀ r : Int32, r.toInt = kindF b s e → Q (some (.int r)) ι) : PC xl n 44 0 [(0, .ref 1)] [] ι Q := by
  unfold kindF at h
  have yes : ∀ {r : Int32} {P : Prop}, (r = 0 ↔ ¬ P) → ¬ r = 0 → P := fun hr c => by
    false_or_by_contra; rename_i hh; exact c (hr.mpr hh)
  refine (t_44_0 ?_).weak
  rw [rf_1_1]
  refine name_plain hk hs he hse he2 hb (fun r hr => ?_)
  intro r2 e2
  cases e2
  refine ⟨fun c => ?_, fun c => h 0 (by rw [if_pos (yes hr c)]; rfl)⟩
  rw [if_neg (hr.mp c)] at h
  refine name_priest hk hs he hse he2 hb (fun r hr => ?_)
  intro r2 e2
  cases e2
  refine ⟨fun c => ?_, fun c => h 1 (by rw [if_pos (yes hr c)]; rfl)⟩
  rw [if_neg (hr.mp c)] at h
  refine name_miser hk hs he hse he2 hb (fun r hr => ?_)
  intro r2 e2
  cases e2
  refine ⟨fun c => ?_, fun c => h 2 (by rw [if_pos (yes hr c)]; rfl)⟩
  rw [if_neg (hr.mp c)] at h
  refine name_spy hk hs he hse he2 hb (fun r hr => ?_)
  intro r2 e2
  cases e2
  exact ⟨fun c => h (-4) (by rw [if_neg (hr.mp c)]; rfl), fun c => h 3 (by rw [if_pos (yes hr c)]; rfl)⟩
/-- behind a fault the model does nothing more with a line -/
theorem f123 {p : Nat} (hF : FM κ p) (h : ∀ κ1 : IS, FM κ1 p → R none κ1) : PC xl n2 154 123 [(0, .ref 129), (1, .int x1)] [] κ R := by
  refine (t_154_123 (next_f hF.1 ⟨fun c => absurd hF.1 (by rw [i_lt] at c; exact c), fun _ => h κ hF⟩)).weak
theorem f97 {p : Nat} {u : Int32} (hF : FM κ p) (h : ∀ κ1 : IS, FM κ1 p → R none κ1) : PC xl n2 154 97 [(0, .ref 129), (1, .int x1)] [.int u, .ref 129] κ R := by
  have up8 : ∀ x : Int32, FM (up κ 129 8 x) p := fun x => hF.congr (up_ne (by simp)) (up_ne (by simp))
  refine (t_154_97 (needs_spec (fun _ => ?_) (fun _ c => absurd c (nz hF.1)))).weak
  exact ⟨fun _ => (t_154_115 (f123 (up8 1) h)).weak, fun _ => ⟨fun _ => f123 (up8 0) h, fun _ => (t_154_115 (f123 (up8 1) h)).weak⟩⟩
theorem f74 {p : Nat} {u : Int32} (hF : FM κ p) (h : ∀ κ1 : IS, FM κ1 p → R none κ1) : PC xl n2 154 74 [(0, .ref 129), (1, .int x1)] [.int u, .ref 129] κ R := by
  refine (t_154_74 (needs_spec (fun _ => ?_) (fun _ c => absurd c (nz hF.1)))).weak
  exact ⟨fun _ => (t_154_92 (f97 hF h)).weak, fun _ => ⟨fun _ => f97 hF h, fun _ => (t_154_92 (f97 hF h)).weak⟩⟩
theorem f30 (tM : TM κ t) (h4 : t.1 ≠ 4) (h : ∀ κ1 : IS, FM κ1 t.2.1 → R none κ1) : PC xl n2 154 30 [(0, .ref 129), (1, .int x1)] [.int 0, .ref 129] κ R := by
  have e := (tM.2.2.1 h4).2
  have F : FM (failM κ 2) t.2.1 := FM.fail tM (by decide)
  refine (t_154_30 (needs_spec (fun hh => ?_) (fun _ _ => ?_))).weak
  · rcases hh with hh | hh
    · exact absurd rfl hh
    · exact absurd e hh
  · exact ⟨fun _ => ⟨fun _ => (t_154_69 (f74 F h)).weak, fun _ => ⟨fun _ => f74 F h, fun _ => (t_154_69 (f74 F h)).weak⟩⟩, fun _ => ⟨fun _ => f74 F h, fun _ => f74 F h⟩⟩
/-- the model's looks at a line's name -/
theorem preM (hB : BM b L κ) (tM : TM κ t) (tb : TBd lo b L t) (h1 : t.1 = 1) (kv : (κ 129 6).toInt = nv) (kd : (κ 129 7).toInt = nd) (hbad : ¬ (lineF b t.2.1 t.2.2.1 ≠ -4 ∧ (lineF b t.2.1 t.2.2.1 ≤ 3 → nv < 4) ∧ (lineF b t.2.1 t.2.2.1 = 4 → nd < 4) ∧ (lineF b t.2.1 t.2.2.1 = 6 → κ 129 8 = 0)) → ∀ κ1 : IS, FM κ1 t.2.1 → R none κ1) (hgood : ∀ (r : Int32) (κ1 : IS), r.toInt = lineF b t.2.1 t.2.2.1 → lineF b t.2.1 t.2.2.1 ≠ -4 → (lineF b t.2.1 t.2.2.1 ≤ 3 → nv < 4) → (lineF b t.2.1 t.2.2.1 = 4 → nd < 4) → (lineF b t.2.1 t.2.2.1 = 6 → κ 129 8 = 0) → (∀ a j, ¬ (a = 129 ∧ j = 8) → κ1 a j = κ a j) → (lineF b t.2.1 t.2.2.1 = 6 → κ1 129 8 = 1) → (¬ lineF b t.2.1 t.2.2.1 = 6 → κ 129 8 = 0 → κ1 129 8 = 0) → (¬ lineF b t.2.1 t.2.2.1 = 6 → ¬ κ 129 8 = 0 → κ1 129 8 = 1) → PC xl n2 154 123 [(0, .ref 129), (1, .int r)] [] κ1 R) : PC xl n2 154 0 [(0, .ref 129)] [] κ R := by
  have u1 : (1 : Int32).toInt = 1 := rfl
  have t4 : (4 : Int32).toInt = 4 := rfl
  have t6 : (6 : Int32).toInt = 6 := rfl
  have tm4 : (-4 : Int32).toInt = -4 := rfl
  have e := tM.2.2.1 (by omega)
  have hrg := lf_rng (b := b) (s := t.2.1) (e := t.2.2.1)
  refine (t_154_0 ⟨fun c => ?_, fun _ => ?_⟩).weak
  · exact absurd (by rw [i_eq, e.1, h1]; rfl) c
  refine line_spec hB tM.1 tM.2.1 tb.2.1 tb.2.2.1 (fun r hr => ?_)
  intro r2 e2
  cases e2
  refine (t_154_17 ⟨fun c => ?_, fun c => ?_⟩).weak
  · rw [i_eq, hr, tm4] at c
    exact f30 tM (by omega) (hbad (fun hh => hh.1 c))
  rw [i_eq, hr, tm4] at c
  -- the plan once
  have l97 : (lineF b t.2.1 t.2.2.1 ≤ 3 → nv < 4) → (lineF b t.2.1 t.2.2.1 = 4 → nd < 4) → (lineF b t.2.1 t.2.2.1 = 6 → κ 129 8 = 0) → PC xl n2 154 97 [(0, .ref 129), (1, .int r)] [.int 1, .ref 129] κ R := by
    intro g1 g2 g3
    refine (t_154_97 (needs_spec (fun _ => ?_) (fun c => absurd c (by decide)))).weak
    rw [i_eq (x := r), hr, t6]
    refine ⟨fun c8 => (t_154_115 (hgood r _ hr c g1 g2 g3 (fun a j hn => up_ne hn) (fun _ => up_same _ _ _ _) (fun _ q => absurd q c8) (fun _ _ => up_same _ _ _ _))).weak, fun c8 => ⟨fun c6 => hgood r _ hr c g1 g2 g3 (fun a j hn => up_ne hn) (fun q => absurd q c6) (fun _ _ => up_same _ _ _ _) (fun _ q => absurd c8 q), fun c6 => (t_154_115 (hgood r _ hr c g1 g2 g3 (fun a j hn => up_ne hn) (fun _ => up_same _ _ _ _) (fun q => absurd c6 q) (fun q => absurd c6 q))).weak⟩⟩
  have b97 : ¬ (lineF b t.2.1 t.2.2.1 = 6 → κ 129 8 = 0) → PC xl n2 154 97 [(0, .ref 129), (1, .int r)] [.int 0, .ref 129] κ R := by
    intro g
    have F : FM (failM κ 4) t.2.1 := FM.fail tM (by decide)
    have up8 : ∀ x : Int32, FM (up (failM κ 4) 129 8 x) t.2.1 := fun x => F.congr (up_ne (by simp)) (up_ne (by simp))
    have hb := hbad (fun hh => g hh.2.2.2)
    refine (t_154_97 (needs_spec (fun hh => ?_) (fun _ _ => ?_))).weak
    · rcases hh with hh | hh
      · exact absurd rfl hh
      · exact absurd e.2 hh
    · exact ⟨fun _ => (t_154_115 (f123 (up8 1) hb)).weak, fun _ => ⟨fun _ => f123 (up8 0) hb, fun _ => (t_154_115 (f123 (up8 1) hb)).weak⟩⟩
  have l74 : (lineF b t.2.1 t.2.2.1 ≤ 3 → nv < 4) → (lineF b t.2.1 t.2.2.1 = 4 → nd < 4) → PC xl n2 154 74 [(0, .ref 129), (1, .int r)] [.int 1, .ref 129] κ R := by
    intro g1 g2
    refine (t_154_74 (needs_spec (fun _ => ?_) (fun c => absurd c (by decide)))).weak
    rw [i_eq (x := r), hr, t6]
    exact ⟨fun c6 => (t_154_92 (l97 g1 g2 (fun q => absurd q c6))).weak, fun c6 => ⟨fun c8 => b97 (fun q => c8 (q c6)), fun c8 => (t_154_92 (l97 g1 g2 (fun _ => c8))).weak⟩⟩
  have b74 : ¬ ((lineF b t.2.1 t.2.2.1 ≤ 3 → nv < 4) ∧ (lineF b t.2.1 t.2.2.1 = 4 → nd < 4)) → PC xl n2 154 74 [(0, .ref 129), (1, .int r)] [.int 0, .ref 129] κ R := by
    intro g
    have F : FM (failM κ 5) t.2.1 := FM.fail tM (by decide)
    have hb := hbad (fun hh => g ⟨hh.2.1, hh.2.2.1⟩)
    refine (t_154_74 (needs_spec (fun hh => ?_) (fun _ _ => ?_))).weak
    · rcases hh with hh | hh
      · exact absurd rfl hh
      · exact absurd e.2 hh
    · exact ⟨fun _ => (t_154_92 (f97 F hb)).weak, fun _ => ⟨fun _ => f97 F hb, fun _ => (t_154_92 (f97 F hb)).weak⟩⟩
  refine (t_154_30 (needs_spec (fun _ => ?_) (fun c => absurd c (by decide)))).weak
  rw [i_eq (x := r), hr, t4, i_lt (y := r), hr, t4, i_lt, kv, t4, i_lt, kd, t4]
  refine ⟨fun c4 => ⟨fun c5 => (t_154_69 (l74 (fun q => by omega) (fun q => absurd q c4))).weak, fun c5 => ⟨fun c6 => b74 (fun hh => by have := hh.1 (by omega); omega), fun c6 => (t_154_69 (l74 (fun _ => by omega) (fun q => absurd q c4))).weak⟩⟩, fun c4 => ⟨fun c6 => b74 (fun hh => by have := hh.2 c4; omega), fun c6 => l74 (fun q => by omega) (fun _ => by omega)⟩⟩
theorem line2 {K : IS → IS → Prop} (h : OK lo b L t nv nd cnt ι κ) (h4 : t.1 ≠ 4) (hK : ∀ ι1 κ1 : IS, LO lo b L ι1 κ1 → K ι1 κ1) : PC xl n 22 0 [(0, .ref 1)] [] ι (fun _ ι1 => PC xl n2 154 0 [(0, .ref 129)] [] κ (fun _ κ1 => K ι1 κ1)) := by
  have hOK := h
  obtain ⟨hX, hM, tX, tM, tb, hd, h0⟩ := h
  have u1 : (1 : Int32).toInt = 1 := rfl
  have t4e : (4 : Int32).toInt = 4 := rfl
  have tm4 : (-4 : Int32).toInt = -4 := rfl
  have yes : ∀ {r : Int32} {P : Prop}, (r = 0 ↔ ¬ P) → ¬ r = 0 → P := fun hr c => by
    false_or_by_contra; rename_i hh; exact c (hr.mpr hh)
  have kv := hd.1.2.2
  have kd := hd.2.1.2.2
  have xv := hd.1.2.1
  have xd := hd.2.1.2.1
  refine (t_22_0 (stands_spec (fun c => ?_) (fun c k hk => ?_))).weak
  rotate_left
  · -- no name
    rw [i_eq, tX.1, u1] at c
    intro r hr
    cases hr
    refine ⟨fun q => absurd rfl q, fun _ => ?_⟩
    have fx : FX (failI ι k) t.2.1 := FX.fail tX hk
    have e := tM.2.2.1 h4
    refine (t_154_0 ⟨fun _ => ?_, fun q => ?_⟩).weak
    · refine (t_154_17 ⟨fun _ => f30 tM h4 (fun κ1 f1 => hK _ _ (Or.inr (FR.mk fx f1))), fun q => absurd rfl q⟩).weak
    · rw [i_eq, e.1, u1] at q; omega
  have hk1 := c
  rw [i_eq, tX.1, u1] at c
  have h1 : t.1 = 1 := by omega
  intro r hr
  cases hr
  refine ⟨fun _ => ?_, fun q => absurd q (by decide)⟩
  rw [rf_1_1]
  have he2 : t.2.2.1 ≤ 160 := Nat.le_trans tb.2.2.1 hX.1
  -- what stays when the model has looked at the name
  have okk : ∀ κ1 : IS, (∀ a j, ¬ (a = 129 ∧ j = 8) → κ1 a j = κ a j) → κ1 129 8 = κ 129 8 → OK lo b L t nv nd cnt ι κ1 := by
    intro κ1 o1 o8
    have oo : ∀ a j, κ1 a j = κ a j := fun a j => by
      by_cases q : a = 129 ∧ j = 8
      · obtain ⟨rfl, rfl⟩ := q; exact o8
      · exact o1 a j q
    have e : κ1 = κ := funext fun a => funext fun j => oo a j
    rw [e]; exact hOK
  have o8 : ∀ κ1 : IS, (κ 129 8 = 0 → κ1 129 8 = 0) → (¬ κ 129 8 = 0 → κ1 129 8 = 1) → κ1 129 8 = κ 129 8 := by
    intro κ1 q1 q2
    rcases hd.2.2.1.2 with q | q
    · rw [q1 q, q]
    · rw [q2 (by rw [q]; decide), q]
  refine name_door hk1 tX.2.1 tX.2.2.1 tb.2.1 he2 hX.2.2 (fun r hr => ?_)
  intro r2 e2
  cases e2
  refine ⟨fun c1 => ?_, fun c1 => ?_⟩
  rotate_left
  · -- a door
    have lf := lf_door (yes hr c1)
    refine PC.swap (P := fun _ κ' _ ι' => K ι' κ') ?_
    refine preM hM tM tb h1 kv kd (fun hb κ1 f1 => ?_) (fun r κ1 hr g1 g2 g3 g4 o1 q1 q2 q3 => ?_)
    · have nd4 : ¬ nd < 4 := fun q => hb ⟨by omega, fun _ => by omega, fun _ => q, fun _ => by omega⟩
      refine (t_33_0 ?_).weak
      rw [rf_1_0, rf_1_1, rf_2_0, rf_3_1]
      refine ⟨fun c => ?_, fun c => fail_spec (hK _ _ (Or.inr (FR.mk (FX.fail tX (by decide)) f1)))⟩
      rw [i_lt, xd, t4e] at c; omega
    · refine PC.swap (P := fun _ ι' _ κ' => K ι' κ') ?_
      exact D2 (okk κ1 o1 (o8 κ1 (q2 (by omega)) (q3 (by omega)))) h1 (by rw [hr]; exact lf) (g3 lf) hK
  have n1 := hr.mp c1
  refine name_not hk1 tX.2.1 tX.2.2.1 tb.2.1 he2 hX.2.2 (fun r hr => ?_)
  intro r2 e2
  cases e2
  refine ⟨fun c2 => ?_, fun c2 => ?_⟩
  rotate_left
  · have lf := lf_not (yes hr c2)
    refine PC.swap (P := fun _ κ' _ ι' => K ι' κ') ?_
    refine preM hM tM tb h1 kv kd (fun hb κ1 f1 => absurd ⟨by omega, fun _ => by omega, fun _ => by omega, fun _ => by omega⟩ hb) (fun r κ1 hr g1 g2 g3 g4 o1 q1 q2 q3 => ?_)
    refine PC.swap (P := fun _ ι' _ κ' => K ι' κ') ?_
    exact N2 (okk κ1 o1 (o8 κ1 (q2 (by omega)) (q3 (by omega)))) h1 (by rw [hr]; exact lf) hK
  have n2' := hr.mp c2
  refine name_plan hk1 tX.2.1 tX.2.2.1 tb.2.1 he2 hX.2.2 (fun r hr => ?_)
  intro r2 e2
  cases e2
  refine ⟨fun c3 => ?_, fun c3 => ?_⟩
  rotate_left
  · have lf := lf_plan (yes hr c3)
    refine PC.swap (P := fun _ κ' _ ι' => K ι' κ') ?_
    refine preM hM tM tb h1 kv kd (fun hb κ1 f1 => ?_) (fun r κ1 hr g1 g2 g3 g4 o1 q1 q2 q3 => ?_)
    · have p1 : ¬ κ 129 8 = 0 := fun q => hb ⟨by omega, fun _ => by omega, fun _ => by omega, fun _ => q⟩
      refine (t_40_0 ⟨fun c => ?_, fun c => fail_spec (hK _ _ (Or.inr (FR.mk (FX.fail tX (by decide)) f1)))⟩).weak
      rw [hd.2.2.1.1] at c
      exact absurd c p1
    · refine PC.swap (P := fun _ ι' _ κ' => K ι' κ') ?_
      refine P2 (nv := nv) (nd := nd) (cnt := cnt) hX (hM.congr (o1 _ _ (by omega)) (fun q => o1 _ _ (by omega))) tX (tM.congr (fun j _ _ => o1 _ _ (by omega))) tb ?_ h0 (by rw [hd.2.2.1.1]; exact g4 lf) h1 (by rw [hr]; exact lf) hK
      obtain ⟨a1, a2, -, a4, a5, a6, a7, a8⟩ := hd
      have x : ∀ a j, ¬ (a = 1 ∧ j = 4) → (up ι 1 4 1) a j = ι a j := fun a j hn => up_ne hn
      have D0 : DR nv nd cnt (up ι 1 4 1) (up κ 129 8 1) := by
        refine ⟨⟨a1.1, by rw [x _ _ (by omega)]; exact a1.2.1, by rw [up_ne (by omega)]; exact a1.2.2⟩, ⟨a2.1, by rw [x _ _ (by omega)]; exact a2.2.1, by rw [up_ne (by omega)]; exact a2.2.2⟩, ⟨by rw [up_same, up_same], Or.inr (up_same _ _ _ _)⟩, ?_, ?_, ?_, ?_, by rw [x _ _ (by omega), up_ne (by omega)]; exact a8⟩
        · refine ⟨fun v hv => ?_, fun v hv => by rw [up_ne (by omega)]; exact a4.2 v hv⟩
          rw [x _ _ (by omega), x _ _ (by omega), x _ _ (by omega), x _ _ (by omega), up_ne (by omega), up_ne (by omega), up_ne (by omega)]
          exact a4.1 v hv
        · intro q hq
          obtain ⟨e1, e2, e3, e4, e5, e6⟩ := a5 q hq
          rw [x _ _ (by omega), x _ _ (by omega), x _ _ (by omega), up_ne (by omega), up_ne (by omega), up_ne (by omega), up_ne (by omega)]
          refine ⟨e1, e2, e3, e4, e5, fun i hi => ?_⟩
          rw [x _ _ (by omega), up_ne (by omega)]
          exact e6 i hi
        · refine ⟨a6.1, by rw [x _ _ (by omega)]; exact a6.2.1, by rw [up_ne (by omega)]; exact a6.2.2.1, fun i hi => ?_⟩
          rw [x _ _ (by omega), up_ne (by omega)]
          exact a6.2.2.2 i hi
        · have x18 : ∀ i, (up ι 1 4 1) 18 i = ι 18 i := fun i => x _ _ (by omega)
          have m4 : ∀ j, (up κ 129 8 1) 134 j = κ 134 j := fun j => up_ne (by omega)
          have m9 : (up κ 129 8 1) 129 9 = κ 129 9 := up_ne (by omega)
          have m10 : (up κ 129 8 1) 129 10 = κ 129 10 := up_ne (by omega)
          unfold DH at a7 ⊢
          simp only [x18, m4, m9, m10]
          exact a7
      refine D0.congr (fun _ _ _ => rfl) (fun a j _ => ?_)
      by_cases q : a = 129 ∧ j = 8
      · obtain ⟨rfl, rfl⟩ := q; rw [up_same, q1 lf]
      · rw [up_ne q, o1 a j q]
  have n3 := hr.mp c3
  -- a visitor, or none
  have lf := lf_kind n1 n2' n3
  refine kind_spec hk1 tX.2.1 tX.2.2.1 tb.2.1 he2 hX.2.2 (fun r hr => ?_)
  intro r2 e2
  cases e2
  refine PC.swap (P := fun _ κ' _ ι' => K ι' κ') ?_
  have kr := kf_rng (b := b) (s := t.2.1) (e := t.2.2.1)
  refine preM hM tM tb h1 kv kd (fun hb κ1 f1 => ?_) (fun r3 κ1 hr3 g1 g2 g3 g4 o1 q1 q2 q3 => ?_)
  · refine (t_45_0 ?_).weak
    rw [rf_1_0, rf_1_1, rf_2_0]
    refine ⟨fun c => ⟨fun c6 => ?_, fun _ => fail_spec (hK _ _ (Or.inr (FR.mk (FX.fail tX (by decide)) f1)))⟩, fun _ => fail_spec (hK _ _ (Or.inr (FR.mk (FX.fail tX (by decide)) f1)))⟩
    rw [i_eq, hr, tm4] at c
    rw [i_lt, xv, t4e] at c6
    exact absurd ⟨by omega, fun _ => by omega, fun _ => by omega, fun _ => by omega⟩ hb
  · have er : r3 = r := by rw [i_eq, hr3, hr, lf]
    subst er
    refine PC.swap (P := fun _ ι' _ κ' => K ι' κ') ?_
    exact V2 (okk κ1 o1 (o8 κ1 (q2 (by omega)) (q3 (by omega)))) h1 (by rw [hr]; omega) (g2 (by omega)) hK
end RLine
end
section
/-! TEXTS: the drafts anew; whether all is there -/
section TextA
variable {xl : List Int32} {b : Nat → Int} {lo L n n2 nv nd cnt : Nat} {ι ι' κ κ' : IS} {t : TK} {Q R : Option Value → IS → Prop} {x1 : Int32} {w : Value} {s e : Nat}
theorem clrL : ∀ (n d : Nat) (ι : IS) (x : Int32), x.toInt = d → d ≤ 4 → (∀ ι' : IS, (∀ a j, ¬ (10 + 2 * d ≤ a ∧ a ≤ 16 ∧ a % 2 = 0 ∧ 1 ≤ j ∧ j ≤ 3) → ι' a j = ι a j) → (∀ q, d ≤ q → q < 4 → ι' (10 + 2 * q) 1 = 0 ∧ ι' (10 + 2 * q) 2 = 0 ∧ ι' (10 + 2 * q) 3 = 0) → Q none ι') → PC xl n 16 12 [(0, .ref 3), (1, .int x)] [] ι Q
  | 0, _, _, _, _, _, _ => PC.zero
  | n + 1, d, ι, x, hx, hd, h => by
    have t4 : (4 : Int32).toInt = 4 := rfl
    have u1 : (1 : Int32).toInt = 1 := rfl
    refine t_16_12 ⟨fun c => ?_, fun c _ _ => ?_⟩
    · rw [i_lt, hx, t4] at c
      exact h ι (fun _ _ _ => rfl) (fun q h1 h2 => by omega)
    · rw [i_lt, hx, t4] at c
      rw [rf_3_1, i_ixn hx, re_9 d (by omega)]
      refine (t_17_0 ?_).weak
      refine clrL n (d + 1) _ (x + 1) (by rw [i_add (by rw [hx, u1]; omega), hx, u1]; rfl) (by omega) (fun ι' h1 h2 => ?_)
      refine h ι' (fun a j hn => ?_) (fun q g1 g2 => ?_)
      · rw [h1 a j (by omega), up_ne (by omega), up_ne (by omega), up_ne (by omega)]
      · by_cases eq : q = d
        · subst eq
          rw [h1 _ _ (by omega), h1 _ _ (by omega), h1 _ _ (by omega)]
          refine ⟨?_, ?_, ?_⟩
          · rw [up_ne (by omega), up_ne (by omega), up_same]
          · rw [up_ne (by omega), up_same]
          · rw [up_same]
        · exact h2 q (by omega) g2
/-- the class's draft anew -/
theorem clr_spec (h : ∀ ι' : IS, (∀ a j, ¬ (10 ≤ a ∧ a ≤ 16 ∧ a % 2 = 0 ∧ 1 ≤ j ∧ j ≤ 3) → ¬ (a = 3 ∧ (j = 2 ∨ j = 3)) → ¬ (a = 2 ∧ (j = 2 ∨ j = 6)) → ι' a j = ι a j) → (ι' 3 2 = 0 ∧ ι' 3 3 = 0 ∧ ι' 2 2 = 0 ∧ ι' 2 6 = 0) → (∀ q, q < 4 → ι' (10 + 2 * q) 1 = 0 ∧ ι' (10 + 2 * q) 2 = 0 ∧ ι' (10 + 2 * q) 3 = 0) → Q none ι') : PC xl n 15 0 [(0, .ref 2)] [] ι Q := by
  refine (t_15_0 ?_).weak
  rw [rf_2_0]
  refine (t_16_0 ?_).weak
  refine clrL n 0 _ 0 rfl (by omega) (fun ι' h1 h2 => ?_)
  refine h _ (fun a j q1 q2 q3 => ?_) ⟨?_, ?_, ?_, ?_⟩ (fun q hq => ?_)
  · rw [up_ne (by omega), up_ne (by omega), h1 a j (by omega), up_ne (by omega), up_ne (by omega)]
  · rw [up_ne (by omega), up_ne (by omega), h1 _ _ (by omega), up_ne (by omega), up_same]
  · rw [up_ne (by omega), up_ne (by omega), h1 _ _ (by omega), up_same]
  · rw [up_ne (by omega), up_same]
  · rw [up_same]
  · rw [up_ne (by omega), up_ne (by omega), up_ne (by omega), up_ne (by omega), up_ne (by omega), up_ne (by omega)]
    exact h2 q (by omega) hq
theorem fdL1 : ∀ (n k : Nat) (κ : IS) (x : Int32), x.toInt = k → k ≤ 80 → (∀ κ' : IS, (∀ a j, ¬ (a = 133 ∧ k ≤ j ∧ j < 80) → κ' a j = κ a j) → (∀ j, k ≤ j → j < 80 → κ' 133 j = 0) → PC xl n 145 23 [(0, .ref 129), (1, .int 0)] [] κ' Q) → PC xl n 145 2 [(0, .ref 129), (1, .int x)] [] κ Q
  | 0, _, _, _, _, _, _ => PC.zero
  | n + 1, k, κ, x, hx, hk, h => by
    have t80 : (80 : Int32).toInt = 80 := rfl
    have u1 : (1 : Int32).toInt = 1 := rfl
    refine t_145_2 ⟨fun c => ?_, fun c _ _ => ?_⟩
    · rw [i_lt, hx, t80] at c
      exact (h κ (fun _ _ _ => rfl) (fun q h1 h2 => by omega)).weak
    · rw [i_lt, hx, t80] at c
      rw [rf_129_5, i_ixn hx]
      refine fdL1 n (k + 1) _ (x + 1) (by rw [i_add (by rw [hx, u1]; omega), hx, u1]; rfl) (by omega) (fun κ' h1 h2 => (h κ' (fun a j hn => ?_) (fun j g1 g2 => ?_)).weak)
      · rw [h1 a j (by omega), up_ne (by omega)]
      · by_cases eq : j = k
        · subst eq; rw [h1 _ _ (by omega), up_same]
        · exact h2 j (by omega) g2
theorem fdL2 : ∀ (n k : Nat) (κ : IS) (x : Int32), x.toInt = k → k ≤ 4 → (∀ κ' : IS, (∀ a j, ¬ (a = 134 ∧ k ≤ j ∧ j < 4) → κ' a j = κ a j) → (∀ j, k ≤ j → j < 4 → κ' 134 j = 0) → Q none (up (up (up (up (up κ' 129 6 0) 129 7 0) 129 8 0) 129 9 (-4)) 129 10 (-4))) → PC xl n 145 23 [(0, .ref 129), (1, .int x)] [] κ Q
  | 0, _, _, _, _, _, _ => PC.zero
  | n + 1, k, κ, x, hx, hk, h => by
    have t4 : (4 : Int32).toInt = 4 := rfl
    have u1 : (1 : Int32).toInt = 1 := rfl
    refine t_145_23 ⟨fun c => ?_, fun c _ _ => ?_⟩
    · rw [i_lt, hx, t4] at c
      exact h κ (fun _ _ _ => rfl) (fun q h1 h2 => by omega)
    · rw [i_lt, hx, t4] at c
      rw [rf_129_11, i_ixn hx]
      refine fdL2 n (k + 1) _ (x + 1) (by rw [i_add (by rw [hx, u1]; omega), hx, u1]; rfl) (by omega) (fun κ' h1 h2 => h κ' (fun a j hn => ?_) (fun j g1 g2 => ?_))
      · rw [h1 a j (by omega), up_ne (by omega)]
      · by_cases eq : j = k
        · subst eq; rw [h1 _ _ (by omega), up_same]
        · exact h2 j (by omega) g2
/-- the model's draft anew -/
theorem fd_spec (h : ∀ κ' : IS, (∀ a j, ¬ (a = 133 ∧ j < 80) → ¬ (a = 134 ∧ j < 4) → ¬ (a = 129 ∧ 6 ≤ j ∧ j ≤ 10) → κ' a j = κ a j) → (∀ j, j < 80 → κ' 133 j = 0) → (∀ j, j < 4 → κ' 134 j = 0) → (κ' 129 6 = 0 ∧ κ' 129 7 = 0 ∧ κ' 129 8 = 0 ∧ κ' 129 9 = -4 ∧ κ' 129 10 = -4) → Q none κ') : PC xl n 145 0 [(0, .ref 129)] [] κ Q := by
  refine (t_145_0 ?_).weak
  refine fdL1 n 0 κ 0 rfl (by omega) (fun κ1 h1 h2 => ?_)
  refine fdL2 n 0 κ1 0 rfl (by omega) (fun κ2 g1 g2 => ?_)
  refine h _ (fun a j q1 q2 q3 => ?_) (fun j hj => ?_) (fun j hj => ?_) ⟨?_, ?_, ?_, ?_, ?_⟩
  · rw [up_ne (by omega), up_ne (by omega), up_ne (by omega), up_ne (by omega), up_ne (by omega), g1 a j (by omega), h1 a j (by omega)]
  · rw [up_ne (by omega), up_ne (by omega), up_ne (by omega), up_ne (by omega), up_ne (by omega), g1 _ _ (by omega)]
    exact h2 j (by omega) hj
  · rw [up_ne (by omega), up_ne (by omega), up_ne (by omega), up_ne (by omega), up_ne (by omega)]
    exact g2 j (by omega) hj
  · rw [up_ne (by omega), up_ne (by omega), up_ne (by omega), up_ne (by omega), up_same]
  · rw [up_ne (by omega), up_ne (by omega), up_ne (by omega), up_same]
  · rw [up_ne (by omega), up_ne (by omega), up_same]
  · rw [up_ne (by omega), up_same]
  · rw [up_same]
/-- fresh drafts fit -/
theorem DR.fresh (h1 : ι 3 2 = 0 ∧ ι 3 3 = 0 ∧ ι 2 2 = 0 ∧ ι 2 6 = 0) (h2 : ∀ q, q < 4 → ι (10 + 2 * q) 1 = 0 ∧ ι (10 + 2 * q) 2 = 0 ∧ ι (10 + 2 * q) 3 = 0) (h3 : ι 1 4 = 0) (g1 : ∀ j, j < 80 → κ 133 j = 0) (g2 : ∀ j, j < 4 → κ 134 j = 0) (g3 : κ 129 6 = 0 ∧ κ 129 7 = 0 ∧ κ 129 8 = 0 ∧ κ 129 9 = -4 ∧ κ 129 10 = -4) : DR 0 0 0 ι κ := by
  have t0 : (0 : Int32).toInt = 0 := rfl
  refine ⟨⟨by omega, by rw [h1.1]; rfl, by rw [g3.1]; rfl⟩, ⟨by omega, by rw [h1.2.1]; rfl, by rw [g3.2.1]; rfl⟩, ⟨by rw [h3, g3.2.2.1], Or.inl g3.2.2.1⟩, ⟨fun v hv => by omega, fun v hv => g1 _ (by omega)⟩, fun q hq => ?_, ⟨by omega, by rw [h1.2.2.1]; rfl, by rw [g1 52 (by omega)]; rfl, fun i hi => by omega⟩, ⟨fun i hi => by omega, fun d hd hn => absurd (g2 d hd) hn, Or.inl (by rw [g3.2.2.2.1]; rfl), Or.inl (by rw [g3.2.2.2.2]; rfl)⟩, h1.2.2.2, g1 61 (by omega)⟩
  obtain ⟨q1, q2, q3⟩ := h2 q hq
  rw [q1, q2, q3, g1 _ (by omega), g1 _ (by omega), g1 _ (by omega), g2 q hq, t0]
  exact ⟨rfl, by omega, fun _ => rfl, rfl, ⟨rfl, rfl, rfl⟩, fun i hi => by omega⟩
abbrev knP (nv nd : Nat) (z : Int) : Prop := (90 ≤ z ∧ z ≤ 92) ∨ (z / 10 < nv ∧ z % 10 < nd)
theorem has_spec {z : Int} {a j : Nat} (hz : x1.toInt = z) (ha : (ι a 2).toInt = j) (h : ∀ r : Int32, (r = 0 ↔ ¬ (0 ≤ z ∧ z < j)) → Q (some (.int r)) ι) : PC xl n 49 0 [(0, .ref a), (1, .int x1)] [] ι Q := by
  have t0 : (0 : Int32).toInt = 0 := rfl
  refine (t_49_0 ?_).weak
  rw [i_lt, hz, t0, i_lt, hz, ha]
  exact ⟨fun c => h 0 ⟨fun _ => by omega, fun _ => rfl⟩, fun c => ⟨fun c2 => h 0 ⟨fun _ => by omega, fun _ => rfl⟩, fun c2 => h 1 ⟨fun c => absurd c (by decide), fun hh => absurd ⟨by omega, by omega⟩ hh⟩⟩⟩
theorem hasD_spec {z : Int} {a j : Nat} (hz : x1.toInt = z) (ha : (ι a 3).toInt = j) (h : ∀ r : Int32, (r = 0 ↔ ¬ (0 ≤ z ∧ z < j)) → Q (some (.int r)) ι) : PC xl n 50 0 [(0, .ref a), (1, .int x1)] [] ι Q := by
  have t0 : (0 : Int32).toInt = 0 := rfl
  refine (t_50_0 ?_).weak
  rw [i_lt, hz, t0, i_lt, hz, ha]
  exact ⟨fun c => h 0 ⟨fun _ => by omega, fun _ => rfl⟩, fun c => ⟨fun c2 => h 0 ⟨fun _ => by omega, fun _ => rfl⟩, fun c2 => h 1 ⟨fun c => absurd c (by decide), fun hh => absurd ⟨by omega, by omega⟩ hh⟩⟩⟩
theorem knows_spec {z : Int} {a : Nat} (hz : x1.toInt = z) (h0 : 0 ≤ z) (hv : (ι a 2).toInt = nv) (hd : (ι a 3).toInt = nd) (h : ∀ r : Int32, (r = 0 ↔ ¬ knP nv nd z) → Q (some (.int r)) ι) : PC xl n 48 0 [(0, .ref a), (1, .int x1)] [] ι Q := by
  refine (t_48_0 (sky_spec hz (fun r hr => ?_))).weak
  intro r2 e2
  cases e2
  refine ⟨fun c => h 1 ⟨fun c => absurd c (by decide), fun hh => ?_⟩, fun c => has_spec (i_d10 hz h0) hv (fun r3 hr3 => ?_)⟩
  · exact absurd (hr.mpr (fun g => hh (Or.inl g))) c
  · have n1 := hr.mp c
    intro r4 e4
    cases e4
    refine ⟨fun c2 => h 0 ⟨fun _ hh => ?_, fun _ => rfl⟩, fun c2 => hasD_spec (i_m10 hz h0) hd (fun r5 hr5 => ?_)⟩
    · rcases hh with hh | hh
      · exact n1 hh
      · exact hr3.mp c2 ⟨by omega, hh.1⟩
    · intro r6 e6
      cases e6
      refine ⟨fun c3 => h 0 ⟨fun _ hh => ?_, fun _ => rfl⟩, fun c3 => h 1 ⟨fun c => absurd c (by decide), fun hh => ?_⟩⟩
      · rcases hh with hh | hh
        · exact n1 hh
        · exact hr5.mp c3 ⟨by omega, hh.2⟩
      · refine absurd (hr5.mpr (fun g2 => ?_)) c3
        refine absurd (hr3.mpr (fun g1 => ?_)) c2
        exact hh (Or.inr ⟨g1.2, g2.2⟩)
/-- all that is named is there -/
noncomputable def WH (nv nd cnt : Nat) (ι : IS) : Prop := (∀ i, i < cnt → knP nv nd (ι 18 i).toInt) ∧ ∀ d, nd ≤ d → d < 4 → ι (10 + 2 * d) 2 = 0
theorem wh2 (hc : ∀ i, i < cnt → knP nv nd (ι 18 i).toInt) (h : ∀ r : Int32, (r = 0 ↔ ¬ WH nv nd cnt ι) → Q (some (.int r)) ι) : ∀ (n d : Nat) (x : Int32), x.toInt = d → nd ≤ d → d ≤ 4 → (∀ q, nd ≤ q → q < d → ι (10 + 2 * q) 2 = 0) → PC xl n 47 42 [(0, .ref 2), (1, .int x)] [] ι Q
  | 0, _, _, _, _, _, _ => PC.zero
  | n + 1, d, x, hx, hd, hd4, hq => by
    have t4 : (4 : Int32).toInt = 4 := rfl
    have u1 : (1 : Int32).toInt = 1 := rfl
    refine t_47_42 ⟨fun c => ?_, fun c _ _ => ?_⟩
    · rw [i_lt, hx, t4] at c
      exact h 1 ⟨fun c => absurd c (by decide), fun hh => absurd ⟨hc, fun q q1 q2 => hq q q1 (by omega)⟩ hh⟩
    · rw [i_lt, hx, t4] at c
      rw [rf_2_0, rf_3_1, i_ixn hx, re_9 d (by omega)]
      refine ⟨fun c2 => wh2 hc h n (d + 1) (x + 1) (by rw [i_add (by rw [hx, u1]; omega), hx, u1]; rfl) (by omega) (by omega) (fun q q1 q2 => ?_), fun c2 => h 0 ⟨fun _ hh => c2 (hh.2 d hd (by omega)), fun _ => rfl⟩⟩
      by_cases eq : q = d
      · rw [eq]; exact c2
      · exact hq q q1 (by omega)
theorem wh1 (hv : (ι 3 2).toInt = nv) (hd : (ι 3 3).toInt = nd) (hd4 : nd ≤ 4) (hc : (ι 2 2).toInt = cnt) (hc8 : cnt ≤ 8) (h0 : ∀ i, i < cnt → 0 ≤ (ι 18 i).toInt) (h : ∀ r : Int32, (r = 0 ↔ ¬ WH nv nd cnt ι) → Q (some (.int r)) ι) : ∀ (n i : Nat) (x : Int32), x.toInt = i → i ≤ cnt → (∀ q, q < i → knP nv nd (ι 18 q).toInt) → PC xl n 47 2 [(0, .ref 2), (1, .int x)] [] ι Q
  | 0, _, _, _, _, _ => PC.zero
  | n + 1, i, x, hx, hi, hq => by
    have u1 : (1 : Int32).toInt = 1 := rfl
    refine t_47_2 ⟨fun c => ?_, fun c _ _ => ?_⟩
    · rw [i_lt, hx, hc] at c
      rw [rf_2_0]
      exact wh2 (fun q q1 => hq q (by omega)) h n nd _ hd (Nat.le_refl _) hd4 (fun q q1 q2 => by omega)
    · rw [i_lt, hx, hc] at c
      rw [rf_2_0, rf_2_1, i_ixn hx]
      refine knows_spec rfl (h0 i (by omega)) hv hd (fun r hr => ?_)
      intro r2 e2
      cases e2
      refine ⟨fun c2 => wh1 hv hd hd4 hc hc8 h0 h n (i + 1) (x + 1) (by rw [i_add (by rw [hx, u1]; omega), hx, u1]; rfl) (by omega) (fun q q1 => ?_), fun c2 => h 0 ⟨fun _ hh => hr.mp c2 (hh.1 i (by omega)), fun _ => rfl⟩⟩
      by_cases eq : q = i
      · rw [eq]
        false_or_by_contra
        rename_i hh
        exact c2 (hr.mpr hh)
      · exact hq q (by omega)
theorem whole_spec (hD : DR nv nd cnt ι κ) (h : ∀ r : Int32, (r = 0 ↔ ¬ WH nv nd cnt ι) → Q (some (.int r)) ι) : PC xl n 47 0 [(0, .ref 2)] [] ι Q := by
  obtain ⟨c8, ci, ck, ca⟩ := hD.2.2.2.2.2.1
  refine (t_47_0 (wh1 hD.1.2.1 hD.2.1.2.1 hD.2.1.1 ci c8 (fun i hi => ?_) h n 0 0 rfl (Nat.zero_le _) (fun q hq => by omega))).weak
  have := (ca i hi).2
  unfold actP at this
  omega
/-- what the model looks at in the end is the same -/
theorem wh_iff (hD : DR nv nd cnt ι κ) : WH nv nd cnt ι ↔ ((κ 129 9).toInt < nv ∧ (κ 129 10).toInt < nd) := by
  obtain ⟨⟨v4, -, -⟩, ⟨d4, -, -⟩, -, -, dd, ⟨c8, ci, ck, ca⟩, ⟨g1, g2, g3, g4⟩, -⟩ := hD
  constructor
  · rintro ⟨w1, w2⟩
    constructor
    · rcases g3 with g3 | ⟨i, k1, k2, k3⟩
      · clear g4; rw [g3]; omega
      · have := w1 i k1
        clear g4
        unfold knP at this
        omega
    · rcases g4 with g4 | ⟨i, k1, k2, k3⟩ | ⟨d, k1, k2, k3⟩
      · clear g3; rw [g4]; omega
      · have := w1 i k1
        clear g3
        unfold knP at this
        omega
      · clear g3
        rw [← k3]
        false_or_by_contra
        rename_i hh
        have e4 := (dd d k1).2.2.2.1
        rw [w2 d (by omega) k1] at e4
        exact k2 e4.symm
  · rintro ⟨w1, w2⟩
    refine ⟨fun i hi => ?_, fun d q1 q2 => ?_⟩
    · have ha := (ca i hi).2
      by_cases hl : (ι 18 i).toInt < 90
      · have := g1 i hi hl
        clear g3 g4
        exact Or.inr ⟨by omega, by omega⟩
      · clear g3 g4
        unfold actP at ha
        exact Or.inl (by omega)
    · false_or_by_contra
      rename_i hh
      have e4 := (dd d q2).2.2.2.1
      have := g2 d q2 (by rw [← e4]; exact hh)
      clear g3 g4
      omega
end TextA
end
section
/-! TEXTS: all lines, by class and model -/
section TextB
variable {xl : List Int32} {b : Nat → Int} {lo L n n2 nv nd cnt : Nat} {ι ι' κ κ' : IS} {t : TK} {Q R : Option Value → IS → Prop} {x1 : Int32} {w : Value} {s e : Nat}
/-- what is asked of the ends: a text that is taken (the model has its draft still to keep), one that is not -/
noncomputable def TS (xl : List Int32) (n2 : Nat) (b : Nat → Int) (L : Nat) (K : Option Value → IS → Option Value → IS → Prop) : Prop := ∀ (x : Int32) (ι κ : IS) (nv nd cnt : Nat), BX b L ι → BM b L κ → ι 1 2 = 0 → κ 129 18 = 0 → DR nv nd cnt ι κ → WH nv nd cnt ι → PC xl n2 146 0 [(0, .ref 129)] [] (up κ 129 13 0) (fun _ κ1 => K (some (.int x)) ι (some (.int x)) κ1)
noncomputable def TF (K : Option Value → IS → Option Value → IS → Prop) : Prop := ∀ ι κ : IS, FR ι κ → K (some (.int ((-10) - ι 1 3))) ι (some (.int ((-10) - κ 129 19))) (up κ 129 13 0)
theorem endF {K : Option Value → IS → Option Value → IS → Prop} {x y : Int32} (hF : TF K) (h : FR ι κ) : PC xl n 14 60 [(0, .ref 1), (1, .int x)] [] ι (fun v1 ι1 => PC xl n2 150 44 [(0, .ref 129), (1, .int y)] [] κ (fun v2 κ1 => K v1 ι1 v2 κ1)) := by
  have e18 : (up κ 129 13 0) 129 18 = κ 129 18 := up_ne (by omega)
  have e19 : (up κ 129 13 0) 129 19 = κ 129 19 := up_ne (by omega)
  refine (t_14_60 ⟨fun _ => (t_14_94 ⟨fun _ => ?_, fun c => absurd c h.1⟩).weak, fun c => absurd c h.1⟩).weak
  refine (t_150_44 ⟨fun _ => (t_150_84 ?_).weak, fun c => absurd c (nz h.2.1)⟩).weak
  rw [e18, e19]
  refine ⟨fun c => absurd h.2.1 (by rw [i_lt] at c; exact c), fun _ => hF ι κ h⟩
theorem endS {K : Option Value → IS → Option Value → IS → Prop} {x : Int32} (hS : TS xl n2 b L K) (hF : TF K) (h : OK lo b L t nv nd cnt ι κ) (h0 : t.1 = 0) : PC xl n 14 60 [(0, .ref 1), (1, .int x)] [] ι (fun v1 ι1 => PC xl n2 150 44 [(0, .ref 129), (1, .int x)] [] κ (fun v2 κ1 => K v1 ι1 v2 κ1)) := by
  obtain ⟨hX, hM, tX, tM, tb, hd, hz⟩ := h
  have e := (tM.2.2.1 (by omega)).2
  have tL := tb.2.2.2.2.1 h0
  refine (t_14_60 ⟨fun c => absurd hz c, fun _ => ?_⟩).weak
  rw [rf_1_0]
  refine whole_spec hd (fun r hr => ?_)
  intro r2 e2
  cases e2
  refine ⟨fun c => ?_, fun c => ?_⟩
  · have hw : WH nv nd cnt ι := by
      false_or_by_contra; rename_i hh; exact c (hr.mpr hh)
    have hi := (wh_iff hd).mp hw
    refine (t_14_94 ⟨fun c => absurd hz c, fun _ => ?_⟩).weak
    refine (t_150_44 ⟨fun c => absurd e c, fun _ => ?_⟩).weak
    rw [i_lt, hd.1.2.2, i_lt, hd.2.1.2.2]
    refine ⟨fun c => absurd hi.1 c, fun _ => ⟨fun c => absurd hi.2 c, fun _ => ?_⟩⟩
    refine needs_spec (fun _ => ?_) (fun c => absurd c (by decide))
    have e18 : (up κ 129 13 0) 129 18 = κ 129 18 := up_ne (by omega)
    refine (t_150_84 ?_).weak
    rw [e18, e]
    exact ⟨fun _ => hS x ι κ nv nd cnt hX hM hz e hd hw, fun c => absurd c (by decide)⟩
  · have hw := hr.mp c
    have f1 : ¬ (up (up ι 1 2 6) 1 3 ((up ι 1 2 6) 22 1)) 1 2 = 0 := by rw [up_ne (by omega), up_same]; decide
    have fr : FR (up (up ι 1 2 6) 1 3 ((up ι 1 2 6) 22 1)) (failM κ 6) := by
      refine ⟨f1, ?_, ?_⟩
      · unfold failM; rw [up_ne (by simp), up_same]; decide
      · unfold failM; rw [up_same, up_same, up_ne (by omega), i_eq, hX.2.1, tM.1, tL]
    have e18 : (up (failM κ 6) 129 13 0) 129 18 = (failM κ 6) 129 18 := up_ne (by omega)
    have e19 : (up (failM κ 6) 129 13 0) 129 19 = (failM κ 6) 129 19 := up_ne (by omega)
    have l84 : PC xl n2 150 84 [(0, .ref 129), (1, .int x)] [] (failM κ 6) (fun v2 κ1 => K (some (.int ((-10) - (up (up ι 1 2 6) 1 3 ((up ι 1 2 6) 22 1)) 1 3))) (up (up ι 1 2 6) 1 3 ((up ι 1 2 6) 22 1)) v2 κ1) := by
      refine (t_150_84 ?_).weak
      rw [e18, e19]
      refine ⟨fun c => absurd fr.2.1 (by rw [i_lt] at c; exact c), fun _ => hF _ _ fr⟩
    have l6 : PC xl n2 153 0 [(0, .ref 129), (1, .int 0), (2, .int 6)] [] κ (fun _ κ1 => PC xl n2 150 84 [(0, .ref 129), (1, .int x)] [] κ1 (fun v2 κ1 => K (some (.int ((-10) - (up (up ι 1 2 6) 1 3 ((up ι 1 2 6) 22 1)) 1 3))) (up (up ι 1 2 6) 1 3 ((up ι 1 2 6) 22 1)) v2 κ1)) := by
      refine needs_spec (fun hh => ?_) (fun _ _ => l84)
      rcases hh with hh | hh
      · exact absurd rfl hh
      · exact absurd e hh
    rw [rf_1_1]
    refine (t_14_94 ⟨fun _ => ?_, fun c => absurd c f1⟩).weak
    refine (t_150_44 ⟨fun c => absurd e c, fun _ => ?_⟩).weak
    rw [i_lt, hd.1.2.2, i_lt, hd.2.1.2.2]
    exact ⟨fun _ => l6, fun q1 => ⟨fun _ => l6, fun q2 => absurd ((wh_iff hd).mpr ⟨q1, q2⟩) hw⟩⟩
theorem all2 {K : Option Value → IS → Option Value → IS → Prop} (hS : TS xl n2 b L K) (hF : TF K) : ∀ (n m : Nat) (ι κ : IS) (x y : Int32), x.toInt = m → ((∃ t nv nd cnt, OK 0 b L t nv nd cnt ι κ ∧ m ≤ t.2.1 ∧ y = x) ∨ FR ι κ) → PC xl n 14 26 [(0, .ref 1), (1, .int x)] [] ι (fun v1 ι1 => PC xl n2 150 20 [(0, .ref 129), (1, .int y)] [] κ (fun v2 κ1 => K v1 ι1 v2 κ1))
  | 0, _, _, _, _, _, _, _ => PC.zero
  | n + 1, m, ι, κ, x, y, hx, hh => by
    have t160 : (160 : Int32).toInt = 160 := rfl
    have t0 : (0 : Int32).toInt = 0 := rfl
    have u1 : (1 : Int32).toInt = 1 := rfl
    refine t_14_26 ?_
    rw [rf_1_1]
    rcases hh with ⟨t, nv, nd, cnt, hok, hm, rfl⟩ | fr
    · have hok2 := hok
      obtain ⟨hX, hM, tX, tM, tb, hd, hz⟩ := hok
      by_cases h0 : t.1 = 0
      · have e := tM.2.2.1 (by omega)
        have l60 : PC xl n 14 60 [(0, .ref 1), (1, .int y)] [] ι (fun v1 ι1 => PC xl n2 150 20 [(0, .ref 129), (1, .int y)] [] κ (fun v2 κ1 => K v1 ι1 v2 κ1)) := by
          refine PC.imp (endS hS hF hok2 h0) (fun v1 ι1 h => (t_150_20 ⟨fun c => absurd e.2 c, fun _ => ⟨fun _ => h, fun c => ?_⟩⟩).weak)
          exact absurd (by rw [i_eq, e.1, h0]; rfl) c
        refine ⟨fun _ => l60, fun _ => ⟨fun c => absurd hz c, fun _ => ⟨fun _ => l60, fun c => ?_⟩⟩⟩
        exact absurd (by rw [i_eq, tX.1, h0]; rfl) c
      · have lt := tb.2.2.2.2.2.1 h0
        have l160 : m < 160 := by have := tb.2.2.1; have := hX.1; omega
        refine ⟨fun c => ?_, fun _ => ⟨fun c => absurd hz c, fun _ => ⟨fun c => ?_, fun _ => ?_⟩⟩⟩
        · rw [i_lt, hx, t160] at c; omega
        · rw [i_eq, tX.1, t0] at c; omega
        have hx1 : (y + 1).toInt = (m + 1 : Nat) := by rw [i_add (by rw [hx, u1]; omega), hx, u1]; rfl
        by_cases h4 : t.1 = 4
        · -- no token: the model has stopped, the class meets it in its line
          refine (t_22_0 (stands_spec (fun c => ?_) (fun c k hk => ?_))).weak
          · rw [i_eq, tX.1, u1] at c; omega
          intro r hr
          cases hr
          refine ⟨fun q => absurd rfl q, fun _ => ?_⟩
          exact all2 hS hF n (m + 1) _ κ (y + 1) y hx1 (Or.inr (FR.mk (FX.fail tX hk) (FM.four tM h4)))
        · have e := tM.2.2.1 h4
          refine PC.imp (Q := fun _ ι1 => PC xl n2 154 0 [(0, .ref 129)] [] κ (fun _ κ1 => PC xl n2 150 20 [(0, .ref 129), (1, .int (y + 1))] [] κ1 (fun v2 κ' => PC xl n 14 26 [(0, .ref 1), (1, .int (y + 1))] [] ι1 (fun v1 ι' => K v1 ι' v2 κ')))) ?_ (fun v ι1 h => ?_)
          · refine line2 (lo := t.2.2.1) (nv := nv) (nd := nd) (cnt := cnt) ⟨hX, hM, tX, tM, ⟨tb.1, tb.2.1, tb.2.2.1, tb.2.2.2.1, tb.2.2.2.2.1, tb.2.2.2.2.2.1, Nat.le_refl _⟩, hd, hz⟩ h4 (fun ι1 κ1 hl => ?_)
            refine PC.swap (P := fun v1 ι' v2 κ' => K v1 ι' v2 κ') ?_
            refine all2 hS hF n (m + 1) ι1 κ1 (y + 1) (y + 1) hx1 ?_
            rcases hl with ⟨t2, nv2, nd2, cnt2, ok2, l2⟩ | fr
            · obtain ⟨p1, p2, p3, p4, p5, p6, p7⟩ := ok2
              exact Or.inl ⟨t2, nv2, nd2, cnt2, ⟨p1, p2, p3, p4, ⟨p5.1, p5.2.1, p5.2.2.1, p5.2.2.2.1, p5.2.2.2.2.1, p5.2.2.2.2.2.1, Nat.zero_le _⟩, p6, p7⟩, by omega, rfl⟩
            · exact Or.inr fr
          · refine PC.swap (P := fun v2 κ' v1 ι' => K v1 ι' v2 κ') ?_
            refine (t_150_20 ⟨fun c => absurd e.2 c, fun _ => ⟨fun c => ?_, fun _ => h⟩⟩).weak
            rw [i_eq, e.1, t0] at c; omega
    · have l60 : PC xl n 14 60 [(0, .ref 1), (1, .int x)] [] ι (fun v1 ι1 => PC xl n2 150 20 [(0, .ref 129), (1, .int y)] [] κ (fun v2 κ1 => K v1 ι1 v2 κ1)) :=
        PC.imp (endF hF fr) (fun v1 ι1 h => (t_150_20 ⟨fun _ => h, fun c => absurd c (nz fr.2.1)⟩).weak)
      exact ⟨fun _ => l60, fun _ => ⟨fun _ => l60, fun c => absurd c fr.1⟩⟩
/-- a text, by class and model -/
theorem text2 {K : Option Value → IS → Option Value → IS → Prop} (hS : TS xl n2 b L K) (hF : TF K) (hX : BX b L ι) (hM : BM b L κ) : PC xl n 14 0 [(0, .ref 1)] [] ι (fun v1 ι1 => PC xl n2 150 0 [(0, .ref 129)] [] κ (fun v2 κ1 => K v1 ι1 v2 κ1)) := by
  refine (t_14_0 ?_).weak
  rw [rf_1_0, rf_1_1]
  refine clr_spec (fun ι1 o1 z1 z2 => ?_)
  refine (t_18_0 ?_).weak
  have o1' : ∀ a j, ¬ a ≤ 21 → ι1 a j = ι a j := fun a j ha => by rw [o1 a j (by omega) (by omega) (by omega), up_ne (by omega), up_ne (by omega)]
  have X1 : BX b L (up ι1 22 4 0) := ⟨hX.1, by rw [up_ne (by omega), o1' _ _ (by omega)]; exact hX.2.1, fun q => by rw [up_ne (by omega), o1' _ _ (by omega)]; exact hX.2.2 q⟩
  refine adv_spec (p := 0) (b := b) (L := L) hX.1 (by rw [up_same]; rfl) (Nat.zero_le _) X1.2.1 X1.2.2 (fun ι2 k2 => ?_)
  refine PC.swap (P := fun v2 κ' v1 ι' => K v1 ι' v2 κ') ?_
  refine (t_150_0 ?_).weak
  refine fd_spec (fun κ1 p1 p2 p3 p4 => ?_)
  have q1 : ∀ a j, ¬ (a = 133 ∧ j < 80) → ¬ (a = 134 ∧ j < 4) → ¬ (a = 129 ∧ 6 ≤ j ∧ j ≤ 10) → ¬ (a = 129 ∧ (j = 18 ∨ j = 14)) → κ1 a j = κ a j := fun a j g1 g2 g3 g4 => by rw [p1 a j g1 g2 g3, up_ne (by omega), up_ne (by omega)]
  have M1 : BM b L κ1 := hM.congr (q1 _ _ (by omega) (by omega) (by omega) (by omega)) (fun q => q1 _ _ (by omega) (by omega) (by omega) (by omega))
  have f18 : κ1 129 18 = 0 := by rw [p1 _ _ (by omega) (by omega) (by omega), up_ne (by omega), up_same]
  have f14 : (κ1 129 14).toInt = (0 : Nat) := by rw [p1 _ _ (by omega) (by omega) (by omega), up_same]; rfl
  refine next_spec (p := 0) M1.1 f14 (Nat.zero_le _) M1.2.1 M1.2.2.1 M1.2.2.2 f18 (fun κ2 k3 => ?_)
  refine PC.swap (P := fun v1 ι' v2 κ' => K v1 ι' v2 κ') ?_
  have tb := (tok_b (lo := 0) (b := b) (L := L) (p := 0) (Nat.zero_le _) (Nat.le_refl _)).1
  refine all2 hS hF n 0 ι2 κ2 0 0 rfl (Or.inl ⟨tokF b L 0, 0, 0, 0, ⟨X1.tk k2, M1.tk k3, TX.tk k2, TM.tk k3, tb, ?_, ?_⟩, Nat.zero_le _, rfl⟩)
  · have D0 : DR 0 0 0 ι1 κ1 := DR.fresh z1 z2 (by rw [o1 _ _ (by omega) (by omega) (by omega), up_same]) p2 p3 p4
    refine D0.congr (fun a j hd => ?_) (tkM_d k3)
    rw [tkX_d k2 a j hd, up_ne (by unfold dX at hd; omega)]
  · rw [tkX_f k2, up_ne (by omega), o1 _ _ (by omega) (by omega) (by omega), up_ne (by omega), up_same]
end TextB
end
section
/-! THE TAPE: feed, end, text; what else they leave -/
abbrev isTown (u : Nat) : Prop := u = 3 ∨ u = 25 ∨ u = 46 ∨ u = 66 ∨ u = 86 ∨ u = 102
abbrev isTold (t : Nat) : Prop := t = 2 ∨ t = 24 ∨ t = 45 ∨ t = 65
theorem town_at {u : Nat} (h : isTown u) : rf u 0 = u + 1 ∧ rf u 1 = u + 6 ∧ (lr (u + 1) = 4 ∧ lr (u + 6) = 4) ∧ ∀ v, v < 4 → re (u + 1) v = u + 2 + v ∧ re (u + 6) v = u + 7 + 2 * v ∧ rf (u + 7 + 2 * v) 0 = u + 8 + 2 * v := by
  rcases h with rfl | rfl | rfl | rfl | rfl | rfl <;> decide
theorem told_at {t : Nat} (h : isTold t) : isTown (t + 1) ∧ rf t 0 = t + 1 ∧ rf t 1 = t + 16 ∧ rf t 3 = t + 17 ∧ rf t 4 = t + 18 ∧ rf t 5 = t + 19 := by
  rcases h with rfl | rfl | rfl | rfl <;> decide
theorem rf_0_0 : rf 0 0 = 1 := rfl
theorem rf_0_1 : rf 0 1 = 22 := rfl
theorem rf_0_2 : rf 0 2 = 24 := rfl
theorem rf_0_4 : rf 0 4 = 85 := rfl
/-- the same but for places between two -/
noncomputable def Sm (l h : Nat) (ι ι' : IS) : Prop := ∀ a j, ¬ (l ≤ a ∧ a ≤ h) → ι' a j = ι a j
section TapeA
variable {xl : List Int32} {b : Nat → Int} {lo L n n2 nv nd cnt l h : Nat} {ι ι' ι2 κ κ' : IS} {Q R : Option Value → IS → Prop} {x1 : Int32}
theorem Sm.rfl : Sm l h ι ι := fun _ _ _ => Eq.refl _
theorem Sm.trans {ι3 : IS} (h1 : Sm l h ι ι2) (h2 : Sm l h ι2 ι3) : Sm l h ι ι3 := fun a j hn => (h2 a j hn).trans (h1 a j hn)
theorem Sm.up {a j : Nat} {x : Int32} (h1 : Sm l h ι ι2) (ha : l ≤ a ∧ a ≤ h) : Sm l h ι (up ι2 a j x) := fun c k hn => by rw [up_ne (by omega)]; exact h1 c k hn
theorem visB_sm {a0 a1 : Nat} (ha : l ≤ a0 ∧ a0 ≤ h) (hq : ∀ ι', Sm l h ι ι' → Q none ι') : PC xl n 53 0 [(0, .ref a0), (1, .ref a1)] [] ι Q :=
  (t_53_0 (hq _ ((((Sm.rfl.up ha).up ha).up ha).up ha))).weak
theorem doorB_sm {a0 a1 : Nat} (ha : l ≤ a0 ∧ a0 ≤ h) (hb : l ≤ rf a0 0 ∧ rf a0 0 ≤ h) : ∀ (n : Nat) (ι : IS) (x : Int32), (∀ ι', Sm l h ι ι' → Q none ι') → PC xl n 54 2 [(0, .ref a0), (1, .ref a1), (2, .int x)] [] ι Q
  | 0, _, _, _ => PC.zero
  | n + 1, ι, x, hq => by
    refine t_54_2 ⟨fun _ => hq _ (((Sm.rfl.up ha).up ha).up ha), fun _ _ _ _ _ => ?_⟩
    exact doorB_sm ha hb n _ _ (fun ι' h1 => hq ι' ((Sm.rfl.up hb).trans h1))
theorem townB2_sm {u a1 : Nat} (hu : isTown u) : ∀ (n : Nat) (ι : IS) (x : Int32), (∀ ι', Sm u (u + 14) ι ι' → Q none ι') → PC xl n 52 49 [(0, .ref u), (1, .ref a1), (2, .int x)] [] ι Q
  | 0, _, _, _ => PC.zero
  | n + 1, ι, x, hq => by
    obtain ⟨e1, e2, ⟨e3, e4⟩, e5⟩ := town_at hu
    refine t_52_49 ⟨fun _ => hq _ (Sm.rfl.up (by omega)), fun _ c1 c2 _ _ => ?_⟩
    rw [e2, e4] at c2
    have hv : x.toNatClampNeg < 4 := by rw [i_ix]; omega
    rw [e2, (e5 _ hv).2.1]
    refine (t_54_0 (doorB_sm (l := u) (h := u + 14) (by omega) (by rw [(e5 _ hv).2.2]; omega) n ι 0 (fun ι1 h1 => ?_))).weak
    exact townB2_sm hu n _ _ (fun ι' h2 => hq ι' (h1.trans h2))
theorem townB1_sm {u a1 : Nat} (hu : isTown u) : ∀ (n : Nat) (ι : IS) (x : Int32), (∀ ι', Sm u (u + 14) ι ι' → Q none ι') → PC xl n 52 10 [(0, .ref u), (1, .ref a1), (2, .int x)] [] ι Q
  | 0, _, _, _ => PC.zero
  | n + 1, ι, x, hq => by
    obtain ⟨e1, e2, ⟨e3, e4⟩, e5⟩ := town_at hu
    refine t_52_10 ⟨fun _ => townB2_sm hu n _ _ (fun ι' h1 => hq ι' ((Sm.rfl.up (by omega)).trans h1)), fun _ c1 c2 _ _ => ?_⟩
    rw [e1, e3] at c2
    have hv : x.toNatClampNeg < 4 := by rw [i_ix]; omega
    rw [e1, (e5 _ hv).1]
    refine visB_sm (l := u) (h := u + 14) (by omega) (fun ι1 h1 => ?_)
    exact townB1_sm hu n _ _ (fun ι' h2 => hq ι' (h1.trans h2))
theorem townB_sm {u a1 : Nat} (hu : isTown u) (hq : ∀ ι', Sm u (u + 14) ι ι' → Q none ι') : PC xl n 52 0 [(0, .ref u), (1, .ref a1)] [] ι Q :=
  (t_52_0 (townB1_sm hu n _ _ (fun ι' h1 => hq ι' ((Sm.rfl.up (by omega)).trans h1)))).weak
theorem Sm.wide {l2 h2 : Nat} (h1 : Sm l h ι ι2) (hl : l2 ≤ l) (hh : h ≤ h2) : Sm l2 h2 ι ι2 := fun a j hn => h1 a j (by omega)
theorem toldB2_sm {t a1 : Nat} (ht : isTold t) : ∀ (n : Nat) (ι : IS) (x : Int32), (∀ ι', Sm t (t + 19) ι ι' → Q none ι') → PC xl n 51 57 [(0, .ref t), (1, .ref a1), (2, .int x)] [] ι Q ∧ PC xl n 51 89 [(0, .ref t), (1, .ref a1), (2, .int x)] [] ι Q
  | 0, _, _, _ => ⟨PC.zero, PC.zero⟩
  | n + 1, ι, x, hq => by
    obtain ⟨e0, e1, e2, e3, e4, e5⟩ := told_at ht
    refine ⟨t_51_57 ⟨fun _ => hq _ Sm.rfl, fun _ _ _ _ _ _ _ _ _ => ?_⟩, t_51_89 (fun _ _ _ _ => ?_)⟩
    · exact (toldB2_sm ht n _ _ (fun ι' h1 => hq ι' (((Sm.rfl.up (by rw [e3]; omega)).up (by rw [e4]; omega)).trans h1))).2
    · exact (toldB2_sm ht n _ _ (fun ι' h1 => hq ι' ((Sm.rfl.up (by rw [e5]; omega)).trans h1))).1
theorem toldB1_sm {t a1 : Nat} (ht : isTold t) : ∀ (n : Nat) (ι : IS) (x : Int32), (∀ ι', Sm t (t + 19) ι ι' → Q none ι') → PC xl n 51 21 [(0, .ref t), (1, .ref a1), (2, .int x)] [] ι Q
  | 0, _, _, _ => PC.zero
  | n + 1, ι, x, hq => by
    obtain ⟨e0, e1, e2, e3, e4, e5⟩ := told_at ht
    refine t_51_21 ⟨fun _ => (toldB2_sm ht n _ _ (fun ι' h1 => hq ι' ((Sm.rfl.up (by omega)).trans h1))).1, fun _ _ _ _ _ => ?_⟩
    exact toldB1_sm ht n _ _ (fun ι' h1 => hq ι' ((Sm.rfl.up (by rw [e2]; omega)).trans h1))
theorem toldB_sm {t a1 : Nat} (ht : isTold t) (hq : ∀ ι', Sm t (t + 19) ι ι' → Q none ι') : PC xl n 51 0 [(0, .ref t), (1, .ref a1)] [] ι Q := by
  obtain ⟨e0, e1, e2, e3, e4, e5⟩ := told_at ht
  refine (t_51_0 ?_).weak
  rw [e1]
  refine townB_sm e0 (fun ι1 h1 => ?_)
  exact toldB1_sm ht n _ _ (fun ι' h2 => hq ι' (((h1.wide (by omega) (by omega)).up (by omega)).trans h2))
theorem keptL : ∀ (n k : Nat) (ι : IS) (x : Int32), x.toInt = k → k ≤ 2 → (∀ ι', (∀ a j, ¬ a = 85 → ι' a j = ι a j) → (∀ q, q < k → ι' 85 q = ι 85 q) → (∀ q, k ≤ q → q < 2 → ι' 85 q = 0) → Q (some (.int x1)) ι') → PC xl n 13 50 [(0, .ref 0), (1, .int x1), (2, .int x)] [] ι Q
  | 0, _, _, _, _, _, _ => PC.zero
  | n + 1, k, ι, x, hx, hk, hq => by
    have t2 : (2 : Int32).toInt = 2 := rfl
    have u1 : (1 : Int32).toInt = 1 := rfl
    refine t_13_50 ⟨fun c => ?_, fun c _ _ => ?_⟩
    · rw [i_lt, hx, t2] at c
      exact hq ι (fun _ _ _ => rfl) (fun _ _ => rfl) (fun q h1 h2 => by omega)
    · rw [i_lt, hx, t2] at c
      rw [rf_0_4, i_ixn hx, show vp_nar .boolean 0 = 0 from rfl]
      refine keptL n (k + 1) _ (x + 1) (by rw [i_add (by rw [hx, u1]; omega), hx, u1]; rfl) (by omega) (fun ι' h1 h2 h3 => hq ι' (fun a j hn => ?_) (fun q hq => ?_) (fun q g1 g2 => ?_))
      · rw [h1 a j hn, up_ne (by omega)]
      · rw [h2 q (by omega), up_ne (by omega)]
      · by_cases e : q = k
        · rw [e, h2 k (by omega), up_same]
        · exact h3 q (by omega) g2
theorem rf_129_0 : rf 129 0 = 130 := by decide +kernel
theorem rf_129_2 : rf 129 2 = 132 := by decide +kernel
/-- what keeping the draft leaves -/
theorem kdL2 : ∀ (n : Nat) (κ : IS) (x : Int32), (∀ κ', (∀ a j, ¬ a = 130 → ¬ a = 132 → κ' a j = κ a j) → Q none κ') → PC xl n 146 44 [(0, .ref 129), (1, .int x)] [] κ Q
  | 0, _, _, _ => PC.zero
  | n + 1, κ, x, hq => by
    refine t_146_44 ⟨fun _ _ _ _ _ => hq _ (fun a j h1 h2 => ?_), fun _ _ _ _ _ => kdL2 n _ _ (fun κ' h1 => hq κ' (fun a j g1 g2 => ?_))⟩
    · rw [rf_129_2, up_ne (by omega), up_ne (by omega)]
    · rw [h1 a j g1 g2, rf_129_0, up_ne (by omega)]
theorem kdL1 : ∀ (n : Nat) (κ : IS) (x : Int32), (∀ κ', (∀ a j, ¬ a = 130 → ¬ a = 132 → ¬ (a = 129 ∧ (j = 3 ∨ j = 4)) → κ' a j = κ a j) → Q none κ') → PC xl n 146 2 [(0, .ref 129), (1, .int x)] [] κ Q
  | 0, _, _, _ => PC.zero
  | n + 1, κ, x, hq => by
    refine t_146_2 ⟨fun _ => kdL2 n _ _ (fun κ' h1 => hq κ' (fun a j g1 g2 g3 => ?_)), fun _ _ _ _ _ => kdL1 n _ _ (fun κ' h1 => hq κ' (fun a j g1 g2 g3 => ?_))⟩
    · rw [h1 a j g1 g2, up_ne (by omega), up_ne (by omega)]
    · rw [h1 a j g1 g2 g3, rf_129_0, up_ne (by omega)]
theorem kd_sm (hq : ∀ κ', (∀ a j, ¬ a = 130 → ¬ a = 132 → ¬ (a = 129 ∧ (j = 3 ∨ j = 4)) → κ' a j = κ a j) → Q none κ') : PC xl n 146 0 [(0, .ref 129)] [] κ Q := (t_146_0 (kdL1 n κ 0 hq)).weak
/-- a text, by class and model: the answers are the same, the tapes are empty then -/
theorem txt2 (hX : BX b L ι) (hM : BM b L κ) : PC xl n 13 0 [(0, .ref 0)] [] ι (fun v1 ι1 => PC xl n2 150 0 [(0, .ref 129)] [] κ (fun v2 κ1 => v1 = v2 ∧ ι1 22 1 = 0 ∧ κ1 129 13 = 0)) := by
  refine (t_13_0 ?_).weak
  rw [rf_0_0, rf_0_1, rf_0_2, rf_1_0]
  refine PC.imp (text2 (n2 := n2) (K := fun v1 _ v2 κ1 => (∃ r, v1 = some (.int r) ∧ v2 = some (.int r)) ∧ κ1 129 13 = 0) (b := b) (L := L) ?_ ?_ hX hM) (fun v1 ι1 hh => ?_)
  · intro x ι κ nv nd cnt _ _ _ _ _ _
    refine kd_sm (fun κ' h1 => ⟨⟨x, rfl, rfl⟩, ?_⟩)
    rw [h1 129 13 (by omega) (by omega) (by omega), up_same]
  · intro ι κ fr
    exact ⟨⟨_, rfl, by rw [fr.2.2]⟩, up_same _ _ _ _⟩
  · intro r1 e1
    have z : (up (up ι1 22 1 0) 0 9 ((up ι1 22 1 0) 1 2)) 22 1 = 0 := by rw [up_ne (by omega), up_same]
    have fin : ∀ ι2 : IS, ι2 22 1 = 0 → PC xl n2 150 0 [(0, .ref 129)] [] κ (fun v2 κ1 => some (Value.int r1) = v2 ∧ ι2 22 1 = 0 ∧ κ1 129 13 = 0) := fun ι2 h2 => hh.imp (fun v2 κ1 ⟨⟨r, q1, q2⟩, q3⟩ => ⟨by rw [q2, ← q1, e1], h2, q3⟩)
    revert z
    generalize (up (up ι1 22 1 0) 0 9 ((up ι1 22 1 0) 1 2)) = ι2
    intro z
    refine ⟨fun _ => fin ι2 z, fun _ => toldB_sm (t := 24) (Or.inr (Or.inl rfl)) (fun ι3 h3 => ?_)⟩
    refine keptL n 0 ι3 0 rfl (by omega) (fun ι4 o1 _ _ => fin ι4 ?_)
    rw [o1 22 1 (by omega), h3 22 1 (by omega)]; exact z
theorem feedX (hl : (ι 22 1).toInt = L) (h1 : 0 ≤ x1.toInt → x1.toInt ≤ 127 → L < 160 → ∀ ι' : IS, (∀ a j, ¬ (a = 22 ∧ j = 1) → ¬ (a = 23 ∧ j = L) → ι' a j = ι a j) → (ι' 22 1).toInt = (L + 1 : Nat) → ι' 23 L = x1 → ∀ v, Q v ι') (h2 : ¬ (0 ≤ x1.toInt ∧ x1.toInt ≤ 127 ∧ L < 160) → ∀ v, Q v ι) : PC xl n 10 0 [(0, .ref 0), (1, .int x1)] [] ι Q := by
  have t0 : (0 : Int32).toInt = 0 := rfl
  have t127 : (127 : Int32).toInt = 127 := rfl
  have t160 : (160 : Int32).toInt = 160 := rfl
  have u1 : (1 : Int32).toInt = 1 := rfl
  refine (t_10_0 ?_).weak
  rw [rf_0_1, i_lt, t0, i_lt (x := 127), t127]
  refine ⟨fun c => h2 (by omega) _, fun c => ⟨fun c2 => ?_, fun c2 => h2 (by omega) _⟩⟩
  refine (t_11_0 ?_).weak
  rw [i_lt, hl, t160, rf_22_0, i_ixn hl, up_ne (by omega)]
  refine ⟨fun c3 _ _ => ?_, fun c3 => ?_⟩
  · intro r hr
    cases hr
    refine ⟨fun c => absurd c (by decide), fun _ => h1 (by omega) (by omega) (by omega) _ (fun a j q1 q2 => ?_) ?_ ?_ _⟩
    · rw [up_ne q1, up_ne q2]
    · rw [up_same, i_add (by rw [hl, u1]; omega), hl, u1]; rfl
    · rw [up_ne (by omega), up_same]
  · intro r hr
    cases hr
    exact ⟨fun _ => h2 (by omega) _, fun c => absurd rfl c⟩
theorem feedM (hl : (κ 129 13).toInt = L) (hL : L ≤ 160) (h1 : 0 ≤ x1.toInt → x1.toInt ≤ 127 → L < 160 → ∀ κ' : IS, (∀ a j, ¬ (a = 129 ∧ j = 13) → ¬ (a = 135 ∧ j = L) → κ' a j = κ a j) → (κ' 129 13).toInt = (L + 1 : Nat) → κ' 135 L = x1 → ∀ v, Q v κ') (h2 : ¬ (0 ≤ x1.toInt ∧ x1.toInt ≤ 127 ∧ L < 160) → ∀ v, Q v κ) : PC xl n 147 0 [(0, .ref 129), (1, .int x1)] [] κ Q := by
  have t0 : (0 : Int64).toInt = 0 := rfl
  have t127 : (127 : Int64).toInt = 127 := rfl
  have t160 : (160 : Int32).toInt = 160 := rfl
  have u1 : (1 : Int32).toInt = 1 := rfl
  refine (t_147_0 (in_spec ?_)).weak
  rw [Int32.toInt_toInt64, t0, t127]
  intro r hr
  have hr := r01 hr
  have e160 : κ 129 13 = 160 ↔ (L : Int) = 160 := by rw [i_eq, hl]; exact Iff.rfl
  rw [e160, rf_129_12, i_ixn hl]
  refine ⟨fun c => ⟨fun c2 _ _ => ?_, fun c2 => h2 (by omega) _⟩, fun c => h2 (fun hh => hr.mp c ⟨hh.1, hh.2.1⟩) _⟩
  have g : 0 ≤ x1.toInt ∧ x1.toInt ≤ 127 := by
    false_or_by_contra
    rename_i hh
    exact c (hr.mpr hh)
  have e1 : (up κ 135 L x1) 129 13 = κ 129 13 := up_ne (by omega)
  rw [e1]
  refine h1 g.1 g.2 (by omega) _ (fun a j q1 q2 => ?_) ?_ ?_ _
  · rw [up_ne q1, up_ne q2]
  · rw [up_same, i_add (by rw [hl, u1]; omega), hl, u1]; rfl
  · rw [up_ne (by omega), up_same]
theorem endXs (hl : (ι 22 1).toInt = L) (h1 : 0 ≤ x1.toInt → x1.toInt ≤ L → ∀ v, Q v (up ι 22 1 x1)) (h2 : ¬ (0 ≤ x1.toInt ∧ x1.toInt ≤ L) → ∀ v, Q v ι) : PC xl n 12 0 [(0, .ref 0), (1, .int x1)] [] ι Q := by
  have t0 : (0 : Int32).toInt = 0 := rfl
  refine (t_12_0 ?_).weak
  rw [rf_0_1, i_lt, t0, i_lt, hl]
  exact ⟨fun c => h2 (by omega) _, fun c => ⟨fun c2 => h1 (by omega) (by omega) _, fun c2 => h2 (by omega) _⟩⟩
theorem endMs (hl : (κ 129 13).toInt = L) (h1 : 0 ≤ x1.toInt → x1.toInt ≤ L → ∀ v, Q v (up κ 129 13 x1)) (h2 : ¬ (0 ≤ x1.toInt ∧ x1.toInt ≤ L) → ∀ v, Q v κ) : PC xl n 149 0 [(0, .ref 129), (1, .int x1)] [] κ Q := by
  have t0 : (0 : Int64).toInt = 0 := rfl
  refine (t_149_0 (in_spec ?_)).weak
  rw [Int32.toInt_toInt64, Int32.toInt_toInt64, t0, hl]
  intro r hr
  have hr := r01 hr
  refine ⟨fun c => ?_, fun c => h2 (hr.mp c) _⟩
  have g : 0 ≤ x1.toInt ∧ x1.toInt ≤ L := by
    false_or_by_contra
    rename_i hh
    exact c (hr.mpr hh)
  exact h1 g.1 g.2 _
end TapeA
end
section
/-! THE START'S CELLS: their shape, empty tapes -/
noncomputable def eqv4 (v w : Value) : Bool := match v, w with
  | .int x, .int y => x == y
  | .long x, .long y => x == y
  | .ref a, .ref b => a == b
  | .null, .null => true
  | _, _ => false
theorem eqv4_ok {v w : Value} (h : eqv4 v w = true) : v = w := by
  unfold eqv4 at h
  split at h
  · rw [eq_of_beq h]
  · rw [eq_of_beq h]
  · rw [eq_of_beq h]
  · rfl
  · cases h
noncomputable def eqL4 : List Value → List Value → Bool
  | [], [] => true
  | v :: l, w :: m => eqv4 v w && eqL4 l m
  | _, _ => false
theorem eqL4_ok : ∀ {l m : List Value}, eqL4 l m = true → l = m
  | [], [], _ => rfl
  | v :: l, w :: m, h => by
    have h : (eqv4 v w && eqL4 l m) = true := h
    rw [Bool.and_eq_true] at h
    rw [eqv4_ok h.1, eqL4_ok h.2]
  | [], _ :: _, h => by cases h
  | _ :: _, [], h => by cases h
noncomputable def eqc4 (c d : MC) : Bool := match c, d with
  | .inl o, .inl p => o.1 == p.1 && eqL4 o.2 p.2
  | .inr (.inl q), .inr (.inl r) => q.1 == r.1 && decide (q.2 = r.2)
  | .inr (.inr q), .inr (.inr r) => q.1 == r.1 && decide (q.2 = r.2)
  | _, _ => false
theorem eqc4_ok {c d : MC} (h : eqc4 c d = true) : c = d := by
  unfold eqc4 at h
  split at h
  · rename_i o p
    rw [Bool.and_eq_true] at h
    exact congrArg Sum.inl (Prod.ext (eq_of_beq h.1) (eqL4_ok h.2))
  · rename_i q r
    rw [Bool.and_eq_true] at h
    exact congrArg (fun t => Sum.inr (Sum.inl t)) (Prod.ext (eq_of_beq h.1) (of_decide_eq_true h.2))
  · rename_i q r
    rw [Bool.and_eq_true] at h
    exact congrArg (fun t => Sum.inr (Sum.inr t)) (Prod.ext (eq_of_beq h.1) (of_decide_eq_true h.2))
  · cases h
noncomputable def eqH4 : MH → MH → Bool
  | [], [] => true
  | v :: l, w :: m => eqc4 v w && eqH4 l m
  | _, _ => false
theorem eqH4_ok : ∀ {l m : MH}, eqH4 l m = true → l = m
  | [], [], _ => rfl
  | v :: l, w :: m, h => by
    have h : (eqc4 v w && eqH4 l m) = true := h
    rw [Bool.and_eq_true] at h
    rw [eqc4_ok h.1, eqH4_ok h.2]
  | [], _ :: _, h => by cases h
  | _ :: _, [], h => by cases h
noncomputable def zr4 (F : MH) (a : Nat) : Bool := match F[a]? with
  | some (.inr (.inl q)) => q.2.all (fun x => x == 0)
  | _ => false
theorem zr4_ok {F : MH} {a : Nat} (h : zr4 F a = true) (q : Nat) : iv F a q = 0 := by
  unfold zr4 at h
  split at h
  · rename_i p hp
    unfold iv
    rw [hp]
    show p.2.getD q 0 = 0
    rw [List.getD_eq_getElem?_getD]
    cases hq : p.2[q]? with
    | none => rfl
    | some x => exact eq_of_beq (List.all_eq_true.mp h x (List.mem_of_getElem? hq))
  · cases h
noncomputable def st4B (F : MH) : Bool := eqH4 (F.map zc) sh0 && (decide (iv F 22 1 = 0) && (decide (iv F 129 13 = 0) && (zr4 F 23 && zr4 F 135)))
theorem st4_ok {F : MH} (h : st4B F = true) : F.map zc = sh0 ∧ BX (fun _ => 0) 0 (iv F) ∧ BM (fun _ => 0) 0 (iv F) := by
  unfold st4B at h
  simp only [Bool.and_eq_true, decide_eq_true_eq] at h
  obtain ⟨h1, h2, h3, h4, h5⟩ := h
  refine ⟨eqH4_ok h1, ⟨by omega, by rw [h2]; rfl, fun q => by rw [zr4_ok h4]; rfl⟩, ⟨by omega, by rw [h3]; rfl, fun q => by rw [zr4_ok h5]; rfl, fun q => Int.le_refl 0⟩⟩
end
section
/-! FLAGS: which images are kept, over a text -/
noncomputable def sX14 (a : Nat) : Bool := decide (1 ≤ a ∧ a ≤ 23)
noncomputable def pX14 (k : Nat) : Bool := decide (14 ≤ k ∧ k ≤ 50)
noncomputable def sM15 (a : Nat) : Bool := decide (129 ≤ a ∧ a ≤ 140 ∧ ¬ a = 130 ∧ ¬ a = 132)
noncomputable def pM15 (k : Nat) : Bool := decide (k = 145 ∨ k = 148 ∨ (151 ≤ k ∧ k ≤ 165))
set_option maxRecDepth 100000 in
theorem cloX14 : sClo sX14 [] = true := by decide +kernel
set_option maxRecDepth 100000 in
theorem chkX14 : sChk pX14 [] [] = true := by decide +kernel
set_option maxRecDepth 100000 in
theorem cloM15 : sClo sM15 [(9, 0), (9, 2)] = true := by decide +kernel
set_option maxRecDepth 100000 in
theorem chkM15 : sChk pM15 [(9, 0), (9, 2)] [(9, 3), (9, 4)] = true := by decide +kernel
section Flag
variable {xl : List Int32} {n n2 mi : Nat} {lv : LVs} {ι κ κ0 : IS} {Q Q2 : Option Value → IS → Prop} {b : Nat → Int} {L : Nat}
theorem PC.and (h1 : PC xl n mi 0 lv [] ι Q) (h2 : PC xl n mi 0 lv [] ι Q2) : PC xl n mi 0 lv [] ι (fun v κ => Q v κ ∧ Q2 v κ) := fun F hs hi => (h1 F hs hi).and (h2 F hs hi)
theorem PC.side {S P : Nat → Bool} {B X : List (Nat × Nat)} (hc : sClo S B = true) (hk : sChk P B X = true) (hp : P mi = true) (hl : sLv S lv) : PC xl n mi 0 lv [] ι (fun _ κ => ∀ a j, (S a = false ∨ xf X a j = true) → κ a j = ι a j) := fun F hs hi => (PF.side hc hk hp hs hl sL_nil).imp (fun _ F1 h a j ha => by rw [← hi]; exact h a j ha)
theorem lv1 {S : Nat → Bool} {a : Nat} (h : S a = true) : sLv S [(0, .ref a)] := by
  intro q hq
  cases List.mem_singleton.mp hq
  intro b e
  cases e
  exact Or.inl h
/-- the class's reading leaves all but its own cells -/
theorem sideX : PC xl n 14 0 [(0, .ref 1)] [] ι (fun _ ι1 => ∀ a j, ¬ (1 ≤ a ∧ a ≤ 23) → ι1 a j = ι a j) := (PC.side cloX14 chkX14 rfl (lv1 rfl)).imp (fun _ ι1 h a j ha => h a j (Or.inl (by simpa [sX14] using ha)))
/-- the model's reading leaves what is told, and which images are kept -/
noncomputable def mK (κ κ1 : IS) : Prop := ∀ a j, (a < 129 ∨ a = 130 ∨ a = 132 ∨ (a = 129 ∧ (j = 3 ∨ j = 4))) → κ1 a j = κ a j
theorem mK.trans {κ1 κ2 : IS} (h1 : mK κ κ1) (h2 : mK κ1 κ2) : mK κ κ2 := fun a j h => (h2 a j h).trans (h1 a j h)
theorem mK.rfl : mK κ κ := fun _ _ _ => Eq.refl _
theorem mK.up {κ1 : IS} {j : Nat} {x : Int32} (h1 : mK κ κ1) (hj : ¬ j = 3 ∧ ¬ j = 4) : mK κ (up κ1 129 j x) := fun a k h => by rw [up_ne (by omega)]; exact h1 a k h
theorem sideM (hp : pM15 mi = true) (hl : sLv sM15 lv) : PC xl n mi 0 lv [] κ (fun _ κ1 => mK κ κ1) := (PC.side cloM15 chkM15 hp hl).imp (fun _ κ1 h a j ha => h a j (by
  rcases ha with ha | ha | ha | ⟨ha, hj⟩
  · exact Or.inl (by simp [sM15]; omega)
  · exact Or.inl (by simp [sM15, ha])
  · exact Or.inl (by simp [sM15, ha])
  · refine Or.inr ?_
    subst ha
    rcases hj with rfl | rfl
    · decide +kernel
    · decide +kernel))
theorem u84 {x : Int32} (h : mK κ0 κ) : PC xl n 150 84 [(0, .ref 129), (1, .int x)] [] κ (fun _ κ1 => ¬ 0 < κ1 129 18 ∨ mK κ0 κ1) := by
  refine (t_150_84 ⟨fun c => kd_sm (fun κ' g => Or.inl ?_), fun _ => Or.inr (h.up (by omega))⟩).weak
  rw [g 129 18 (by omega) (by omega) (by omega)]
  exact c
theorem u44 {x : Int32} (h : mK κ0 κ) : PC xl n 150 44 [(0, .ref 129), (1, .int x)] [] κ (fun _ κ1 => ¬ 0 < κ1 129 18 ∨ mK κ0 κ1) := by
  have l3 : ∀ {p q : Int32}, sLv sM15 [(0, .ref 129), (1, .int p), (2, .int q)] := by
    intro p q w hw
    simp only [List.mem_cons, List.not_mem_nil, or_false] at hw
    rcases hw with rfl | rfl | rfl
    · intro b e; cases e; exact Or.inl (Eq.refl _)
    · exact sV_int
    · exact sV_int
  exact (t_150_44 ⟨fun _ => u84 h, fun _ => ⟨fun _ => (sideM rfl l3).imp (fun _ κ1 g => u84 (h.trans g)), fun _ => ⟨fun _ => (sideM rfl l3).imp (fun _ κ1 g => u84 (h.trans g)), fun _ => (sideM rfl l3).imp (fun _ κ1 g => u84 (h.trans g))⟩⟩⟩).weak
theorem u20 : ∀ (n : Nat) (κ : IS) (x : Int32), mK κ0 κ → PC xl n 150 20 [(0, .ref 129), (1, .int x)] [] κ (fun _ κ1 => ¬ 0 < κ1 129 18 ∨ mK κ0 κ1)
  | 0, _, _, _ => PC.zero
  | n + 1, κ, x, h => t_150_20 ⟨fun _ => u44 h, fun _ => ⟨fun _ => u44 h, fun _ => (sideM rfl (lv1 rfl)).imp (fun _ κ1 g => u20 n κ1 _ (h.trans g))⟩⟩
/-- the model's text: no fault at its end, or what is told stays -/
theorem uTxt : PC xl n 150 0 [(0, .ref 129)] [] κ (fun _ κ1 => ¬ 0 < κ1 129 18 ∨ mK κ κ1) :=
  (t_150_0 ((sideM rfl (lv1 rfl)).imp (fun _ κ1 g1 => (sideM rfl (lv1 rfl)).imp (fun _ κ2 g2 => u20 n κ2 0 ((((mK.rfl.up (by omega)).up (by omega)).trans g1).trans g2))))).weak
theorem kdZ2 : ∀ (n : Nat) (κ : IS) (x : Int32), (∀ κ', (∀ a j, ¬ a = 130 → ¬ a = 132 → κ' a j = κ a j) → κ' 132 0 = 0 → κ' 132 1 = 0 → Q none κ') → PC xl n 146 44 [(0, .ref 129), (1, .int x)] [] κ Q
  | 0, _, _, _ => PC.zero
  | n + 1, κ, x, hq => by
    refine t_146_44 ⟨fun _ _ _ _ _ => ?_, fun _ _ _ _ _ => kdZ2 n _ _ (fun κ' h1 h2 h3 => hq κ' (fun a j g1 g2 => ?_) h2 h3)⟩
    · rw [rf_129_2, show vp_nar .boolean 0 = 0 from rfl, show (0 : Int32).toNatClampNeg = 0 from rfl, show (1 : Int32).toNatClampNeg = 1 from rfl]
      refine hq _ (fun a j h1 h2 => ?_) ?_ ?_
      · rw [up_ne (by omega), up_ne (by omega)]
      · rw [up_ne (by omega), up_same]
      · rw [up_same]
    · rw [h1 a j g1 g2, rf_129_0, up_ne (by omega)]
theorem kdZ1 : ∀ (n : Nat) (κ : IS) (x : Int32), (∀ κ', (∀ a j, ¬ a = 130 → ¬ a = 132 → ¬ (a = 129 ∧ (j = 3 ∨ j = 4)) → κ' a j = κ a j) → κ' 132 0 = 0 → κ' 132 1 = 0 → Q none κ') → PC xl n 146 2 [(0, .ref 129), (1, .int x)] [] κ Q
  | 0, _, _, _ => PC.zero
  | n + 1, κ, x, hq => by
    refine t_146_2 ⟨fun _ => kdZ2 n _ _ (fun κ' h1 h2 h3 => hq κ' (fun a j g1 g2 g3 => ?_) h2 h3), fun _ _ _ _ _ => kdZ1 n _ _ (fun κ' h1 h2 h3 => hq κ' (fun a j g1 g2 g3 => ?_) h2 h3)⟩
    · rw [h1 a j g1 g2, up_ne (by omega), up_ne (by omega)]
    · rw [h1 a j g1 g2 g3, rf_129_0, up_ne (by omega)]
theorem kd_z (hq : ∀ κ', (∀ a j, ¬ a = 130 → ¬ a = 132 → ¬ (a = 129 ∧ (j = 3 ∨ j = 4)) → κ' a j = κ a j) → κ' 132 0 = 0 → κ' 132 1 = 0 → Q none κ') : PC xl n 146 0 [(0, .ref 129)] [] κ Q := (t_146_0 (kdZ1 n κ 0 hq)).weak
/-- a text, by class and model: answers the same, tapes empty, and the images that are kept: none in both, or as before in both -/
noncomputable def fl2 (ι ι1 κ κ1 : IS) : Prop := (∀ q, q < 2 → ι1 85 q = 0 ∧ κ1 132 q = 0) ∨ ((∀ q, ι1 85 q = ι 85 q) ∧ ∀ q, κ1 132 q = κ 132 q)
theorem txt3 (hX : BX b L ι) (hM : BM b L κ) : PC xl n 13 0 [(0, .ref 0)] [] ι (fun v1 ι1 => PC xl n2 150 0 [(0, .ref 129)] [] κ (fun v2 κ1 => v1 = v2 ∧ ι1 22 1 = 0 ∧ κ1 129 13 = 0 ∧ fl2 ι ι1 κ κ1)) := by
  refine (t_13_0 ?_).weak
  rw [rf_0_0, rf_0_1, rf_0_2, rf_1_0]
  refine PC.imp (PC.and (text2 (n2 := n2) (K := fun v1 ι1 v2 κ1 => (∃ r, v1 = some (.int r) ∧ v2 = some (.int r)) ∧ κ1 129 13 = 0 ∧ ((ι1 1 2 = 0 ∧ κ1 132 0 = 0 ∧ κ1 132 1 = 0) ∨ (¬ ι1 1 2 = 0 ∧ 0 < κ1 129 18))) (b := b) (L := L) ?_ ?_ hX hM) sideX) (fun v1 ι1 hh0 => ?_)
  · intro x ι κ nv nd cnt _ _ e12 _ _ _
    refine kd_z (fun κ' h1 z0 z1 => ⟨⟨x, rfl, rfl⟩, ?_, Or.inl ⟨e12, z0, z1⟩⟩)
    rw [h1 129 13 (by omega) (by omega) (by omega), up_same]
  · intro ι κ fr
    refine ⟨⟨_, rfl, by rw [fr.2.2]⟩, up_same _ _ _ _, Or.inr ⟨fr.1, ?_⟩⟩
    rw [up_ne (by omega), i_lt]
    exact fr.2.1
  · obtain ⟨hh, hsd⟩ := hh0
    intro r1 e1
    have z : (up (up ι1 22 1 0) 0 9 ((up ι1 22 1 0) 1 2)) 22 1 = 0 := by rw [up_ne (by omega), up_same]
    have z9 : (up (up ι1 22 1 0) 0 9 ((up ι1 22 1 0) 1 2)) 0 9 = ι1 1 2 := by rw [up_same, up_ne (by omega)]
    have z85 : ∀ q, (up (up ι1 22 1 0) 0 9 ((up ι1 22 1 0) 1 2)) 85 q = ι 85 q := fun q => by rw [up_ne (by omega), up_ne (by omega), hsd 85 q (by omega)]
    have hu := PC.and hh (uTxt (xl := xl) (n := n2) (κ := κ))
    revert z z9 z85
    generalize (up (up ι1 22 1 0) 0 9 ((up ι1 22 1 0) 1 2)) = ι2
    intro z z9 z85
    refine ⟨fun c => ?_, fun c => toldB_sm (t := 24) (Or.inr (Or.inl rfl)) (fun ι3 h3 => ?_)⟩
    · rw [z9] at c
      refine hu.imp (fun v2 κ1 g => ?_)
      obtain ⟨⟨⟨r, q1, q2⟩, q3, q4⟩, q5⟩ := g
      refine ⟨by rw [q2, ← q1, e1], z, q3, Or.inr ⟨z85, fun q => ?_⟩⟩
      rcases q4 with q4 | q4
      · exact absurd q4.1 c
      · rcases q5 with q5 | q5
        · exact absurd q4.2 q5
        · exact q5 132 q (Or.inr (Or.inr (Or.inl rfl)))
    · rw [z9] at c
      refine keptL n 0 ι3 0 rfl (by omega) (fun ι4 o1 _ o3 => ?_)
      refine hu.imp (fun v2 κ1 g => ?_)
      obtain ⟨⟨⟨r, q1, q2⟩, q3, q4⟩, q5⟩ := g
      refine ⟨by rw [q2, ← q1, e1], by rw [o1 22 1 (by omega), h3 22 1 (by omega)]; exact z, q3, Or.inl (fun q hq => ⟨o3 q (by omega) hq, ?_⟩)⟩
      rcases q4 with q4 | q4
      · match q, hq with
        | 0, _ => exact q4.2.1
        | 1, _ => exact q4.2.2
      · exact absurd c q4.1
end Flag
end
section
/-! KEEP, by class and by model: what it answers, which images are kept then -/
theorem re_img0 : re (rf 0 3) 0 = 45 := by decide +kernel
theorem re_img1 : re (rf 0 3) 1 = 65 := by decide +kernel
noncomputable def kC (x1 : Int32) (ι ι1 : IS) (v : Option Value) (a : Nat) : Prop := (∃ k : Nat, x1.toInt = k ∧ k < 2 ∧ v = some (.int (if ι a k = 0 then 0 else 1)) ∧ ∀ q, ι1 a q = if q = k then 1 else ι a q) ∨ (¬ (0 ≤ x1.toInt ∧ x1.toInt < 2) ∧ v = some (.int (-1)) ∧ ∀ q, ι1 a q = ι a q)
section Keep
variable {xl : List Int32} {n : Nat} {ι κ : IS} {x1 : Int32}
theorem keepX : PC xl n 130 0 [(0, .ref 0), (1, .int x1)] [] ι (fun v ι1 => kC x1 ι ι1 v 85) := by
  have t0 : (0 : Int32).toInt = 0 := rfl
  have t2 : (2 : Int32).toInt = 2 := rfl
  refine (t_130_0 ⟨fun c => ?_, fun c => ⟨fun c2 _ _ => ?_, fun c2 => ?_⟩⟩).weak
  · rw [i_lt, t0] at c
    exact Or.inr ⟨by omega, rfl, fun _ => rfl⟩
  · rw [i_lt, t0] at c
    rw [i_lt, t2] at c2
    obtain ⟨k, hk⟩ : ∃ k : Nat, x1.toInt = k := ⟨x1.toInt.toNat, by omega⟩
    have hk2 : k < 2 := by omega
    have hT : isTold (re (rf 0 3) k) ∧ ∀ a, a = 85 → ¬ (re (rf 0 3) k ≤ a ∧ a ≤ re (rf 0 3) k + 19) := by
      match k, hk2 with
      | 0, _ => rw [re_img0]; exact ⟨Or.inr (Or.inr (Or.inl rfl)), fun a h => by omega⟩
      | 1, _ => rw [re_img1]; exact ⟨Or.inr (Or.inr (Or.inr rfl)), fun a h => by omega⟩
    have fin : ∀ (ι1 : IS) (y : Int32), (y = if ι 85 k = 0 then 0 else 1) → Sm (re (rf 0 3) k) (re (rf 0 3) k + 19) ι ι1 → kC x1 ι (up ι1 85 k 1) (some (.int y)) 85 := by
      intro ι1 y hy hs
      refine Or.inl ⟨k, hk, hk2, by rw [hy], fun q => ?_⟩
      by_cases e : q = k
      · rw [if_pos e, e, up_same]
      · rw [if_neg e, up_ne (by omega), hs 85 q (hT.2 85 rfl)]
    rw [rf_0_4, i_ixn hk, show vp_nar .boolean 1 = 1 from rfl]
    refine ⟨fun e _ _ => toldB_sm hT.1 (fun ι1 hs _ _ => ?_), fun e _ _ => toldB_sm hT.1 (fun ι1 hs _ _ => ?_)⟩
    · exact fin ι1 0 (by rw [if_pos e]) hs
    · exact fin ι1 1 (by rw [if_neg e]) hs
  · rw [i_lt, t2] at c2
    exact Or.inr ⟨by omega, rfl, fun _ => rfl⟩
theorem copyM : ∀ (n : Nat) (κ : IS) (y z w : Int32) {Q : Option Value → IS → Prop}, (∀ κ', (∀ a j, ¬ a = 130 → κ' a j = κ a j) → Q none κ') → PC xl n 231 2 [(0, .ref 129), (1, .int y), (2, .int z), (3, .int w)] [] κ Q
  | 0, _, _, _, _, _, _ => PC.zero
  | n + 1, κ, y, z, w, Q, hq => by
    refine t_231_2 ⟨fun _ => hq κ (fun _ _ _ => rfl), fun _ _ _ _ _ => copyM n _ y z _ (fun κ' h => hq κ' (fun a j g => ?_))⟩
    rw [h a j g, rf_129_0, up_ne (by omega)]
theorem keepM : PC xl n 230 0 [(0, .ref 129), (1, .int x1)] [] κ (fun v κ1 => kC x1 κ κ1 v 132) := by
  have t0 : (0 : Int64).toInt = 0 := rfl
  have t1 : (1 : Int64).toInt = 1 := rfl
  refine (t_230_0 (in_spec ?_)).weak
  rw [Int32.toInt_toInt64, t0, t1]
  intro r hr
  have hr := r01 hr
  refine ⟨fun c _ _ => ?_, fun c => ?_⟩
  · have g : 0 ≤ x1.toInt ∧ x1.toInt ≤ 1 := by
      false_or_by_contra
      rename_i hh
      exact c (hr.mpr hh)
    obtain ⟨k, hk⟩ : ∃ k : Nat, x1.toInt = k := ⟨x1.toInt.toNat, by omega⟩
    have hk2 : k < 2 := by omega
    rw [rf_129_2, i_ixn hk, show vp_nar .boolean 1 = 1 from rfl]
    have fin : ∀ y : Int32, (y = if κ 132 k = 0 then 0 else 1) → ∀ r2, some (Value.int y) = some (.int r2) → PC xl n 231 0 [(0, .ref 129), (1, .int (80 * (x1 + 1))), (2, .int 0)] [] (up κ 132 k 1) (fun _ κ3 => kC x1 κ κ3 (some (.int r2)) 132) := by
      intro y hy r2 e
      cases e
      refine (t_231_0 (copyM n _ _ _ _ (fun κ' h => Or.inl ⟨k, hk, hk2, by rw [hy], fun q => ?_⟩))).weak
      rw [h 132 q (by omega)]
      by_cases e : q = k
      · rw [if_pos e, e, up_same]
      · rw [if_neg e, up_ne (by omega)]
    refine (t_175_0 ⟨fun e => ?_, fun e => ?_⟩).weak
    · intro r2 e2 _ _
      exact fin 0 (by rw [if_pos e]) r2 e2
    · intro r2 e2 _ _
      exact fin 1 (by rw [if_neg e]) r2 e2
  · have g : ¬ (0 ≤ x1.toInt ∧ x1.toInt ≤ 1) := hr.mp c
    exact Or.inr ⟨by omega, rfl, fun _ => rfl⟩
end Keep
end
section
/-! THE START'S CELLS: no image is kept -/
noncomputable def st5B (F : MH) : Bool := st4B F && (zr4 F 85 && zr4 F 132)
theorem st5_ok {F : MH} (h : st5B F = true) : st4B F = true ∧ ∀ q, iv F 85 q = iv F 132 q := by
  unfold st5B at h
  simp only [Bool.and_eq_true] at h
  exact ⟨h.1, fun q => by rw [zr4_ok h.2.1, zr4_ok h.2.2]⟩
end
