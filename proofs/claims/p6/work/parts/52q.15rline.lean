/-! LINES: any, by class and model -/
section RLine
variable {xl : List Int32} {b : Nat → Int} {lo L n n2 nv nd cnt : Nat} {ι ι' κ κ' : IS} {t : TK} {Q R : Option Value → IS → Prop} {x1 : Int32} {w : Value} {s e : Nat}
theorem lf_door (h : isDoorN b s e) : lineF b s e = 4 := by
  unfold lineF
  rw [if_neg (fun hh => by have := hh.1; have := h.1; omega), if_neg (fun hh => by have := hh.1; have := h.1; omega), if_neg (fun hh => by have := hh.1; have := h.1; omega), if_neg (fun hh => by have := hh.1; have := h.1; omega), if_pos h]
theorem lf_not (h : isNot b s e) : lineF b s e = 5 := by
  unfold lineF
  rw [if_neg (fun hh => by have := hh.1; have := h.1; omega), if_neg (fun hh => by have := hh.1; have := h.1; omega), if_neg (fun hh => by have := hh.1; have := h.1; omega), if_neg (fun hh => by have := hh.2.1; have := h.2.1; omega), if_neg (fun hh => by have := hh.1; have := h.1; omega), if_pos h]
theorem lf_plan (h : isPlan b s e) : lineF b s e = 6 := by
  unfold lineF
  rw [if_neg (fun hh => by have := hh.1; have := h.1; omega), if_neg (fun hh => by have := hh.1; have := h.1; omega), if_neg (fun hh => by have := hh.1; have := h.1; omega), if_neg (fun hh => by have := hh.1; have := h.1; omega), if_neg (fun hh => by have := hh.2.1; have := h.2.1; omega), if_neg (fun hh => by have := hh.1; have := h.1; omega), if_pos h]
def kindF (b : Nat → Int) (s e : Nat) : Int := if isPlain b s e then 0 else if isPriest b s e then 1 else if isMiser b s e then 2 else if isSpy b s e then 3 else -4
theorem lf_kind (h1 : ¬ isDoorN b s e) (h2 : ¬ isNot b s e) (h3 : ¬ isPlan b s e) : lineF b s e = kindF b s e := by
  unfold lineF kindF
  rw [if_neg h1, if_neg h2, if_neg h3]
theorem kf_rng : kindF b s e = -4 ∨ (0 ≤ kindF b s e ∧ kindF b s e ≤ 3) := by
  unfold kindF
  split
  · omega
  · split
    · omega
    · split
      · omega
      · split <;> omega
theorem lf_rng : lineF b s e = -4 ∨ (0 ≤ lineF b s e ∧ lineF b s e ≤ 6) := by
  unfold lineF
  split
  · omega
  · split
    · omega
    · split
      · omega
      · split
        · omega
        · split
          · omega
          · split
            · omega
            · split <;> omega
theorem kind_spec (hk : ι 22 2 = 1) (hs : (ι 22 3).toInt = s) (he : (ι 22 4).toInt = e) (hse : s ≤ e) (he2 : e ≤ 160) (hb : ∀ q, (ι 23 q).toInt = b q) (h : ∀ r : Int32, r.toInt = kindF b s e → Q (some (.int r)) ι) : PC xl n 44 0 [(0, .ref 1)] [] ι Q := by
  unfold kindF at h
  have yes : ∀ {r : Int32} {P : Prop}, (r = 0 ↔ ¬ P) → ¬ r = 0 → P := fun hr c => by
    false_or_by_contra; rename_i hh; exact c (hr.mpr hh)
  refine (t_44_0 ?_).weak
  rw [rf_1_1]
  refine name_plain hk hs he hse he2 hb (fun r hr => ?_)
  intro r2 e2
  cases e2
  refine ⟨fun c => ?_, fun c => h 0 (by rw [if_pos (yes hr c)]; rfl)⟩
  rw [if_neg (hr.mp c)] at h
  refine name_priest hk hs he hse he2 hb (fun r hr => ?_)
  intro r2 e2
  cases e2
  refine ⟨fun c => ?_, fun c => h 1 (by rw [if_pos (yes hr c)]; rfl)⟩
  rw [if_neg (hr.mp c)] at h
  refine name_miser hk hs he hse he2 hb (fun r hr => ?_)
  intro r2 e2
  cases e2
  refine ⟨fun c => ?_, fun c => h 2 (by rw [if_pos (yes hr c)]; rfl)⟩
  rw [if_neg (hr.mp c)] at h
  refine name_spy hk hs he hse he2 hb (fun r hr => ?_)
  intro r2 e2
  cases e2
  exact ⟨fun c => h (-4) (by rw [if_neg (hr.mp c)]; rfl), fun c => h 3 (by rw [if_pos (yes hr c)]; rfl)⟩
/-- behind a fault the model does nothing more with a line -/
theorem f123 {p : Nat} (hF : FM κ p) (h : ∀ κ1 : IS, FM κ1 p → R none κ1) : PC xl n2 154 123 [(0, .ref 129), (1, .int x1)] [] κ R := by
  refine (t_154_123 (next_f hF.1 ⟨fun c => absurd hF.1 (by rw [i_lt] at c; exact c), fun _ => h κ hF⟩)).weak
theorem f97 {p : Nat} {u : Int32} (hF : FM κ p) (h : ∀ κ1 : IS, FM κ1 p → R none κ1) : PC xl n2 154 97 [(0, .ref 129), (1, .int x1)] [.int u, .ref 129] κ R := by
  have up8 : ∀ x : Int32, FM (up κ 129 8 x) p := fun x => hF.congr (up_ne (by simp)) (up_ne (by simp))
  refine (t_154_97 (needs_spec (fun _ => ?_) (fun _ c => absurd c (nz hF.1)))).weak
  exact ⟨fun _ => (t_154_115 (f123 (up8 1) h)).weak, fun _ => ⟨fun _ => f123 (up8 0) h, fun _ => (t_154_115 (f123 (up8 1) h)).weak⟩⟩
theorem f74 {p : Nat} {u : Int32} (hF : FM κ p) (h : ∀ κ1 : IS, FM κ1 p → R none κ1) : PC xl n2 154 74 [(0, .ref 129), (1, .int x1)] [.int u, .ref 129] κ R := by
  refine (t_154_74 (needs_spec (fun _ => ?_) (fun _ c => absurd c (nz hF.1)))).weak
  exact ⟨fun _ => (t_154_92 (f97 hF h)).weak, fun _ => ⟨fun _ => f97 hF h, fun _ => (t_154_92 (f97 hF h)).weak⟩⟩
theorem f30 (tM : TM κ t) (h4 : t.1 ≠ 4) (h : ∀ κ1 : IS, FM κ1 t.2.1 → R none κ1) : PC xl n2 154 30 [(0, .ref 129), (1, .int x1)] [.int 0, .ref 129] κ R := by
  have e := (tM.2.2.1 h4).2
  have F : FM (failM κ 2) t.2.1 := FM.fail tM (by decide)
  refine (t_154_30 (needs_spec (fun hh => ?_) (fun _ _ => ?_))).weak
  · rcases hh with hh | hh
    · exact absurd rfl hh
    · exact absurd e hh
  · exact ⟨fun _ => ⟨fun _ => (t_154_69 (f74 F h)).weak, fun _ => ⟨fun _ => f74 F h, fun _ => (t_154_69 (f74 F h)).weak⟩⟩, fun _ => ⟨fun _ => f74 F h, fun _ => f74 F h⟩⟩
/-- the model's looks at a line's name -/
theorem preM (hB : BM b L κ) (tM : TM κ t) (tb : TBd lo b L t) (h1 : t.1 = 1) (kv : (κ 129 6).toInt = nv) (kd : (κ 129 7).toInt = nd) (hbad : ¬ (lineF b t.2.1 t.2.2.1 ≠ -4 ∧ (lineF b t.2.1 t.2.2.1 ≤ 3 → nv < 4) ∧ (lineF b t.2.1 t.2.2.1 = 4 → nd < 4) ∧ (lineF b t.2.1 t.2.2.1 = 6 → κ 129 8 = 0)) → ∀ κ1 : IS, FM κ1 t.2.1 → R none κ1) (hgood : ∀ (r : Int32) (κ1 : IS), r.toInt = lineF b t.2.1 t.2.2.1 → lineF b t.2.1 t.2.2.1 ≠ -4 → (lineF b t.2.1 t.2.2.1 ≤ 3 → nv < 4) → (lineF b t.2.1 t.2.2.1 = 4 → nd < 4) → (lineF b t.2.1 t.2.2.1 = 6 → κ 129 8 = 0) → (∀ a j, ¬ (a = 129 ∧ j = 8) → κ1 a j = κ a j) → (lineF b t.2.1 t.2.2.1 = 6 → κ1 129 8 = 1) → (¬ lineF b t.2.1 t.2.2.1 = 6 → κ 129 8 = 0 → κ1 129 8 = 0) → (¬ lineF b t.2.1 t.2.2.1 = 6 → ¬ κ 129 8 = 0 → κ1 129 8 = 1) → PC xl n2 154 123 [(0, .ref 129), (1, .int r)] [] κ1 R) : PC xl n2 154 0 [(0, .ref 129)] [] κ R := by
  have u1 : (1 : Int32).toInt = 1 := rfl
  have t4 : (4 : Int32).toInt = 4 := rfl
  have t6 : (6 : Int32).toInt = 6 := rfl
  have tm4 : (-4 : Int32).toInt = -4 := rfl
  have e := tM.2.2.1 (by omega)
  have hrg := lf_rng (b := b) (s := t.2.1) (e := t.2.2.1)
  refine (t_154_0 ⟨fun c => ?_, fun _ => ?_⟩).weak
  · exact absurd (by rw [i_eq, e.1, h1]; rfl) c
  refine line_spec hB tM.1 tM.2.1 tb.2.1 tb.2.2.1 (fun r hr => ?_)
  intro r2 e2
  cases e2
  refine (t_154_17 ⟨fun c => ?_, fun c => ?_⟩).weak
  · rw [i_eq, hr, tm4] at c
    exact f30 tM (by omega) (hbad (fun hh => hh.1 c))
  rw [i_eq, hr, tm4] at c
  -- the plan once
  have l97 : (lineF b t.2.1 t.2.2.1 ≤ 3 → nv < 4) → (lineF b t.2.1 t.2.2.1 = 4 → nd < 4) → (lineF b t.2.1 t.2.2.1 = 6 → κ 129 8 = 0) → PC xl n2 154 97 [(0, .ref 129), (1, .int r)] [.int 1, .ref 129] κ R := by
    intro g1 g2 g3
    refine (t_154_97 (needs_spec (fun _ => ?_) (fun c => absurd c (by decide)))).weak
    rw [i_eq (x := r), hr, t6]
    refine ⟨fun c8 => (t_154_115 (hgood r _ hr c g1 g2 g3 (fun a j hn => up_ne hn) (fun _ => up_same _ _ _ _) (fun _ q => absurd q c8) (fun _ _ => up_same _ _ _ _))).weak, fun c8 => ⟨fun c6 => hgood r _ hr c g1 g2 g3 (fun a j hn => up_ne hn) (fun q => absurd q c6) (fun _ _ => up_same _ _ _ _) (fun _ q => absurd c8 q), fun c6 => (t_154_115 (hgood r _ hr c g1 g2 g3 (fun a j hn => up_ne hn) (fun _ => up_same _ _ _ _) (fun q => absurd c6 q) (fun q => absurd c6 q))).weak⟩⟩
  have b97 : ¬ (lineF b t.2.1 t.2.2.1 = 6 → κ 129 8 = 0) → PC xl n2 154 97 [(0, .ref 129), (1, .int r)] [.int 0, .ref 129] κ R := by
    intro g
    have F : FM (failM κ 4) t.2.1 := FM.fail tM (by decide)
    have up8 : ∀ x : Int32, FM (up (failM κ 4) 129 8 x) t.2.1 := fun x => F.congr (up_ne (by simp)) (up_ne (by simp))
    have hb := hbad (fun hh => g hh.2.2.2)
    refine (t_154_97 (needs_spec (fun hh => ?_) (fun _ _ => ?_))).weak
    · rcases hh with hh | hh
      · exact absurd rfl hh
      · exact absurd e.2 hh
    · exact ⟨fun _ => (t_154_115 (f123 (up8 1) hb)).weak, fun _ => ⟨fun _ => f123 (up8 0) hb, fun _ => (t_154_115 (f123 (up8 1) hb)).weak⟩⟩
  have l74 : (lineF b t.2.1 t.2.2.1 ≤ 3 → nv < 4) → (lineF b t.2.1 t.2.2.1 = 4 → nd < 4) → PC xl n2 154 74 [(0, .ref 129), (1, .int r)] [.int 1, .ref 129] κ R := by
    intro g1 g2
    refine (t_154_74 (needs_spec (fun _ => ?_) (fun c => absurd c (by decide)))).weak
    rw [i_eq (x := r), hr, t6]
    exact ⟨fun c6 => (t_154_92 (l97 g1 g2 (fun q => absurd q c6))).weak, fun c6 => ⟨fun c8 => b97 (fun q => c8 (q c6)), fun c8 => (t_154_92 (l97 g1 g2 (fun _ => c8))).weak⟩⟩
  have b74 : ¬ ((lineF b t.2.1 t.2.2.1 ≤ 3 → nv < 4) ∧ (lineF b t.2.1 t.2.2.1 = 4 → nd < 4)) → PC xl n2 154 74 [(0, .ref 129), (1, .int r)] [.int 0, .ref 129] κ R := by
    intro g
    have F : FM (failM κ 5) t.2.1 := FM.fail tM (by decide)
    have hb := hbad (fun hh => g ⟨hh.2.1, hh.2.2.1⟩)
    refine (t_154_74 (needs_spec (fun hh => ?_) (fun _ _ => ?_))).weak
    · rcases hh with hh | hh
      · exact absurd rfl hh
      · exact absurd e.2 hh
    · exact ⟨fun _ => (t_154_92 (f97 F hb)).weak, fun _ => ⟨fun _ => f97 F hb, fun _ => (t_154_92 (f97 F hb)).weak⟩⟩
  refine (t_154_30 (needs_spec (fun _ => ?_) (fun c => absurd c (by decide)))).weak
  rw [i_eq (x := r), hr, t4, i_lt (y := r), hr, t4, i_lt, kv, t4, i_lt, kd, t4]
  refine ⟨fun c4 => ⟨fun c5 => (t_154_69 (l74 (fun q => by omega) (fun q => absurd q c4))).weak, fun c5 => ⟨fun c6 => b74 (fun hh => by have := hh.1 (by omega); omega), fun c6 => (t_154_69 (l74 (fun _ => by omega) (fun q => absurd q c4))).weak⟩⟩, fun c4 => ⟨fun c6 => b74 (fun hh => by have := hh.2 c4; omega), fun c6 => l74 (fun q => by omega) (fun _ => by omega)⟩⟩
theorem line2 {K : IS → IS → Prop} (h : OK lo b L t nv nd cnt ι κ) (h4 : t.1 ≠ 4) (hK : ∀ ι1 κ1 : IS, LO lo b L ι1 κ1 → K ι1 κ1) : PC xl n 22 0 [(0, .ref 1)] [] ι (fun _ ι1 => PC xl n2 154 0 [(0, .ref 129)] [] κ (fun _ κ1 => K ι1 κ1)) := by
  have hOK := h
  obtain ⟨hX, hM, tX, tM, tb, hd, h0⟩ := h
  have u1 : (1 : Int32).toInt = 1 := rfl
  have t4e : (4 : Int32).toInt = 4 := rfl
  have tm4 : (-4 : Int32).toInt = -4 := rfl
  have yes : ∀ {r : Int32} {P : Prop}, (r = 0 ↔ ¬ P) → ¬ r = 0 → P := fun hr c => by
    false_or_by_contra; rename_i hh; exact c (hr.mpr hh)
  have kv := hd.1.2.2
  have kd := hd.2.1.2.2
  have xv := hd.1.2.1
  have xd := hd.2.1.2.1
  refine (t_22_0 (stands_spec (fun c => ?_) (fun c k hk => ?_))).weak
  rotate_left
  · -- no name
    rw [i_eq, tX.1, u1] at c
    intro r hr
    cases hr
    refine ⟨fun q => absurd rfl q, fun _ => ?_⟩
    have fx : FX (failI ι k) t.2.1 := FX.fail tX hk
    have e := tM.2.2.1 h4
    refine (t_154_0 ⟨fun _ => ?_, fun q => ?_⟩).weak
    · refine (t_154_17 ⟨fun _ => f30 tM h4 (fun κ1 f1 => hK _ _ (Or.inr (FR.mk fx f1))), fun q => absurd rfl q⟩).weak
    · rw [i_eq, e.1, u1] at q; omega
  have hk1 := c
  rw [i_eq, tX.1, u1] at c
  have h1 : t.1 = 1 := by omega
  intro r hr
  cases hr
  refine ⟨fun _ => ?_, fun q => absurd q (by decide)⟩
  rw [rf_1_1]
  have he2 : t.2.2.1 ≤ 160 := Nat.le_trans tb.2.2.1 hX.1
  -- what stays when the model has looked at the name
  have okk : ∀ κ1 : IS, (∀ a j, ¬ (a = 129 ∧ j = 8) → κ1 a j = κ a j) → κ1 129 8 = κ 129 8 → OK lo b L t nv nd cnt ι κ1 := by
    intro κ1 o1 o8
    have oo : ∀ a j, κ1 a j = κ a j := fun a j => by
      by_cases q : a = 129 ∧ j = 8
      · obtain ⟨rfl, rfl⟩ := q; exact o8
      · exact o1 a j q
    have e : κ1 = κ := funext fun a => funext fun j => oo a j
    rw [e]; exact hOK
  have o8 : ∀ κ1 : IS, (κ 129 8 = 0 → κ1 129 8 = 0) → (¬ κ 129 8 = 0 → κ1 129 8 = 1) → κ1 129 8 = κ 129 8 := by
    intro κ1 q1 q2
    rcases hd.2.2.1.2 with q | q
    · rw [q1 q, q]
    · rw [q2 (by rw [q]; decide), q]
  refine name_door hk1 tX.2.1 tX.2.2.1 tb.2.1 he2 hX.2.2 (fun r hr => ?_)
  intro r2 e2
  cases e2
  refine ⟨fun c1 => ?_, fun c1 => ?_⟩
  rotate_left
  · -- a door
    have lf := lf_door (yes hr c1)
    refine PC.swap (P := fun _ κ' _ ι' => K ι' κ') ?_
    refine preM hM tM tb h1 kv kd (fun hb κ1 f1 => ?_) (fun r κ1 hr g1 g2 g3 g4 o1 q1 q2 q3 => ?_)
    · have nd4 : ¬ nd < 4 := fun q => hb ⟨by omega, fun _ => by omega, fun _ => q, fun _ => by omega⟩
      refine (t_33_0 ?_).weak
      rw [rf_1_0, rf_1_1, rf_2_0, rf_3_1]
      refine ⟨fun c => ?_, fun c => fail_spec (hK _ _ (Or.inr (FR.mk (FX.fail tX (by decide)) f1)))⟩
      rw [i_lt, xd, t4e] at c; omega
    · refine PC.swap (P := fun _ ι' _ κ' => K ι' κ') ?_
      exact D2 (okk κ1 o1 (o8 κ1 (q2 (by omega)) (q3 (by omega)))) h1 (by rw [hr]; exact lf) (g3 lf) hK
  have n1 := hr.mp c1
  refine name_not hk1 tX.2.1 tX.2.2.1 tb.2.1 he2 hX.2.2 (fun r hr => ?_)
  intro r2 e2
  cases e2
  refine ⟨fun c2 => ?_, fun c2 => ?_⟩
  rotate_left
  · have lf := lf_not (yes hr c2)
    refine PC.swap (P := fun _ κ' _ ι' => K ι' κ') ?_
    refine preM hM tM tb h1 kv kd (fun hb κ1 f1 => absurd ⟨by omega, fun _ => by omega, fun _ => by omega, fun _ => by omega⟩ hb) (fun r κ1 hr g1 g2 g3 g4 o1 q1 q2 q3 => ?_)
    refine PC.swap (P := fun _ ι' _ κ' => K ι' κ') ?_
    exact N2 (okk κ1 o1 (o8 κ1 (q2 (by omega)) (q3 (by omega)))) h1 (by rw [hr]; exact lf) hK
  have n2' := hr.mp c2
  refine name_plan hk1 tX.2.1 tX.2.2.1 tb.2.1 he2 hX.2.2 (fun r hr => ?_)
  intro r2 e2
  cases e2
  refine ⟨fun c3 => ?_, fun c3 => ?_⟩
  rotate_left
  · have lf := lf_plan (yes hr c3)
    refine PC.swap (P := fun _ κ' _ ι' => K ι' κ') ?_
    refine preM hM tM tb h1 kv kd (fun hb κ1 f1 => ?_) (fun r κ1 hr g1 g2 g3 g4 o1 q1 q2 q3 => ?_)
    · have p1 : ¬ κ 129 8 = 0 := fun q => hb ⟨by omega, fun _ => by omega, fun _ => by omega, fun _ => q⟩
      refine (t_40_0 ⟨fun c => ?_, fun c => fail_spec (hK _ _ (Or.inr (FR.mk (FX.fail tX (by decide)) f1)))⟩).weak
      rw [hd.2.2.1.1] at c
      exact absurd c p1
    · refine PC.swap (P := fun _ ι' _ κ' => K ι' κ') ?_
      refine P2 (nv := nv) (nd := nd) (cnt := cnt) hX (hM.congr (o1 _ _ (by omega)) (fun q => o1 _ _ (by omega))) tX (tM.congr (fun j _ _ => o1 _ _ (by omega))) tb ?_ h0 (by rw [hd.2.2.1.1]; exact g4 lf) h1 (by rw [hr]; exact lf) hK
      obtain ⟨a1, a2, -, a4, a5, a6, a7, a8⟩ := hd
      have x : ∀ a j, ¬ (a = 1 ∧ j = 4) → (up ι 1 4 1) a j = ι a j := fun a j hn => up_ne hn
      have D0 : DR nv nd cnt (up ι 1 4 1) (up κ 129 8 1) := by
        refine ⟨⟨a1.1, by rw [x _ _ (by omega)]; exact a1.2.1, by rw [up_ne (by omega)]; exact a1.2.2⟩, ⟨a2.1, by rw [x _ _ (by omega)]; exact a2.2.1, by rw [up_ne (by omega)]; exact a2.2.2⟩, ⟨by rw [up_same, up_same], Or.inr (up_same _ _ _ _)⟩, ?_, ?_, ?_, ?_, by rw [x _ _ (by omega), up_ne (by omega)]; exact a8⟩
        · refine ⟨fun v hv => ?_, fun v hv => by rw [up_ne (by omega)]; exact a4.2 v hv⟩
          rw [x _ _ (by omega), x _ _ (by omega), x _ _ (by omega), x _ _ (by omega), up_ne (by omega), up_ne (by omega), up_ne (by omega)]
          exact a4.1 v hv
        · intro q hq
          obtain ⟨e1, e2, e3, e4, e5, e6⟩ := a5 q hq
          rw [x _ _ (by omega), x _ _ (by omega), x _ _ (by omega), up_ne (by omega), up_ne (by omega), up_ne (by omega), up_ne (by omega)]
          refine ⟨e1, e2, e3, e4, e5, fun i hi => ?_⟩
          rw [x _ _ (by omega), up_ne (by omega)]
          exact e6 i hi
        · refine ⟨a6.1, by rw [x _ _ (by omega)]; exact a6.2.1, by rw [up_ne (by omega)]; exact a6.2.2.1, fun i hi => ?_⟩
          rw [x _ _ (by omega), up_ne (by omega)]
          exact a6.2.2.2 i hi
        · have x18 : ∀ i, (up ι 1 4 1) 18 i = ι 18 i := fun i => x _ _ (by omega)
          have m4 : ∀ j, (up κ 129 8 1) 134 j = κ 134 j := fun j => up_ne (by omega)
          have m9 : (up κ 129 8 1) 129 9 = κ 129 9 := up_ne (by omega)
          have m10 : (up κ 129 8 1) 129 10 = κ 129 10 := up_ne (by omega)
          unfold DH at a7 ⊢
          simp only [x18, m4, m9, m10]
          exact a7
      refine D0.congr (fun _ _ _ => rfl) (fun a j _ => ?_)
      by_cases q : a = 129 ∧ j = 8
      · obtain ⟨rfl, rfl⟩ := q; rw [up_same, q1 lf]
      · rw [up_ne q, o1 a j q]
  have n3 := hr.mp c3
  -- a visitor, or none
  have lf := lf_kind n1 n2' n3
  refine kind_spec hk1 tX.2.1 tX.2.2.1 tb.2.1 he2 hX.2.2 (fun r hr => ?_)
  intro r2 e2
  cases e2
  refine PC.swap (P := fun _ κ' _ ι' => K ι' κ') ?_
  have kr := kf_rng (b := b) (s := t.2.1) (e := t.2.2.1)
  refine preM hM tM tb h1 kv kd (fun hb κ1 f1 => ?_) (fun r3 κ1 hr3 g1 g2 g3 g4 o1 q1 q2 q3 => ?_)
  · refine (t_45_0 ?_).weak
    rw [rf_1_0, rf_1_1, rf_2_0]
    refine ⟨fun c => ⟨fun c6 => ?_, fun _ => fail_spec (hK _ _ (Or.inr (FR.mk (FX.fail tX (by decide)) f1)))⟩, fun _ => fail_spec (hK _ _ (Or.inr (FR.mk (FX.fail tX (by decide)) f1)))⟩
    rw [i_eq, hr, tm4] at c
    rw [i_lt, xv, t4e] at c6
    exact absurd ⟨by omega, fun _ => by omega, fun _ => by omega, fun _ => by omega⟩ hb
  · have er : r3 = r := by rw [i_eq, hr3, hr, lf]
    subst er
    refine PC.swap (P := fun _ ι' _ κ' => K ι' κ') ?_
    exact V2 (okk κ1 o1 (o8 κ1 (q2 (by omega)) (q3 (by omega)))) h1 (by rw [hr]; omega) (g2 (by omega)) hK
end RLine
