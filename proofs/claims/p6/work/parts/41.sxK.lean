/-! SYMBOLIC RUNS, XI: comparisons -/
def BIG : Int := 1180591620717411303424
/-- in which bounds the difference is when a condition holds (or doesn't) -/
def x_rng (c : ClassFile.Cond) (t : Bool) : List (Int × Int) := match c, t with
  | .eq, true => [(0, 0)]
  | .eq, false => [(-BIG, -1), (1, BIG)]
  | .ne, true => [(-BIG, -1), (1, BIG)]
  | .ne, false => [(0, 0)]
  | .lt, true => [(-BIG, -1)]
  | .lt, false => [(0, BIG)]
  | .ge, true => [(0, BIG)]
  | .ge, false => [(-BIG, -1)]
  | .gt, true => [(1, BIG)]
  | .gt, false => [(-BIG, 0)]
  | .le, true => [(-BIG, 0)]
  | .le, false => [(1, BIG)]
def cz (c : ClassFile.Cond) (p q : Int) : Bool := match c with
  | .eq => decide (p = q)
  | .ne => decide (¬ p = q)
  | .lt => decide (p < q)
  | .ge => decide (q ≤ p)
  | .gt => decide (q < p)
  | .le => decide (p ≤ q)
/-- more is known of how a value differs from others -/
def a_rel (id : Nat) (rs : List (Nat × Int × Int)) (a : AV) : AV := if a.1 = id then (a.1, a.2.1, a.2.2.1, a.2.2.2.1, (rs ++ a.2.2.2.2).take 8) else a
def x_bas (x : AV) (lo hi : Int) : List (Nat × Int × Int) → SS → SS
  | [], S => S
  | r :: t, S => x_bas x lo hi t (s_map (a_cl r.1 (lo - r.2.2) (hi - r.2.1)) S)
/-- a difference that is one number is told of both -/
def x_rr (x y : AV) (D : Int × Int) (S : SS) : SS := if D.1 = D.2 ∧ ¬ y.2.2.1 = y.2.2.2.1 then s_map (a_rel y.1 [(x.1, -D.1, -D.1)]) S else S
def x_ref (x y : AV) (r : Int × Int) (S : SS) : Option SS :=
  let D := i_and (a_diff x y) r
  let xl := max x.2.2.1 (y.2.2.1 + D.1)
  let xh := min x.2.2.2.1 (y.2.2.2.1 + D.2)
  let yl := max y.2.2.1 (x.2.2.1 - D.2)
  let yh := min y.2.2.2.1 (x.2.2.2.1 - D.1)
  if D.1 ≤ D.2 ∧ xl ≤ xh ∧ yl ≤ yh then
    some (x_rr x y D (s_map (a_rel x.1 ((y.1, D.1, D.2) :: sh2 D y.2.2.2.2)) (x_bas y yl yh y.2.2.2.2 (x_bas x xl xh x.2.2.2.2 (s_map (a_cl y.1 yl yh) (s_map (a_cl x.1 xl xh) S))))))
  else none
where sh2 (D : Int × Int) (r : List (Nat × Int × Int)) : List (Nat × Int × Int) := r.map fun q => (q.1, q.2.1 + D.1, q.2.2 + D.2)
section SxK
variable {Γ : Nat → Option Nat} {sets : List (List Int)} {roles : List RD} {ms : Mods} {MT : List MM} {ro : Nat → Option MC} {fty : Nat → Nat → FieldType} {dfl : Nat → List Value} {vs0 : List Value} {F0 : MH} {Q : Option Value → MH → Prop} {d : Nat} {S : SS}
theorem cz_rng {c : ClassFile.Cond} {p q : Int} (hp : -9223372036854775808 ≤ p ∧ p ≤ 9223372036854775807) (hq : -9223372036854775808 ≤ q ∧ q ≤ 9223372036854775807) : ∃ r ∈ x_rng c (cz c p q), i_in (p - q) r := by
  have hb : BIG = 1180591620717411303424 := rfl
  cases c <;> simp only [cz]
  case eq =>
    by_cases h : p = q
    · rw [decide_eq_true h]; exact ⟨(0, 0), by simp [x_rng], by unfold i_in; simp only; omega⟩
    · rw [decide_eq_false h]
      rcases Int.lt_or_gt_of_ne h with g | g
      · exact ⟨(-BIG, -1), by simp [x_rng], by unfold i_in; simp only; omega⟩
      · exact ⟨(1, BIG), by simp [x_rng], by unfold i_in; simp only; omega⟩
  case ne =>
    by_cases h : p = q
    · rw [decide_eq_false (fun z => z h)]; exact ⟨(0, 0), by simp [x_rng], by unfold i_in; simp only; omega⟩
    · rw [decide_eq_true h]
      rcases Int.lt_or_gt_of_ne h with g | g
      · exact ⟨(-BIG, -1), by simp [x_rng], by unfold i_in; simp only; omega⟩
      · exact ⟨(1, BIG), by simp [x_rng], by unfold i_in; simp only; omega⟩
  case lt =>
    by_cases h : p < q
    · rw [decide_eq_true h]; exact ⟨(-BIG, -1), by simp [x_rng], by unfold i_in; simp only; omega⟩
    · rw [decide_eq_false h]; exact ⟨(0, BIG), by simp [x_rng], by unfold i_in; simp only; omega⟩
  case ge =>
    by_cases h : q ≤ p
    · rw [decide_eq_true h]; exact ⟨(0, BIG), by simp [x_rng], by unfold i_in; simp only; omega⟩
    · rw [decide_eq_false h]; exact ⟨(-BIG, -1), by simp [x_rng], by unfold i_in; simp only; omega⟩
  case gt =>
    by_cases h : q < p
    · rw [decide_eq_true h]; exact ⟨(1, BIG), by simp [x_rng], by unfold i_in; simp only; omega⟩
    · rw [decide_eq_false h]; exact ⟨(-BIG, 0), by simp [x_rng], by unfold i_in; simp only; omega⟩
  case le =>
    by_cases h : p ≤ q
    · rw [decide_eq_true h]; exact ⟨(-BIG, 0), by simp [x_rng], by unfold i_in; simp only; omega⟩
    · rw [decide_eq_false h]; exact ⟨(1, BIG), by simp [x_rng], by unfold i_in; simp only; omega⟩
theorem a_rel_id (id : Nat) (rs : List (Nat × Int × Int)) (a : AV) : (a_rel id rs a).1 = a.1 := by
  unfold a_rel; split <;> rfl
theorem x_bas_ok {vs : List Value} {f : CF} {fs : List CF} {F : MH} {x : AV} {v : Value} {lo hi : Int} (hl : lo ≤ vz v) (hh : vz v ≤ hi) : ∀ (rl : List (Nat × Int × Int)), (∀ r ∈ rl, ∃ w, vs[r.1]? = some w ∧ r.2.1 ≤ vz v - vz w ∧ vz v - vz w ≤ r.2.2) → ∀ {S : SS}, okS Γ sets ro vs S f fs F → okS Γ sets ro vs (x_bas x lo hi rl S) f fs F
  | [], _, S, h => h
  | r :: t, hr, S, h => by
    rw [x_bas]
    obtain ⟨w, g1, g2, g3⟩ := hr r List.mem_cons_self
    exact x_bas_ok hl hh t (fun q hq => hr q (List.mem_cons_of_mem _ hq)) (h.cl g1 (by omega) (by omega))
theorem rel_ok {vs : List Value} {f : CF} {fs : List CF} {F : MH} {id : Nat} {rs : List (Nat × Int × Int)} {v : Value} (h : okS Γ sets ro vs S f fs F) (hv : vs[id]? = some v) (hr : ∀ q ∈ rs, ∃ w, vs[q.1]? = some w ∧ q.2.1 ≤ vz v - vz w ∧ vz v - vz w ≤ q.2.2) : okS Γ sets ro vs (s_map (a_rel id rs) S) f fs F := by
  refine h.map _ (a_rel_id _ _) (fun a ha => ?_)
  have oa := h.1 a ha
  unfold a_rel
  split
  · rename_i he
    obtain ⟨u, e1, e2, e3⟩ := oa
    rw [he] at e1
    obtain rfl : u = v := Option.some.inj (e1.symm.trans hv)
    refine ⟨u, by simp only; rw [he]; exact e1, e2, fun q hq => ?_⟩
    rcases List.mem_append.mp (List.mem_of_mem_take hq) with hq | hq
    · exact hr q hq
    · exact e3 q hq
  · exact oa
theorem x_ref_ok {vs : List Value} {f : CF} {fs : List CF} {F : MH} {x y : AV} {v w : Value} {r : Int × Int} (h : okS Γ sets ro vs S f fs F) (hx : okA Γ sets vs x) (hy : okA Γ sets vs y) (nx : ¬ x.2.1 = 2) (ny : ¬ y.2.1 = 2) (hv : vs[x.1]? = some v) (hw : vs[y.1]? = some w) (hr : i_in (vz v - vz w) r) : ∃ S', x_ref x y r S = some S' ∧ okS Γ sets ro vs S' f fs F := by
  have hD : i_in (vz v - vz w) (i_and (a_diff x y) r) := (a_diff_ok hx hy nx ny hv hw).and hr
  unfold x_ref
  simp only
  generalize i_and (a_diff x y) r = D at hD ⊢
  obtain ⟨v', p1, p2, p3⟩ := hx
  obtain ⟨w', p4, p5, p6⟩ := hy
  obtain rfl : v' = v := Option.some.inj (p1.symm.trans hv)
  obtain rfl : w' = w := Option.some.inj (p4.symm.trans hw)
  have n1 := p2.num nx
  have n2 := p5.num ny
  unfold i_in at hD
  have c1 : max x.2.2.1 (y.2.2.1 + D.1) ≤ vz v' := by omega
  have c2 : vz v' ≤ min x.2.2.2.1 (y.2.2.2.1 + D.2) := by omega
  have c3 : max y.2.2.1 (x.2.2.1 - D.2) ≤ vz w' := by omega
  have c4 : vz w' ≤ min y.2.2.2.1 (x.2.2.2.1 - D.1) := by omega
  rw [if_pos ⟨by omega, by omega, by omega⟩]
  refine ⟨_, rfl, ?_⟩
  have h1 := (h.cl hv c1 c2).cl hw c3 c4
  have h2 := x_bas_ok (x := x) c1 c2 x.2.2.2.2 p3 h1
  have h3 := x_bas_ok (x := y) c3 c4 y.2.2.2.2 p6 h2
  have h4 := rel_ok (id := x.1) (rs := (y.1, D.1, D.2) :: x_ref.sh2 D y.2.2.2.2) h3 hv (fun q hq => by
    rcases List.mem_cons.mp hq with rfl | hq
    · exact ⟨w', hw, hD.1, hD.2⟩
    · obtain ⟨q0, k0, rfl⟩ := List.mem_map.mp hq
      obtain ⟨z, k1, k2, k3⟩ := p6 q0 k0
      exact ⟨z, k1, by simp only; omega, by simp only; omega⟩)
  unfold x_rr
  split
  · rename_i he
    exact rel_ok (id := y.1) h4 hw (fun q hq => by
      simp only [List.mem_cons, List.not_mem_nil, or_false] at hq
      subst hq
      exact ⟨v', hv, by simp only; omega, by simp only; omega⟩)
  · exact h4
/-- one way of a comparison; where it would only cut one number out, nothing is told -/
def x_alt (S : SS) (l : List (Int × Int)) (x y : AV) (pc : Nat) (r : List AV) (d : Int × Int) : List SS := if l.length = 2 ∧ d.1 < 0 ∧ 0 < d.2 then [s_top S pc S.1.2.2.1 r] else l.filterMap (fun g => x_ref x y g (s_top S pc S.1.2.2.1 r))
/-- a comparison: all that may be behind it -/
def x_cmp (S : SS) (c : ClassFile.Cond) (x y : AV) (t n : Nat) (r : List AV) : List SS := x_alt S (x_rng c true) x y t r (a_diff x y) ++ x_alt S (x_rng c false) x y n r (a_diff x y)
theorem x_cmp_ok {vs : List Value} {f : CF} {fs : List CF} {F : MH} {x y : AV} {v w : Value} {c : ClassFile.Cond} {t n : Nat} {r : List AV} {lv : LVs} {cst : List Value} (h : ∀ pc, okS Γ sets ro vs (s_top S pc S.1.2.2.1 r) (f.1, pc, lv, cst) fs F) (hx : okA Γ sets vs x) (hy : okA Γ sets vs y) (nx : ¬ x.2.1 = 2) (ny : ¬ y.2.1 = 2) (hv : vs[x.1]? = some v) (hw : vs[y.1]? = some w) (rv : -9223372036854775808 ≤ vz v ∧ vz v ≤ 9223372036854775807) (rw' : -9223372036854775808 ≤ vz w ∧ vz w ≤ 9223372036854775807) : ∃ S' ∈ x_cmp S c x y t n r, okS Γ sets ro vs S' (f.1, if cz c (vz v) (vz w) = true then t else n, lv, cst) fs F := by
  obtain ⟨g, hg1, hg2⟩ := cz_rng (c := c) rv rw'
  have alt : ∀ pc b, g ∈ x_rng c b → ∃ S' ∈ x_alt S (x_rng c b) x y pc r (a_diff x y), okS Γ sets ro vs S' (f.1, pc, lv, cst) fs F := by
    intro pc b hg
    unfold x_alt
    split
    · exact ⟨_, List.mem_cons_self, h pc⟩
    · obtain ⟨S', e1, e2⟩ := x_ref_ok (h pc) hx hy nx ny hv hw hg2
      exact ⟨S', List.mem_filterMap.mpr ⟨g, hg, e1⟩, e2⟩
  cases hb : cz c (vz v) (vz w) with
  | true =>
    rw [hb] at hg1
    rw [if_pos rfl]
    obtain ⟨S', e1, e2⟩ := alt t true hg1
    exact ⟨S', List.mem_append_left _ e1, e2⟩
  | false =>
    rw [hb] at hg1
    rw [if_neg (by decide)]
    obtain ⟨S', e1, e2⟩ := alt n false hg1
    exact ⟨S', List.mem_append_right _ e1, e2⟩
end SxK
