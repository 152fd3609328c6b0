/-! SYMBOLIC RUNS, XIII: switches, iinc -/
/-- the operand of a switch is between bounds: there -/
def x_key (S : SS) (x : AV) (l h : Int) (t : Nat) (r : List AV) : SS := x_bas x l h x.2.2.2.2 (s_map (a_cl x.1 l h) (s_top S t S.1.2.2.1 r))
/-- a row of cases: key from here on -/
def x_tb (S : SS) (pc : Nat) (x : AV) (r : List AV) : Int → List Int → Option (List SS)
  | _, [] => some []
  | k, o :: os => match m_to pc o, x_tb S pc x r (k + 1) os with
    | some t, some L => some (if x.2.2.1 ≤ k ∧ k ≤ x.2.2.2.1 then x_key S x k k t r :: L else L)
    | _, _ => none
def x_lk (S : SS) (pc : Nat) (x : AV) (r : List AV) : List (Int × Int) → Option (List SS)
  | [] => some []
  | q :: qs => match m_to pc q.2, x_lk S pc x r qs with
    | some t, some L => some (if x.2.2.1 ≤ q.1 ∧ q.1 ≤ x.2.2.2.1 then x_key S x q.1 q.1 t r :: L else L)
    | _, _ => none
/-- all that may be behind a switch -/
def x_sw (S : SS) (E : MI) (x : AV) (r : List AV) : Option (List SS) := match E.2.1 with
  | .tableswitch d lo hi offs => if hi < lo + offs.size then (match m_to E.1 d, x_tb S E.1 x r lo offs.toList with
    | some t, some L => some ((if x.2.2.1 < lo then [x_key S x x.2.2.1 (min x.2.2.2.1 (lo - 1)) t r] else []) ++ ((if hi < x.2.2.2.1 then [x_key S x (max x.2.2.1 (hi + 1)) x.2.2.2.1 t r] else []) ++ L))
    | _, _ => none) else none
  | .lookupswitch d ps => if (ps.toList.zip (ps.toList.drop 1)).all (fun q => decide (q.1.1 < q.2.1)) = true then (match m_to E.1 d, x_lk S E.1 x r ps.toList with
    | some t, some L => some (x_key S x x.2.2.1 x.2.2.2.1 t r :: L)
    | _, _ => none) else none
  | _ => none
section SxM
variable {Γ : Nat → Option Nat} {sets : List (List Int)} {roles : List RD} {ms : Mods} {MT : List MM} {ro : Nat → Option MC} {fty : Nat → Nat → FieldType} {dfl : Nat → List Value} {vs0 : List Value} {F0 : MH} {Q : Option Value → MH → Prop} {d : Nat} {S : SS}
theorem x_tb_ok {pc : Nat} {x : AV} {r : List AV} : ∀ (os : List Int) (k : Int) (L : List SS), x_tb S pc x r k os = some L → ∀ (j : Nat) (o : Int), os[j]? = some o → x.2.2.1 ≤ k + j → k + j ≤ x.2.2.2.1 → ∃ t, m_to pc o = some t ∧ x_key S x (k + j) (k + j) t r ∈ L
  | [], k, L, h, j, o, hj, _, _ => by simp at hj
  | o1 :: os, k, L, h, j, o, hj, h1, h2 => by
    rw [x_tb] at h
    split at h
    · rename_i t L1 ht hL
      cases h
      cases j with
      | zero =>
        simp only [List.getElem?_cons_zero, Option.some.injEq] at hj
        subst hj
        simp only [Int.natCast_zero, Int.add_zero] at h1 h2 ⊢
        rw [if_pos ⟨h1, h2⟩]
        exact ⟨t, ht, List.mem_cons_self⟩
      | succ j =>
        rw [List.getElem?_cons_succ] at hj
        have e : k + ((j + 1 : Nat) : Int) = k + 1 + (j : Int) := by omega
        rw [e] at h1 h2 ⊢
        obtain ⟨t2, g1, g2⟩ := x_tb_ok os (k + 1) L1 hL j o hj h1 h2
        refine ⟨t2, g1, ?_⟩
        split
        · exact List.mem_cons_of_mem _ g2
        · exact g2
    · cases h
theorem x_lk_ok {pc : Nat} {x : AV} {r : List AV} {z d : Int} (h1 : x.2.2.1 ≤ z) (h2 : z ≤ x.2.2.2.1) : ∀ (qs : List (Int × Int)) (L : List SS), x_lk S pc x r qs = some L → Op.lookupswitch.offset qs d z = d ∨ ∃ t, m_to pc (Op.lookupswitch.offset qs d z) = some t ∧ x_key S x z z t r ∈ L
  | [], L, h => Or.inl rfl
  | q :: qs, L, h => by
    rw [x_lk] at h
    split at h
    · rename_i t L1 ht hL
      cases h
      obtain ⟨a, o⟩ := q
      rw [Op.lookupswitch.offset_cons]
      by_cases e : a = z
      · rw [if_pos e]
        subst e
        simp only at ht ⊢
        exact Or.inr ⟨t, ht, by rw [if_pos ⟨h1, h2⟩]; exact List.mem_cons_self⟩
      · rw [if_neg e]
        rcases x_lk_ok (d := d) h1 h2 qs L1 hL with g | ⟨t2, g1, g2⟩
        · exact Or.inl g
        · refine Or.inr ⟨t2, g1, ?_⟩
          split
          · exact List.mem_cons_of_mem _ g2
          · exact g2
    · cases h
theorem g_sw {E : MI × Option FieldType} {x : AV} {r : List AV} {L : List SS} (hE : m_at MT S.1.1 S.1.2.1 = some E) (hst : S.1.2.2.2 = x :: r) (kx : k_is x.2.1 0 = true) (hL : x_sw S E.1 x r = some L)
    (h : ∀ S' ∈ L, Good Γ sets roles ms MT ro fty dfl vs0 F0 Q d S') : Good Γ sets roles ms MT ro fty dfl vs0 F0 Q d S := by
  intro vs f fs F hp hS hW hF
  obtain ⟨lv, cst, rfl, hl, hc1, hc2⟩ := hS.frame
  have ox := hc2 x (by rw [hst]; simp)
  rw [hst] at hc1
  obtain ⟨v, t2, rfl, q5, q6⟩ := stk1 hc1
  obtain ⟨v', p1, p2, p3⟩ := id ox
  obtain rfl : v' = v := Option.some.inj (p1.symm.trans q5)
  have nx := (k_is_int p2 kx).2
  have n1 := p2.num nx
  obtain ⟨a, rfl⟩ := (k_is_int p2 kx).1
  have fin : ∀ (l h2 : Int) (t : Nat), x_key S x l h2 t r ∈ L → l ≤ a.toInt → a.toInt ≤ h2 → m_br E.1 (.int a :: t2) = some (t, t2) → ((∃ d lo hi o, E.1.2.1 = .tableswitch d lo hi o) ∨ (∃ d o, E.1.2.1 = .lookupswitch d o)) → RR MT ro fty dfl d (S.1.1, S.1.2.1, lv, Value.int a :: t2) fs F Q := by
    intro l h2 t hm hl1 hh1 hb hk
    refine TT.one hE (one_br (Or.inr (Or.inr (Or.inr hk))) hb F lv) ?_
    refine h _ hm vs (S.1.1, t, lv, t2) fs F hp ?_ hW hF
    have h0 := hS.top (pc := t) hl (fun b hb => hc2 b (by rw [hst]; simp [hb])) q6
    exact x_bas_ok (x := x) (v := .int a) hl1 hh1 x.2.2.2.2 p3 (h0.cl q5 hl1 hh1)
  simp only [vz] at n1
  unfold x_sw at hL
  split at hL
  · rename_i dd lo hi offs hi0
    split at hL
    · rename_i hsz
      split at hL
      · rename_i t L1 ht hL1
        cases hL
        have hk : (∃ d lo hi o, E.1.2.1 = .tableswitch d lo hi o) ∨ (∃ d o, E.1.2.1 = .lookupswitch d o) := Or.inl ⟨dd, lo, hi, offs, hi0⟩
        by_cases c1 : a.toInt < lo
        · exact fin x.2.2.1 (min x.2.2.2.1 (lo - 1)) t (by rw [if_pos (by omega)]; simp) (by omega) (by omega) (by unfold m_br; rw [hi0]; simp only; rw [if_pos (Or.inl c1), ht]; rfl) hk
        by_cases c2 : hi < a.toInt
        · exact fin (max x.2.2.1 (hi + 1)) x.2.2.2.1 t (by rw [if_pos (show hi < x.2.2.2.1 by omega)]; simp) (by omega) (by omega) (by unfold m_br; rw [hi0]; simp only; rw [if_pos (Or.inr c2), ht]; rfl) hk
        have hj : (a.toInt - lo).toNat < offs.size := by omega
        have ho : offs.toList[(a.toInt - lo).toNat]? = some offs[(a.toInt - lo).toNat] := by rw [Array.getElem?_toList]; exact Array.getElem?_eq_getElem hj
        obtain ⟨t3, g1, g2⟩ := x_tb_ok offs.toList lo L1 hL1 _ _ ho (by omega) (by omega)
        have e : lo + ((a.toInt - lo).toNat : Int) = a.toInt := by omega
        rw [e] at g2
        refine fin a.toInt a.toInt t3 (List.mem_append_right _ (List.mem_append_right _ g2)) (Int.le_refl _) (Int.le_refl _) ?_ hk
        unfold m_br
        rw [hi0]
        simp only
        rw [if_neg (by omega), Array.getElem?_eq_getElem hj]
        simp only
        rw [g1]; rfl
      · cases hL
    · cases hL
  · rename_i dd ps hi0
    split at hL
    · rename_i hso
      split at hL
      · rename_i t L1 ht hL1
        cases hL
        have hk : (∃ d lo hi o, E.1.2.1 = .tableswitch d lo hi o) ∨ (∃ d o, E.1.2.1 = .lookupswitch d o) := Or.inr ⟨dd, ps, hi0⟩
        rcases x_lk_ok (d := dd) (z := a.toInt) n1.1 n1.2 ps.toList L1 hL1 with g | ⟨t3, g1, g2⟩
        · exact fin x.2.2.1 x.2.2.2.1 t List.mem_cons_self n1.1 n1.2 (by unfold m_br; rw [hi0]; simp only; rw [if_pos hso, g, ht]; rfl) hk
        · exact fin a.toInt a.toInt t3 (List.mem_cons_of_mem _ g2) (Int.le_refl _) (Int.le_refl _) (by unfold m_br; rw [hi0]; simp only; rw [if_pos hso, g1]; rfl) hk
      · cases hL
    · cases hL
  · cases hL
/-- a local grows -/
def x_ic (a : AV) (c : Int) (n : Nat) : AV := if -2147483648 ≤ a.2.2.1 + c ∧ a.2.2.2.1 + c ≤ 2147483647 then (n, 0, a.2.2.1 + c, a.2.2.2.1 + c, (a.1, c, c) :: (sh c a.2.2.2.2).take 4) else (n, 0, -2147483648, 2147483647, [])
theorem g_iinc {E : MI × Option FieldType} {i : Nat} {c : Int} {a : AV} (hE : m_at MT S.1.1 S.1.2.1 = some E) (hi : E.1.2.1 = .iinc i c) (hc0 : -2147483648 ≤ c ∧ c ≤ 2147483647) (ha : x_get S.1.2.2.1 i = some a) (hk : k_is a.2.1 0 = true)
    (h : Good Γ sets roles ms MT ro fty dfl vs0 F0 Q d (s_top (s_up S) (E.1.1 + E.1.2.2.1) (x_put1 S.1.2.2.1 i (x_ic a c S.2.2.2.2.2)) S.1.2.2.2)) : Good Γ sets roles ms MT ro fty dfl vs0 F0 Q d S := by
  intro vs f fs F hp hS hW hF
  obtain ⟨lv, cst, rfl, hl, hc1, hc2⟩ := hS.frame
  obtain ⟨oa, v, hv, hg⟩ := hl _ (x_get_mem ha)
  simp only at oa hv hg
  obtain ⟨v', p1, p2, p3⟩ := oa
  obtain rfl : v' = v := Option.some.inj (p1.symm.trans hv)
  have n1 := p2.num (k_is_int p2 hk).2
  obtain ⟨x, rfl⟩ := (k_is_int p2 hk).1
  simp only [vz] at n1 p3
  have ec : (Int32.ofInt c).toInt = c := by rw [Int32.toInt_ofInt]; exact z_bm hc0.1 hc0.2
  have hn := hS.2.2.2.2.2.2
  have h1 : m_one ro fty dfl E.1 F lv cst = some (F, E.1.1 + E.1.2.2.1, m_put1 lv i (.int (x + Int32.ofInt c)), cst) := by
    obtain ⟨⟨pc, ins, len, a0, b0, z0⟩, rt⟩ := E
    simp only at hi
    subst hi
    simp only [m_one, m_push, m_cst, m_store, hg]
  refine TT.one hE h1 ?_
  refine h (vs ++ [.int (x + Int32.ofInt c)]) (S.1.1, E.1.1 + E.1.2.2.1, m_put1 lv i (.int (x + Int32.ofInt c)), cst) fs F (pre_app hp _) ((hS.up _).top (lc_put1 (fun q hq => by obtain ⟨q1, w, q2, q3⟩ := hl q hq; exact ⟨q1.app _, w, get_app q2, q3⟩) ?_ ?_) (fun b hb => (hc2 b hb).app _) ?_) hW hF
  · unfold x_ic
    split
    · rename_i hr
      have e := z_add (x := x) (y := Int32.ofInt c) (by omega) (by omega)
      refine ⟨.int (x + Int32.ofInt c), by simp only; rw [hn]; simp, okE_int (by simp only; omega) (by simp only; omega), fun q hq => ?_⟩
      rcases List.mem_cons.mp hq with rfl | hq
      · exact ⟨_, get_app p1, by simp only [vz]; omega, by simp only [vz]; omega⟩
      · obtain ⟨w, k1, k2, k3⟩ := sh_ok (x := a) (r := x + Int32.ofInt c) p3 (by omega) q hq
        exact ⟨w, get_app k1, k2, k3⟩
    · exact ⟨.int (x + Int32.ofInt c), by simp only; rw [hn]; simp, okE_int (z_rng _).1 (z_rng _).2, fun q hq => by cases hq⟩
  · unfold x_ic
    split <;> (simp only; rw [hn]; simp)
  · rw [hc1]
    apply List.map_congr_left
    intro b hb
    obtain ⟨w, hw⟩ := (hc2 b hb).get
    rw [hw, get_app hw]
end SxM
