/-! SYMBOLIC RUNS, XIX: one step of a state, all kinds together; the greater of two; values told apart -/
def x_df (S : SS) (E : MI) : Option (List SS) :=
  if ((m_b32 E.2.1).isSome || (m_d32 E.2.1).isSome) = true then (match S.1.2.2.2 with
    | y :: x :: r => if k_is x.2.1 0 = true ∧ k_is y.2.1 0 = true ∧ ((m_b32 E.2.1).isSome = true ∨ ((m_d32 E.2.1).isSome = true ∧ (0 < y.2.2.1 ∨ y.2.2.2.1 < 0))) then
        some [s_top (s_sum (x_bin S E.2.1 x y).2 (s_up S)) (E.1 + E.2.2.1) S.1.2.2.1 ((x_bin S E.2.1 x y).1 :: r)] else none
    | _ => none)
  else if ((m_b64 E.2.1).isSome || (m_d64 E.2.1).isSome) = true then (match S.1.2.2.2 with
    | y :: x :: r => if k_is x.2.1 1 = true ∧ k_is y.2.1 1 = true ∧ ((m_b64 E.2.1).isSome = true ∨ ((m_d64 E.2.1).isSome = true ∧ (0 < y.2.2.1 ∨ y.2.2.2.1 < 0))) then
        some [s_top (s_sum [] (s_up S)) (E.1 + E.2.2.1) S.1.2.2.1 ((S.2.2.2.2.2, 1, (l_iv E.2.1 x y).1, (l_iv E.2.1 x y).2, l_rl E.2.1 x y) :: r)] else none
    | _ => none)
  else match x_stk E.2.1 S.1.2.2.2 with
    | some st1 => some [s_top S (E.1 + E.2.2.1) S.1.2.2.1 st1]
    | none => (match S.1.2.2.2 with
      | x :: r => if k_is x.2.1 0 = true then (match x_un E.2.1 x S.2.2.2.2.2 with
          | some a => some [s_top (s_sum [] (s_up S)) (E.1 + E.2.2.1) S.1.2.2.1 (a :: r)]
          | none => none) else none
      | _ => none)
def x_st2 (sets : List (List Int)) (roles : List RD) (fty : Nat → Nat → FieldType) (MT : List MM) (ms : Mods) (S : SS) (E : MI) : Option (List SS) := match E.2.1 with
  | .goto off => (match m_to E.1 off with | some t => some [s_top S t S.1.2.2.1 S.1.2.2.2] | none => none)
  | .if_icmp c off => (match m_to E.1 off, S.1.2.2.2 with
    | some t, y :: x :: r => if k_is x.2.1 0 = true ∧ k_is y.2.1 0 = true then (if (isC x && isC y) = true then some [s_top S (if cz c x.2.2.1 y.2.2.1 = true then t else E.1 + 3) S.1.2.2.1 r] else some (x_cmp S c x y t (E.1 + 3) r)) else none
    | _, _ => none)
  | .ifCond c off => (match m_to E.1 off, S.1.2.2.2 with
    | some t, x :: r => if k_is x.2.1 0 = true then (if isC x = true then some [s_top S (if cz c x.2.2.1 0 = true then t else E.1 + 3) S.1.2.2.1 r] else some (x_cmp (s_up S) c x (S.2.2.2.2.2, 0, 0, 0, []) t (E.1 + 3) r)) else none
    | _, _ => none)
  | .lcmp => (match m_at MT S.1.1 (E.1 + E.2.2.1), S.1.2.2.2 with
    | some E2, y :: x :: r => (match E2.1.2.1 with
      | .ifCond c off => (match m_to E2.1.1 off with
        | some t => if k_is x.2.1 1 = true ∧ k_is y.2.1 1 = true then some (x_cmp S c x y t (E2.1.1 + 3) r) else none
        | none => none)
      | _ => none)
    | _, _ => none)
  | .iinc i c => (match x_get S.1.2.2.1 i with
    | some a => if k_is a.2.1 0 = true ∧ -2147483648 ≤ c ∧ c ≤ 2147483647 then some [s_top (s_up S) (E.1 + E.2.2.1) (x_put1 S.1.2.2.1 i (x_ic a c S.2.2.2.2.2)) S.1.2.2.2] else none
    | none => none)
  | .tableswitch _ _ _ _ => (match S.1.2.2.2 with | x :: r => if k_is x.2.1 0 = true then x_sw S E x r else none | _ => none)
  | .lookupswitch _ _ => (match S.1.2.2.2 with | x :: r => if k_is x.2.1 0 = true then x_sw S E x r else none | _ => none)
  | .getfield _ => (x_rd roles S E).map fun s => [s]
  | .iaload => (x_rd roles S E).map fun s => [s]
  | .baload => (x_rd roles S E).map fun s => [s]
  | .aaload => (x_rd roles S E).map fun s => [s]
  | .arraylength => (x_al roles S E).map fun s => [s]
  | .putfield _ => (x_wr sets roles fty ms S E).map fun s => [s]
  | .iastore => (x_wr sets roles fty ms S E).map fun s => [s]
  | .bastore => (x_wr sets roles fty ms S E).map fun s => [s]
  | .ishr => (match S.1.2.2.2 with
    | y :: x :: r => if k_is x.2.1 0 = true ∧ y.2.1 = 0 ∧ y.2.2.1 = 0 ∧ y.2.2.2.1 = 0 then some [s_top S (E.1 + E.2.2.1) S.1.2.2.1 (x :: r)] else x_df S E
    | _ => none)
  | .invokestatic _ => none
  | .invokevirtual _ => none
  | .invokespecial _ => none
  | .ireturn => none
  | .lreturn => none
  | .return_ => none
  | _ => x_df S E
def x_stp (Γ : Nat → Option Nat) (sets : List (List Int)) (roles : List RD) (fty : Nat → Nat → FieldType) (MT : List MM) (ms : Mods) (S : SS) (E : MI) : Option (List SS) :=
  match l_ix E.2.1 with
  | some ic => (match x_get S.1.2.2.1 ic.1 with
    | some a => if k_is a.2.1 ic.2 = true then some [s_top S (E.1 + E.2.2.1) S.1.2.2.1 (a :: S.1.2.2.2)] else none
    | none => none)
  | none => match c_val E with
    | some v => (match c_av Γ S.2.2.2.2.2 v with | some a => some [s_top (s_up S) (E.1 + E.2.2.1) S.1.2.2.1 (a :: S.1.2.2.2)] | none => none)
    | none => match st_ix E.2.1 with
      | some ic => (match S.1.2.2.2 with
        | a :: r => if k_is a.2.1 ic.2 = true then some [s_top S (E.1 + E.2.2.1) (if ic.2 = 1 then x_put2 S.1.2.2.1 ic.1 a else x_put1 S.1.2.2.1 ic.1 a) r] else none
        | _ => none)
      | none => x_st2 sets roles fty MT ms S E
def x_max (S : SS) (E : MI) : Option SS :=
  match E.2.1, S.1.2.2.2 with
  | .invokestatic _, y :: x :: r => if E.2.2.2.1 = 9998 ∧ E.2.2.2.2.1 = 2 ∧ k_is x.2.1 0 = true ∧ k_is y.2.1 0 = true ∧ (r.map catA).sum ≤ 8 then
      some (s_top (s_up S) (S.1.2.1 + 3) S.1.2.2.1 ((S.2.2.2.2.2, 0, max x.2.2.1 y.2.2.1, max x.2.2.2.1 y.2.2.2.1, []) :: r)) else none
  | _, _ => none
def x_cs (sets : List (List Int)) (a : AV) : List Int := if a.2.1 = 0 then (List.range (a.2.2.2.1 - a.2.2.1 + 1).toNat).map (fun (i : Nat) => a.2.2.1 + (i : Int)) else (sets.getD (a.2.1 - 10) []).filter (fun c => decide (a.2.2.1 ≤ c ∧ c ≤ a.2.2.2.1))
section SxS
variable {Γ : Nat → Option Nat} {sets : List (List Int)} {roles : List RD} {ms : Mods} {MT : List MM} {ro : Nat → Option MC} {fty : Nat → Nat → FieldType} {dfl : Nat → List Value} {vs0 : List Value} {F0 : MH} {Q : Option Value → MH → Prop} {d : Nat} {S : SS}
theorem g_df {E : MI × Option FieldType} (hE : m_at MT S.1.1 S.1.2.1 = some E) {L : List SS} (hx : x_df S E.1 = some L) (h : ∀ S' ∈ L, Good Γ sets roles ms MT ro fty dfl vs0 F0 Q d S') : Good Γ sets roles ms MT ro fty dfl vs0 F0 Q d S := by
  unfold x_df at hx
  split at hx
  · split at hx
    · rename_i y x r hst
      split at hx
      · rename_i hk
        cases hx
        exact g_bin hE hst hk.1 hk.2.1 hk.2.2 (h _ List.mem_cons_self)
      · cases hx
    · cases hx
  · split at hx
    · split at hx
      · rename_i y x r hst
        split at hx
        · rename_i hk
          cases hx
          exact g_long hE hst hk.1 hk.2.1 hk.2.2 (h _ List.mem_cons_self)
        · cases hx
      · cases hx
    · split at hx
      · rename_i st1 hs
        cases hx
        exact g_stk hE hs (h _ List.mem_cons_self)
      · split at hx
        · rename_i x r hst
          split at hx
          · rename_i hk
            split at hx
            · rename_i a ha
              cases hx
              exact g_un hE hst hk ha (h _ List.mem_cons_self)
            · cases hx
          · cases hx
        · cases hx
theorem isC_z {x : AV} {a : Int32} (h : isC x = true) (ho : okE Γ sets x.2.1 x.2.2.1 x.2.2.2.1 (.int a)) : a.toInt = x.2.2.1 := by
  simp only [isC, Bool.and_eq_true, beq_iff_eq] at h
  have n := ho.num (by omega)
  simp only [vz] at n
  omega
theorem g_icmpC {E : MI × Option FieldType} {c : ClassFile.Cond} {off : Int} {t : Nat} {x y : AV} {r : List AV} (hE : m_at MT S.1.1 S.1.2.1 = some E) (hi : E.1.2.1 = .if_icmp c off) (ht : m_to E.1.1 off = some t) (hst : S.1.2.2.2 = y :: x :: r) (kx : k_is x.2.1 0 = true) (ky : k_is y.2.1 0 = true) (cx : isC x = true) (cy : isC y = true)
    (h : Good Γ sets roles ms MT ro fty dfl vs0 F0 Q d (s_top S (if cz c x.2.2.1 y.2.2.1 = true then t else E.1.1 + 3) S.1.2.2.1 r)) : Good Γ sets roles ms MT ro fty dfl vs0 F0 Q d S := by
  intro vs f fs F hp hS hW hF
  obtain ⟨lv, cst, rfl, hl, hc1, hc2⟩ := hS.frame
  have ox := hc2 x (by rw [hst]; simp)
  have oy := hc2 y (by rw [hst]; simp)
  rw [hst] at hc1
  obtain ⟨w, t1, rfl, q2, q3⟩ := stk1 hc1
  obtain ⟨v, t2, rfl, q5, q6⟩ := stk1 q3
  obtain ⟨v', p1, p2, -⟩ := id ox
  obtain ⟨w', p3, p4, -⟩ := id oy
  obtain rfl : v' = v := Option.some.inj (p1.symm.trans q5)
  obtain rfl : w' = w := Option.some.inj (p3.symm.trans q2)
  obtain ⟨a, rfl⟩ := (k_is_int p2 kx).1
  obtain ⟨b, rfl⟩ := (k_is_int p4 ky).1
  refine TT.one hE (one_br (Or.inr (Or.inr (Or.inl ⟨c, off, hi⟩))) (q := (if cz c x.2.2.1 y.2.2.1 = true then t else E.1.1 + 3, t2)) (by unfold m_br; rw [hi]; simp only; rw [m_if_of ht, cz_cmp, isC_z cx p2, isC_z cy p4]) F lv) ?_
  exact h vs (S.1.1, _, lv, t2) fs F hp (hS.top hl (fun b hb => hc2 b (by rw [hst]; simp [hb])) q6) hW hF
theorem g_ifC {E : MI × Option FieldType} {c : ClassFile.Cond} {off : Int} {t : Nat} {x : AV} {r : List AV} (hE : m_at MT S.1.1 S.1.2.1 = some E) (hi : E.1.2.1 = .ifCond c off) (ht : m_to E.1.1 off = some t) (hst : S.1.2.2.2 = x :: r) (kx : k_is x.2.1 0 = true) (cx : isC x = true)
    (h : Good Γ sets roles ms MT ro fty dfl vs0 F0 Q d (s_top S (if cz c x.2.2.1 0 = true then t else E.1.1 + 3) S.1.2.2.1 r)) : Good Γ sets roles ms MT ro fty dfl vs0 F0 Q d S := by
  intro vs f fs F hp hS hW hF
  obtain ⟨lv, cst, rfl, hl, hc1, hc2⟩ := hS.frame
  have ox := hc2 x (by rw [hst]; simp)
  rw [hst] at hc1
  obtain ⟨v, t2, rfl, q5, q6⟩ := stk1 hc1
  obtain ⟨v', p1, p2, -⟩ := id ox
  obtain rfl : v' = v := Option.some.inj (p1.symm.trans q5)
  obtain ⟨a, rfl⟩ := (k_is_int p2 kx).1
  refine TT.one hE (one_br (Or.inr (Or.inl ⟨c, off, hi⟩)) (q := (if cz c x.2.2.1 0 = true then t else E.1.1 + 3, t2)) (by unfold m_br; rw [hi]; simp only; rw [m_if_of ht, cz_cmp, isC_z cx p2, Int32.toInt_zero]) F lv) ?_
  exact h vs (S.1.1, _, lv, t2) fs F hp (hS.top hl (fun b hb => hc2 b (by rw [hst]; simp [hb])) q6) hW hF
theorem map_one {o : Option SS} {L : List SS} (h : (o.map fun s => [s]) = some L) : ∃ s, o = some s ∧ L = [s] := by
  cases o with
  | none => cases h
  | some s => exact ⟨s, rfl, by simpa using h.symm⟩
theorem g_st2 (hG : GOK Γ roles) {E : MI × Option FieldType} (hE : m_at MT S.1.1 S.1.2.1 = some E) {L : List SS} (hx : x_st2 sets roles fty MT ms S E.1 = some L) (h : ∀ S' ∈ L, Good Γ sets roles ms MT ro fty dfl vs0 F0 Q d S') : Good Γ sets roles ms MT ro fty dfl vs0 F0 Q d S := by
  unfold x_st2 at hx
  split at hx
  · rename_i off hi
    split at hx
    · rename_i t ht
      cases hx
      exact g_goto hE hi ht (h _ List.mem_cons_self)
    · cases hx
  · rename_i c off hi
    split at hx
    · rename_i t y x r ht hst
      split at hx
      · rename_i hk
        split at hx
        · rename_i hc
          cases hx
          simp only [Bool.and_eq_true] at hc
          exact g_icmpC hE hi ht hst hk.1 hk.2 hc.1 hc.2 (h _ List.mem_cons_self)
        · cases hx
          exact g_icmp hE hi ht hst hk.1 hk.2 h
      · cases hx
    · cases hx
  · rename_i c off hi
    split at hx
    · rename_i t x r ht hst
      split at hx
      · rename_i hk
        split at hx
        · rename_i hc
          cases hx
          exact g_ifC hE hi ht hst hk hc (h _ List.mem_cons_self)
        · cases hx
          exact g_if hE hi ht hst hk h
      · cases hx
    · cases hx
  · rename_i hi
    split at hx
    · rename_i E2 y x r hE2 hst
      split at hx
      · rename_i c off hi2
        split at hx
        · rename_i t ht
          split at hx
          · rename_i hk
            cases hx
            exact g_lcmp hE hi hE2 hi2 ht hst hk.1 hk.2 h
          · cases hx
        · cases hx
      · cases hx
    · cases hx
  · rename_i i c hi
    split at hx
    · rename_i a ha
      split at hx
      · rename_i hk
        cases hx
        exact g_iinc hE hi hk.2 ha hk.1 (h _ List.mem_cons_self)
      · cases hx
    · cases hx
  · split at hx
    · rename_i x r hst
      split at hx
      · rename_i hk; exact g_sw hE hst hk hx h
      · cases hx
    · cases hx
  · split at hx
    · rename_i x r hst
      split at hx
      · rename_i hk; exact g_sw hE hst hk hx h
      · cases hx
    · cases hx
  · obtain ⟨s, e1, rfl⟩ := map_one hx; exact g_rd hG hE e1 (h _ List.mem_cons_self)
  · obtain ⟨s, e1, rfl⟩ := map_one hx; exact g_rd hG hE e1 (h _ List.mem_cons_self)
  · obtain ⟨s, e1, rfl⟩ := map_one hx; exact g_rd hG hE e1 (h _ List.mem_cons_self)
  · obtain ⟨s, e1, rfl⟩ := map_one hx; exact g_rd hG hE e1 (h _ List.mem_cons_self)
  · obtain ⟨s, e1, rfl⟩ := map_one hx; exact g_al hG hE e1 (h _ List.mem_cons_self)
  · obtain ⟨s, e1, rfl⟩ := map_one hx; exact g_wr hG hE e1 (h _ List.mem_cons_self)
  · obtain ⟨s, e1, rfl⟩ := map_one hx; exact g_wr hG hE e1 (h _ List.mem_cons_self)
  · obtain ⟨s, e1, rfl⟩ := map_one hx; exact g_wr hG hE e1 (h _ List.mem_cons_self)
  · rename_i hi
    split at hx
    · rename_i y x r hst
      split at hx
      · rename_i hk
        cases hx
        exact g_shr0 hE hi hst hk.1 hk.2 (h _ List.mem_cons_self)
      · exact g_df hE hx h
    · cases hx
  · cases hx
  · cases hx
  · cases hx
  · cases hx
  · cases hx
  · cases hx
  · exact g_df hE hx h
theorem g_stp (hG : GOK Γ roles) {E : MI × Option FieldType} (hE : m_at MT S.1.1 S.1.2.1 = some E) {L : List SS} (hx : x_stp Γ sets roles fty MT ms S E.1 = some L) (h : ∀ S' ∈ L, Good Γ sets roles ms MT ro fty dfl vs0 F0 Q d S') : Good Γ sets roles ms MT ro fty dfl vs0 F0 Q d S := by
  unfold x_stp at hx
  split at hx
  · rename_i ic hi
    split at hx
    · rename_i a ha
      split at hx
      · rename_i hk
        cases hx
        exact g_load hE hi ha hk (h _ List.mem_cons_self)
      · cases hx
    · cases hx
  · split at hx
    · rename_i v hv
      split at hx
      · rename_i a ha
        cases hx
        exact g_const hE hv ha (h _ List.mem_cons_self)
      · cases hx
    · split at hx
      · rename_i ic hi
        split at hx
        · rename_i a r hst
          split at hx
          · rename_i hk
            cases hx
            exact g_store hE hi hst hk (h _ List.mem_cons_self)
          · cases hx
        · cases hx
      · exact g_st2 hG hE hx h
theorem g_max {E : MI × Option FieldType} (hE : m_at MT S.1.1 S.1.2.1 = some E) {S1 : SS} (hx : x_max S E.1 = some S1) (h : Good Γ sets roles ms MT ro fty dfl vs0 F0 Q d S1) : Good Γ sets roles ms MT ro fty dfl vs0 F0 Q d S := by
  intro vs f fs F hp hS hW hF
  obtain ⟨lv, cst, rfl, hl, hc1, hc2⟩ := hS.frame
  unfold x_max at hx
  split at hx
  · rename_i o y x r hi hst
    split at hx
    · rename_i hk
      cases hx
      obtain ⟨k1, k2, k3, k4, k5⟩ := hk
      have hst' := hst
      rw [hst] at hc1
      obtain ⟨w, t, rfl, e1, e2⟩ := stk1 hc1
      obtain ⟨v, t, rfl, e3, e4⟩ := stk1 e2
      have hym : y ∈ S.1.2.2.2 := by rw [hst]; simp
      have hxm : x ∈ S.1.2.2.2 := by rw [hst]; simp
      have hr : ∀ a ∈ r, a ∈ S.1.2.2.2 := fun a ha => by rw [hst]; simp [ha]
      obtain ⟨w', f1, f2, -⟩ := hc2 y hym
      obtain rfl : w' = w := Option.some.inj (f1.symm.trans e1)
      obtain ⟨v', f3, f4, -⟩ := hc2 x hxm
      obtain rfl : v' = v := Option.some.inj (f3.symm.trans e3)
      have n1 := f2.num (k_is_int f2 k4).2
      have n2 := f4.num (k_is_int f4 k3).2
      obtain ⟨b, rfl⟩ := (k_is_int f2 k4).1
      obtain ⟨a, rfl⟩ := (k_is_int f4 k3).1
      simp only [vz] at n1 n2
      obtain ⟨o1, o2⟩ := one_inv (ro := ro) (fty := fty) (dfl := dfl) (Or.inl ⟨o, hi⟩) F lv (.int b :: .int a :: t) E.2
      have hd : (t.map (fun v => v.category)).sum ≤ 8 := by
        rw [cat_all e4 (fun a ha => hc2 a (hr a ha))]; exact k5
      have hinv : m_inv ro F E.1 (.int b :: .int a :: t) = some (9998, [.int a, .int b], t) := by
        obtain ⟨⟨pc, i, len, a0, n, z0⟩, rt⟩ := E
        simp only at hi k1 k2
        subst hi
        subst k1
        subst k2
        simp only [m_inv]
        rw [if_pos ⟨by simp, by simpa using hd⟩]
        rfl
      refine TT.maxi hE o1 o2 hinv rfl rfl ?_
      have hn := hS.2.2.2.2.2.2
      have hz : (if a < b then b else a).toInt = max a.toInt b.toInt := by
        by_cases hab : a < b
        · rw [if_pos hab]; have := Int32.lt_iff_toInt_lt.mp hab; omega
        · rw [if_neg hab]; have hge : ¬ a.toInt < b.toInt := fun q => hab (Int32.lt_iff_toInt_lt.mpr q); omega
      refine h (vs ++ [.int (if a < b then b else a)]) (S.1.1, S.1.2.1 + 3, lv, .int (if a < b then b else a) :: t) fs F (pre_app hp _) ((hS.up _).top (fun q hq => ?_) (fun c hc => ?_) ?_) hW hF
      · obtain ⟨q1, w, q2, q3⟩ := hl q hq
        exact ⟨q1.app _, w, get_app q2, q3⟩
      · rcases List.mem_cons.mp hc with rfl | hc
        · refine ⟨.int (if a < b then b else a), by simp only; rw [hn]; simp, ?_, fun q hq => by cases hq⟩
          simp only [okE, if_pos, vz]
          refine ⟨⟨_, rfl⟩, ?_, ?_⟩ <;> rw [hz] <;> omega
        · exact (hc2 c (hr c hc)).app _
      · simp only [List.map_cons, List.cons.injEq]
        refine ⟨by rw [hn]; simp, ?_⟩
        rw [e4]
        apply List.map_congr_left
        intro b hb
        obtain ⟨w, hw⟩ := (hc2 b (hr b hb)).get
        rw [hw, get_app hw]
    · cases hx
  · cases hx
/-- a value of few that it may be: each for itself -/
theorem g_spl {a : AV} (ha : a ∈ s_av S) (hk : k_is a.2.1 0 = true) (h : ∀ c ∈ x_cs sets a, Good Γ sets roles ms MT ro fty dfl vs0 F0 Q d (s_map (a_cl a.1 c c) S)) : Good Γ sets roles ms MT ro fty dfl vs0 F0 Q d S := by
  intro vs f fs F hp hS hW hF
  obtain ⟨v, h1, h2, -⟩ := hS.1 a ha
  have n := h2.num (k_is_int h2 hk).2
  have hm : vz v ∈ x_cs sets a := by
    unfold x_cs
    split
    · rename_i h0
      refine List.mem_map.mpr ⟨(vz v - a.2.2.1).toNat, List.mem_range.mpr (by omega), by omega⟩
    · rename_i h0
      have h10 : 10 ≤ a.2.1 := by simp only [k_is, if_pos] at hk; simp at hk; omega
      unfold okE at h2
      rw [if_neg h0, if_neg (by omega), if_neg (by omega), if_pos h10] at h2
      exact List.mem_filter.mpr ⟨h2.2.2.2, by simpa using n⟩
  exact h _ hm vs f fs F hp (hS.cl h1 (Int.le_refl _) (Int.le_refl _)) hW hF
end SxS
