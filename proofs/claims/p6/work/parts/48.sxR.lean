/-! SYMBOLIC RUNS, XVIII: calls and returns -/
def catA (a : AV) : Nat := if a.2.1 = 1 then 2 else 1
def x_args : Nat → List AV → List (Nat × AV)
  | _, [] => []
  | i, a :: t => (i, a) :: x_args (i + catA a) t
def x_rcv (roles : List RD) (E : MI) (as : List AV) : Bool := match E.2.1 with
  | .invokestatic _ => true
  | .invokespecial _ => (match as with | p :: _ => decide (1 ≤ E.2.2.2.2.1) && (p.2.1 == 2 && (match roles[p.2.2.1.toNat]? with | some rd => rd.1 == 0 && !(rd.2.1 == 99) | none => false)) | _ => false)
  | .invokevirtual _ => (match as with | p :: _ => decide (1 ≤ E.2.2.2.2.1) && (p.2.1 == 2 && (match roles[p.2.2.1.toNat]? with | some rd => rd.1 == 0 && decide ((rd.2.1 : Int) = E.2.2.2.2.2) | none => false)) | _ => false)
  | _ => false
def x_call (MT : List MM) (roles : List RD) (S : SS) (E : MI) : Option SS :=
  if E.2.2.2.2.1 ≤ S.1.2.2.2.length ∧ ((S.1.2.2.2.drop E.2.2.2.2.1).map catA).sum ≤ 8 ∧ ¬ E.2.2.2.1 = 9999 ∧ ¬ E.2.2.2.1 = 9998 ∧ x_rcv roles E (S.1.2.2.2.take E.2.2.2.2.1).reverse = true then
    (match MT[E.2.2.2.1]? with
    | some M => if 0 < E.2.2.2.1 ∧ ((S.1.2.2.2.take E.2.2.2.2.1).reverse.map catA).sum ≤ M.2.2.1 then
        some ((E.2.2.2.1, 0, x_args 0 (S.1.2.2.2.take E.2.2.2.2.1).reverse, []), (S.1.1, S.1.2.1, S.1.2.2.1, S.1.2.2.2.drop E.2.2.2.2.1) :: S.2.1, S.2.2) else none
    | none => none) else none
def rtOK (ty : FieldType) (v : AV) : Bool := ftOK ty v || (match ty with
  | .byte => k_is v.2.1 0 && decide (-128 ≤ v.2.2.1 ∧ v.2.2.2.1 ≤ 127)
  | .char => k_is v.2.1 0 && decide (0 ≤ v.2.2.1 ∧ v.2.2.2.1 ≤ 65535)
  | _ => false)
/-- what is returned: none: no return -/
def x_ret (rt : Option FieldType) (i : Instr) (st : List AV) : Option (Option AV) := match i with
  | .ireturn => (match st with | [a] => (match rt with | some ty => if k_is a.2.1 0 = true ∧ rtOK ty a = true then some (some a) else none | none => none) | _ => none)
  | .lreturn => (match st with | [a] => if a.2.1 = 1 ∧ rt = some .long then some (some a) else none | _ => none)
  | .return_ => (match st with | [] => if rt = none then some none else none | _ => none)
  | _ => none
def x_pop (S : SS) (r : Option AV) : Option SS := match S.2.1 with
  | g :: gs => some ((g.1, g.2.1 + 3, g.2.2.1, r.toList ++ g.2.2.2), gs, S.2.2)
  | [] => none
section SxR
variable {Γ : Nat → Option Nat} {sets : List (List Int)} {roles : List RD} {ms : Mods} {MT : List MM} {ro : Nat → Option MC} {fty : Nat → Nat → FieldType} {dfl : Nat → List Value} {vs0 : List Value} {F0 : MH} {Q : Option Value → MH → Prop} {d : Nat} {S : SS}
theorem cat_one {vs : List Value} {a : AV} {v : Value} (h : okA Γ sets vs a) (hv : vs[a.1]? = some v) : v.category = catA a := by
  unfold catA
  split
  · rename_i e; exact (okA_cat h hv).mpr e
  · rename_i e; exact okA_cat1 h hv e
theorem cat_all {vs : List Value} : ∀ {as : List AV} {ws : List Value}, ws.map some = as.map (fun a => vs[a.1]?) → (∀ a ∈ as, okA Γ sets vs a) → ws.map (fun v => v.category) = as.map catA
  | [], [], _, _ => rfl
  | a :: as, [], h, _ => by simp at h
  | [], w :: ws, h, _ => by simp at h
  | a :: as, w :: ws, h, ho => by
    simp only [List.map_cons, List.cons.injEq] at h ⊢
    exact ⟨cat_one (ho a List.mem_cons_self) h.1.symm, cat_all h.2 (fun b hb => ho b (List.mem_cons_of_mem _ hb))⟩
theorem args_ok {vs : List Value} : ∀ {as : List AV} {ws : List Value} {i : Nat}, ws.map some = as.map (fun a => vs[a.1]?) → (∀ a ∈ as, okA Γ sets vs a) → ∀ q ∈ x_args i as, okA Γ sets vs q.2 ∧ i ≤ q.1 ∧ ∃ v, vs[q.2.1]? = some v ∧ m_get (lv_args i ws) q.1 = some v
  | [], _, _, _, _, q, hq => by simp [x_args] at hq
  | a :: as, [], _, h, _, _, _ => by simp at h
  | a :: as, w :: ws, i, h, ho, q, hq => by
    simp only [List.map_cons, List.cons.injEq] at h
    simp only [x_args, List.mem_cons] at hq
    have hc := cat_one (ho a List.mem_cons_self) h.1.symm
    rcases hq with rfl | hq
    · exact ⟨ho a List.mem_cons_self, Nat.le_refl _, w, h.1.symm, by simp [m_get, lv_args]⟩
    · obtain ⟨h1, h2, v, h3, h4⟩ := args_ok (i := i + catA a) h.2 (fun b hb => ho b (List.mem_cons_of_mem _ hb)) q hq
      have hp : 1 ≤ catA a := by unfold catA; split <;> omega
      refine ⟨h1, by omega, v, h3, ?_⟩
      simp only [m_get, lv_args, hc, List.find?_cons] at h4 ⊢
      have hne : (i == q.1) = false := by simp; omega
      rw [hne]
      have he : (if catA a = 2 then i + 2 else i + 1) = i + catA a := by unfold catA; split <;> simp
      rw [he]; exact h4
theorem one_inv {E : MI} (h : (∃ i, E.2.1 = .invokestatic i) ∨ (∃ i, E.2.1 = .invokespecial i) ∨ (∃ i, E.2.1 = .invokevirtual i)) (F : MH) (lv : LVs) (st : List Value) (rt : Option FieldType) : m_one ro fty dfl E F lv st = none ∧ m_ret rt E st = none := by
  obtain ⟨pc, i, len, a0, b0, z0⟩ := E
  simp only at h
  rcases h with ⟨o, rfl⟩ | ⟨o, rfl⟩ | ⟨o, rfl⟩ <;> exact ⟨rfl, rfl⟩
theorem rcv_inv {E : MI} {as : List AV} (h : x_rcv roles E as = true) : (∃ i, E.2.1 = .invokestatic i) ∨ (∃ i, E.2.1 = .invokespecial i) ∨ (∃ i, E.2.1 = .invokevirtual i) := by
  unfold x_rcv at h
  split at h
  · rename_i i e; exact Or.inl ⟨i, e⟩
  · rename_i i e; exact Or.inr (Or.inl ⟨i, e⟩)
  · rename_i i e; exact Or.inr (Or.inr ⟨i, e⟩)
  · cases h
theorem inv_ok (hG : GOK Γ roles) {E : MI} {vs : List Value} {F : MH} (hW : WT Γ sets roles ro F) {st : List AV} {cst : List Value} (hr : x_rcv roles E (st.take E.2.2.2.2.1).reverse = true) (hc : cst.map some = st.map (fun a => vs[a.1]?)) (ho : ∀ a ∈ st, okA Γ sets vs a) (hn : E.2.2.2.2.1 ≤ st.length) (h8 : ((st.drop E.2.2.2.2.1).map catA).sum ≤ 8) :
    m_inv ro F E cst = some (E.2.2.2.1, (cst.take E.2.2.2.2.1).reverse, cst.drop E.2.2.2.2.1) := by
  obtain ⟨pc, i, len, a0, n, z0⟩ := E
  simp only at hr hn h8 ⊢
  have hlen : cst.length = st.length := by have := congrArg List.length hc; simpa using this
  have hd : ((cst.drop n).map (fun v => v.category)).sum ≤ 8 := by
    rw [cat_all (as := st.drop n) (by rw [List.map_drop, List.map_drop, hc]) (fun a ha => ho a (List.mem_of_mem_drop ha))]; exact h8
  have ht : (cst.take n).reverse.map some = (st.take n).reverse.map (fun a => vs[a.1]?) := by
    rw [List.map_reverse, List.map_reverse, List.map_take, List.map_take, hc]
  have hta : ∀ a ∈ (st.take n).reverse, okA Γ sets vs a := fun a ha => ho a (List.mem_of_mem_take (List.mem_reverse.mp ha))
  unfold x_rcv at hr
  simp only at hr
  split at hr
  · simp only [m_inv]
    rw [if_pos ⟨by omega, hd⟩]
  · split at hr
    · rename_i p as' has
      simp only [Bool.and_eq_true, decide_eq_true_eq, beq_iff_eq] at hr
      obtain ⟨r1, r2, r3⟩ := hr
      rw [has] at ht hta
      obtain ⟨v, t, e1, e2, e3⟩ := stk1 ht
      obtain ⟨v', e4, e5, -⟩ := hta p List.mem_cons_self
      obtain rfl : v' = v := Option.some.inj (e4.symm.trans e2)
      obtain ⟨⟨a, e6, hΓ⟩, -⟩ := k_is_ref e5 (by rw [r2]; rfl)
      subst e6
      split at r3
      · rename_i rd hrd
        simp only [Bool.and_eq_true, beq_iff_eq, Bool.not_eq_true', beq_eq_false_iff_ne, ne_eq] at r3
        have hKB := (hG a _ rd hΓ hrd).2.2.2 r3.1 r3.2
        simp only [m_inv, m_iv]
        rw [if_pos ⟨r1, by omega, hd⟩, e1]
        simp only
        rw [if_pos (by simpa using hKB)]
      · cases r3
    · cases hr
  · split at hr
    · rename_i p as' has
      simp only [Bool.and_eq_true, decide_eq_true_eq, beq_iff_eq] at hr
      obtain ⟨r1, r2, r3⟩ := hr
      rw [has] at ht hta
      obtain ⟨v, t, e1, e2, e3⟩ := stk1 ht
      obtain ⟨v', e4, e5, -⟩ := hta p List.mem_cons_self
      obtain rfl : v' = v := Option.some.inj (e4.symm.trans e2)
      obtain ⟨⟨a, e6, hΓ⟩, -⟩ := k_is_ref e5 (by rw [r2]; rfl)
      subst e6
      split at r3
      · rename_i rd hrd
        simp only [Bool.and_eq_true, beq_iff_eq, decide_eq_true_eq] at r3
        obtain ⟨c, hm, hcell⟩ := hW a _ rd hΓ hrd
        have hrc : ∃ fs, c = .inl (rd.2.1, fs) := by
          rcases hcell with ⟨-, h, -⟩ | ⟨e, -⟩ | ⟨e, -⟩ | ⟨e, -⟩
          · exact h
          all_goals (have := r3.1; omega)
        obtain ⟨fs, rfl⟩ := hrc
        simp only [m_inv, m_iv]
        rw [if_pos ⟨r1, by omega, hd⟩, e1]
        simp only
        rw [if_pos (by simp only [m_rc, hm]; simpa using r3.2)]
      · cases r3
    · cases hr
  · cases hr
theorem g_call (hG : GOK Γ roles) {E : MI × Option FieldType} (hE : m_at MT S.1.1 S.1.2.1 = some E) {S1 : SS} (hx : x_call MT roles S E.1 = some S1) (h : Good Γ sets roles ms MT ro fty dfl vs0 F0 Q d S1) : Good Γ sets roles ms MT ro fty dfl vs0 F0 Q (d + 1) S := by
  intro vs f fs F hp hS hW hF
  obtain ⟨lv, cst, rfl, hl, hc1, hc2⟩ := hS.frame
  unfold x_call at hx
  split at hx
  · rename_i hc
    obtain ⟨n1, n2, n3, n4, n5⟩ := hc
    split at hx
    · rename_i M hM
      split at hx
      · rename_i hr
        cases hx
        have hinv := inv_ok (ro := ro) hG hW n5 hc1 hc2 n1 n2
        obtain ⟨o1, o2⟩ := one_inv (ro := ro) (fty := fty) (dfl := dfl) (rcv_inv n5) F lv cst E.2
        have ht : (cst.take E.1.2.2.2.2.1).reverse.map some = (S.1.2.2.2.take E.1.2.2.2.2.1).reverse.map (fun a => vs[a.1]?) := by
          rw [List.map_reverse, List.map_reverse, List.map_take, List.map_take, hc1]
        have hta : ∀ a ∈ (S.1.2.2.2.take E.1.2.2.2.2.1).reverse, okA Γ sets vs a := fun a ha => hc2 a (List.mem_of_mem_take (List.mem_reverse.mp ha))
        have hroom : m_room MT E.1.2.2.2.1 (cst.take E.1.2.2.2.2.1).reverse = true := by
          unfold m_room
          rw [hM]
          simp only [decide_eq_true_eq]
          refine ⟨hr.1, ?_⟩
          rw [cat_all ht hta]; exact hr.2
        refine TT.call hE o1 o2 hinv n3 n4 hroom ?_
        have hk := h vs (E.1.2.2.2.1, 0, lv_args 0 (cst.take E.1.2.2.2.2.1).reverse, []) ((S.1.1, S.1.2.1, lv, cst.drop E.1.2.2.2.2.1) :: fs) F hp ?_ hW hF
        · exact hk
        · obtain ⟨h1, h2, h3, h4, h5, h6, h7⟩ := hS
          have hA := fun q hq => args_ok (i := 0) ht hta q hq
          refine ⟨fun b hb => ?_, ⟨rfl, rfl, fun q hq => (hA q hq).2.2, rfl⟩, ⟨⟨rfl, rfl, fun q hq => (hl q hq).2, ?_⟩, h3⟩, h4, h5, h6, h7⟩
          · simp only [s_av, s_avF, List.append_nil, List.flatMap_cons, List.mem_append] at hb
            rcases hb with hb | ((hb | hb) | hb) | hb
            · obtain ⟨q, hq, rfl⟩ := List.mem_map.mp hb
              exact (hA q hq).1
            · exact h1 b (List.mem_append_left _ (List.mem_append_left _ hb))
            · exact hc2 b (List.mem_of_mem_drop hb)
            · exact h1 b (List.mem_append_right _ (List.mem_append_left _ hb))
            · exact h1 b (List.mem_append_right _ (List.mem_append_right _ (List.mem_append.mpr hb)))
          · rw [List.map_drop, List.map_drop, hc1]
      · cases hx
    · cases hx
  · cases hx
theorem rtOK_ok {ty : FieldType} {v : AV} {w : Value} (h : rtOK ty v = true) (hk : k_is v.2.1 0 = true) (ho : okE Γ sets v.2.1 v.2.2.1 v.2.2.2.1 w) : narrow ty w = w := by
  unfold rtOK at h
  simp only [Bool.or_eq_true] at h
  rcases h with h | h
  · exact (ftOK_ok h ho).1
  · have n := ho.num (k_is_int ho hk).2
    obtain ⟨x, rfl⟩ := (k_is_int ho hk).1
    simp only [vz] at n
    split at h
    · simp only [Bool.and_eq_true, decide_eq_true_eq] at h
      have h1 := (z_i2b x).2.2 (by omega) (by omega)
      have h2 : x.toInt8.toInt32 = x := Int32.toInt_inj.mp h1
      show Value.int x.toInt8.toInt32 = Value.int x
      rw [h2]
    · simp only [Bool.and_eq_true, decide_eq_true_eq] at h
      have h1 := (z_i2c x).2.2 (by omega) (by omega)
      have h2 : (x.toUInt32 % 65536).toInt32 = x := Int32.toInt_inj.mp h1
      show Value.int (x.toUInt32 % 65536).toInt32 = Value.int x
      rw [h2]
    · cases h
theorem ret_one {E : MI} {rt : Option FieldType} {vs : List Value} {st : List AV} {cst : List Value} {r : Option AV} (hx : x_ret rt E.2.1 st = some r) (hc : cst.map some = st.map (fun a => vs[a.1]?)) (ho : ∀ a ∈ st, okA Γ sets vs a) (F : MH) (lv : LVs) :
    m_one ro fty dfl E F lv cst = none ∧ ∃ v, m_ret rt E cst = some v ∧ v.toList.map some = r.toList.map (fun a => vs[a.1]?) ∧ ∀ a ∈ r.toList, a ∈ st := by
  obtain ⟨pc, i, len, a0, n, z0⟩ := E
  unfold x_ret at hx
  simp only at hx
  split at hx
  · split at hx
    · rename_i a
      split at hx
      · rename_i ty
        split at hx
        · rename_i hk
          cases hx
          obtain ⟨v, t, rfl, e2, e3⟩ := stk1 hc
          obtain ⟨v', e4, e5, -⟩ := ho a List.mem_cons_self
          obtain rfl : v' = v := Option.some.inj (e4.symm.trans e2)
          have hn := rtOK_ok hk.2 hk.1 e5
          obtain ⟨x, rfl⟩ := (k_is_int e5 hk.1).1
          have : t = [] := by simpa using e3
          subst this
          refine ⟨rfl, some (.int x), ?_, by simp [e2], by simp⟩
          simp only [m_ret]
          rw [if_pos hn]
        · cases hx
      · cases hx
    · cases hx
  · split at hx
    · rename_i a
      split at hx
      · rename_i hk
        cases hx
        obtain ⟨v, t, rfl, e2, e3⟩ := stk1 hc
        obtain ⟨v', e4, e5, -⟩ := ho a List.mem_cons_self
        obtain rfl : v' = v := Option.some.inj (e4.symm.trans e2)
        obtain ⟨x, rfl⟩ := (k_is_long e5 (by rw [hk.1]; rfl)).1
        have : t = [] := by simpa using e3
        subst this
        refine ⟨rfl, some (.long x), ?_, by simp [e2], by simp⟩
        simp only [m_ret]
        rw [if_pos hk.2]
      · cases hx
    · cases hx
  · split at hx
    · split at hx
      · rename_i hk
        cases hx
        have : cst = [] := by simpa using hc
        subst this
        refine ⟨rfl, none, ?_, rfl, by simp⟩
        simp only [m_ret]
        rw [if_pos hk]
      · cases hx
    · cases hx
  · cases hx
/-- a return to a frame below -/
theorem g_ret {E : MI × Option FieldType} (hE : m_at MT S.1.1 S.1.2.1 = some E) {r : Option AV} {S1 : SS} (hx : x_ret E.2 E.1.2.1 S.1.2.2.2 = some r) (hp1 : x_pop S r = some S1) (h : Good Γ sets roles ms MT ro fty dfl vs0 F0 Q (d + 1) S1) : Good Γ sets roles ms MT ro fty dfl vs0 F0 Q d S := by
  intro vs f fs F hp hS hW hF
  obtain ⟨lv, cst, rfl, hl, hc1, hc2⟩ := hS.frame
  obtain ⟨o1, v, o2, o3, o4⟩ := ret_one (ro := ro) (fty := fty) (dfl := dfl) hx hc1 hc2 F lv
  unfold x_pop at hp1
  split at hp1
  · rename_i g gs hg
    cases hp1
    obtain ⟨h1, h2, h3, h4, h5, h6, h7⟩ := hS
    rw [hg] at h3
    cases fs with
    | nil => exact h3.elim
    | cons cf cfs =>
      obtain ⟨⟨k1, k2, k3, k4⟩, k5⟩ := h3
      refine TT.ret hE o1 o2 ?_
      have hk := h vs (cf.1, cf.2.1 + 3, cf.2.2.1, v.toList ++ cf.2.2.2) cfs F hp ?_ hW hF
      · exact hk
      · refine ⟨fun b hb => ?_, ⟨k1, by show g.2.1 + 3 = _; rw [k2], k3, ?_⟩, k5, h4, h5, h6, h7⟩
        · simp only [s_av, s_avF, List.mem_append] at hb
          rcases hb with (hb | hb | hb) | hb | hb
          · exact h1 b (List.mem_append_right _ (List.mem_append_left _ (by rw [hg]; exact List.mem_append_left _ (List.mem_append_left _ hb))))
          · exact hc2 b (o4 b hb)
          · exact h1 b (List.mem_append_right _ (List.mem_append_left _ (by rw [hg]; exact List.mem_append_left _ (List.mem_append_right _ hb))))
          · exact h1 b (List.mem_append_right _ (List.mem_append_left _ (by rw [hg]; exact List.mem_append_right _ hb)))
          · exact h1 b (List.mem_append_right _ (List.mem_append_right _ (List.mem_append.mpr hb)))
        · simp only [List.map_append]
          rw [o3, k4]
  · cases hp1
/-- the last return -/
theorem g_end {E : MI × Option FieldType} (hE : m_at MT S.1.1 S.1.2.1 = some E) {r : Option AV} (hx : x_ret E.2 E.1.2.1 S.1.2.2.2 = some r) (hnil : S.2.1 = [])
    (h : ∀ vs f F v, (∃ t, vs = vs0 ++ t) → okS Γ sets ro vs S f [] F → WT Γ sets roles ro F → FRm Γ ro ms F0 F → v.toList.map some = r.toList.map (fun a => vs[a.1]?) → (∀ a ∈ r.toList, okA Γ sets vs a) → Q v F) : Good Γ sets roles ms MT ro fty dfl vs0 F0 Q d S := by
  intro vs f fs F hp hS hW hF
  have hfs : fs = [] := by
    have := hS.2.2.1
    rw [hnil] at this
    cases fs with
    | nil => rfl
    | cons a b => exact this.elim
  subst hfs
  have hS0 := hS
  obtain ⟨lv, cst, rfl, hl, hc1, hc2⟩ := hS.frame
  obtain ⟨o1, v, o2, o3, o4⟩ := ret_one (ro := ro) (fty := fty) (dfl := dfl) hx hc1 hc2 F lv
  exact TT.ret hE o1 o2 (h vs _ F v hp hS0 hW hF o3 (fun a ha => hc2 a (o4 a ha)))
end SxR
