/-! THE SMALL MACHINE IS THE MACHINE, I: values, cells, worlds -/
section SimA
/-- a value of the small machine, as the machine has it: rA says where its cells lie, sio what the one unknown reference is -/
def trv (rA : Nat → Nat) (sio : Value) (v : Value) : Value := match v with
  | .ref a => if a = KB + 100 then sio else .ref (rA a)
  | w => w
theorem trv_int (rA : Nat → Nat) (sio : Value) (x : Int32) : trv rA sio (.int x) = .int x := rfl
theorem trv_long (rA : Nat → Nat) (sio : Value) (x : Int64) : trv rA sio (.long x) = .long x := rfl
theorem trv_null (rA : Nat → Nat) (sio : Value) : trv rA sio .null = .null := rfl
theorem trv_ref (rA : Nat → Nat) (sio : Value) {a : Nat} (h : a < KB) : trv rA sio (.ref a) = .ref (rA a) := by
  have h2 : ¬ a = KB + 100 := by omega
  simp only [trv, if_neg h2]
def sioOK (sio : Value) : Prop := sio = .null ∨ ∃ a, sio = .ref a
theorem trv_cat {rA : Nat → Nat} {sio : Value} (hs : sioOK sio) (v : Value) : (trv rA sio v).category = v.category := by
  cases v with
  | ref a =>
    by_cases h : a = KB + 100
    · simp only [trv, if_pos h]
      rcases hs with rfl | ⟨b, rfl⟩ <;> rfl
    · simp only [trv, if_neg h]; rfl
  | _ => rfl
def trE (rA : Nat → Nat) (sio : Value) (cA : Nat → ClassId) (c : MC) : va_E := match c with
  | .inl o => .inr (o.1, o.2.map (trv rA sio))
  | .inr (.inl q) => .inl (cA q.1, q.2.length, .inl (fun j => q.2.getD j 0))
  | .inr (.inr q) => .inl (cA q.1, q.2.length, .inr (.inr (.inr (.inr (fun j => (q.2.getD j none).map rA)))))
/-- the cells as a world of the kit, from an address on -/
def wsF (tr : MC → va_E) : Nat → MH → va_W
  | _, [] => []
  | b, c :: t => (b, tr c) :: wsF tr (b + 1) t
theorem wsF_get (tr : MC → va_E) : ∀ (F : MH) (b i : Nat), (wsF tr b F)[i]? = (F[i]?).map (fun c => (b + i, tr c))
  | [], b, i => by simp [wsF]
  | c :: t, b, 0 => by simp [wsF]
  | c :: t, b, i + 1 => by
    rw [wsF, List.getElem?_cons_succ, wsF_get tr t (b + 1) i, List.getElem?_cons_succ]
    rw [show b + 1 + i = b + (i + 1) by omega]
theorem wsF_set (tr : MC → va_E) : ∀ (F : MH) (b i : Nat) (c : MC), (wsF tr b F).set i (b + i, tr c) = wsF tr b (F.set i c)
  | [], b, i, c => by simp [wsF]
  | c0 :: t, b, 0, c => by simp [wsF]
  | c0 :: t, b, i + 1, c => by
    rw [wsF, List.set_cons_succ, List.set_cons_succ, wsF, ← wsF_set tr t (b + 1) i c]
    rw [show b + 1 + i = b + (i + 1) by omega]
theorem wsF_app (tr : MC → va_E) (c : MC) : ∀ (F : MH) (b : Nat), wsF tr b (F ++ [c]) = wsF tr b F ++ [(b + F.length, tr c)]
  | [], b => by simp [wsF]
  | c0 :: t, b => by
    rw [List.cons_append, wsF, wsF, wsF_app tr c t (b + 1), List.cons_append, List.length_cons]
    rw [show b + 1 + t.length = b + (t.length + 1) by omega]
theorem wsF_D (tr : MC → va_E) {A : Nat → Prop} {b : Nat} (hA : ∀ q, b ≤ q → A q) (F : MH) : va_D A (wsF tr b F) := by
  refine ⟨fun i j x y hi hj hxy => ?_, fun k q hk => ?_⟩
  · rw [wsF_get] at hi hj
    cases h1 : F[i]? with
    | none => rw [h1] at hi; cases hi
    | some c1 =>
      cases h2 : F[j]? with
      | none => rw [h2] at hj; cases hj
      | some c2 =>
        rw [h1] at hi; rw [h2] at hj
        cases hi; cases hj
        simp only at hxy
        omega
  · rw [wsF_get] at hk
    cases h1 : F[k]? with
    | none => rw [h1] at hk; cases hk
    | some c1 =>
      rw [h1] at hk; cases hk
      exact hA _ (Nat.le_add_right _ _)
end SimA
