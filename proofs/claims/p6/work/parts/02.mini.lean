/-! THE SMALL MACHINE: a run of the bytecode over a list of cells, as a function. What it answers, the machine answers (the parts behind). -/
/-- a cell: an object (number of its class, fields), a row of ints (kind, contents), a row of references (kind, contents) -/
abbrev MC : Type := (Nat × List Value) ⊕ (Nat × List Int32) ⊕ (Nat × List (Option Nat))
abbrev MH : Type := List MC
abbrev LVs : Type := List (Nat × Value)
/-- an instruction as it is listed: pc, the instruction, its length, and three numbers that it is resolved to -/
abbrev MI : Type := Nat × Instr × Nat × Nat × Nat × Int
def m_get (lv : LVs) (i : Nat) : Option Value := (lv.find? (fun q => q.1 == i)).map (fun q => q.2)
def m_put1 (lv : LVs) (i : Nat) (v : Value) : LVs := (i, v) :: lv.filter (fun q => !(q.1 == i) && !(q.1 + 1 == i && q.2.category == 2))
def m_put2 (lv : LVs) (i : Nat) (v : Value) : LVs := (i, v) :: lv.filter (fun q => !(q.1 == i) && (!(q.1 == i + 1) && !(q.1 + 1 == i && q.2.category == 2)))
def m_isI (v : Value) : Bool := match v with | .int _ => true | _ => false
def m_isL (v : Value) : Bool := match v with | .long _ => true | _ => false
def m_isA (v : Value) : Bool := match v with | .null => true | .ref _ => true | _ => false
/-- what an instruction pushes that reads constants or locals alone -/
def m_push (E : MI) (lv : LVs) : Option Value := match E.2.1 with
  | .iconst n => some (.int (Int32.ofInt n))
  | .bipush n => some (.int (Int8.ofInt n).toInt32)
  | .sipush n => some (.int (Int16.ofInt n).toInt32)
  | .lconst n => some (.long (Int64.ofNat (n : Nat)))
  | .aconst_null => some .null
  | .iload i => (m_get lv i).filter m_isI
  | .iload_n i => (m_get lv i).filter m_isI
  | .lload i => (m_get lv i).filter m_isL
  | .lload_n i => (m_get lv i).filter m_isL
  | .aload i => (m_get lv i).filter m_isA
  | .aload_n i => (m_get lv i).filter m_isA
  | _ => none
def m_b32 (i : Instr) : Option (Int32 → Int32 → Int32) := match i with
  | .iadd => some fun x y => x + y
  | .isub => some fun x y => x - y
  | .imul => some fun x y => x * y
  | .iand => some fun x y => x &&& y
  | .ior => some fun x y => x ||| y
  | .ixor => some fun x y => x ^^^ y
  | .ishl => some fun x y => x <<< (y &&& 31)
  | .ishr => some fun x y => x >>> (y &&& 31)
  | .iushr => some fun x y => (x.toUInt32 >>> (y.toUInt32 &&& Int32.toUInt32 31)).toInt32
  | _ => none
def m_d32 (i : Instr) : Option (Int32 → Int32 → Int32) := match i with
  | .idiv => some fun x y => x / y
  | .irem => some fun x y => x - x / y * y
  | _ => none
def m_b64 (i : Instr) : Option (Int64 → Int64 → Int64) := match i with
  | .ladd => some fun x y => x + y
  | .lsub => some fun x y => x - y
  | .lmul => some fun x y => x * y
  | .land => some fun x y => x &&& y
  | .lor => some fun x y => x ||| y
  | .lxor => some fun x y => x ^^^ y
  | _ => none
def m_d64 (i : Instr) : Option (Int64 → Int64 → Int64) := match i with
  | .ldiv => some fun x y => x / y
  | .lrem => some fun x y => x - x / y * y
  | _ => none
def m_u32 (i : Instr) : Option (Int32 → Value) := match i with
  | .ineg => some fun x => .int (-x)
  | .i2b => some fun x => .int x.toInt8.toInt32
  | .i2s => some fun x => .int x.toInt16.toInt32
  | .i2c => some fun x => .int (x.toUInt32 % 65536).toInt32
  | .i2l => some fun x => .long x.toInt64
  | _ => none
def m_cmp (c : ClassFile.Cond) (x y : Int32) : Bool := match c with
  | .eq => decide (x = y)
  | .ne => decide (¬ x = y)
  | .lt => decide (x < y)
  | .ge => decide (y ≤ x)
  | .gt => decide (y < x)
  | .le => decide (x ≤ y)
/-- the operand stack alone: what is neither arithmetic of two ints nor of two longs -/
def m_stk (i : Instr) (st : List Value) : Option (List Value) := match i with
  | .l2i => (match st with | .long x :: r => some (.int x.toInt32 :: r) | _ => none)
  | .lcmp => (match st with | .long y :: .long x :: r => some (.int (lg_cmp x y) :: r) | _ => none)
  | .dup => (match st with | a :: r => if a.category = 1 then some (a :: a :: r) else none | _ => none)
  | .pop => (match st with | a :: r => if a.category = 1 then some r else none | _ => none)
  | .pop2 => (match st with | a :: r => if a.category = 2 then some r else none | _ => none)
  | .dup_x1 => (match st with | a :: b :: r => if a.category = 1 ∧ b.category = 1 then some (a :: b :: a :: r) else none | _ => none)
  | .dup_x2 => (match st with | a :: b :: d :: r => if a.category = 1 ∧ b.category = 1 ∧ d.category = 1 then some (a :: b :: d :: a :: r) else none | _ => none)
  | .dup2 => (match st with | a :: b :: r => if a.category = 1 ∧ b.category = 1 then some (a :: b :: a :: b :: r) else none | _ => none)
  | _ => none
def m_alu (i : Instr) (st : List Value) : Option (List Value) :=
  match m_b32 i with
  | some f => (match st with | .int y :: .int x :: r => some (.int (f x y) :: r) | _ => none)
  | none => match m_d32 i with
  | some f => (match st with | .int y :: .int x :: r => if y = 0 then none else some (.int (f x y) :: r) | _ => none)
  | none => match m_b64 i with
  | some f => (match st with | .long y :: .long x :: r => some (.long (f x y) :: r) | _ => none)
  | none => match m_d64 i with
  | some f => (match st with | .long y :: .long x :: r => if y = 0 then none else some (.long (f x y) :: r) | _ => none)
  | none => match m_u32 i with
  | some f => (match st with | .int x :: r => some (f x :: r) | _ => none)
  | none => m_stk i st
def m_to (pc : Nat) (off : Int) : Option Nat := if 0 ≤ (pc : Int) + off then some ((pc : Int) + off).toNat else none
def m_if (pc : Nat) (off : Int) (b : Bool) (r : List Value) : Option (Nat × List Value) := (m_to pc off).map fun t => (if b = true then t else pc + 3, r)
/-- where a branch goes, and the operand stack there -/
def m_br (E : MI) (st : List Value) : Option (Nat × List Value) := match E.2.1 with
  | .goto off => (m_to E.1 off).map fun t => (t, st)
  | .ifCond c off => (match st with | .int x :: r => m_if E.1 off (m_cmp c x 0) r | _ => none)
  | .if_icmp c off => (match st with | .int y :: .int x :: r => m_if E.1 off (m_cmp c x y) r | _ => none)
  | .tableswitch d lo hi offs => (match st with
    | .int x :: r => if x.toInt < lo ∨ hi < x.toInt then (m_to E.1 d).map (fun t => (t, r)) else (match offs[(x.toInt - lo).toNat]? with | some off => (m_to E.1 off).map (fun t => (t, r)) | none => none)
    | _ => none)
  | .lookupswitch d ps => (match st with
    | .int x :: r => if (ps.toList.zip (ps.toList.drop 1)).all (fun q => decide (q.1.1 < q.2.1)) = true then (m_to E.1 (Op.lookupswitch.offset ps.toList d x.toInt)).map (fun t => (t, r)) else none
    | _ => none)
  | _ => none
/-- a local that is stored -/
def m_store (E : MI) (lv : LVs) (st : List Value) : Option (LVs × List Value) := match E.2.1 with
  | .istore i => (match st with | .int x :: r => some (m_put1 lv i (.int x), r) | _ => none)
  | .istore_n i => (match st with | .int x :: r => some (m_put1 lv i (.int x), r) | _ => none)
  | .lstore i => (match st with | .long x :: r => some (m_put2 lv i (.long x), r) | _ => none)
  | .lstore_n i => (match st with | .long x :: r => some (m_put2 lv i (.long x), r) | _ => none)
  | .astore i => (match st with | .ref x :: r => some (m_put1 lv i (.ref x), r) | .null :: r => some (m_put1 lv i .null, r) | _ => none)
  | .astore_n i => (match st with | .ref x :: r => some (m_put1 lv i (.ref x), r) | .null :: r => some (m_put1 lv i .null, r) | _ => none)
  | .iinc i n => (match m_get lv i with | some (.int x) => some (m_put1 lv i (.int (x + Int32.ofInt n)), st) | _ => none)
  | _ => none
/-- addresses from here on are of cells that nobody writes: the script, the texts -/
def KB : Nat := 1000000
def m_cell (ro : Nat → Option MC) (F : MH) (a : Nat) : Option MC := if a < KB then F[a]? else ro (a - KB)
/-- a method: its name, its code, its locals, what it returns, its listing -/
abbrev MM : Type := MethodName × ByteArray × Nat × Option FieldType × List MI
def m_in (i : Int32) (n : Nat) : Bool := decide (0 ≤ i.toInt ∧ i.toInt < n)
/-- what is read of the cells -/
def m_rd (ro : Nat → Option MC) (F : MH) (E : MI) (st : List Value) : Option (List Value) := match E.2.1 with
  | .getfield _ => (match st with
    | .ref a :: r => (match m_cell ro F a with
      | some (.inl (ci, fs)) => if ci = E.2.2.2.1 then (match fs[E.2.2.2.2.1]? with | some v => some (v :: r) | none => none) else none
      | _ => none)
    | _ => none)
  | .arraylength => (match st with
    | .ref a :: r => if a < KB then none else (match ro (a - KB) with
      | some (.inr (.inl (_, xs))) => some (.int (Int32.ofNat xs.length) :: r)
      | _ => none)
    | _ => none)
  | .iaload => (match st with
    | .int i :: .ref a :: r => (match m_cell ro F a with
      | some (.inr (.inl (k, xs))) => if k = 0 ∧ m_in i xs.length = true then some (.int (xs.getD i.toNatClampNeg 0) :: r) else none
      | _ => none)
    | _ => none)
  | .baload => (match st with
    | .int i :: .ref a :: r => (match m_cell ro F a with
      | some (.inr (.inl (k, xs))) => if (k = 1 ∨ k = 2) ∧ m_in i xs.length = true then some (.int (xs.getD i.toNatClampNeg 0) :: r) else none
      | _ => none)
    | _ => none)
  | .aaload => (match st with
    | .int i :: .ref a :: r => (match m_cell ro F a with
      | some (.inr (.inr (k, os))) => if a < KB ∧ 3 ≤ k ∧ k ≤ 6 ∧ m_in i os.length = true then some (va_rf (os.getD i.toNatClampNeg none) :: r) else none
      | _ => none)
    | _ => none)
  | _ => none
/-- what is written to the cells, or made -/
def m_wr (fty : Nat → Nat → FieldType) (dfl : Nat → List Value) (F : MH) (E : MI) (st : List Value) : Option (MH × List Value) := match E.2.1 with
  | .putfield _ => (match st with
    | v :: .ref a :: r => (match F[a]? with
      | some (.inl (ci, fs)) => if a < KB ∧ ci = E.2.2.2.1 ∧ E.2.2.2.2.1 < fs.length ∧ narrow (fty ci E.2.2.2.2.1) v = v ∧ fits (fty ci E.2.2.2.2.1) v = true then some (F.set a (.inl (ci, fs.set E.2.2.2.2.1 v)), r) else none
      | _ => none)
    | _ => none)
  | .iastore => (match st with
    | .int x :: .int i :: .ref a :: r => (match F[a]? with
      | some (.inr (.inl (k, xs))) => if a < KB ∧ k = 0 ∧ m_in i xs.length = true then some (F.set a (.inr (.inl (k, xs.set i.toNatClampNeg x))), r) else none
      | _ => none)
    | _ => none)
  | .bastore => (match st with
    | .int x :: .int i :: .ref a :: r => (match F[a]? with
      | some (.inr (.inl (k, xs))) => if a < KB ∧ k = 1 ∧ m_in i xs.length = true then some (F.set a (.inr (.inl (k, xs.set i.toNatClampNeg (vp_nar .boolean x)))), r) else none
      | _ => none)
    | _ => none)
  | .aastore => (match st with
    | .ref o :: .int i :: .ref a :: r => (match F[a]?, F[o]? with
      | some (.inr (.inr (k, os))), some (.inl (ci, _)) => if a < KB ∧ o < KB ∧ E.2.2.2.1 = ci ∧ E.2.2.2.2.1 = k ∧ m_in i os.length = true then some (F.set a (.inr (.inr (k, os.set i.toNatClampNeg (some o)))), r) else none
      | _, _ => none)
    | _ => none)
  | .new _ => if F.length < KB then some (F ++ [.inl (E.2.2.2.1, dfl E.2.2.2.1)], .ref F.length :: st) else none
  | .newarray t => (match st with
    | .int n :: r => if F.length < KB ∧ 0 ≤ n.toInt ∧ n.toInt ≤ 100000 ∧ ((t = .int ∧ E.2.2.2.1 = 0) ∨ (t = .boolean ∧ E.2.2.2.1 = 1)) then some (F ++ [.inr (.inl (E.2.2.2.1, List.replicate n.toNatClampNeg 0))], .ref F.length :: r) else none
    | _ => none)
  | .anewarray _ => (match st with
    | .int n :: r => if F.length < KB ∧ 0 ≤ n.toInt ∧ n.toInt ≤ 100000 then some (F ++ [.inr (.inr (E.2.2.2.1, List.replicate n.toNatClampNeg none))], .ref F.length :: r) else none
    | _ => none)
  | _ => none
/-- constants of the pools: the third number says which -/
def m_cst (E : MI) : Option Value := match E.2.1 with
  | .ldc _ => if E.2.2.2.1 = 0 then some (.int (Int32.ofInt E.2.2.2.2.2)) else some (.ref (KB + E.2.2.2.2.1))
  | .ldc_w _ => some (.int (Int32.ofInt E.2.2.2.2.2))
  | .ldc2_w _ => some (.long (Int64.ofInt E.2.2.2.2.2))
  | .getstatic _ => if E.2.2.2.1 = 0 then some (.int (Int32.ofInt E.2.2.2.2.2)) else some (.ref (KB + E.2.2.2.2.1))
  | _ => none
/-- a call: which method, its arguments, what stays on the stack -/
def m_iv (E : MI) (st : List Value) (ok : Nat → Bool) : Option (Nat × List Value × List Value) :=
  if 1 ≤ E.2.2.2.2.1 ∧ E.2.2.2.2.1 ≤ st.length ∧ ((st.drop E.2.2.2.2.1).map fun v => v.category).sum ≤ 8 then (match (st.take E.2.2.2.2.1).reverse with
    | .ref a :: As => if ok a = true then some (E.2.2.2.1, .ref a :: As, st.drop E.2.2.2.2.1) else none
    | _ => none) else none
def m_rc (ro : Nat → Option MC) (F : MH) (E : MI) (a : Nat) : Bool := match m_cell ro F a with
  | some (.inl o) => decide ((o.1 : Int) = E.2.2.2.2.2)
  | _ => false
def m_inv (ro : Nat → Option MC) (F : MH) (E : MI) (st : List Value) : Option (Nat × List Value × List Value) := match E.2.1 with
  | .invokestatic _ => if E.2.2.2.2.1 ≤ st.length ∧ ((st.drop E.2.2.2.2.1).map fun v => v.category).sum ≤ 8 then some (E.2.2.2.1, (st.take E.2.2.2.2.1).reverse, st.drop E.2.2.2.2.1) else none
  | .invokespecial _ => m_iv E st (fun a => decide (a < KB))
  | .invokevirtual _ => m_iv E st (m_rc ro F E)
  | _ => none
/-- a return: what is answered -/
def m_ret (rt : Option FieldType) (E : MI) (st : List Value) : Option (Option Value) := match E.2.1 with
  | .ireturn => (match st with | [.int x] => (match rt with | some ty => if narrow ty (.int x) = .int x then some (some (.int x)) else none | none => none) | _ => none)
  | .lreturn => (match st with | [.long x] => if rt = some .long then some (some (.long x)) else none | _ => none)
  | .return_ => (match st with | [] => if rt = none then some none else none | _ => none)
  | _ => none
abbrev MS : Type := MH × Nat × LVs × List Value
/-- one step that is neither a call nor a return -/
def m_one (ro : Nat → Option MC) (fty : Nat → Nat → FieldType) (dfl : Nat → List Value) (E : MI) (F : MH) (lv : LVs) (st : List Value) : Option MS :=
  match m_push E lv with
  | some v => some (F, E.1 + E.2.2.1, lv, v :: st)
  | none => match m_cst E with
  | some v => some (F, E.1 + E.2.2.1, lv, v :: st)
  | none => match m_store E lv st with
  | some q => some (F, E.1 + E.2.2.1, q.1, q.2)
  | none => match m_alu E.2.1 st with
  | some st1 => some (F, E.1 + E.2.2.1, lv, st1)
  | none => match m_br E st with
  | some q => some (F, q.1, lv, q.2)
  | none => match m_rd ro F E st with
  | some st1 => some (F, E.1 + E.2.2.1, lv, st1)
  | none => match m_wr fty dfl F E st with
  | some q => some (q.1, E.1 + E.2.2.1, lv, q.2)
  | none => none
def m_at (MT : List MM) (mi pc : Nat) : Option (MI × Option FieldType) := match MT[mi]? with
  | some M => (M.2.2.2.2.find? (fun E => E.1 == pc)).map fun E => (E, M.2.2.2.1)
  | none => none
def m_room (MT : List MM) (mi : Nat) (as : List Value) : Bool := match MT[mi]? with
  | some M => decide (0 < mi ∧ (as.map fun v => v.category).sum ≤ M.2.2.1)
  | none => false
/-- a run: fuel, depth of calls that is left, method, cells, pc, locals, stack: what is answered, and the cells then -/
def ex (MT : List MM) (ro : Nat → Option MC) (fty : Nat → Nat → FieldType) (dfl : Nat → List Value) : Nat → Nat → Nat → MH → Nat → LVs → List Value → Option (Option Value × MH)
  | 0, _, _, _, _, _, _ => none
  | n + 1, d, mi, F, pc, lv, st =>
    match m_at MT mi pc with
    | none => none
    | some E =>
      match m_one ro fty dfl E.1 F lv st with
      | some q => ex MT ro fty dfl n d mi q.1 q.2.1 q.2.2.1 q.2.2.2
      | none =>
        match m_ret E.2 E.1 st with
        | some v => some (v, F)
        | none =>
          match m_inv ro F E.1 st with
          | none => none
          | some q =>
            if q.1 = 9999 then (match q.2.1 with | [.ref a] => if a < KB then ex MT ro fty dfl n d mi F (pc + 3) lv q.2.2 else none | _ => none)
            else if q.1 = 9998 then (match q.2.1 with | [.int x, .int y] => ex MT ro fty dfl n d mi F (pc + 3) lv (.int (if x < y then y else x) :: q.2.2) | _ => none)
            else if m_room MT q.1 q.2.1 = true then (match d with
              | 0 => none
              | d' + 1 =>
                match ex MT ro fty dfl n d' q.1 F 0 (lv_args 0 q.2.1) [] with
                | none => none
                | some z => ex MT ro fty dfl n (d' + 1) mi z.2 (pc + 3) lv (z.1.toList ++ q.2.2))
            else none
