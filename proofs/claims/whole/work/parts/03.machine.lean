/-! An abstract machine over our own cells. Cells and references go by number (the i-th cell that the law makes); what stands here is pure. -/
/-- a cell: an array (its kind, its length, what it holds) or an object (its kind, its fields) -/
abbrev ai_C : Type := (Nat × vp_A) ⊕ (Nat × List Value)
/-- the cells of ours; all cells made; all slots made; what the cells hold -/
abbrev ai_S : Type := Nat × Nat × Nat × (Nat → ai_C)
abbrev ai_L : Type := List (Option Value)
abbrev ai_F : Type := Nat × ai_L × List Value × ai_S
abbrev ai_O : Type := (Option Value ⊕ String) × ai_S
/-- an answer that comes by 'return' -/
abbrev ai_ok (v : Option Value) (S : ai_S) : ai_O := (.inl v, S)
def ai_isl (x : Option Value) : Bool := match x with
  | some v => v.category == 2
  | none => false
/-- a value of one word is stored -/
def ai_st1 (lv : ai_L) (i : Nat) (v : Value) : Option ai_L := if i < lv.length ∧ (i = 0 ∨ ai_isl (lv.getD (i - 1) none) = false) then some (lv.set i (some v)) else none
def ai_ld (lv : ai_L) (i : Nat) : Option Value := lv.getD i none
def ai_isI (v : Value) : Bool := match v with
  | .int _ => true
  | _ => false
def ai_isJ (v : Value) : Bool := match v with
  | .long _ => true
  | _ => false
def ai_isA (v : Value) : Bool := match v with
  | .ref _ => true
  | .null => true
  | .retAddr _ => true
  | _ => false
def ai_1 (f : Int32 → Option Value) (st : List Value) : Option (List Value) := match st with
  | .int x :: r => (f x).map (· :: r)
  | _ => none
def ai_1j (f : Int64 → Option Value) (st : List Value) : Option (List Value) := match st with
  | .long x :: r => (f x).map (· :: r)
  | _ => none
def ai_2 (f : Int32 → Int32 → Option Value) (st : List Value) : Option (List Value) := match st with
  | .int y :: .int x :: r => (f x y).map (· :: r)
  | _ => none
def ai_2j (f : Int64 → Int64 → Option Value) (st : List Value) : Option (List Value) := match st with
  | .long y :: .long x :: r => (f x y).map (· :: r)
  | _ => none
def ai_2ji (f : Int64 → Int32 → Option Value) (st : List Value) : Option (List Value) := match st with
  | .int y :: .long x :: r => (f x y).map (· :: r)
  | _ => none
/-- what the instructions do that touch the stack alone -/
def ai_pure (i : Instr) (st : List Value) : Option (List Value) := match i with
  | .iconst n => some (.int (Int32.ofInt n) :: st)
  | .bipush n => some (.int (Int8.ofInt n).toInt32 :: st)
  | .sipush n => some (.int (Int16.ofInt n).toInt32 :: st)
  | .lconst n => some (.long (Int64.ofNat (n : Nat)) :: st)
  | .iadd => ai_2 (fun x y => some (.int (x + y))) st
  | .isub => ai_2 (fun x y => some (.int (x - y))) st
  | .imul => ai_2 (fun x y => some (.int (x * y))) st
  | .iand => ai_2 (fun x y => some (.int (x &&& y))) st
  | .idiv => ai_2 (fun x y => if y = 0 then none else some (.int (x / y))) st
  | .irem => ai_2 (fun x y => if y = 0 then none else some (.int (x - x / y * y))) st
  | .ineg => ai_1 (fun x => some (.int (-x))) st
  | .land => ai_2j (fun x y => some (.long (x &&& y))) st
  | .lor => ai_2j (fun x y => some (.long (x ||| y))) st
  | .lcmp => ai_2j (fun x y => some (.int (lg_cmp x y))) st
  | .lshl => ai_2ji (fun x y => some (.long (x <<< (y.toInt64 &&& 63)))) st
  | .lshr => ai_2ji (fun x y => some (.long (x >>> (y.toInt64 &&& 63)))) st
  | .lushr => ai_2ji (fun x y => some (.long (x.toUInt64 >>> (y.toInt64.toUInt64 &&& Int64.toUInt64 63)).toInt64)) st
  | .i2l => ai_1 (fun x => some (.long x.toInt64)) st
  | .l2i => ai_1j (fun x => some (.int x.toInt32)) st
  | .i2c => ai_1 (fun x => some (.int (x.toUInt32 % 65536).toInt32)) st
  | .dup => match st with
    | v :: r => if v.category = 1 then some (v :: v :: r) else none
    | _ => none
  | .dup_x1 => match st with
    | v :: w :: r => if v.category = 1 ∧ w.category = 1 then some (v :: w :: v :: r) else none
    | _ => none
  | .dup2 => match st with
    | v :: w :: r => if v.category = 1 ∧ w.category = 1 then some (v :: w :: v :: w :: r) else none
    | _ => none
  | .pop => match st with
    | v :: r => if v.category = 1 then some r else none
    | _ => none
  | _ => none
/-- the locals' instructions -/
def ai_loc (i : Instr) (lv : ai_L) (st : List Value) : Option (ai_L × List Value) := match i with
  | .iload_n k => (ai_ld lv k).bind fun v => if ai_isI v then some (lv, v :: st) else none
  | .iload k => (ai_ld lv k).bind fun v => if ai_isI v then some (lv, v :: st) else none
  | .lload_n k => (ai_ld lv k).bind fun v => if ai_isJ v then some (lv, v :: st) else none
  | .lload k => (ai_ld lv k).bind fun v => if ai_isJ v then some (lv, v :: st) else none
  | .aload_n k => (ai_ld lv k).bind fun v => if ai_isA v then some (lv, v :: st) else none
  | .aload k => (ai_ld lv k).bind fun v => if ai_isA v then some (lv, v :: st) else none
  | .istore_n k => match st with
    | .int x :: r => (ai_st1 lv k (.int x)).map fun l => (l, r)
    | _ => none
  | .istore k => match st with
    | .int x :: r => (ai_st1 lv k (.int x)).map fun l => (l, r)
    | _ => none
  | .astore_n k => match st with
    | .ref x :: r => (ai_st1 lv k (.ref x)).map fun l => (l, r)
    | _ => none
  | .astore k => match st with
    | .ref x :: r => (ai_st1 lv k (.ref x)).map fun l => (l, r)
    | _ => none
  | .iinc k n => match ai_ld lv k with
    | some (.int x) => (ai_st1 lv k (.int (x + Int32.ofInt n))).map fun l => (l, st)
    | _ => none
  | _ => none
/-- an array of numbers of that kind -/
def ai_arr (S : ai_S) (a t : Nat) : Option (Nat × (Nat → Int32)) := if a < S.1 then match S.2.2.2 a with
    | .inl (t', n, .inl f) => if t' = t then some (n, f) else none
    | _ => none
  else none
def ai_arrJ (S : ai_S) (a t : Nat) : Option (Nat × (Nat → Int64)) := if a < S.1 then match S.2.2.2 a with
    | .inl (t', n, .inr (.inl f)) => if t' = t then some (n, f) else none
    | _ => none
  else none
def ai_arrA (S : ai_S) (a t : Nat) : Option (Nat × (Nat → Option Nat)) := if a < S.1 then match S.2.2.2 a with
    | .inl (t', n, .inr (.inr (.inr (.inr f)))) => if t' = t then some (n, f) else none
    | _ => none
  else none
def ai_obj (S : ai_S) (a c : Nat) : Option (List Value) := if a < S.1 then match S.2.2.2 a with
    | .inr (c', fs) => if c' = c then some fs else none
    | _ => none
  else none
def ai_wr (S : ai_S) (a : Nat) (x : ai_C) : ai_S := (S.1, S.2.1, S.2.2.1, va_up S.2.2.2 a x)
/-- a cell is made -/
def ai_mk (S : ai_S) (w : Nat) (x : ai_C) : ai_S := (S.1 + 1, S.2.1 + 1, S.2.2.1 + w, va_up S.2.2.2 S.1 x)
abbrev ai_I (n : Nat) (f : Nat → Int32) : vp_A := (n, .inl f)
abbrev ai_J (n : Nat) (f : Nat → Int64) : vp_A := (n, .inr (.inl f))
abbrev ai_A (n : Nat) (f : Nat → Option Nat) : vp_A := (n, .inr (.inr (.inr (.inr f))))
def ai_zero (t n : Nat) : vp_A := if t = 3 then ai_J n (fun _ => 0) else ai_I n (fun _ => 0)
/-- loads, stores and lengths of arrays; kinds: 0 int, 1 char, 2 boolean, 3 long, 4 a kind's objects -/
def ai_ldx (t : Nat) (st : List Value) (S : ai_S) : Option (List Value × ai_S) := match st with
  | .int i :: .ref a :: r => (ai_arr S a t).bind fun q => if i < 0 ∨ q.1 ≤ i.toNatClampNeg then none else some (.int (q.2 i.toNatClampNeg) :: r, S)
  | _ => none
def ai_stx (t : Nat) (nar : Int32 → Int32) (st : List Value) (S : ai_S) : Option (List Value × ai_S) := match st with
  | .int x :: .int i :: .ref a :: r => (ai_arr S a t).bind fun q => if i < 0 ∨ q.1 ≤ i.toNatClampNeg then none else some (r, ai_wr S a (.inl (t, ai_I q.1 (upd q.2 i.toNatClampNeg (nar x)))))
  | _ => none
def ai_heap (i : Instr) (st : List Value) (S : ai_S) : Option (List Value × ai_S) := match i with
  | .iaload => ai_ldx 0 st S
  | .caload => ai_ldx 1 st S
  | .baload => ai_ldx 2 st S
  | .iastore => ai_stx 0 (fun x => x) st S
  | .castore => ai_stx 1 (vp_nar .char) st S
  | .bastore => ai_stx 2 (vp_nar .boolean) st S
  | .laload => match st with
    | .int i :: .ref a :: r => (ai_arrJ S a 3).bind fun q => if i < 0 ∨ q.1 ≤ i.toNatClampNeg then none else some (.long (q.2 i.toNatClampNeg) :: r, S)
    | _ => none
  | .lastore => match st with
    | .long x :: .int i :: .ref a :: r => (ai_arrJ S a 3).bind fun q => if i < 0 ∨ q.1 ≤ i.toNatClampNeg then none else some (r, ai_wr S a (.inl (3, ai_J q.1 (vp_updL q.2 i.toNatClampNeg x))))
    | _ => none
  | .aaload => match st with
    | .int i :: .ref a :: r => (ai_arrA S a 4).bind fun q => if i < 0 ∨ q.1 ≤ i.toNatClampNeg then none else (q.2 i.toNatClampNeg).map fun x => (.ref x :: r, S)
    | _ => none
  | .arraylength => match st with
    | .ref a :: r => if a < S.1 then match S.2.2.2 a with
        | .inl (t, q) => if t < 5 then some (.int (Int32.ofNat q.1) :: r, S) else none
        | _ => none
      else none
    | _ => none
  | .newarray ty => match st with
    | .int k :: r => (ai_kind ty).bind fun t => if k < 0 ∨ ¬ S.1 = S.2.1 ∨ 65536 < k.toNatClampNeg then none else some (.ref S.1 :: r, ai_mk S k.toNatClampNeg (.inl (t, ai_zero t k.toNatClampNeg)))
    | _ => none
  | _ => none
/-- fits a field: numbers in fields of ints, references in fields of references -/
def ai_fits (ty : FieldType) (v : Value) : Bool := match ty with
  | .int => ai_isI v
  | .object _ => match v with
    | .ref _ => true
    | _ => false
  | .array _ => match v with
    | .ref _ => true
    | _ => false
  | _ => false
/-- may that method put that field: not final, or in the kind's own constructor -/
def ai_may (M : ai_M) (c k : Nat) (nest : Bool) : Bool := match ai_cl[c]? with
  | some (C, T, _) => if (T k).2.2.2 then !nest && decide ((ai_y M).name = "<init>") && decide (ai_own (ai_oi M) = C) && decide (ai_oi M ≠ 99) else true
  | none => false
def ai_N (c : Nat) : Nat := match ai_cl[c]? with
  | some (_, _, N) => N
  | none => 0
def ai_blank (c : Nat) : List Value := (List.range (ai_N c)).map fun k => defaultValue (ai_ty c k)
/-- fields, new cells, constants -/
def ai_fop (M : ai_M) (i : Instr) (st : List Value) (S : ai_S) : Option (List Value × ai_S) := match i with
  | .getfield x => (ai_fld (ai_oi M) x).bind fun q => match st with
    | .ref a :: r => (ai_obj S a q.1).bind fun fs => (fs[q.2.1]?).map fun v => (v :: r, S)
    | _ => none
  | .putfield x => (ai_fld (ai_oi M) x).bind fun q => match st with
    | v :: .ref a :: r => (ai_obj S a q.1).bind fun fs => if q.2.1 < fs.length ∧ ai_fits (ai_ty q.1 q.2.1) v = true ∧ ai_may M q.1 q.2.1 q.2.2 = true then some (r, ai_wr S a (.inr (q.1, fs.set q.2.1 v))) else none
    | _ => none
  | .new x => (ai_new (ai_oi M) x).bind fun c => if S.1 = S.2.1 then some (.ref S.1 :: st, ai_mk S (ai_N c) (.inr (c, ai_blank c))) else none
  | .anewarray x => if ai_anw (ai_oi M) x = true then match st with
    | .int k :: r => if k < 0 ∨ ¬ S.1 = S.2.1 ∨ 65536 < k.toNatClampNeg then none else some (.ref S.1 :: r, ai_mk S k.toNatClampNeg (.inl (4, ai_A k.toNatClampNeg (fun _ => none))))
    | _ => none
    else none
  | .aastore => match st with
    | .ref v :: .int i :: .ref a :: r => (ai_arrA S a 4).bind fun q => (ai_obj S v ai_pair).bind fun _ => if i < 0 ∨ q.1 ≤ i.toNatClampNeg then none else some (r, ai_wr S a (.inl (4, ai_A q.1 (va_up q.2 i.toNatClampNeg (some v)))))
    | _ => none
  | .ldc x => (ai_ldc (ai_oi M) x).map fun v => (.int v :: st, S)
  | .ldc2_w x => (ai_ldcJ (ai_oi M) x).map fun v => (.long v :: st, S)
  | _ => none
/-- the law's own script: L ints xs; only the law has it, as the value retAddr 0 -/
def ai_scr (L : Nat) (xs : Nat → Int32) (M : ai_M) (i : Instr) (st : List Value) : Option (List Value) := if ai_oi M = 99 then match i with
    | .iaload => match st with
      | .int j :: .retAddr _ :: r => if j < 0 ∨ L ≤ j.toNatClampNeg then none else some (.int (xs j.toNatClampNeg) :: r)
      | _ => none
    | .arraylength => match st with
      | .retAddr _ :: r => some (.int (Int32.ofNat L) :: r)
      | _ => none
    | _ => none
  else none
/-- one step of an instruction that goes on to the next one -/
def ai_step (L : Nat) (xs : Nat → Int32) (M : ai_M) (i : Instr) (len : Nat) (F : ai_F) : Option ai_F :=
  match ai_pure i F.2.2.1 with
  | some st => some (F.1 + len, F.2.1, st, F.2.2.2)
  | none => match ai_loc i F.2.1 F.2.2.1 with
    | some q => some (F.1 + len, q.1, q.2, F.2.2.2)
    | none => match ai_heap i F.2.2.1 F.2.2.2 with
      | some q => some (F.1 + len, F.2.1, q.1, q.2)
      | none => match ai_fop M i F.2.2.1 F.2.2.2 with
        | some q => some (F.1 + len, F.2.1, q.1, q.2)
        | none => match ai_scr L xs M i F.2.2.1 with
          | some st => some (F.1 + len, F.2.1, st, F.2.2.2)
          | none => none
def ai_cmp (c : ClassFile.Cond) (x y : Int32) : Prop := match c with
  | .eq => x = y
  | .ne => ¬ x = y
  | .lt => x < y
  | .ge => y ≤ x
  | .gt => y < x
  | .le => x ≤ y
def ai_to (pc : Nat) (off : Int) : Nat := ((pc : Int) + off).toNat
abbrev ai_call : Type := Nat → List Value → ai_S → (ai_O → Prop) → Prop
def ai_sum (st : List Value) : Nat := (st.map fun v => v.category).sum
/-- behind a call: the answer onto the stack; a thrown one into the handler, which keeps it in a slot that nobody reads -/
def ai_back (M : ai_M) (go : ai_F → Prop) (kd pc : Nat) (lv : ai_L) (rest : List Value) (o : ai_O) : Prop := match o.1 with
  | .inl v => go (pc + 3, lv, v.toList ++ rest, o.2)
  | .inr E => kd = 0 ∧ match ai_hand M pc E with
    | some h => match ai_at M h with
      | some (.astore_n k, 1) => (k : Nat) < lv.length ∧ ((k : Nat) = 0 ∨ ai_isl (lv.getD ((k : Nat) - 1) none) = false) ∧ go (h + 1, lv.set k none, [], o.2)
      | _ => False
    | none => False
/-- a call by its kind: 0 virtual, 1 virtual of a nest mate, 2 static, 3 static of a nest mate, 4 constructor, 5 constructor of a nest mate, 6 static with handlers -/
def ai_inv (call : ai_call) (M : ai_M) (go : ai_F → Prop) (ks : List Nat) (x : Nat) (F : ai_F) : Prop := match ai_mth (ai_oi M) x with
  | some (kd, mi, na, ci) => kd ∈ ks ∧
    (if kd = 2 ∨ kd = 3 ∨ kd = 6 then na ≤ F.2.2.1.length ∧ ai_sum (F.2.2.1.drop na) ≤ 8 ∧ call mi (F.2.2.1.take na).reverse F.2.2.2 (ai_back M go kd F.1 F.2.1 (F.2.2.1.drop na))
     else match F.2.2.1.drop na with
       | .ref a :: rest => na ≤ F.2.2.1.length ∧ ai_sum rest ≤ 8 ∧ (∃ fs, ai_obj F.2.2.2 a ci = some fs) ∧ call mi (.ref a :: (F.2.2.1.take na).reverse) F.2.2.2 (ai_back M go kd F.1 F.2.1 rest)
       | _ => False)
  | none => False
/-- System.arraycopy of chars -/
def ai_cpy (go : ai_F → Prop) (F : ai_F) : Prop := match F.2.2.1 with
  | .int n :: .int dp :: .ref a1 :: .int sp :: .ref a0 :: rest => ∃ n0 f n1 g, ai_arr F.2.2.2 a0 1 = some (n0, f) ∧ ai_arr F.2.2.2 a1 1 = some (n1, g) ∧ ai_sum rest ≤ 8 ∧ ¬ sp < 0 ∧ ¬ dp < 0 ∧ ¬ n < 0 ∧ sp.toNatClampNeg + n.toNatClampNeg ≤ n0 ∧ dp.toNatClampNeg + n.toNatClampNeg ≤ n1 ∧ (∀ i, i < n.toNatClampNeg → fits .char (.int (f (sp.toNatClampNeg + i))) = true) ∧
    go (F.1 + 3, F.2.1, rest, ai_wr F.2.2.2 a1 (.inl (1, ai_I n1 (va_cpy f g sp.toNatClampNeg dp.toNatClampNeg n.toNatClampNeg))))
  | _ => False
/-- one instruction of the method M, then go; or the end, with Q -/
def ai_one (L : Nat) (xs : Nat → Int32) (M : ai_M) (call : ai_call) (go : ai_F → Prop) (Q : ai_O → Prop) (F : ai_F) : Prop := match ai_at M F.1 with
  | none => False
  | some (i, len) => match i with
    | .goto off => go (ai_to F.1 off, F.2)
    | .ifCond c off => match F.2.2.1 with
      | .int x :: r => (ai_cmp c x 0 → go (ai_to F.1 off, F.2.1, r, F.2.2.2)) ∧ (¬ ai_cmp c x 0 → go (F.1 + 3, F.2.1, r, F.2.2.2))
      | _ => False
    | .if_icmp c off => match F.2.2.1 with
      | .int y :: .int x :: r => (ai_cmp c x y → go (ai_to F.1 off, F.2.1, r, F.2.2.2)) ∧ (¬ ai_cmp c x y → go (F.1 + 3, F.2.1, r, F.2.2.2))
      | _ => False
    | .tableswitch dflt lo hi offs => match F.2.2.1 with
      | .int x :: r => ((x.toInt < lo ∨ hi < x.toInt) → go (ai_to F.1 dflt, F.2.1, r, F.2.2.2)) ∧ (¬ (x.toInt < lo ∨ hi < x.toInt) → ∃ off, offs[(x.toInt - lo).toNat]? = some off ∧ go (ai_to F.1 off, F.2.1, r, F.2.2.2))
      | _ => False
    | .invokevirtual x => ai_inv call M go [0, 1] x F
    | .invokestatic x => if ai_isCpy (ai_oi M) x = true then ai_cpy go F else ai_inv call M go [2, 3, 6] x F
    | .invokespecial x => if ai_isObj (ai_oi M) x = true then (match F.2.2.1 with
        | .ref _ :: r => ai_sum r ≤ 8 ∧ go (F.1 + 3, F.2.1, r, F.2.2.2)
        | _ => False) else ai_inv call M go [4, 5] x F
    | .ireturn => match F.2.2.1 with
      | [.int v] => (∃ ty, ai_ret M = some ty ∧ narrow ty (.int v) = .int v) ∧ Q (ai_ok (some (.int v)) F.2.2.2)
      | _ => False
    | .return_ => F.2.2.1 = [] ∧ ai_ret M = none ∧ Q (ai_ok none F.2.2.2)
    | i => match ai_thr M F.1 with
      | some E => ai_sum F.2.2.1 ≤ 8 ∧ Q (.inr E, (F.2.2.2.1, F.2.2.2.2.1 + 1, F.2.2.2.2.2.1 + 6, F.2.2.2.2.2.2))
      | none => match ai_step L xs M i len F with
        | some G => go G
        | none => False
/-- from the frame F the method M comes, within n steps, to an end with Q -/
def ai_wp (L : Nat) (xs : Nat → Int32) (M : ai_M) (call : ai_call) (Q : ai_O → Prop) : Nat → ai_F → Prop
  | 0, _ => False
  | n + 1, F => ai_one L xs M call (ai_wp L xs M call Q n) Q F
/-- the locals at the entry -/
def ai_ent : List Value → ai_L
  | [] => []
  | v :: vs => if v.category = 2 then some v :: none :: ai_ent vs else some v :: ai_ent vs
def ai_in (M : ai_M) (as : List Value) : ai_L := ai_ent as ++ List.replicate (ai_nL M - (ai_ent as).length) none
/-- the runs of methods, by the depth that is left -/
def ai_run (L : Nat) (xs : Nat → Int32) : Nat → Nat → List Value → ai_S → ai_O → Prop
  | 0 => fun _ _ _ _ => False
  | d + 1 => fun mi as S o => ∃ M n, ai_MT[mi]? = some M ∧ ai_oi M ≠ 99 ∧ (ai_ent as).length ≤ ai_nL M ∧ ai_wp L xs M (fun mi as S Q => ∃ o, ai_run L xs d mi as S o ∧ Q o) (fun x => x = o) n (0, ai_in M as, [], S)
def ai_calls (L : Nat) (xs : Nat → Int32) (d : Nat) : ai_call := fun mi as S Q => ∃ o, ai_run L xs d mi as S o ∧ Q o
/-- the law's start: no cell of ours yet -/
def ai_S0 : ai_S := (0, 0, 0, fun _ => .inr (0, []))
