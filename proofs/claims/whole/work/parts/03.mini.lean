/-! THE SMALL MACHINE: memory by kind (ints, references, longs), shapes of the cells, cells and slots made so far; a step, a run with fuel n and depth d. -/
abbrev mm_M : Type := (Nat → Nat → Int32) × (Nat → Nat → Nat) × (Nat → Nat → Int64) × List (Nat × Nat) × Nat × Nat
abbrev mm_R : Type := (Option Value ⊕ Nat) × mm_M
/-- the script: its length, its ints -/
abbrev mm_G : Type := Nat × (Nat → Int32)
/-- marks among the addresses: null, the exception that was caught, the script, the Strings -/
def mm_NU : Nat := 700000
def mm_XR : Nat := 800000
def mm_SC : Nat := 900000
def mm_SB : Nat := 1000000
/-- the String constants of the reader -/
def mm_str : List (List Int32) := [[110, 111, 114, 116, 104], [115, 111, 117, 116, 104], [102, 114, 101, 101], [114, 111, 97, 100], [116, 97, 107, 101, 115], [110, 111, 116], [104, 101, 108, 112, 115], [103, 117, 97, 114, 100, 115], [102, 111, 114, 116], [119, 111, 114, 116, 104], [104, 111, 109, 101], [116, 97, 107, 101, 115], [116, 117, 114, 110, 115], [101, 118, 101, 110, 105, 110, 103], [111, 114], [97, 110, 100], [115, 116, 121, 108, 101], []]
/-- kinds of fields: 0 int, 1 boolean, 2 reference, 3 long -/
def mm_fks : List (List Nat) := [[2, 0, 0], [2, 0, 0], [0, 0, 0, 1, 2, 2, 2, 2, 2, 2], [2, 2, 2, 2, 2, 0], [2, 0, 2, 0, 0, 0, 0, 0], [2, 0, 2, 2, 2, 2], [2, 2, 0], [2, 0, 0, 2, 2, 2, 2, 2, 2, 2, 1, 2, 2, 2, 2, 2], [0, 0, 0, 0, 0, 2, 2, 2, 2, 2, 2, 0, 0, 0, 2, 0, 0, 0, 0, 0, 0, 0, 3, 0, 0, 0, 0, 0, 0, 0, 2, 2, 2, 2, 2, 2, 2, 2, 2, 2, 0, 2, 2, 0, 2, 0, 2, 2, 0, 1, 0, 0, 2, 2, 2]]
def mm_fk (ci slot : Nat) : Nat := (mm_fks.getD ci []).getD slot 9
def mm_up {α : Type} (f : Nat → Nat → α) (a i : Nat) (v : α) : Nat → Nat → α := fun b j => if b = a then (if j = i then v else f b j) else f b j
def mm_blk (k pc : Nat) : List mm_I := ((mm_tabs.getD k []).lookup pc).getD []
def mm_mx (k : Nat) : Nat := (mm_meta.getD k (0, 0, 0, [])).1
def mm_rk (k : Nat) : Nat := (mm_meta.getD k (0, 0, 0, [])).2.1
def mm_ci (k : Nat) : Nat := (mm_meta.getD k (0, 0, 0, [])).2.2.1
def mm_hs (k : Nat) : List (Nat × Nat × Nat × Nat) := (mm_meta.getD k (0, 0, 0, [])).2.2.2
/-- the handler at a pc for an exception of kind E -/
def mm_hd (hs : List (Nat × Nat × Nat × Nat)) (pc E : Nat) : Option Nat := match hs with
  | [] => none
  | (a, b, h, x) :: hs => if a ≤ pc ∧ pc < b ∧ x = E then some h else mm_hd hs pc E
/-- a store of one word: a long that stood over it is gone -/
def mm_kill (i : Nat) (ls : List Value) : List Value := match i with
  | 0 => ls
  | j + 1 => match ls[j]? with
    | some v => if v.category = 2 then ls.set j .null else ls
    | none => ls
def mm_s1 (i : Nat) (v : Value) (ls : List Value) : List Value := (mm_kill i ls).set i v
def mm_s2 (i : Nat) (v : Value) (ls : List Value) : List Value := ((mm_kill i ls).set i v).set (i + 1) .null
def mm_ent1 (args : List Value) : List Value := match args with
  | [] => []
  | v :: vs => if v.category = 2 then v :: .null :: mm_ent1 vs else v :: mm_ent1 vs
def mm_ent (mx : Nat) (args : List Value) : List Value := mm_ent1 args ++ List.replicate (mx - (mm_ent1 args).length) .null
/-- a value that a new cell leaves as it was: no address between the made ones and the marks -/
def mm_okv (n : Nat) (v : Value) : Bool := match v with
  | .ref a => decide (a < n) || decide (mm_SC ≤ a)
  | _ => true
def mm_rv (r : Nat) : Value := if r = mm_NU then .null else .ref r
def mm_okP (P : Nat → Nat → Nat) (n : Nat) : Bool := (List.range n).all fun k => (List.range 60).all fun i => decide (P k i < n) || decide (P k i = mm_NU)
def mm_okS (P : Nat → Nat → Nat) (S : List (Nat × Nat)) : Bool := mm_okP P S.length && S.all (fun q => decide (q.1 = 100 ∨ q.1 = 101 ∨ q.1 = 102) || decide (q.2 ≤ 60))
/-- an index within -/
def mm_ix (i : Int32) (n : Nat) : Prop := ¬ (i < 0 ∨ n ≤ i.toNatClampNeg)
def mm_b01 (v : Int32) : Prop := v = 0 ∨ v = 1
/-- an instruction that goes on behind itself: locals, stack, memory -/
def mm_one (G : mm_G) (x : mm_I) (ls st : List Value) (μ : mm_M) : Option (List Value × List Value × mm_M) :=
  match x.1 with
  | .iconst n => some (ls, .int (Int32.ofInt n) :: st, μ)
  | .bipush n => some (ls, .int (Int8.ofInt n).toInt32 :: st, μ)
  | .sipush n => some (ls, .int (Int16.ofInt n).toInt32 :: st, μ)
  | .lconst n => some (ls, .long (Int64.ofNat (n : Nat)) :: st, μ)
  | .iload i => match ls[i]? with
    | some (.int v) => some (ls, .int v :: st, μ)
    | _ => none
  | .iload_n i => match ls[(i : Nat)]? with
    | some (.int v) => some (ls, .int v :: st, μ)
    | _ => none
  | .lload i => match ls[i]? with
    | some (.long v) => some (ls, .long v :: st, μ)
    | _ => none
  | .lload_n i => match ls[(i : Nat)]? with
    | some (.long v) => some (ls, .long v :: st, μ)
    | _ => none
  | .aload i => match ls[i]? with
    | some (.ref v) => some (ls, .ref v :: st, μ)
    | _ => none
  | .aload_n i => match ls[(i : Nat)]? with
    | some (.ref v) => some (ls, .ref v :: st, μ)
    | _ => none
  | .istore i => match st with
    | .int v :: st => if i < ls.length then some (mm_s1 i (.int v) ls, st, μ) else none
    | _ => none
  | .istore_n i => match st with
    | .int v :: st => if (i : Nat) < ls.length then some (mm_s1 i (.int v) ls, st, μ) else none
    | _ => none
  | .astore i => match st with
    | .ref v :: st => if i < ls.length then some (mm_s1 i (.ref v) ls, st, μ) else none
    | _ => none
  | .astore_n i => match st with
    | .ref v :: st => if (i : Nat) < ls.length then some (mm_s1 i (.ref v) ls, st, μ) else none
    | _ => none
  | .lstore i => match st with
    | .long v :: st => if i + 1 < ls.length then some (mm_s2 i (.long v) ls, st, μ) else none
    | _ => none
  | .lstore_n i => match st with
    | .long v :: st => if (i : Nat) + 1 < ls.length then some (mm_s2 i (.long v) ls, st, μ) else none
    | _ => none
  | .iinc i n => match ls[i]? with
    | some (.int v) => some (mm_s1 i (.int (v + Int32.ofInt n)) ls, st, μ)
    | _ => none
  | .iadd => match st with
    | .int y :: .int x :: st => some (ls, .int (x + y) :: st, μ)
    | _ => none
  | .isub => match st with
    | .int y :: .int x :: st => some (ls, .int (x - y) :: st, μ)
    | _ => none
  | .imul => match st with
    | .int y :: .int x :: st => some (ls, .int (x * y) :: st, μ)
    | _ => none
  | .idiv => match st with
    | .int y :: .int x :: st => if y = 0 then none else some (ls, .int (x / y) :: st, μ)
    | _ => none
  | .irem => match st with
    | .int y :: .int x :: st => if y = 0 then none else some (ls, .int (x - x / y * y) :: st, μ)
    | _ => none
  | .ineg => match st with
    | .int x :: st => some (ls, .int (-x) :: st, μ)
    | _ => none
  | .iand => match st with
    | .int y :: .int x :: st => some (ls, .int (x &&& y) :: st, μ)
    | _ => none
  | .ior => match st with
    | .int y :: .int x :: st => some (ls, .int (x ||| y) :: st, μ)
    | _ => none
  | .ixor => match st with
    | .int y :: .int x :: st => some (ls, .int (x ^^^ y) :: st, μ)
    | _ => none
  | .ishl => match st with
    | .int y :: .int x :: st => some (ls, .int (x <<< (y &&& 31)) :: st, μ)
    | _ => none
  | .ishr => match st with
    | .int y :: .int x :: st => some (ls, .int (x >>> (y &&& 31)) :: st, μ)
    | _ => none
  | .iushr => match st with
    | .int y :: .int x :: st => some (ls, .int (x.toUInt32 >>> (y.toUInt32 &&& Int32.toUInt32 31)).toInt32 :: st, μ)
    | _ => none
  | .ladd => match st with
    | .long y :: .long x :: st => some (ls, .long (x + y) :: st, μ)
    | _ => none
  | .lsub => match st with
    | .long y :: .long x :: st => some (ls, .long (x - y) :: st, μ)
    | _ => none
  | .lor => match st with
    | .long y :: .long x :: st => some (ls, .long (x ||| y) :: st, μ)
    | _ => none
  | .lshl => match st with
    | .int y :: .long x :: st => some (ls, .long (x <<< (y.toInt64 &&& 63)) :: st, μ)
    | _ => none
  | .lcmp => match st with
    | .long y :: .long x :: st => some (ls, .int (lg_cmp x y) :: st, μ)
    | _ => none
  | .i2l => match st with
    | .int x :: st => some (ls, .long x.toInt64 :: st, μ)
    | _ => none
  | .l2i => match st with
    | .long x :: st => some (ls, .int x.toInt32 :: st, μ)
    | _ => none
  | .dup => match st with
    | .int v :: st => some (ls, .int v :: .int v :: st, μ)
    | .ref v :: st => some (ls, .ref v :: .ref v :: st, μ)
    | _ => none
  | .pop => match st with
    | .int _ :: st => some (ls, st, μ)
    | .ref _ :: st => some (ls, st, μ)
    | _ => none
  | .dup2 => match st with
    | .int v :: .ref w :: st => some (ls, .int v :: .ref w :: .int v :: .ref w :: st, μ)
    | .int v :: .int w :: st => some (ls, .int v :: .int w :: .int v :: .int w :: st, μ)
    | _ => none
  | .ldc _ => if x.2.1 = 0 then some (ls, .int x.2.2.2.2 :: st, μ) else if x.2.1 = 1 then some (ls, .ref (mm_SB + x.2.2.1) :: st, μ) else none
  | .ldc_w _ => if x.2.1 = 0 then some (ls, .int x.2.2.2.2 :: st, μ) else none
  | .ldc2_w _ => some (ls, .long x.2.2.2.2.toInt64 :: st, μ)
  | .getfield _ => match st with
    | .ref a :: st => match μ.2.2.2.1[a]? with
      | some (ci, n) => if ci = x.2.1 ∧ x.2.2.1 < n then
          (if mm_fk ci x.2.2.1 ≤ 1 then some (ls, .int (μ.1 a x.2.2.1) :: st, μ)
          else if mm_fk ci x.2.2.1 = 2 then some (ls, mm_rv (μ.2.1 a x.2.2.1) :: st, μ)
          else if mm_fk ci x.2.2.1 = 3 then some (ls, .long (μ.2.2.1 a x.2.2.1) :: st, μ) else none) else none
      | none => none
    | _ => none
  | .putfield _ => match st with
    | .int v :: .ref a :: st => match μ.2.2.2.1[a]? with
      | some (ci, n) => if ci = x.2.1 ∧ x.2.2.1 < n ∧ (mm_fk ci x.2.2.1 = 0 ∨ (mm_fk ci x.2.2.1 = 1 ∧ (v = 0 ∨ v = 1))) then some (ls, st, (mm_up μ.1 a x.2.2.1 v, μ.2)) else none
      | none => none
    | .ref v :: .ref a :: st => match μ.2.2.2.1[a]? with
      | some (ci, n) => if ci = x.2.1 ∧ x.2.2.1 < n ∧ mm_fk ci x.2.2.1 = 2 ∧ v ≠ mm_NU then some (ls, st, (μ.1, mm_up μ.2.1 a x.2.2.1 v, μ.2.2)) else none
      | none => none
    | .long v :: .ref a :: st => match μ.2.2.2.1[a]? with
      | some (ci, n) => if ci = x.2.1 ∧ x.2.2.1 < n ∧ mm_fk ci x.2.2.1 = 3 then some (ls, st, (μ.1, μ.2.1, mm_up μ.2.2.1 a x.2.2.1 v, μ.2.2.2)) else none
      | none => none
    | _ => none
  | .iaload => match st with
    | .int i :: .ref a :: st => if a = mm_SC then (if i < 0 ∨ G.1 ≤ i.toNatClampNeg then none else some (ls, .int (G.2 i.toNatClampNeg) :: st, μ)) else match μ.2.2.2.1[a]? with
      | some (t, n) => if t = 100 ∧ ¬ (i < 0 ∨ n ≤ i.toNatClampNeg) then some (ls, .int (μ.1 a i.toNatClampNeg) :: st, μ) else none
      | none => none
    | _ => none
  | .iastore => match st with
    | .int v :: .int i :: .ref a :: st => match μ.2.2.2.1[a]? with
      | some (t, n) => if t = 100 ∧ ¬ (i < 0 ∨ n ≤ i.toNatClampNeg) then some (ls, st, (mm_up μ.1 a i.toNatClampNeg v, μ.2)) else none
      | none => none
    | _ => none
  | .baload => match st with
    | .int i :: .ref a :: st => match μ.2.2.2.1[a]? with
      | some (t, n) => if t = 101 ∧ ¬ (i < 0 ∨ n ≤ i.toNatClampNeg) then some (ls, .int (μ.1 a i.toNatClampNeg) :: st, μ) else none
      | none => none
    | _ => none
  | .bastore => match st with
    | .int v :: .int i :: .ref a :: st => match μ.2.2.2.1[a]? with
      | some (t, n) => if t = 101 ∧ ¬ (i < 0 ∨ n ≤ i.toNatClampNeg) ∧ (v = 0 ∨ v = 1) then some (ls, st, (mm_up μ.1 a i.toNatClampNeg v, μ.2)) else none
      | none => none
    | _ => none
  | .laload => match st with
    | .int i :: .ref a :: st => match μ.2.2.2.1[a]? with
      | some (t, n) => if t = 102 ∧ ¬ (i < 0 ∨ n ≤ i.toNatClampNeg) then some (ls, .long (μ.2.2.1 a i.toNatClampNeg) :: st, μ) else none
      | none => none
    | _ => none
  | .lastore => match st with
    | .long v :: .int i :: .ref a :: st => match μ.2.2.2.1[a]? with
      | some (t, n) => if t = 102 ∧ ¬ (i < 0 ∨ n ≤ i.toNatClampNeg) then some (ls, st, (μ.1, μ.2.1, mm_up μ.2.2.1 a i.toNatClampNeg v, μ.2.2.2)) else none
      | none => none
    | _ => none
  | .arraylength => match st with
    | .ref a :: st => if a = mm_SC then some (ls, .int (Int32.ofNat G.1) :: st, μ) else match μ.2.2.2.1[a]? with
      | some (t, n) => if t = 100 ∨ t = 101 ∨ t = 102 then some (ls, .int (Int32.ofNat n) :: st, μ) else none
      | none => none
    | _ => none
  | .invokespecial _ => if x.2.1 = 9000 then (match st with
    | .ref _ :: st => if (st.map fun v => v.category).sum ≤ 8 then some (ls, st, μ) else none
    | _ => none) else none
  | .invokevirtual _ => if x.2.1 = 9001 then (match st with
    | .ref a :: st => if mm_SB ≤ a ∧ a - mm_SB < mm_str.length ∧ (st.map fun v => v.category).sum ≤ 8 then some (ls, .int (Int32.ofNat (mm_str.getD (a - mm_SB) []).length) :: st, μ) else none
    | _ => none) else if x.2.1 = 9002 then (match st with
    | .int i :: .ref a :: st => if mm_SB ≤ a ∧ a - mm_SB < mm_str.length ∧ ¬ (i < 0 ∨ (mm_str.getD (a - mm_SB) []).length ≤ i.toNatClampNeg) ∧ (st.map fun v => v.category).sum ≤ 8 then some (ls, .int ((mm_str.getD (a - mm_SB) []).getD i.toNatClampNeg 0) :: st, μ) else none
    | _ => none) else none
  | .invokestatic _ => if x.2.1 = 9003 then (match st with
    | .int n :: .int dp :: .ref b :: .int sp :: .ref a :: st => match μ.2.2.2.1[a]?, μ.2.2.2.1[b]? with
      | some (ta, na), some (tb, nb) => if ta = 100 ∧ tb = 100 ∧ ¬ n < 0 ∧ ¬ sp < 0 ∧ ¬ dp < 0 ∧ sp.toNatClampNeg + n.toNatClampNeg ≤ na ∧ dp.toNatClampNeg + n.toNatClampNeg ≤ nb ∧ (st.map fun v => v.category).sum ≤ 8 then
          some (ls, st, ((fun c => if c = b then va_cpy (μ.1 a) (μ.1 b) sp.toNatClampNeg dp.toNatClampNeg n.toNatClampNeg else μ.1 c), μ.2)) else none
      | _, _ => none
    | _ => none) else if x.2.1 = 9004 then (match st with
    | .int z :: .int w :: st => if (st.map fun v => v.category).sum ≤ 8 then some (ls, .int (if w < z then z else w) :: st, μ) else none
    | _ => none) else if x.2.1 = 9005 then (match st with
    | .int z :: .int w :: st => if (st.map fun v => v.category).sum ≤ 8 then some (ls, .int (if z < w then z else w) :: st, μ) else none
    | _ => none) else if x.2.1 = 9006 then (match st with
    | .long z :: .long w :: st => if (st.map fun v => v.category).sum ≤ 8 then some (ls, .long (if z < w then w else z) :: st, μ) else none
    | _ => none) else none
  | .new _ => if x.2.1 < 9 ∧ st.all (mm_okv μ.2.2.2.1.length) = true ∧ ls.all (mm_okv μ.2.2.2.1.length) = true ∧ mm_okS μ.2.1 μ.2.2.2.1 = true ∧ μ.2.2.2.1.length < 1000 then
      some (ls, .ref μ.2.2.2.1.length :: st, ((fun c => if c = μ.2.2.2.1.length then (fun _ => 0) else μ.1 c), (fun c => if c = μ.2.2.2.1.length then (fun _ => mm_NU) else μ.2.1 c), (fun c => if c = μ.2.2.2.1.length then (fun _ => 0) else μ.2.2.1 c), μ.2.2.2.1 ++ [(x.2.1, (mm_fks.getD x.2.1 []).length)], μ.2.2.2.2.1 + 1, μ.2.2.2.2.2 + (mm_fks.getD x.2.1 []).length)) else none
  | .newarray ty => match st with
    | .int n :: st => if ¬ n < 0 ∧ n.toNatClampNeg ≤ 100000 ∧ st.all (mm_okv μ.2.2.2.1.length) = true ∧ ls.all (mm_okv μ.2.2.2.1.length) = true ∧ mm_okS μ.2.1 μ.2.2.2.1 = true ∧ μ.2.2.2.1.length < 1000 then
      (match newarray.typeOf ty with
      | .int => some (ls, .ref μ.2.2.2.1.length :: st, ((fun c => if c = μ.2.2.2.1.length then (fun _ => 0) else μ.1 c), (fun c => if c = μ.2.2.2.1.length then (fun _ => mm_NU) else μ.2.1 c), (fun c => if c = μ.2.2.2.1.length then (fun _ => 0) else μ.2.2.1 c), μ.2.2.2.1 ++ [(100, n.toNatClampNeg)], μ.2.2.2.2.1 + 1, μ.2.2.2.2.2 + n.toNatClampNeg))
      | .boolean => some (ls, .ref μ.2.2.2.1.length :: st, ((fun c => if c = μ.2.2.2.1.length then (fun _ => 0) else μ.1 c), (fun c => if c = μ.2.2.2.1.length then (fun _ => mm_NU) else μ.2.1 c), (fun c => if c = μ.2.2.2.1.length then (fun _ => 0) else μ.2.2.1 c), μ.2.2.2.1 ++ [(101, n.toNatClampNeg)], μ.2.2.2.2.1 + 1, μ.2.2.2.2.2 + n.toNatClampNeg))
      | .long => some (ls, .ref μ.2.2.2.1.length :: st, ((fun c => if c = μ.2.2.2.1.length then (fun _ => 0) else μ.1 c), (fun c => if c = μ.2.2.2.1.length then (fun _ => mm_NU) else μ.2.1 c), (fun c => if c = μ.2.2.2.1.length then (fun _ => 0) else μ.2.2.1 c), μ.2.2.2.1 ++ [(102, n.toNatClampNeg)], μ.2.2.2.2.1 + 1, μ.2.2.2.2.2 + n.toNatClampNeg))
      | _ => none) else none
    | _ => none
  | _ => none
/-- a jump: some label, or on -/
def mm_jmp (x : mm_I) (st : List Value) : Option (Option Nat × List Value) :=
  match x.1 with
  | .goto _ => some (some x.2.1, st)
  | .ifCond cd _ => match st with
    | .int v :: st => match cd with
      | .eq => if v = 0 then some (some x.2.1, st) else some (none, st)
      | .ne => if ¬ v = 0 then some (some x.2.1, st) else some (none, st)
      | .lt => if v < 0 then some (some x.2.1, st) else some (none, st)
      | .ge => if 0 ≤ v then some (some x.2.1, st) else some (none, st)
      | .gt => if 0 < v then some (some x.2.1, st) else some (none, st)
      | .le => if v ≤ 0 then some (some x.2.1, st) else some (none, st)
    | _ => none
  | .if_icmp cd _ => match st with
    | .int y :: .int v :: st => match cd with
      | .eq => if v = y then some (some x.2.1, st) else some (none, st)
      | .ne => if ¬ v = y then some (some x.2.1, st) else some (none, st)
      | .lt => if v < y then some (some x.2.1, st) else some (none, st)
      | .ge => if y ≤ v then some (some x.2.1, st) else some (none, st)
      | .gt => if y < v then some (some x.2.1, st) else some (none, st)
      | .le => if v ≤ y then some (some x.2.1, st) else some (none, st)
    | _ => none
  | .tableswitch dflt lo hi offs => match st with
    | .int v :: st => if v.toInt < lo ∨ hi < v.toInt then some (some ((x.2.1 : Int) + dflt).toNat, st) else match offs[(v.toInt - lo).toNat]? with
      | some off => some (some ((x.2.1 : Int) + off).toNat, st)
      | none => none
    | _ => none
  | .lookupswitch dflt ps => match st with
    | .int v :: st => some (some ((x.2.1 : Int) + Op.lookupswitch.offset ps.toList dflt v.toInt).toNat, st)
    | _ => none
  | _ => none
/-- an end: the answer -/
def mm_ret (rk : Nat) (x : mm_I) (st : List Value) : Option (Option Value) :=
  match x.1 with
  | .return_ => match st with
    | [] => if rk = 0 then some none else none
    | _ => none
  | .ireturn => match st with
    | [.int v] => if rk = 1 ∨ (rk = 2 ∧ (v = 0 ∨ v = 1)) then some (some (.int v)) else none
    | _ => none
  | .lreturn => match st with
    | [.long v] => if rk = 3 then some (some (.long v)) else none
    | _ => none
  | .areturn => match st with
    | [.ref v] => if rk = 4 then some (some (.ref v)) else none
    | _ => none
  | _ => none
/-- a throw: the kind of the exception -/
def mm_thr (x : mm_I) (st : List Value) : Option Nat :=
  match x.1 with
  | .new _ => if 900 ≤ x.2.1 ∧ x.2.1 < 902 ∧ (st.map fun v => v.category).sum ≤ 8 then some (x.2.1 - 900) else none
  | _ => none
/-- a call: the method, its arguments, what stays on the stack -/
def mm_call (x : mm_I) (st : List Value) (μ : mm_M) : Option (Nat × List Value × List Value) :=
  match x.1 with
  | .invokevirtual _ => if x.2.1 < 9000 ∧ x.2.2.1 ≤ st.length ∧ ((st.drop x.2.2.1).map fun v => v.category).sum ≤ 8 then (match (st.take x.2.2.1).reverse with
      | .ref a :: vs => (match μ.2.2.2.1[a]? with
        | some (ci, _) => if ci = mm_ci x.2.1 ∧ (mm_ent1 (.ref a :: vs)).length ≤ mm_mx x.2.1 then some (x.2.1, .ref a :: vs, st.drop x.2.2.1) else none
        | none => none)
      | _ => none) else none
  | .invokespecial _ => if x.2.1 < 9000 ∧ x.2.2.1 ≤ st.length ∧ ((st.drop x.2.2.1).map fun v => v.category).sum ≤ 8 then (match (st.take x.2.2.1).reverse with
      | .ref a :: vs => if (mm_ent1 (.ref a :: vs)).length ≤ mm_mx x.2.1 then some (x.2.1, .ref a :: vs, st.drop x.2.2.1) else none
      | _ => none) else none
  | .invokestatic _ => if x.2.1 < 9000 ∧ x.2.2.1 ≤ st.length ∧ ((st.drop x.2.2.1).map fun v => v.category).sum ≤ 8 ∧ (mm_ent1 (st.take x.2.2.1).reverse).length ≤ mm_mx x.2.1 then some (x.2.1, (st.take x.2.2.1).reverse, st.drop x.2.2.1) else none
  | _ => none
/-- no new cell has come, or what stays holds none of the addresses between -/
def mm_keep (μ μ1 : mm_M) (ls st : List Value) : Prop := μ1.2.2.2.1.length = μ.2.2.2.1.length ∨ (ls.all (mm_okv μ.2.2.2.1.length) = true ∧ st.all (mm_okv μ.2.2.2.1.length) = true)
/-- a handler's first instruction lays the exception aside -/
def mm_ast (is : List mm_I) : Option (Nat × List mm_I) := match is with
  | x :: r => (match x.1 with
    | .astore i => some (i, r)
    | .astore_n i => some ((i : Nat), r)
    | _ => none)
  | [] => none
def mm_run (G : mm_G) : Nat → Nat → Nat → List mm_I → List Value → List Value → mm_M → Option mm_R
  | 0, _, _, _, _, _, _ => none
  | n + 1, d, k, is, ls, st, μ => match is with
    | [] => none
    | x :: is => match mm_one G x ls st μ with
      | some (ls', st', μ') => mm_run G n d k is ls' st' μ'
      | none => match mm_jmp x st with
        | some (none, st') => mm_run G n d k is ls st' μ
        | some (some t, st') => mm_run G n d k (mm_blk k t) ls st' μ
        | none => match mm_ret (mm_rk k) x st with
          | some r => some (.inl r, μ)
          | none => match mm_thr x st with
            | some E => some (.inr E, (μ.1, μ.2.1, μ.2.2.1, μ.2.2.2.1, μ.2.2.2.2.1 + 1, μ.2.2.2.2.2 + 6))
            | none => match mm_call x st μ with
              | none => none
              | some (kk, args, rest) => match d with
                | 0 => none
                | d + 1 => match mm_run G n d kk (mm_blk kk 0) (mm_ent (mm_mx kk) args) [] μ with
                  | none => none
                  | some (.inl v, μ1) => if μ1.2.2.2.1.length = μ.2.2.2.1.length ∨ (ls.all (mm_okv μ.2.2.2.1.length) = true ∧ rest.all (mm_okv μ.2.2.2.1.length) = true) then mm_run G n (d + 1) k is ls (v.toList ++ rest) μ1 else none
                  | some (.inr E, μ1) => match x.1 with
                    | .invokevirtual _ => (match mm_hd (mm_hs k) x.2.2.2.2.toNatClampNeg E with
                      | none => if (mm_hs k).isEmpty = true then some (.inr E, μ1) else none
                      | some h => (match mm_ast (mm_blk k h) with
                        | some (i, is2) => if i < ls.length ∧ μ1.2.2.2.1.length = μ.2.2.2.1.length then mm_run G n (d + 1) k is2 (mm_s1 i .null ls) [] μ1 else none
                        | none => none))
                    | _ => none
