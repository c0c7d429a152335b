/-! THE ABSTRACT MACHINE: references are places of a world, arrays are lists; it steps through the bytecode of the tables -/
/-- a cell: an array (0 of ints, 1 of bytes, 2 of Sheets), or an object (its class in the tables, its fields) -/
abbrev rv_E : Type := (Nat × (List Int32 ⊕ List (Option Nat))) ⊕ (Nat × List Value)
abbrev rv_W : Type := List rv_E
abbrev rv_L : Type := List (Option Value)
abbrev rv_X : Type := Option Value × rv_W
/-- an instruction: itself, its length, two numbers, the place of its word, a constant, the locals that are dead ahead of it -/
abbrev rv_I : Type := Jvm.ClassFile.Instr × Nat × Nat × Nat × Nat × Int32 × List Nat
abbrev rv_C : Type := List (Nat × rv_I)
abbrev rv_G : Type := Nat → rv_L → List Value → rv_W → Option rv_X
abbrev rv_F : Type := Nat → List Value → rv_W → Option rv_X
def rv_tab {α : Type} (n : Nat) (f : Nat → α) : List α := (List.range n).map f
def rv_get : rv_L → Nat → Option Value
  | [], _ => none
  | x :: _, 0 => x
  | _ :: l, n + 1 => rv_get l n
def rv_clr1 (lv : rv_L) (j : Nat) : Option Value → rv_L
  | some (.long _) => lv.set j none
  | some (.double _) => lv.set j none
  | _ => lv
def rv_clr (lv : rv_L) : Nat → rv_L
  | 0 => lv
  | j + 1 => rv_clr1 lv j (rv_get lv j)
def rv_put (lv : rv_L) (i : Nat) (v : Value) : rv_L := (rv_clr lv i).set i (some v)
def rv_put2 (lv : rv_L) (i : Nat) (v : Value) : rv_L := ((rv_clr lv i).set i (some v)).set (i + 1) none
def rv_kill : List Nat → rv_L → rv_L
  | [], lv => lv
  | i :: is, lv => rv_kill is (lv.set i none)
def rv_ent : Nat → List Value → rv_L
  | n, [] => List.replicate n none
  | n, .long x :: vs => some (.long x) :: none :: rv_ent (n - 2) vs
  | n, .double x :: vs => some (.double x) :: none :: rv_ent (n - 2) vs
  | n, v :: vs => some v :: rv_ent (n - 1) vs
def rv_oi (o : Option Value) (K : Int32 → Option rv_X) : Option rv_X := match o with
  | some (.int x) => K x
  | _ => none
def rv_ol (o : Option Value) (K : Int64 → Option rv_X) : Option rv_X := match o with
  | some (.long x) => K x
  | _ => none
def rv_oa (o : Option Value) (K : Nat → Option rv_X) : Option rv_X := match o with
  | some (.ref x) => K x
  | _ => none
def rv_gi (lv : rv_L) (i : Nat) (K : Int32 → Option rv_X) : Option rv_X := rv_oi (rv_get lv i) K
def rv_gl (lv : rv_L) (i : Nat) (K : Int64 → Option rv_X) : Option rv_X := rv_ol (rv_get lv i) K
def rv_ga (lv : rv_L) (i : Nat) (K : Nat → Option rv_X) : Option rv_X := rv_oa (rv_get lv i) K
def rv_end (st : List Value) (o : Option rv_X) : Option rv_X := match st with
  | [] => o
  | _ => none
def rv_i1 (st : List Value) (K : Int32 → List Value → Option rv_X) : Option rv_X := match st with
  | .int x :: r => K x r
  | _ => none
def rv_i2 (st : List Value) (K : Int32 → Int32 → List Value → Option rv_X) : Option rv_X := match st with
  | .int y :: .int x :: r => K x y r
  | _ => none
def rv_l1 (st : List Value) (K : Int64 → List Value → Option rv_X) : Option rv_X := match st with
  | .long x :: r => K x r
  | _ => none
def rv_l2 (st : List Value) (K : Int64 → Int64 → List Value → Option rv_X) : Option rv_X := match st with
  | .long y :: .long x :: r => K x y r
  | _ => none
def rv_li (st : List Value) (K : Int64 → Int32 → List Value → Option rv_X) : Option rv_X := match st with
  | .int y :: .long x :: r => K x y r
  | _ => none
def rv_a1 (st : List Value) (K : Nat → List Value → Option rv_X) : Option rv_X := match st with
  | .ref x :: r => K x r
  | _ => none
def rv_ai (st : List Value) (K : Nat → Int32 → List Value → Option rv_X) : Option rv_X := match st with
  | .int i :: .ref x :: r => K x i r
  | _ => none
def rv_aii (st : List Value) (K : Nat → Int32 → Int32 → List Value → Option rv_X) : Option rv_X := match st with
  | .int v :: .int i :: .ref x :: r => K x i v r
  | _ => none
def rv_aa (st : List Value) (K : Nat → Nat → List Value → Option rv_X) : Option rv_X := match st with
  | .ref y :: .ref x :: r => K x y r
  | _ => none
def rv_iaR (st : List Value) (K : Nat → Int32 → List Value → Option rv_X) : Option rv_X := match st with
  | .int v :: .ref x :: r => K x v r
  | _ => none
def rv_v1 (st : List Value) (K : Value → List Value → Option rv_X) : Option rv_X := match st with
  | .int x :: r => K (.int x) r
  | .ref x :: r => K (.ref x) r
  | _ => none
def rv_v2 (st : List Value) (K : Value → Value → List Value → Option rv_X) : Option rv_X := match st with
  | .int y :: .int x :: r => K (.int x) (.int y) r
  | .int y :: .ref x :: r => K (.ref x) (.int y) r
  | _ => none
def rv_cp (st : List Value) (K : Nat → Int32 → Nat → Int32 → Int32 → List Value → Option rv_X) : Option rv_X := match st with
  | .int n :: .int dp :: .ref d :: .int sp :: .ref s :: r => K s sp d dp n r
  | _ => none
/-- what nobody writes: the bytes of the String constants, the row of the kinds -/
def rv_ix {α : Type} (xs : List α) (i : Int32) : Option α := if i < 0 then none else xs[i.toNatClampNeg]?
def rv_ints (w : rv_W) (a : Nat) : Option (List Int32) := match w[a]? with
  | some (.inl (0, .inl xs)) => some xs
  | _ => none
def rv_byts (w : rv_W) (a : Nat) : Option (List Int32) := match w[a]? with
  | some (.inl (1, .inl xs)) => some xs
  | _ => none
def rv_refs (w : rv_W) (a : Nat) : Option (List (Option Nat)) := match w[a]? with
  | some (.inl (2, .inr xs)) => some xs
  | _ => none
def rv_ldI (w : rv_W) (a : Nat) (i : Int32) : Option Int32 := (if a = 3000 then some rv_above else rv_ints w a).bind fun xs => rv_ix xs i
def rv_ldB (w : rv_W) (a : Nat) (i : Int32) : Option Int32 := (if 2000 ≤ a then rv_strB[a - 2000]? else rv_byts w a).bind fun xs => rv_ix xs i
def rv_ldQ (w : rv_W) (a : Nat) (i : Int32) : Option Nat := (rv_refs w a).bind fun xs => (rv_ix xs i).bind id
def rv_len (w : rv_W) (a : Nat) : Option Int32 := if 2000 ≤ a then (rv_strB[a - 2000]?).map (fun xs => Int32.ofNat xs.length) else match w[a]? with
  | some (.inl (0, .inl xs)) => some (Int32.ofNat xs.length)
  | some (.inl (1, .inl xs)) => some (Int32.ofNat xs.length)
  | some (.inl (2, .inr xs)) => some (Int32.ofNat xs.length)
  | _ => none
def rv_stI (w : rv_W) (a : Nat) (i x : Int32) : Option rv_W := (rv_ints w a).bind fun xs => (rv_ix xs i).bind fun _ => some (w.set a (.inl (0, .inl (xs.set i.toNatClampNeg x))))
def rv_stB (w : rv_W) (a : Nat) (i x : Int32) : Option rv_W := (rv_byts w a).bind fun xs => (rv_ix xs i).bind fun _ => some (w.set a (.inl (1, .inl (xs.set i.toNatClampNeg x.toInt8.toInt32))))
def rv_obj (w : rv_W) (a ci : Nat) : Option (List Value) := match w[a]? with
  | some (.inr (cj, fs)) => if cj = ci then some fs else none
  | _ => none
def rv_ldFI (w : rv_W) (a ci k : Nat) : Option Int32 := (rv_obj w a ci).bind fun fs => match fs[k]? with
  | some (.int x) => some x
  | _ => none
def rv_ldFR (w : rv_W) (a ci k : Nat) : Option Nat := (rv_obj w a ci).bind fun fs => match fs[k]? with
  | some (.ref x) => some x
  | _ => none
def rv_stF (w : rv_W) (a ci k : Nat) (v : Value) : Option rv_W := (rv_obj w a ci).bind fun fs => if k < fs.length then some (w.set a (.inr (ci, fs.set k v))) else none
def rv_cpy (w : rv_W) (s : Nat) (sp : Int32) (d : Nat) (dp n : Int32) : Option rv_W := (rv_ints w s).bind fun xs => (rv_ints w d).bind fun ys =>
  if 0 ≤ sp ∧ 0 ≤ dp ∧ 0 ≤ n ∧ sp.toNatClampNeg + n.toNatClampNeg ≤ xs.length ∧ dp.toNatClampNeg + n.toNatClampNeg ≤ ys.length
  then some (w.set d (.inl (0, .inl (rv_tab ys.length (va_cpy (fun j => xs.getD j 0) (fun j => ys.getD j 0) sp.toNatClampNeg dp.toNatClampNeg n.toNatClampNeg))))) else none
/-- jumps -/
def rv_to (pc : Nat) (off : Int) : Nat := ((pc : Int) + off).toNat
/-- conditions that nobody unfolds -/
noncomputable def rv_eq (x y : Int32) : Bool := @decide (x = y) (Classical.propDecidable _)
noncomputable def rv_eqL (x y : Int64) : Bool := @decide (x = y) (Classical.propDecidable _)
def rv_bz (x : Int32) : Bool := Nat.ble x.toUInt32.toNat 1
def rv_ch (x : Int32) : Bool := Nat.ble x.toUInt32.toNat 255
def rv_zz (x : Int32) : Bool := Nat.ble x.toUInt32.toNat 0
noncomputable def rv_tsw (G : Nat → Option rv_X) (pc : Nat) (x : Int32) (d : Int) : Int → List Int → Option rv_X
  | _, [] => G (rv_to pc d)
  | lo, o :: os => cond (rv_eq x (Int32.ofInt lo)) (G (rv_to pc o)) (rv_tsw G pc x d (lo + 1) os)
noncomputable def rv_lsw (G : Nat → Option rv_X) (pc : Nat) (x : Int32) (d : Int) : List (Int × Int) → Option rv_X
  | [] => G (rv_to pc d)
  | q :: os => cond (rv_eq x (Int32.ofInt q.1)) (G (rv_to pc q.2)) (rv_lsw G pc x d os)
noncomputable def rv_cnd (c : Jvm.ClassFile.Cond) (x y : Int32) : Bool := match c with
  | .eq => @decide (x = y) (Classical.propDecidable _)
  | .ne => @decide (¬ x = y) (Classical.propDecidable _)
  | .lt => @decide (x < y) (Classical.propDecidable _)
  | .ge => @decide (y ≤ x) (Classical.propDecidable _)
  | .gt => @decide (y < x) (Classical.propDecidable _)
  | .le => @decide (x ≤ y) (Classical.propDecidable _)
/-- what a call gives, by the kind of its answer: 0 nothing, 1 an int, 2 a long, 3 a reference -/
def rv_ri (o : Option rv_X) : Option (Int32 × rv_W) := o.bind fun q => match q.1 with
  | some (.int x) => some (x, q.2)
  | _ => none
def rv_rl (o : Option rv_X) : Option (Int64 × rv_W) := o.bind fun q => match q.1 with
  | some (.long x) => some (x, q.2)
  | _ => none
def rv_rr (o : Option rv_X) : Option (Nat × rv_W) := o.bind fun q => match q.1 with
  | some (.ref x) => some (x, q.2)
  | _ => none
def rv_rv (o : Option rv_X) : Option rv_W := o.bind fun q => match q.1 with
  | none => some q.2
  | _ => none
def rv_max (x y : Int32) : Int32 := if x < y then y else x
def rv_min (x y : Int32) : Int32 := if y < x then y else x
/-- a decision of the machine's own, that its tables settle -/
def rv_if (b : Bool) (x y : Option rv_X) : Option rv_X := match b with
  | true => x
  | false => y
def rv_ob {α β : Type} (o : Option α) (f : α → Option β) : Option β := match o with
  | some x => f x
  | none => none
def rv_call (G : rv_G) (E : rv_F) (a b pc : Nat) (lv : rv_L) (st : List Value) (w : rv_W) : Option rv_X :=
  rv_if (Nat.ble (b / 4) st.length && Nat.ble ((st.drop (b / 4)).map Value.category).sum 8) (rv_if (Nat.beq (b % 4) 1) ((rv_ri (E a (st.take (b / 4)).reverse w)).bind fun q => G (pc + 3) lv (.int q.1 :: st.drop (b / 4)) q.2)
    (rv_if (Nat.beq (b % 4) 0) ((rv_rv (E a (st.take (b / 4)).reverse w)).bind fun q => G (pc + 3) lv (st.drop (b / 4)) q)
    (rv_if (Nat.beq (b % 4) 2) ((rv_rl (E a (st.take (b / 4)).reverse w)).bind fun q => G (pc + 3) lv (.long q.1 :: st.drop (b / 4)) q.2)
    ((rv_rr (E a (st.take (b / 4)).reverse w)).bind fun q => G (pc + 3) lv (.ref q.1 :: st.drop (b / 4)) q.2)))) none
noncomputable def rv_stepI (G : rv_G) (E : rv_F) (a b : Nat) (c : Int32) (pc : Nat) (lv : rv_L) (st : List Value) (w : rv_W) : Jvm.ClassFile.Instr → Option rv_X
  | .iconst _ => G (pc + 1) lv (.int c :: st) w
  | .bipush _ => G (pc + 2) lv (.int c :: st) w
  | .sipush _ => G (pc + 3) lv (.int c :: st) w
  | .ldc _ => rv_if (Nat.beq a 0) (G (pc + 2) lv (.int c :: st) w) (G (pc + 2) lv (.ref (1000 + b) :: st) w)
  | .ldc_w _ => G (pc + 3) lv (.int c :: st) w
  | .ldc2_w _ => G (pc + 3) lv (.long c.toInt64 :: st) w
  | .lconst _ => G (pc + 1) lv (.long c.toInt64 :: st) w
  | .iload i => rv_gi lv i fun x => G (pc + 2) lv (.int x :: st) w
  | .iload_n i => rv_gi lv i.val fun x => G (pc + 1) lv (.int x :: st) w
  | .lload i => rv_gl lv i fun x => G (pc + 2) lv (.long x :: st) w
  | .lload_n i => rv_gl lv i.val fun x => G (pc + 1) lv (.long x :: st) w
  | .aload i => rv_ga lv i fun x => G (pc + 2) lv (.ref x :: st) w
  | .aload_n i => rv_ga lv i.val fun x => G (pc + 1) lv (.ref x :: st) w
  | .istore i => rv_i1 st fun x r => G (pc + 2) (rv_put lv i (.int x)) r w
  | .istore_n i => rv_i1 st fun x r => G (pc + 1) (rv_put lv i.val (.int x)) r w
  | .lstore i => rv_l1 st fun x r => G (pc + 2) (rv_put2 lv i (.long x)) r w
  | .lstore_n i => rv_l1 st fun x r => G (pc + 1) (rv_put2 lv i.val (.long x)) r w
  | .astore i => rv_a1 st fun x r => G (pc + 2) (rv_put lv i (.ref x)) r w
  | .astore_n i => rv_a1 st fun x r => G (pc + 1) (rv_put lv i.val (.ref x)) r w
  | .iinc i _ => rv_gi lv i fun x => G (pc + 3) (rv_put lv i (.int (x + c))) st w
  | .iadd => rv_i2 st fun x y r => G (pc + 1) lv (.int (x + y) :: r) w
  | .isub => rv_i2 st fun x y r => G (pc + 1) lv (.int (x - y) :: r) w
  | .imul => rv_i2 st fun x y r => G (pc + 1) lv (.int (x * y) :: r) w
  | .iand => rv_i2 st fun x y r => G (pc + 1) lv (.int (x &&& y) :: r) w
  | .ior => rv_i2 st fun x y r => G (pc + 1) lv (.int (x ||| y) :: r) w
  | .ixor => rv_i2 st fun x y r => G (pc + 1) lv (.int (x ^^^ y) :: r) w
  | .ishl => rv_i2 st fun x y r => G (pc + 1) lv (.int (x <<< (y &&& 31)) :: r) w
  | .ishr => rv_i2 st fun x y r => G (pc + 1) lv (.int (x >>> (y &&& 31)) :: r) w
  | .iushr => rv_i2 st fun x y r => G (pc + 1) lv (.int (x.toUInt32 >>> (y.toUInt32 &&& Int32.toUInt32 31)).toInt32 :: r) w
  | .idiv => rv_i2 st fun x y r => cond (rv_eq y 0) none (G (pc + 1) lv (.int (x / y) :: r) w)
  | .irem => rv_i2 st fun x y r => cond (rv_eq y 0) none (G (pc + 1) lv (.int (x - x / y * y) :: r) w)
  | .lmul => rv_l2 st fun x y r => G (pc + 1) lv (.long (x * y) :: r) w
  | .land => rv_l2 st fun x y r => G (pc + 1) lv (.long (x &&& y) :: r) w
  | .lor => rv_l2 st fun x y r => G (pc + 1) lv (.long (x ||| y) :: r) w
  | .ldiv => rv_l2 st fun x y r => cond (rv_eqL y 0) none (G (pc + 1) lv (.long (x / y) :: r) w)
  | .lrem => rv_l2 st fun x y r => cond (rv_eqL y 0) none (G (pc + 1) lv (.long (x - x / y * y) :: r) w)
  | .lshl => rv_li st fun x y r => G (pc + 1) lv (.long (x <<< (y.toInt64 &&& 63)) :: r) w
  | .lshr => rv_li st fun x y r => G (pc + 1) lv (.long (x >>> (y.toInt64 &&& 63)) :: r) w
  | .lcmp => rv_l2 st fun x y r => G (pc + 1) lv (.int (lg_cmp x y) :: r) w
  | .i2l => rv_i1 st fun x r => G (pc + 1) lv (.long x.toInt64 :: r) w
  | .i2b => rv_i1 st fun x r => G (pc + 1) lv (.int x.toInt8.toInt32 :: r) w
  | .i2s => rv_i1 st fun x r => G (pc + 1) lv (.int x.toInt16.toInt32 :: r) w
  | .i2c => rv_i1 st fun x r => G (pc + 1) lv (.int (x.toUInt32 % 65536).toInt32 :: r) w
  | .dup => rv_v1 st fun x r => G (pc + 1) lv (x :: x :: r) w
  | .dup2 => rv_v2 st fun x y r => G (pc + 1) lv (y :: x :: y :: x :: r) w
  | .pop => rv_v1 st fun _ r => G (pc + 1) lv r w
  | .ifCond q off => rv_i1 st fun x r => cond (rv_cnd q x 0) (G (rv_to pc off) lv r w) (G (pc + 3) lv r w)
  | .if_icmp q off => rv_i2 st fun x y r => cond (rv_cnd q x y) (G (rv_to pc off) lv r w) (G (pc + 3) lv r w)
  | .goto off => G (rv_to pc off) lv st w
  | .tableswitch d lo _ offs => rv_i1 st fun x r => rv_tsw (fun pc => G pc lv r w) pc x d lo offs.toList
  | .lookupswitch d ps => rv_i1 st fun x r => rv_lsw (fun pc => G pc lv r w) pc x d ps.toList
  | .iaload => rv_ai st fun p i r => (rv_ldI w p i).bind fun x => G (pc + 1) lv (.int x :: r) w
  | .baload => rv_ai st fun p i r => (rv_ldB w p i).bind fun x => G (pc + 1) lv (.int x :: r) w
  | .aaload => rv_ai st fun p i r => (rv_ldQ w p i).bind fun x => G (pc + 1) lv (.ref x :: r) w
  | .iastore => rv_aii st fun p i x r => (rv_stI w p i x).bind fun w => G (pc + 1) lv r w
  | .bastore => rv_aii st fun p i x r => (rv_stB w p i x).bind fun w => G (pc + 1) lv r w
  | .arraylength => rv_a1 st fun p r => (rv_len w p).bind fun x => G (pc + 1) lv (.int x :: r) w
  | .getfield _ => rv_a1 st fun p r => rv_if (Nat.beq (b % 10) 1) ((rv_ldFI w p a (b / 10)).bind fun x => G (pc + 3) lv (.int x :: r) w)
    (rv_if (Nat.beq (b % 10) 3) ((rv_ldFR w p a (b / 10)).bind fun x => G (pc + 3) lv (.ref x :: r) w)
    (rv_if (Nat.beq (b % 10) 4) (cond (Nat.ble 1000 p && Nat.ble p 1013) (G (pc + 3) lv (.ref (1000 + p) :: r) w) none)
    (cond (Nat.ble 1000 p && Nat.ble p 1013) (G (pc + 3) lv (.int 0 :: r) w) none)))
  | .putfield _ => rv_if (Nat.beq (b % 10) 3) (rv_aa st fun p v r => (rv_stF w p a (b / 10) (.ref v)).bind fun w => G (pc + 3) lv r w)
    (rv_if (Nat.beq (b % 10) 2) (rv_iaR st fun p v r => cond (rv_bz v) ((rv_stF w p a (b / 10) (.int v)).bind fun w => G (pc + 3) lv r w) none)
    (rv_iaR st fun p v r => (rv_stF w p a (b / 10) (.int v)).bind fun w => G (pc + 3) lv r w))
  | .getstatic _ => rv_if (Nat.beq a 0) (G (pc + 3) lv (.ref 3000 :: st) w) (rv_if (Nat.beq a 1) (G (pc + 3) lv (.int 1 :: st) w) (G (pc + 3) lv (.retAddr 0 :: st) w))
  | .invokevirtual _ => rv_call G E a b pc lv st w
  | .invokestatic _ => rv_if (Nat.beq a 9999) (rv_cp st fun s sp d dp n r => rv_if (Nat.ble (r.map Value.category).sum 8) ((rv_cpy w s sp d dp n).bind fun w => G (pc + 3) lv r w) none)
    (rv_if (Nat.beq a 9998) (rv_i2 st fun x y r => rv_if (Nat.ble (r.map Value.category).sum 8) (G (pc + 3) lv (.int (rv_max x y) :: r) w) none)
    (rv_if (Nat.beq a 9997) (rv_i2 st fun x y r => rv_if (Nat.ble (r.map Value.category).sum 8) (G (pc + 3) lv (.int (rv_min x y) :: r) w) none) (rv_call G E a b pc lv st w)))
  | .ireturn => rv_i1 st fun x r => rv_end r (rv_if (Nat.beq a 0) (some (some (.int x), w)) (rv_if (Nat.beq a 1) (cond (rv_bz x) (some (some (.int x), w)) none)
    (rv_if (Nat.beq a 2) (cond (rv_zz x) (some (some (.int x), w)) none) (cond (rv_ch x) (some (some (.int x), w)) none))))
  | .lreturn => rv_l1 st fun x r => rv_end r (some (some (.long x), w))
  | .areturn => rv_a1 st fun x r => rv_end r (some (some (.ref x), w))
  | .return_ => rv_end st (some (none, w))
  | _ => none
noncomputable def rv_step (G : rv_G) (E : rv_F) (x : rv_I) (pc : Nat) (lv : rv_L) (st : List Value) (w : rv_W) : Option rv_X :=
  match x with
  | (i, _, a, b, _, c, dead) => rv_stepI G E a b c pc (rv_kill dead lv) st w i
def rv_lk : rv_C → Nat → Option rv_I
  | [], _ => none
  | q :: l, pc => cond (Nat.beq q.1 pc) (some q.2) (rv_lk l pc)
/-- a method: its name, its bytes, its locals, its answer's type, its class in the tables (99: static, 98: String), frames and words of its room, its instructions -/
abbrev rv_M : Type := MethodName × ByteArray × Nat × Option FieldType × Nat × Nat × Nat × rv_C
def rv_isC (w : rv_W) (ci : Nat) (as : List Value) : Bool := match ci with
  | 99 => true
  | 98 => match as with
    | .ref p :: _ => decide (1000 ≤ p) && decide (p < 1014)
    | _ => false
  | _ => match as with
    | .ref p :: _ => (rv_obj w p ci).isSome
    | _ => false
