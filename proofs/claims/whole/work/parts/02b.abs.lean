/-! THE ABSTRACT MACHINE: values are the machine's, a reference is the number of an object; what it does, instruction by instruction -/
/-- a cell: an array (its type, length, contents) or an object (its class, its fields) -/
abbrev q_E : Type := (Nat × vp_A) ⊕ (Nat × List Value)
abbrev q_H : Type := Nat → q_E
abbrev q_L : Type := List (Option Value)
def q_up (h : q_H) (a : Nat) (e : q_E) : q_H := fun k => if k = a then e else h k
def q_i1 (f : Int32 → Int32) (st : List Value) : Option (List Value) := match st with
  | .int x :: r => some (.int (f x) :: r)
  | _ => none
def q_i2 (f : Int32 → Int32 → Int32) (st : List Value) : Option (List Value) := match st with
  | .int y :: .int x :: r => some (.int (f x y) :: r)
  | _ => none
def q_i2n (f : Int32 → Int32 → Int32) (st : List Value) : Option (List Value) := match st with
  | .int y :: .int x :: r => if y = 0 then none else some (.int (f x y) :: r)
  | _ => none
def q_l2 (f : Int64 → Int64 → Int64) (st : List Value) : Option (List Value) := match st with
  | .long y :: .long x :: r => some (.long (f x y) :: r)
  | _ => none
def q_ls (f : Int64 → Int32 → Int64) (st : List Value) : Option (List Value) := match st with
  | .int y :: .long x :: r => some (.long (f x y) :: r)
  | _ => none
def q_il (f : Int32 → Int64) (st : List Value) : Option (List Value) := match st with
  | .int x :: r => some (.long (f x) :: r)
  | _ => none
def q_li (f : Int64 → Int32) (st : List Value) : Option (List Value) := match st with
  | .long x :: r => some (.int (f x) :: r)
  | _ => none
def q_lc (st : List Value) : Option (List Value) := match st with
  | .long y :: .long x :: r => some (.int (lg_cmp x y) :: r)
  | _ => none
def q_dup (st : List Value) : Option (List Value) := match st with
  | v :: r => if v.category = 1 then some (v :: v :: r) else none
  | _ => none
def q_dup2 (st : List Value) : Option (List Value) := match st with
  | v :: w :: r => if v.category = 1 ∧ w.category = 1 then some (v :: w :: v :: w :: r) else none
  | _ => none
def q_pop (st : List Value) : Option (List Value) := match st with
  | v :: r => if v.category = 1 then some r else none
  | _ => none
def q_1 (o : Option (List Value)) : Option (Nat × List Value) := o.map (fun st => (1, st))
/-- instructions of the stack alone: length, stack -/
def q_alu (i : Instr) (st : List Value) : Option (Nat × List Value) := match i with
  | .iconst n => some (1, .int (Int32.ofInt n) :: st)
  | .bipush n => some (2, .int (Int8.ofInt n).toInt32 :: st)
  | .sipush n => some (3, .int (Int16.ofInt n).toInt32 :: st)
  | .lconst n => some (1, .long (Int64.ofNat (n : Nat)) :: st)
  | .iadd => q_1 (q_i2 (fun x y => x + y) st)
  | .isub => q_1 (q_i2 (fun x y => x - y) st)
  | .imul => q_1 (q_i2 (fun x y => x * y) st)
  | .iand => q_1 (q_i2 (fun x y => x &&& y) st)
  | .ior => q_1 (q_i2 (fun x y => x ||| y) st)
  | .ixor => q_1 (q_i2 (fun x y => x ^^^ y) st)
  | .idiv => q_1 (q_i2n (fun x y => x / y) st)
  | .irem => q_1 (q_i2n (fun x y => x - x / y * y) st)
  | .ineg => q_1 (q_i1 (fun x => -x) st)
  | .ishl => q_1 (q_i2 (fun x y => x <<< (y &&& 31)) st)
  | .ishr => q_1 (q_i2 (fun x y => x >>> (y &&& 31)) st)
  | .iushr => q_1 (q_i2 (fun x y => (x.toUInt32 >>> (y.toUInt32 &&& Int32.toUInt32 31)).toInt32) st)
  | .ladd => q_1 (q_l2 (fun x y => x + y) st)
  | .land => q_1 (q_l2 (fun x y => x &&& y) st)
  | .lor => q_1 (q_l2 (fun x y => x ||| y) st)
  | .lxor => q_1 (q_l2 (fun x y => x ^^^ y) st)
  | .lshl => q_1 (q_ls (fun x y => x <<< (y.toInt64 &&& 63)) st)
  | .lshr => q_1 (q_ls (fun x y => x >>> (y.toInt64 &&& 63)) st)
  | .lushr => q_1 (q_ls (fun x y => (x.toUInt64 >>> (y.toInt64.toUInt64 &&& Int64.toUInt64 63)).toInt64) st)
  | .i2l => q_1 (q_il (fun x => x.toInt64) st)
  | .l2i => q_1 (q_li (fun x => x.toInt32) st)
  | .i2b => q_1 (q_i1 (fun x => x.toInt8.toInt32) st)
  | .i2s => q_1 (q_i1 (fun x => x.toInt16.toInt32) st)
  | .i2c => q_1 (q_i1 (fun x => (x.toUInt32 % 65536).toInt32) st)
  | .lcmp => q_1 (q_lc st)
  | .dup => q_1 (q_dup st)
  | .dup2 => q_1 (q_dup2 st)
  | .pop => q_1 (q_pop st)
  | _ => none
/-- constants of the class's pool, static fields that nobody writes -/
def q_cst (o : Nat) (i : Instr) (st : List Value) : Option (Nat × List Value) := match i with
  | .ldc k => match q_con o k with
    | some v => some (2, .int v :: st)
    | none => (q_str o k).map (fun j => (2, .ref (1000 + j) :: st))
  | .ldc_w k => (q_con o k).map (fun v => (3, .int v :: st))
  | .ldc2_w k => (q_lco o k).map (fun v => (3, .long v :: st))
  | .getstatic k => if o = 4 ∧ k = 107 then some (3, .ref 1200 :: st) else if o = 11 ∧ k = 38 then some (3, .int 1 :: st) else if o = 11 ∧ k = 1053 then some (3, .retAddr 0 :: st) else none
  | _ => none
def q_ld (L : q_L) (n : Nat) : Option Value := (L[n]?).getD none
def q_ldi (k : Nat) (L : q_L) (n : Nat) (st : List Value) : Option (Nat × q_L × List Value) := match q_ld L n with
  | some (.int x) => some (k, L, .int x :: st)
  | _ => none
def q_ldl (k : Nat) (L : q_L) (n : Nat) (st : List Value) : Option (Nat × q_L × List Value) := match q_ld L n with
  | some (.long x) => some (k, L, .long x :: st)
  | _ => none
def q_lda (k : Nat) (L : q_L) (n : Nat) (st : List Value) : Option (Nat × q_L × List Value) := match q_ld L n with
  | some (.ref x) => some (k, L, .ref x :: st)
  | _ => none
/-- no long -/
def q_nl (o : Option Value) : Option Value := match o with
  | some v => if v.category = 2 then none else some v
  | none => none
/-- a long whose second half is at n goes -/
def q_clr (L : q_L) (n : Nat) : q_L := match n with
  | 0 => L
  | k + 1 => L.set k (q_nl (q_ld L k))
def q_set (L : q_L) (n : Nat) (v : Value) : q_L := (q_clr L n).set n (some v)
def q_setl (L : q_L) (n : Nat) (v : Value) : q_L := ((q_clr L n).set n (some v)).set (n + 1) none
def q_sti (k : Nat) (L : q_L) (n : Nat) (st : List Value) : Option (Nat × q_L × List Value) := match st with
  | .int x :: r => if n < L.length then some (k, q_set L n (.int x), r) else none
  | _ => none
def q_sta (k : Nat) (L : q_L) (n : Nat) (st : List Value) : Option (Nat × q_L × List Value) := match st with
  | .ref x :: r => if n < L.length then some (k, q_set L n (.ref x), r) else none
  | _ => none
def q_stl (k : Nat) (L : q_L) (n : Nat) (st : List Value) : Option (Nat × q_L × List Value) := match st with
  | .long x :: r => if n + 1 < L.length then some (k, q_setl L n (.long x), r) else none
  | _ => none
def q_inc (L : q_L) (n : Nat) (z : Int) (st : List Value) : Option (Nat × q_L × List Value) := match q_ld L n with
  | some (.int x) => if n < L.length then some (3, q_set L n (.int (x + Int32.ofInt z)), st) else none
  | _ => none
/-- instructions of the locals -/
def q_lop (i : Instr) (L : q_L) (st : List Value) : Option (Nat × q_L × List Value) := match i with
  | .iload n => q_ldi 2 L n st
  | .iload_n n => q_ldi 1 L n st
  | .lload n => q_ldl 2 L n st
  | .lload_n n => q_ldl 1 L n st
  | .aload n => q_lda 2 L n st
  | .aload_n n => q_lda 1 L n st
  | .istore n => q_sti 2 L n st
  | .istore_n n => q_sti 1 L n st
  | .astore n => q_sta 2 L n st
  | .astore_n n => q_sta 1 L n st
  | .lstore n => q_stl 2 L n st
  | .lstore_n n => q_stl 1 L n st
  | .iinc n z => q_inc L n z st
  | _ => none
def q_tgt (pc : Nat) (off : Int) : Option Nat := if 0 ≤ (pc : Int) + off then some ((pc : Int) + off).toNat else none
def q_c1 (c : Jvm.ClassFile.Cond) (x : Int32) : Bool := match c with
  | .eq => decide (x = 0)
  | .ne => decide (¬ x = 0)
  | .lt => decide (x < 0)
  | .ge => decide (0 ≤ x)
  | .gt => decide (0 < x)
  | .le => decide (x ≤ 0)
def q_c2 (c : Jvm.ClassFile.Cond) (x y : Int32) : Bool := match c with
  | .eq => decide (x = y)
  | .ne => decide (¬ x = y)
  | .lt => decide (x < y)
  | .ge => decide (y ≤ x)
  | .gt => decide (y < x)
  | .le => decide (x ≤ y)
def q_tsw (pc : Nat) (d lo hi : Int) (offs : Array Int) (x : Int32) : Option Nat := if x.toInt < lo ∨ hi < x.toInt then q_tgt pc d else match offs[(x.toInt - lo).toNat]? with
  | some o => q_tgt pc o
  | none => none
def q_lsw (pc : Nat) (d : Int) (ps : Array (Int × Int)) (x : Int32) : Option Nat := if (ps.toList.zip (ps.toList.drop 1)).all (fun (a, next) => a.1 < next.1) = true then q_tgt pc (Op.lookupswitch.offset ps.toList d x.toInt) else none
/-- jumps: the length that they must have (0: any), where to, the stack -/
def q_br (i : Instr) (len pc : Nat) (st : List Value) : Option (Nat × List Value) := match i with
  | .goto off => if len = 3 then (q_tgt pc off).map (fun t => (t, st)) else none
  | .ifCond c off => if len = 3 then (match st with
    | .int x :: r => (q_tgt pc off).map (fun t => (if q_c1 c x = true then t else pc + 3, r))
    | _ => none) else none
  | .if_icmp c off => if len = 3 then (match st with
    | .int y :: .int x :: r => (q_tgt pc off).map (fun t => (if q_c2 c x y = true then t else pc + 3, r))
    | _ => none) else none
  | .tableswitch d lo hi offs => (match st with
    | .int x :: r => (q_tsw pc d lo hi offs x).map (fun t => (t, r))
    | _ => none)
  | .lookupswitch d ps => (match st with
    | .int x :: r => (q_lsw pc d ps x).map (fun t => (t, r))
    | _ => none)
  | _ => none
/-- the field types of a class -/
def q_fty (ci k : Nat) : FieldType := match ci with
  | 0 => tyX0 k
  | 1 => tyX1 k
  | 2 => tyX2 k
  | 3 => tyX3 k
  | 4 => tyX4 k
  | 5 => tyX5 k
  | 6 => tyX6 k
  | 7 => tyX7 k
  | _ => tyX8 k
def q_ffin (ci k : Nat) : Bool := ((vwCl[ci]?).map (fun q => (q.2.1 k).2.2.2)).getD true
def q_fN (ci : Nat) : Nat := ((vwCl[ci]?).map (fun q => q.2.2)).getD 0
def q_fit (ty : FieldType) (v : Value) : Bool := decide (narrow ty v = v) && fits ty v
def q_getf (o k : Nat) (h : q_H) (N : Nat) (st : List Value) : Option (List Value) := match st with
  | .ref a :: r => if a < N ∨ 1000 ≤ a then (match q_fld o k, h a with
    | some (ci, j), .inr (cj, fs) => if ci = cj then (fs[j]?).map (fun v => v :: r) else none
    | _, _ => none) else none
  | _ => none
def q_putf (o k : Nat) (ini : Bool) (h : q_H) (N : Nat) (st : List Value) : Option (List Value × q_H) := match st with
  | v :: .ref a :: r => if a < N then (match q_fld o k, h a with
    | some (ci, j), .inr (cj, fs) => if ci = cj ∧ j < fs.length ∧ (q_ffin ci j = false ∨ (ini = true ∧ o = ci)) ∧ q_fit (q_fty ci j) v = true then some (r, q_up h a (.inr (cj, fs.set j v))) else none
    | _, _ => none) else none
  | _ => none
def q_iald (h : q_H) (N : Nat) (st : List Value) : Option (List Value) := match st with
  | .int i :: .ref a :: r => if a < N ∨ 1000 ≤ a then (match h a with
    | .inl (0, (n, .inl f)) => if i < 0 ∨ n ≤ i.toNatClampNeg then none else some (.int (f i.toNatClampNeg) :: r)
    | _ => none) else none
  | _ => none
def q_bald (h : q_H) (N : Nat) (st : List Value) : Option (List Value) := match st with
  | .int i :: .ref a :: r => if a < N ∨ 1000 ≤ a then (match h a with
    | .inl (1, (n, .inl f)) => if i < 0 ∨ n ≤ i.toNatClampNeg then none else some (.int (f i.toNatClampNeg) :: r)
    | .inl (3, (n, .inl f)) => if i < 0 ∨ n ≤ i.toNatClampNeg then none else some (.int (f i.toNatClampNeg) :: r)
    | _ => none) else none
  | _ => none
def q_lald (h : q_H) (N : Nat) (st : List Value) : Option (List Value) := match st with
  | .int i :: .ref a :: r => if a < N ∨ 1000 ≤ a then (match h a with
    | .inl (2, (n, .inr (.inl f))) => if i < 0 ∨ n ≤ i.toNatClampNeg then none else some (.long (f i.toNatClampNeg) :: r)
    | _ => none) else none
  | _ => none
def q_aald (h : q_H) (N : Nat) (st : List Value) : Option (List Value) := match st with
  | .int i :: .ref a :: r => if a < N then (match h a with
    | .inl (t, (n, .inr (.inr (.inr (.inr f))))) => if i < 0 ∨ n ≤ i.toNatClampNeg ∨ t < 4 ∨ 6 < t then none else (f i.toNatClampNeg).map (fun k => .ref k :: r)
    | _ => none) else none
  | _ => none
def q_alen (h : q_H) (N : Nat) (st : List Value) : Option (List Value) := match st with
  | .ref a :: r => if a < N ∨ 1000 ≤ a then (match h a with
    | .inl (t, (n, _)) => if t < 7 then some (.int (Int32.ofNat n) :: r) else none
    | _ => none) else none
  | _ => none
def q_iast (h : q_H) (N : Nat) (st : List Value) : Option (List Value × q_H) := match st with
  | .int x :: .int i :: .ref a :: r => if a < N then (match h a with
    | .inl (0, (n, .inl f)) => if i < 0 ∨ n ≤ i.toNatClampNeg then none else some (r, q_up h a (.inl (0, (n, .inl (upd f i.toNatClampNeg x)))))
    | _ => none) else none
  | _ => none
def q_bast (h : q_H) (N : Nat) (st : List Value) : Option (List Value × q_H) := match st with
  | .int x :: .int i :: .ref a :: r => if a < N then (match h a with
    | .inl (1, (n, .inl f)) => if i < 0 ∨ n ≤ i.toNatClampNeg then none else some (r, q_up h a (.inl (1, (n, .inl (upd f i.toNatClampNeg (vp_nar .byte x))))))
    | .inl (3, (n, .inl f)) => if i < 0 ∨ n ≤ i.toNatClampNeg then none else some (r, q_up h a (.inl (3, (n, .inl (upd f i.toNatClampNeg (vp_nar .boolean x))))))
    | _ => none) else none
  | _ => none
def q_last (h : q_H) (N : Nat) (st : List Value) : Option (List Value × q_H) := match st with
  | .long x :: .int i :: .ref a :: r => if a < N then (match h a with
    | .inl (2, (n, .inr (.inl f))) => if i < 0 ∨ n ≤ i.toNatClampNeg then none else some (r, q_up h a (.inl (2, (n, .inr (.inl (vp_updL f i.toNatClampNeg x))))))
    | _ => none) else none
  | _ => none
def q_copy (h : q_H) (N : Nat) (st : List Value) : Option (List Value × q_H) := match st with
  | .int n :: .int dp :: .ref a :: .int sp :: .ref a0 :: r => if a < N ∧ a0 < N then (match h a0, h a with
    | .inl (0, (n0, .inl f)), .inl (0, (n1, .inl g)) => if ¬ sp < 0 ∧ ¬ dp < 0 ∧ ¬ n < 0 ∧ sp.toNatClampNeg + n.toNatClampNeg ≤ n0 ∧ dp.toNatClampNeg + n.toNatClampNeg ≤ n1 ∧ (r.map fun v => v.category).sum ≤ 8 then some (r, q_up h a (.inl (0, (n1, .inl (va_cpy f g sp.toNatClampNeg dp.toNatClampNeg n.toNatClampNeg))))) else none
    | _, _ => none) else none
  | _ => none
/-! making cells: the next number is the new cell's; a reference in what there is must be one of a cell that there is -/
def q_wfV (N : Nat) (v : Value) : Prop := ∀ k : Nat, v = .ref k → k < N ∨ 1000 ≤ k
def q_wfE (N : Nat) (e : q_E) : Prop := match e with
  | .inl (_, (_, .inr (.inr (.inr (.inr f))))) => ∀ i k : Nat, f i = some k → k < N
  | .inr (_, fs) => ∀ v ∈ fs, q_wfV N v
  | _ => True
def q_wf (N : Nat) (L : q_L) (st : List Value) (h : q_H) : Prop := (∀ v : Value, some v ∈ L → q_wfV N v) ∧ (∀ v ∈ st, q_wfV N v) ∧ ∀ k : Nat, k < N → q_wfE N (h k)
def q_def (ci : Nat) : List Value := (List.range (q_fN ci)).map (fun j => defaultValue (q_fty ci j))
abbrev q_AR : Type := Nat × List Value × q_H × Nat × Nat
def q_narr (t : ArrayType) (n : Nat) : Option q_E := match t with
  | .int => some (.inl (0, (n, .inl (fun _ => 0))))
  | .byte => some (.inl (1, (n, .inl (fun _ => 0))))
  | .long => some (.inl (2, (n, .inr (.inl (fun _ => 0)))))
  | .boolean => some (.inl (3, (n, .inl (fun _ => 0))))
  | _ => none
def q_alo (o : Nat) (i : Instr) (st : List Value) (h : q_H) (N S : Nat) : Option q_AR := match i with
  | .new k => (q_new o k).map (fun ci => (3, .ref N :: st, q_up h N (.inr (ci, q_def ci)), N + 1, S + q_fN ci))
  | .newarray t => (match st with
    | .int n :: r => if n < 0 ∨ 65536 < n.toNatClampNeg then none else (q_narr t n.toNatClampNeg).map (fun e => (2, .ref N :: r, q_up h N e, N + 1, S + n.toNatClampNeg))
    | _ => none)
  | .anewarray k => (match st with
    | .int n :: r => if n < 0 ∨ 65536 < n.toNatClampNeg then none else (if o = 0 ∧ k = 9 then some 4 else if o = 7 ∧ k = 23 then some 5 else none).map (fun t => (3, .ref N :: r, q_up h N (.inl (t, (n.toNatClampNeg, .inr (.inr (.inr (.inr (fun _ => none))))))), N + 1, S + n.toNatClampNeg))
    | _ => none)
  | .multianewarray k d => (match st with
    | .int n :: .int w :: r => if o = 3 ∧ k = 18 ∧ d = 2 ∧ n = 40 ∧ w = 8 then some (4, .ref N :: r, (fun a => if a = N then .inl (6, (8, .inr (.inr (.inr (.inr (fun j => if j < 8 then some (N + 1 + j) else none)))))) else if N < a ∧ a < N + 9 then .inl (0, (40, .inl (fun _ => 0))) else h a), N + 9, S + 328) else none
    | _ => none)
  | _ => none
def q_aast (h : q_H) (N : Nat) (st : List Value) : Option (List Value × q_H) := match st with
  | .ref v :: .int i :: .ref a :: r => if a < N ∧ v < N then (match h a, h v with
    | .inl (t, (n, .inr (.inr (.inr (.inr f))))), .inr (ci, _) => if i < 0 ∨ n ≤ i.toNatClampNeg ∨ ¬ ((t = 4 ∧ ci = 5) ∨ (t = 5 ∧ ci = 2)) then none else some (r, q_up h a (.inl (t, (n, .inr (.inr (.inr (.inr (va_up f i.toNatClampNeg (some v)))))))))
    | _, _ => none) else none
  | _ => none
/-- instructions of the heap: length, stack, heap -/
def q_hop (o : Nat) (ini : Bool) (i : Instr) (st : List Value) (h : q_H) (N : Nat) : Option (Nat × List Value × q_H) := match i with
  | .getfield k => (q_getf o k h N st).map (fun s => (3, s, h))
  | .putfield k => (q_putf o k ini h N st).map (fun s => (3, s))
  | .iaload => (q_iald h N st).map (fun s => (1, s, h))
  | .baload => (q_bald h N st).map (fun s => (1, s, h))
  | .laload => (q_lald h N st).map (fun s => (1, s, h))
  | .aaload => (q_aald h N st).map (fun s => (1, s, h))
  | .arraylength => (q_alen h N st).map (fun s => (1, s, h))
  | .iastore => (q_iast h N st).map (fun s => (1, s))
  | .bastore => (q_bast h N st).map (fun s => (1, s))
  | .lastore => (q_last h N st).map (fun s => (1, s))
  | .aastore => (q_aast h N st).map (fun s => (1, s))
  | .invokestatic k => if (q_inv o k).map (fun e => e.1) = some 6 then (q_copy h N st).map (fun s => (3, s)) else none
  | .invokespecial k => if (q_inv o k).map (fun e => e.1) = some 5 then (match st with
    | .ref a :: r => if (r.map fun v => v.category).sum ≤ 8 then some (3, r, h) else none
    | _ => none) else none
  | _ => none
abbrev q_FR : Type := Nat × q_L × List Value × q_H × Nat × Nat
/-- every instruction that is no call of a method of ours and no return -/
noncomputable def q_ins (o : Nat) (ini : Bool) (i : Instr) (len pc : Nat) (L : q_L) (st : List Value) (h : q_H) (N S : Nat) : Option q_FR :=
  match q_alu i st with
  | some (k, st') => if k = len then some (pc + len, L, st', h, N, S) else none
  | none => match q_cst o i st with
  | some (k, st') => if k = len then some (pc + len, L, st', h, N, S) else none
  | none => match q_lop i L st with
  | some (k, L', st') => if k = len then some (pc + len, L', st', h, N, S) else none
  | none => match q_br i len pc st with
  | some (t, st') => some (t, L, st', h, N, S)
  | none => match q_hop o ini i st h N with
  | some (k, st', h') => if k = len then some (pc + len, L, st', h', N, S) else none
  | none => match q_alo o i st h N S with
  | some (k, st', h', N', S') => @ite _ (k = len ∧ N' < 900 ∧ q_wf N L st h) (Classical.propDecidable _) (some (pc + len, L, st', h', N', S')) none
  | none => none
/-- the locals with which a method begins -/
def q_ent : List Value → q_L
  | [] => []
  | v :: r => if v.category = 2 then some v :: none :: q_ent r else some v :: q_ent r
def q_loc (As : List Value) (n : Nat) : q_L := q_ent As ++ List.replicate (n - (q_ent As).length) none
/-- the object whose method is called is of that class -/
def q_rcv (ci : Nat) (h : q_H) (N : Nat) (v : Value) : Bool := match v with
  | .ref a => (decide (a < N ∨ 1000 ≤ a)) && (match h a with
    | .inr (cj, _) => cj == ci
    | _ => false)
  | _ => false
/-- a call: kind and method -/
def q_cal (o : Nat) (i : Instr) : Option (Nat × Nat) := match i with
  | .invokevirtual k => match q_inv o k with
    | some (0, M) => some (0, M)
    | _ => none
  | .invokestatic k => match q_inv o k with
    | some (1, M) => some (1, M)
    | some (3, M) => some (3, M)
    | _ => none
  | .invokespecial k => match q_inv o k with
    | some (2, M) => some (2, M)
    | some (4, M) => some (4, M)
    | _ => none
  | _ => none
abbrev q_RS : Type := Option Value × q_H × Nat × Nat
def q_end (M : Nat) (i : Instr) (st : List Value) (h : q_H) (N S : Nat) : Option q_RS := match i with
  | .ireturn => (match st, q_ret M with
    | [.int v], some ty => if narrow ty (.int v) = .int v then some (some (.int v), h, N, S) else none
    | _, _ => none)
  | .lreturn => (match st with
    | [.long v] => if q_ret M = some .long then some (some (.long v), h, N, S) else none
    | _ => none)
  | .return_ => (match st with
    | [] => if q_ret M = none then some (none, h, N, S) else none
    | _ => none)
  | _ => none
/-- may the call be made: the arguments, the stack left, the receiver -/
def q_may (k M : Nat) (st : List Value) (h : q_H) (N : Nat) : Bool := decide (q_na M ≤ st.length) && decide (((st.drop (q_na M)).map fun v => v.category).sum ≤ 8) && decide ((q_ent (st.take (q_na M)).reverse).length ≤ q_ml M) &&
  (match k with
  | 0 => (match (st.take (q_na M)).reverse with
    | v :: _ => q_rcv (q_own M) h N v
    | [] => false)
  | 2 => (match (st.take (q_na M)).reverse with
    | .ref _ :: _ => true
    | _ => false)
  | 4 => (match (st.take (q_na M)).reverse with
    | .ref _ :: _ => true
    | _ => false)
  | _ => true)
/-- n: fuel; d: how many calls deep; M: the method -/
noncomputable def q_run : Nat → Nat → Nat → Nat → q_L → List Value → q_H → Nat → Nat → Option q_RS
  | 0, _, _, _, _, _, _, _, _ => none
  | n + 1, d, M, pc, L, st, h, N, S => match decode (q_code M) pc with
    | .error _ => none
    | .ok (i, len) => match q_end M i st h N S with
      | some r => if len = 1 then some r else none
      | none => match q_cal (q_own M) i with
        | some (k, M') => (match d with
          | 0 => none
          | d' + 1 => if len = 3 ∧ q_may k M' st h N = true then
              (match q_run n d' M' 0 (q_loc (st.take (q_na M')).reverse (q_ml M')) [] h N S with
              | some (r, h', N', S') => @ite _ (N' = N ∨ q_wf N L (st.drop (q_na M')) h) (Classical.propDecidable _) (q_run n (d' + 1) M (pc + 3) L (r.toList ++ st.drop (q_na M')) h' N' S') none
              | none => none) else none)
        | none => match q_ins (q_own M) ((q_y M).name == "<init>") i len pc L st h N S with
          | some (pc', L', st', h', N', S') => q_run n d M pc' L' st' h' N' S'
          | none => none
