/-! THE ABSTRACT MACHINE. A heap: how many cells; what ints, longs and references the cell c holds at place k (0: null, r + 1: the cell r). A cell's shape stands in the table xsh. References are numbers of cells; .retAddr k is the thing k that was there before (0: the script); xmk marks a local that holds nothing. -/
abbrev xH : Type := Nat × (Nat → Nat → Int32) × (Nat → Nat → Int64) × (Nat → Nat → Nat)
abbrev xF : Type := Nat × List Value × List Value × xH
abbrev xR : Type := xF ⊕ (Option Value ⊕ (Nat × List Value × List Value))
def xmk : Value := .float 0
def xref (r : Nat) : Value := match r with
  | 0 => .null
  | n + 1 => .ref n
def xval (h : xH) (t : FieldType) (c k : Nat) : Value := match t with
  | .long => .long (h.2.2.1 c k)
  | .object _ => xref (h.2.2.2 c k)
  | .array _ => xref (h.2.2.2 c k)
  | _ => .int (h.2.1 c k)
def xsetI (h : xH) (c k : Nat) (v : Int32) : xH := (h.1, va_up h.2.1 c (upd (h.2.1 c) k v), h.2.2.1, h.2.2.2)
def xsetL (h : xH) (c k : Nat) (v : Int64) : xH := (h.1, h.2.1, va_up h.2.2.1 c (vp_updL (h.2.2.1 c) k v), h.2.2.2)
def xsetR (h : xH) (c k : Nat) (v : Nat) : xH := (h.1, h.2.1, h.2.2.1, va_up h.2.2.2 c (va_up (h.2.2.2 c) k v))
def xnew (h : xH) : xH := (h.1 + 1, va_up h.2.1 h.1 (fun _ => 0), va_up h.2.2.1 h.1 (fun _ => 0), va_up h.2.2.2 h.1 (fun _ => 0))
/-- how many slots the first n cells have -/
def xsz (s : Option (Nat ⊕ (FieldType × Nat))) : Nat := match s with
  | some (.inl ci) => xnf ci
  | some (.inr (_, n)) => n
  | none => 0
def xslots : Nat → Nat
  | 0 => 0
  | n + 1 => xslots n + xsz (xsh n)
-- small steps of reading an instruction
def x1 {α : Type} (len n : Nat) (r : Option α) : Option α := if len = n then r else none
def xI {α : Type} (st : List Value) (f : Int32 → List Value → Option α) : Option α := match st with
  | .int x :: r => f x r
  | _ => none
def xII {α : Type} (st : List Value) (f : Int32 → Int32 → List Value → Option α) : Option α := match st with
  | .int y :: .int x :: r => f x y r
  | _ => none
def xJ {α : Type} (st : List Value) (f : Int64 → List Value → Option α) : Option α := match st with
  | .long x :: r => f x r
  | _ => none
def xJJ {α : Type} (st : List Value) (f : Int64 → Int64 → List Value → Option α) : Option α := match st with
  | .long y :: .long x :: r => f x y r
  | _ => none
def xJI {α : Type} (st : List Value) (f : Int64 → Int32 → List Value → Option α) : Option α := match st with
  | .int y :: .long x :: r => f x y r
  | _ => none
def xV {α : Type} (st : List Value) (f : Value → List Value → Option α) : Option α := match st with
  | v :: r => f v r
  | _ => none
def xA {α : Type} (st : List Value) (f : Nat → List Value → Option α) : Option α := match st with
  | .ref c :: r => f c r
  | _ => none
def xldI {α : Type} (lv : List Value) (i : Nat) (f : Int32 → Option α) : Option α := match lv[i]? with
  | some (.int x) => f x
  | _ => none
def xldJ {α : Type} (lv : List Value) (i : Nat) (f : Int64 → Option α) : Option α := match lv[i]? with
  | some (.long x) => f x
  | _ => none
def xldA {α : Type} (lv : List Value) (i : Nat) (f : Value → Option α) : Option α := match lv[i]? with
  | some (.ref x) => f (.ref x)
  | some (.retAddr x) => f (.retAddr x)
  | _ => none
def xst1 (lv : List Value) (i : Nat) (v : Value) : List Value := match i with
  | 0 => lv.set 0 v
  | k + 1 => match lv[k]? with
    | some (.long _) => (lv.set (k + 1) v).set k xmk
    | _ => lv.set (k + 1) v
def xst2 (lv : List Value) (i : Nat) (v : Value) : List Value := (xst1 lv i v).set (i + 1) xmk
abbrev xP : Type := List Value × List Value
/-- a store of an int, a long, a reference into the local i -/
def xstI (lv st : List Value) (i : Nat) : Option xP := xI st fun x r => if i < lv.length then some (xst1 lv i (.int x), r) else none
def xstJ (lv st : List Value) (i : Nat) : Option xP := xJ st fun x r => if i + 1 < lv.length then some (xst2 lv i (.long x), r) else none
def xstA (lv st : List Value) (i : Nat) : Option xP := xA st fun x r => if i < lv.length then some (xst1 lv i (.ref x), r) else none
/-- instructions that touch neither heap nor control: the locals and the stack behind them -/
def xpur (i : Instr) (len : Nat) (lv st : List Value) : Option xP := match i with
  | .iconst n => x1 len 1 (some (lv, .int (Int32.ofInt n) :: st))
  | .bipush n => x1 len 2 (some (lv, .int (Int8.ofInt n).toInt32 :: st))
  | .sipush n => x1 len 3 (some (lv, .int (Int16.ofInt n).toInt32 :: st))
  | .lconst n => x1 len 1 (some (lv, .long (Int64.ofNat (n : Nat)) :: st))
  | .iload_n k => x1 len 1 (xldI lv (k : Nat) fun x => some (lv, .int x :: st))
  | .iload k => x1 len 2 (xldI lv k fun x => some (lv, .int x :: st))
  | .lload_n k => x1 len 1 (xldJ lv (k : Nat) fun x => some (lv, .long x :: st))
  | .lload k => x1 len 2 (xldJ lv k fun x => some (lv, .long x :: st))
  | .aload_n k => x1 len 1 (xldA lv (k : Nat) fun x => some (lv, x :: st))
  | .aload k => x1 len 2 (xldA lv k fun x => some (lv, x :: st))
  | .istore_n k => x1 len 1 (xstI lv st (k : Nat))
  | .istore k => x1 len 2 (xstI lv st k)
  | .lstore_n k => x1 len 1 (xstJ lv st (k : Nat))
  | .lstore k => x1 len 2 (xstJ lv st k)
  | .astore_n k => x1 len 1 (xstA lv st (k : Nat))
  | .astore k => x1 len 2 (xstA lv st k)
  | .iinc k n => x1 len 3 (xldI lv k fun x => some (xst1 lv k (.int (x + Int32.ofInt n)), st))
  | .iadd => x1 len 1 (xII st fun x y r => some (lv, .int (x + y) :: r))
  | .isub => x1 len 1 (xII st fun x y r => some (lv, .int (x - y) :: r))
  | .imul => x1 len 1 (xII st fun x y r => some (lv, .int (x * y) :: r))
  | .iand => x1 len 1 (xII st fun x y r => some (lv, .int (x &&& y) :: r))
  | .ior => x1 len 1 (xII st fun x y r => some (lv, .int (x ||| y) :: r))
  | .ixor => x1 len 1 (xII st fun x y r => some (lv, .int (x ^^^ y) :: r))
  | .ishl => x1 len 1 (xII st fun x y r => some (lv, .int (x <<< (y &&& 31)) :: r))
  | .ishr => x1 len 1 (xII st fun x y r => some (lv, .int (x >>> (y &&& 31)) :: r))
  | .iushr => x1 len 1 (xII st fun x y r => some (lv, .int (x.toUInt32 >>> (y.toUInt32 &&& Int32.toUInt32 31)).toInt32 :: r))
  | .idiv => x1 len 1 (xII st fun x y r => if y = 0 then none else some (lv, .int (x / y) :: r))
  | .irem => x1 len 1 (xII st fun x y r => if y = 0 then none else some (lv, .int (x - x / y * y) :: r))
  | .ineg => x1 len 1 (xI st fun x r => some (lv, .int (-x) :: r))
  | .i2l => x1 len 1 (xI st fun x r => some (lv, .long x.toInt64 :: r))
  | .i2b => x1 len 1 (xI st fun x r => some (lv, .int x.toInt8.toInt32 :: r))
  | .l2i => x1 len 1 (xJ st fun x r => some (lv, .int x.toInt32 :: r))
  | .ladd => x1 len 1 (xJJ st fun x y r => some (lv, .long (x + y) :: r))
  | .lsub => x1 len 1 (xJJ st fun x y r => some (lv, .long (x - y) :: r))
  | .lmul => x1 len 1 (xJJ st fun x y r => some (lv, .long (x * y) :: r))
  | .land => x1 len 1 (xJJ st fun x y r => some (lv, .long (x &&& y) :: r))
  | .ldiv => x1 len 1 (xJJ st fun x y r => if y = 0 then none else some (lv, .long (x / y) :: r))
  | .lrem => x1 len 1 (xJJ st fun x y r => if y = 0 then none else some (lv, .long (x - x / y * y) :: r))
  | .lcmp => x1 len 1 (xJJ st fun x y r => some (lv, .int (lg_cmp x y) :: r))
  | .dup => x1 len 1 (xV st fun v r => if v.category = 1 then some (lv, v :: v :: r) else none)
  | .pop => x1 len 1 (xV st fun v r => if v.category = 1 then some (lv, r) else none)
  | .dup_x1 => x1 len 1 (xV st fun v r => xV r fun w r2 => if v.category = 1 then (if w.category = 1 then some (lv, v :: w :: v :: r2) else none) else none)
  | .dup2 => x1 len 1 (xV st fun v r => if v.category = 2 then some (lv, v :: v :: r) else xV r fun w r2 => if w.category = 1 then some (lv, v :: w :: v :: w :: r2) else none)
  | .dup2_x1 => x1 len 1 (xV st fun v r => xV r fun w r2 => if v.category = 2 then (if w.category = 1 then some (lv, v :: w :: v :: r2) else none) else none)
  | _ => none
/-! what was there before: a row of whole numbers, texts -/
def xones (k : Nat) : Int32 := [0, 1, 7, 8, 49, 50, 56, 57, 343, 344, 350, 351, 392, 393, 399, 400].getD k 0
def xsbyt : List (List Int32) := [[112, 101, 114, 115, 111, 110], [100, 105, 101, 115], [109, 101, 101, 116], [99, 104, 97, 110, 99, 101], [110, 101, 119, 115], [98, 97, 114], [112, 101, 114, 115, 111, 110, 32, 109, 101, 101, 116, 32, 110, 101, 119, 115, 32, 98, 97, 114, 32, 100, 105, 101, 115, 32, 99, 104, 97, 110, 99, 101, 32]]
def xslens : List Nat := [6, 4, 4, 6, 4, 3, 33]
def xslen (k : Nat) : Nat := xslens.getD k 0
def xsch (k i : Nat) : Int32 := (xsbyt.getD k []).getD i 0
/-! heap and control -/
def xgo (pc : Nat) (lv st : List Value) (h : xH) : Option xR := some (.inl (pc, lv, st, h))
def xin {α : Type} (i : Int32) (n : Nat) (r : Option α) : Option α := if i < 0 ∨ n ≤ i.toNatClampNeg then none else r
/-- the cell c is there and is of class a -/
def xobj {α : Type} (h : xH) (c a : Nat) (r : Option α) : Option α := bif Nat.ble h.1 c then none else match xsh c with
  | some (.inl ci) => bif Nat.beq ci a then r else none
  | _ => none
/-- the cell c is there and is an array -/
def xarr {α : Type} (h : xH) (c : Nat) (f : FieldType → Nat → Option α) : Option α := bif Nat.ble h.1 c then none else match xsh c with
  | some (.inr (t, n)) => f t n
  | _ => none
def xput (h : xH) (t : FieldType) (c b : Nat) (v : Value) : Option xH := match t with
  | .int => match v with
    | .int x => some (xsetI h c b x)
    | _ => none
  | .boolean => match v with
    | .int x => if x = 0 then some (xsetI h c b x) else if x = 1 then some (xsetI h c b x) else none
    | _ => none
  | .long => match v with
    | .long x => some (xsetL h c b x)
    | _ => none
  | .object _ => match v with
    | .ref r => some (xsetR h c b (r + 1))
    | .null => some (xsetR h c b 0)
    | _ => none
  | .array _ => match v with
    | .ref r => some (xsetR h c b (r + 1))
    | .null => some (xsetR h c b 0)
    | _ => none
  | _ => none
def xisI (t : FieldType) : Bool := match t with
  | .int => true
  | _ => false
def xisJ (t : FieldType) : Bool := match t with
  | .long => true
  | _ => false
def xisB (t : FieldType) : Bool := match t with
  | .byte => true
  | _ => false
def xisZ (t : FieldType) : Bool := match t with
  | .boolean => true
  | _ => false
def xald (h : xH) (c : Nat) (ok : FieldType → Bool) (i : Int32) (f : Int32 → Option xR) : Option xR := xarr h c fun t n => bif ok t then xin i n (f (h.2.1 c i.toNatClampNeg)) else none
def xbr (b : Bool) (pc tgt : Nat) (lv st : List Value) (h : xH) : Option xR := bif b then xgo tgt lv st h else xgo (pc + 3) lv st h
def xcnd (c : ClassFile.Cond) (x y : Int32) : Bool := match c with
  | .eq => decide (x = y)
  | .ne => !decide (x = y)
  | .lt => decide (x < y)
  | .ge => decide (y ≤ x)
  | .gt => decide (y < x)
  | .le => decide (x ≤ y)
/-- a call of method j: what stands over the rest of the stack is its arguments -/
def xcall (j na : Nat) (st : List Value) : Option xR := if ((st.drop na).map fun v => v.category).sum ≤ 8 then (if na ≤ st.length then (if ((st.take na).map fun v => v.category).sum ≤ xml j then some (.inr (.inr (j, (st.take na).reverse, st.drop na))) else none) else none) else none
/-- the receiver's class -/
def xrcv {α : Type} (h : xH) (a : Nat) (v : Option Value) (r : Option α) : Option α := match v with
  | some (.ref c) => xobj h c a r
  | _ => none
def xrf {α : Type} (v : Option Value) (r : Option α) : Option α := match v with
  | some (.ref _) => r
  | _ => none
/-- what arraycopy does, once all cells are there -/
def xcpyI (h : xH) (a b sp dp n : Nat) : xH := (h.1, va_up h.2.1 b (va_cpy (h.2.1 a) (h.2.1 b) sp dp n), h.2.2.1, h.2.2.2)
def xcpyL (h : xH) (a b sp dp n : Nat) : xH := (h.1, h.2.1, va_up h.2.2.1 b (va_cpy (h.2.2.1 a) (h.2.2.1 b) sp dp n), h.2.2.2)
def xcopy (pc : Nat) (lv st : List Value) (h : xH) : Option xR := match st with
  | .int n :: .int dp :: .ref b :: .int sp :: .ref a :: r => if h.1 = xN then (if (r.map fun v => v.category).sum ≤ 8 then xarr h a fun t n0 => xarr h b fun t1 n1 =>
      if sp < 0 ∨ dp < 0 ∨ n < 0 ∨ n0 < sp.toNatClampNeg + n.toNatClampNeg ∨ n1 < dp.toNatClampNeg + n.toNatClampNeg then none else
      bif xisI t && xisI t1 then xgo (pc + 3) lv r (xcpyI h a b sp.toNatClampNeg dp.toNatClampNeg n.toNatClampNeg) else
      bif xisJ t && xisJ t1 then xgo (pc + 3) lv r (xcpyL h a b sp.toNatClampNeg dp.toNatClampNeg n.toNatClampNeg) else none else none) else none
  | _ => none
def xatk (t : ArrayType) : Option FieldType := match t with
  | .int => some .int
  | .long => some .long
  | .byte => some .byte
  | .boolean => some .boolean
  | _ => none
def xstep (L : Nat) (xs : Nat → Int32) (d j : Nat) (q : xQ) (pc : Nat) (lv st : List Value) (h : xH) : Option xR := match q.1 with
  | .getfield _ => x1 q.2.1 3 (xA st fun c r => xobj h c q.2.2.1 (xgo (pc + 3) lv (xval h (xty q.2.2.1 q.2.2.2.1) c q.2.2.2.1 :: r) h))
  | .putfield _ => x1 q.2.1 3 (xV st fun v r0 => xA r0 fun c r => xobj h c q.2.2.1 (match xput h (xty q.2.2.1 q.2.2.2.1) c q.2.2.2.1 v with
    | some h' => xgo (pc + 3) lv r h'
    | none => none))
  | .new _ => x1 q.2.1 3 (match xsh h.1 with
    | some (.inl ci) => bif Nat.beq ci q.2.2.1 then xgo (pc + 3) lv (.ref h.1 :: st) (xnew h) else none
    | _ => none)
  | .newarray t => x1 q.2.1 2 (xI st fun n r => match xsh h.1 with
    | some (.inr (t', N)) => if xatk t = some t' then (if n < 0 then none else if n.toNatClampNeg = N then (if N ≤ 65536 then xgo (pc + 2) lv (.ref h.1 :: r) (xnew h) else none) else none) else none
    | _ => none)
  | .arraylength => x1 q.2.1 1 (match st with
    | .ref c :: r => xarr h c fun _ n => xgo (pc + 1) lv (.int (Int32.ofNat n) :: r) h
    | .retAddr 0 :: r => if L < 2147483648 then xgo (pc + 1) lv (.int (Int32.ofNat L) :: r) h else none
    | .retAddr 1 :: r => xgo (pc + 1) lv (.int 16 :: r) h
    | _ => none)
  | .iaload => x1 q.2.1 1 (match st with
    | .int i :: .ref c :: r => xald h c xisI i fun x => xgo (pc + 1) lv (.int x :: r) h
    | .int i :: .retAddr 0 :: r => if L < 2147483648 then xin i L (xgo (pc + 1) lv (.int (xs i.toNatClampNeg) :: r) h) else none
    | .int i :: .retAddr 1 :: r => xin i 16 (xgo (pc + 1) lv (.int (xones i.toNatClampNeg) :: r) h)
    | _ => none)
  | .baload => x1 q.2.1 1 (match st with
    | .int i :: .ref c :: r => xald h c (fun t => xisB t || xisZ t) i fun x => xgo (pc + 1) lv (.int x :: r) h
    | _ => none)
  | .laload => x1 q.2.1 1 (match st with
    | .int i :: .ref c :: r => xarr h c fun t n => bif xisJ t then xin i n (xgo (pc + 1) lv (.long (h.2.2.1 c i.toNatClampNeg) :: r) h) else none
    | _ => none)
  | .iastore => x1 q.2.1 1 (match st with
    | .int x :: .int i :: .ref c :: r => xarr h c fun t n => bif xisI t then xin i n (xgo (pc + 1) lv r (xsetI h c i.toNatClampNeg x)) else none
    | _ => none)
  | .bastore => x1 q.2.1 1 (match st with
    | .int x :: .int i :: .ref c :: r => xarr h c fun t n => bif xisB t then xin i n (xgo (pc + 1) lv r (xsetI h c i.toNatClampNeg (vp_nar .byte x))) else (bif xisZ t then xin i n (xgo (pc + 1) lv r (xsetI h c i.toNatClampNeg (vp_nar .boolean x))) else none)
    | _ => none)
  | .lastore => x1 q.2.1 1 (match st with
    | .long x :: .int i :: .ref c :: r => xarr h c fun t n => bif xisJ t then xin i n (xgo (pc + 1) lv r (xsetL h c i.toNatClampNeg x)) else none
    | _ => none)
  | .ifCond c _ => x1 q.2.1 3 (xI st fun x r => xbr (xcnd c x 0) pc q.2.2.1 lv r h)
  | .if_icmp c _ => x1 q.2.1 3 (xII st fun x y r => xbr (xcnd c x y) pc q.2.2.1 lv r h)
  | .goto _ => x1 q.2.1 3 (xgo q.2.2.1 lv st h)
  | .tableswitch df lo hi offs => xI st fun x r => if x.toInt < lo ∨ hi < x.toInt then xgo ((pc : Int) + df).toNat lv r h else (match offs[(x.toInt - lo).toNat]? with
    | some o => xgo ((pc : Int) + o).toNat lv r h
    | none => none)
  | .lookupswitch df ps => xI st fun x r => xgo ((pc : Int) + Op.lookupswitch.offset ps.toList df x.toInt).toNat lv r h
  | .getstatic _ => x1 q.2.1 3 (xgo (pc + 3) lv (.retAddr 1 :: st) h)
  | .ldc _ => x1 q.2.1 2 (bif Nat.beq q.2.2.2.1 0 then xgo (pc + 2) lv (.int (Int32.ofNat q.2.2.1) :: st) h else xgo (pc + 2) lv (.retAddr (q.2.2.1 + 2) :: st) h)
  | .ldc_w _ => x1 q.2.1 3 (bif Nat.beq q.2.2.2.1 0 then xgo (pc + 3) lv (.int (Int32.ofNat q.2.2.1) :: st) h else none)
  | .ldc2_w _ => x1 q.2.1 3 (xgo (pc + 3) lv (.long (Int64.ofNat q.2.2.1) :: st) h)
  | .invokespecial _ => x1 q.2.1 3 (if q.2.2.1 = 900 then (if d = 0 then none else xA st fun _ r => if (r.map fun v => v.category).sum ≤ 8 then xgo (pc + 3) lv r h else none) else xrf st[xnarg q.2.2.1]? (xcall q.2.2.1 (xnarg q.2.2.1 + 1) st))
  | .invokevirtual _ => x1 q.2.1 3 (if 900 ≤ q.2.2.1 then (if d < 4 then none else if q.2.2.1 = 902 then (match st with
      | .retAddr (k + 2) :: r => if k < 7 then (if (r.map fun v => v.category).sum ≤ 8 then xgo (pc + 3) lv (.int (Int32.ofNat (xslen k)) :: r) h else none) else none
      | _ => none) else if q.2.2.1 = 903 then (match st with
      | .int i :: .retAddr (k + 2) :: r => if k < 7 then (if (r.map fun v => v.category).sum ≤ 8 then xin i (xslen k) (xgo (pc + 3) lv (.int (xsch k i.toNatClampNeg) :: r) h) else none) else none
      | _ => none) else none) else xrcv h (xmcl q.2.2.1) st[xnarg q.2.2.1]? (xcall q.2.2.1 (xnarg q.2.2.1 + 1) st))
  | .invokestatic _ => x1 q.2.1 3 (if 900 ≤ q.2.2.1 then (if d = 0 then none else if q.2.2.1 = 904 then xII st fun x y r => if (r.map fun v => v.category).sum ≤ 8 then xgo (pc + 3) lv (.int (if x < y then y else x) :: r) h else none else if q.2.2.1 = 905 then xII st fun x y r => if (r.map fun v => v.category).sum ≤ 8 then xgo (pc + 3) lv (.int (if y < x then y else x) :: r) h else none else if q.2.2.1 = 901 then xcopy pc lv st h else none) else xcall q.2.2.1 (xnarg q.2.2.1) st)
  | .ireturn => x1 q.2.1 1 (match st with
    | [.int x] => match xmv j with
      | some .int => some (.inr (.inl (some (.int x))))
      | some .boolean => if x = 0 then some (.inr (.inl (some (.int x)))) else if x = 1 then some (.inr (.inl (some (.int x)))) else none
      | _ => none
    | _ => none)
  | .lreturn => x1 q.2.1 1 (match st with
    | [.long x] => match xmv j with
      | some .long => some (.inr (.inl (some (.long x))))
      | _ => none
    | _ => none)
  | .areturn => x1 q.2.1 1 (match st with
    | [.ref x] => match xmv j with
      | some (.object _) => some (.inr (.inl (some (.ref x))))
      | _ => none
    | _ => none)
  | .return_ => x1 q.2.1 1 (match st with
    | [] => match xmv j with
      | none => some (.inr (.inl none))
      | _ => none
    | _ => none)
  | _ => match xpur q.1 q.2.1 lv st with
    | some r => xgo (pc + q.2.1) r.1 r.2 h
    | none => none
/-- a method's locals at its start -/
def xent (as : List Value) (n : Nat) : List Value := (as.flatMap fun v => if v.category = 2 then [v, xmk] else [v]) ++ List.replicate (n - (as.flatMap fun v => if v.category = 2 then [v, xmk] else [v]).length) xmk
/-- the run: fuel, depth, method, place, locals, stack, heap; what it gives and the heap behind it -/
noncomputable def xrun (L : Nat) (xs : Nat → Int32) (n : Nat) : Nat → Nat → Nat → List Value → List Value → xH → Option (Option Value × xH) :=
  Nat.rec (fun _ _ _ _ _ _ => none) (fun _ ih d j pc lv st h => match xins j pc with
    | none => none
    | some q => match xstep L xs d j q pc lv st h with
      | none => none
      | some (.inl (pc', lv', st', h')) => ih d j pc' lv' st' h'
      | some (.inr (.inl v)) => some (v, h)
      | some (.inr (.inr (j', as, rest))) => match d with
        | 0 => none
        | d' + 1 => match ih d' j' 0 (xent as (xml j')) [] h with
          | none => none
          | some (v, h') => ih d j (pc + 3) lv (v.toList ++ rest) h') n
/-- what comes next in a method: a step, or a call that returns within the fuel -/
noncomputable def xnext (L : Nat) (xs : Nat → Int32) (n d j pc : Nat) (lv st : List Value) (h : xH) : Option xF := match xins j pc with
  | none => none
  | some q => match xstep L xs d j q pc lv st h with
    | none => none
    | some (.inl f) => some f
    | some (.inr (.inl _)) => none
    | some (.inr (.inr (j', as, rest))) => match d with
      | 0 => none
      | d' + 1 => match xrun L xs n d' j' 0 (xent as (xml j')) [] h with
        | none => none
        | some (v, h') => some (pc + 3, lv, v.toList ++ rest, h')
/-- k times that -/
noncomputable def xgoN (L : Nat) (xs : Nat → Int32) (n d j : Nat) (k : Nat) : Nat → List Value → List Value → xH → Option xF := Nat.rec (fun pc lv st h => some (pc, lv, st, h)) (fun _ ih pc lv st h => match xnext L xs n d j pc lv st h with
    | none => none
    | some (pc', lv', st', h') => ih pc' lv' st' h') k
