/-! THE SMALL MACHINE: what the bytecode does, over a heap of rows. A reference is a number: (place in the order of making * 4096 + length) * 64 + kind. -/
abbrev AH : Type := (Nat → Nat → Int32) × (Nat → Nat → Int64) × (Nat → Nat → Option Nat) × List Nat × Nat × Nat
def kd_ (a : Nat) : Nat := a % 64
def ln_ (a : Nat) : Nat := a / 64 % 4096
def sr_ (a : Nat) : Nat := a / 262144
def mk_ (s k n : Nat) : Nat := (s * 4096 + n) * 64 + k
def hI_ (h : AH) : Nat → Nat → Int32 := h.1
def hL_ (h : AH) : Nat → Nat → Int64 := h.2.1
def hR_ (h : AH) : Nat → Nat → Option Nat := h.2.2.1
def ids_ (h : AH) : List Nat := h.2.2.2.1
def nx_ (h : AH) : Nat := h.2.2.2.2.1
def sl_ (h : AH) : Nat := h.2.2.2.2.2
def uI_ (h : AH) (a : Nat) (f : Nat → Int32) : AH := (fun b => if b = a then f else h.1 b, h.2)
def uL_ (h : AH) (a : Nat) (f : Nat → Int64) : AH := (h.1, fun b => if b = a then f else h.2.1 b, h.2.2)
def uR_ (h : AH) (a : Nat) (f : Nat → Option Nat) : AH := (h.1, h.2.1, fun b => if b = a then f else h.2.2.1 b, h.2.2.2)
def st_ {α : Type} (f : Nat → α) (k : Nat) (v : α) : Nat → α := fun j => if j = k then v else f j
/-- a new cell: its rows are 0 -/
def nw_ (h : AH) (k n s : Nat) : AH := (fun b => if b = mk_ (nx_ h) k n then fun _ => 0 else h.1 b, fun b => if b = mk_ (nx_ h) k n then fun _ => 0 else h.2.1 b, fun b => if b = mk_ (nx_ h) k n then fun _ => none else h.2.2.1 b, ids_ h ++ [mk_ (nx_ h) k n], nx_ h + 1, sl_ h + s)
/-- an exception is made: nothing is known of its cell -/
def xh_ (h : AH) : AH := (h.1, h.2.1, h.2.2.1, h.2.2.2.1, nx_ h + 1, sl_ h + 6)
def acat_ (v : AV) : Nat := match v with
  | .inr (.inl _) => 2
  | _ => 1
/-- the arguments in their places -/
def plc_ : List AV → List AV
  | [] => []
  | .inr (.inl x) :: r => .inr (.inl x) :: vX 0 :: plc_ r
  | v :: r => v :: plc_ r
def ent_ (as : List AV) (n : Nat) : List AV := plc_ as ++ List.replicate (n - (plc_ as).length) (vX 0)
/-- a number as a type has it -/
def nb_ (t : Nat) (x : Int32) : Bool := if t = 3 then (x == 0 || x == 1) else if t = 4 then x.toInt8.toInt32 == x else true
def rb_ (t : Option FieldType) (x : Int32) : Bool := match t with
  | some .boolean => (x == 0 || x == 1)
  | some .byte => x.toInt8.toInt32 == x
  | some .char => (x.toUInt32 % 65536).toInt32 == x
  | some .int => true
  | _ => false
/-- null or of a kind -/
def ok1_ (k : Nat) (o : Option Nat) : Bool := match o with
  | none => true
  | some a => kd_ a == k
/-- null or one of the 22 constants -/
def tkb_ (o : Option Nat) : Bool := match o with
  | none => true
  | some a => decide (kd_ a = 32) && (decide (1 ≤ sr_ a) && (decide (sr_ a ≤ 22) && decide (ln_ a = 0)))
/-- a final field -/
def fnl_ (k p : Nat) : Bool := ((vwCl.getD k (RX0, TX0, 6)).2.1 p).2.2.2
def inb_ (i : Int32) (n : Nat) : Bool := decide (0 ≤ i.toInt) && decide (i.toInt < n)
def bI_ (f : Int32 → Int32 → Int32) (st : List AV) : Option (List AV) := match st with
  | .inl y :: .inl x :: r => some (.inl (f x y) :: r)
  | _ => none
def bL_ (f : Int64 → Int64 → Int64) (st : List AV) : Option (List AV) := match st with
  | .inr (.inl y) :: .inr (.inl x) :: r => some (.inr (.inl (f x y)) :: r)
  | _ => none
def cb_ (c : ClassFile.Cond) (x y : Int32) : Bool := match c with
  | .eq => decide (x = y)
  | .ne => decide (¬ x = y)
  | .lt => decide (x < y)
  | .ge => decide (y ≤ x)
  | .gt => decide (y < x)
  | .le => decide (x ≤ y)
def ca_ (c : ACond) (x y : Option Nat) : Bool := match c with
  | .eq => decide (x = y)
  | .ne => decide (¬ x = y)
def tg_ (pc : Nat) (off : Int) : Nat := ((pc : Int) + off).toNat
def tk_ (pc : Nat) (off : Int) : Bool := decide (0 ≤ (pc : Int) + off)
def arr_ (t : ArrayType) : Nat := match t with
  | .int => 16
  | .byte => 17
  | .boolean => 18
  | .long => 19
  | _ => 63
def ldI_ (ls : List AV) (k : Nat) : Option AV := match ls[k]? with
  | some (.inl x) => some (.inl x)
  | _ => none
def ldL_ (ls : List AV) (k : Nat) : Option AV := match ls[k]? with
  | some (.inr (.inl x)) => some (.inr (.inl x))
  | _ => none
def ldA_ (ls : List AV) (k : Nat) : Option AV := match ls[k]? with
  | some (.inr (.inr (.inl x))) => some (.inr (.inr (.inl x)))
  | _ => none
/-- a store of a word into a local that lies behind no long -/
def sto_ (lg : List Nat) (ls : List AV) (k : Nat) (v : AV) : Option (List AV) := if k < ls.length ∧ (k = 0 ∨ ¬ (k - 1) ∈ lg) then some (ls.set k v) else none
def stl_ (lg : List Nat) (ls : List AV) (k : Nat) (v : AV) : Option (List AV) := if k + 1 < ls.length ∧ k ∈ lg ∧ (k = 0 ∨ ¬ (k - 1) ∈ lg) then some ((ls.set k v).set (k + 1) (vX 0)) else none
abbrev NS_ : Type := Nat × List AV × List AV × AH
def exc_ (i : Instr) : Option AV := match i with
  | .iconst n => some (.inl (Int32.ofInt n))
  | .bipush n => some (.inl (Int8.ofInt n).toInt32)
  | .sipush n => some (.inl (Int16.ofInt n).toInt32)
  | .lconst n => some (.inr (.inl (Int64.ofNat (n : Nat))))
  | .aconst_null => some (.inr (.inr (.inl none)))
  | _ => none
/-- arithmetic: what becomes of the stack -/
def exa_ (i : Instr) (st : List AV) : Option (List AV) := match i with
  | .iadd => bI_ (fun x y => x + y) st
  | .isub => bI_ (fun x y => x - y) st
  | .imul => bI_ (fun x y => x * y) st
  | .iand => bI_ (fun x y => x &&& y) st
  | .ior => bI_ (fun x y => x ||| y) st
  | .ixor => bI_ (fun x y => x ^^^ y) st
  | .ishl => bI_ (fun x y => x <<< (y &&& 31)) st
  | .ishr => bI_ (fun x y => x >>> (y &&& 31)) st
  | .iushr => bI_ (fun x y => (x.toUInt32 >>> (y.toUInt32 &&& Int32.toUInt32 31)).toInt32) st
  | .idiv => (match st with
    | .inl y :: .inl x :: r => if y = 0 then none else some (.inl (x / y) :: r)
    | _ => none)
  | .irem => (match st with
    | .inl y :: .inl x :: r => if y = 0 then none else some (.inl (x - x / y * y) :: r)
    | _ => none)
  | .ineg => (match st with
    | .inl x :: r => some (.inl (-x) :: r)
    | _ => none)
  | .ladd => bL_ (fun x y => x + y) st
  | .lsub => bL_ (fun x y => x - y) st
  | .lmul => bL_ (fun x y => x * y) st
  | .land => bL_ (fun x y => x &&& y) st
  | .lor => bL_ (fun x y => x ||| y) st
  | .lxor => bL_ (fun x y => x ^^^ y) st
  | .ldiv => (match st with
    | .inr (.inl y) :: .inr (.inl x) :: r => if y = 0 then none else some (.inr (.inl (x / y)) :: r)
    | _ => none)
  | .lneg => (match st with
    | .inr (.inl x) :: r => some (.inr (.inl (-x)) :: r)
    | _ => none)
  | .lushr => (match st with
    | .inl y :: .inr (.inl x) :: r => some (.inr (.inl ((x.toUInt64 >>> (y.toInt64.toUInt64 &&& Int64.toUInt64 63)).toInt64)) :: r)
    | _ => none)
  | .lshl => (match st with
    | .inl y :: .inr (.inl x) :: r => some (.inr (.inl (x <<< (y.toInt64 &&& 63))) :: r)
    | _ => none)
  | .lcmp => (match st with
    | .inr (.inl y) :: .inr (.inl x) :: r => some (.inl (lg_cmp x y) :: r)
    | _ => none)
  | .i2l => (match st with
    | .inl x :: r => some (.inr (.inl x.toInt64) :: r)
    | _ => none)
  | .l2i => (match st with
    | .inr (.inl x) :: r => some (.inl x.toInt32 :: r)
    | _ => none)
  | .i2b => (match st with
    | .inl x :: r => some (.inl x.toInt8.toInt32 :: r)
    | _ => none)
  | .i2c => (match st with
    | .inl x :: r => some (.inl (x.toUInt32 % 65536).toInt32 :: r)
    | _ => none)
  | .dup => (match st with
    | v :: r => if acat_ v = 1 then some (v :: v :: r) else none
    | _ => none)
  | .pop => (match st with
    | v :: r => if acat_ v = 1 then some r else none
    | _ => none)
  | .dup_x1 => (match st with
    | v :: w :: r => if acat_ v = 1 ∧ acat_ w = 1 then some (v :: w :: v :: r) else none
    | _ => none)
  | .dup2 => (match st with
    | v :: w :: r => if acat_ v = 1 ∧ acat_ w = 1 then some (v :: w :: v :: w :: r) else none
    | _ => none)
  | _ => none
/-- loads: what is pushed -/
def exl_ (i : Instr) (ls : List AV) : Option AV := match i with
  | .iload k => ldI_ ls k
  | .iload_n k => ldI_ ls k
  | .lload k => ldL_ ls k
  | .lload_n k => ldL_ ls k
  | .aload k => ldA_ ls k
  | .aload_n k => ldA_ ls k
  | _ => none
/-- stores into locals, and iinc -/
def exs_ (lg : List Nat) (i : Instr) (ls st : List AV) : Option (List AV × List AV) := match i with
  | .istore k => (match st with
    | .inl x :: r => (sto_ lg ls k (.inl x)).map (fun l => (l, r))
    | _ => none)
  | .istore_n k => (match st with
    | .inl x :: r => (sto_ lg ls k (.inl x)).map (fun l => (l, r))
    | _ => none)
  | .lstore k => (match st with
    | .inr (.inl x) :: r => (stl_ lg ls k (.inr (.inl x))).map (fun l => (l, r))
    | _ => none)
  | .lstore_n k => (match st with
    | .inr (.inl x) :: r => (stl_ lg ls k (.inr (.inl x))).map (fun l => (l, r))
    | _ => none)
  | .astore k => (match st with
    | .inr (.inr (.inl x)) :: r => (sto_ lg ls k (.inr (.inr (.inl x)))).map (fun l => (l, r))
    | _ => none)
  | .astore_n k => (match st with
    | .inr (.inr (.inl x)) :: r => (sto_ lg ls k (.inr (.inr (.inl x)))).map (fun l => (l, r))
    | _ => none)
  | .iinc k n => (match ls[k]? with
    | some (.inl x) => (sto_ lg ls k (.inl (x + Int32.ofInt n))).map (fun l => (l, st))
    | _ => none)
  | _ => none
/-- jumps: where to, and the stack -/
def exj_ (pc : Nat) (i : Instr) (st : List AV) : Option (Nat × List AV) := match i with
  | .goto o => if tk_ pc o = true then some (tg_ pc o, st) else none
  | .ifCond c o => (match st with
    | .inl x :: r => if tk_ pc o = true then (if cb_ c x 0 = true then some (tg_ pc o, r) else some (pc + 3, r)) else none
    | _ => none)
  | .if_icmp c o => (match st with
    | .inl y :: .inl x :: r => if tk_ pc o = true then (if cb_ c x y = true then some (tg_ pc o, r) else some (pc + 3, r)) else none
    | _ => none)
  | .ifnull o => (match st with
    | .inr (.inr (.inl x)) :: r => if tk_ pc o = true then (if x = none then some (tg_ pc o, r) else some (pc + 3, r)) else none
    | _ => none)
  | .ifnonnull o => (match st with
    | .inr (.inr (.inl x)) :: r => if tk_ pc o = true then (if x = none then some (pc + 3, r) else some (tg_ pc o, r)) else none
    | _ => none)
  | .if_acmp c o => (match st with
    | .inr (.inr (.inl y)) :: .inr (.inr (.inl x)) :: r => if tkb_ x = true ∧ tkb_ y = true ∧ tk_ pc o = true then
        (if ca_ c x y = true then some (tg_ pc o, r) else some (pc + 3, r)) else none
    | _ => none)
  | .tableswitch d lo hi os => (match st with
    | .inl x :: r => if x.toInt < lo ∨ hi < x.toInt then (if tk_ pc d = true then some (tg_ pc d, r) else none) else (match os[(x.toInt - lo).toNat]? with
      | some o => if tk_ pc o = true then some (tg_ pc o, r) else none
      | none => none)
    | _ => none)
  | _ => none
/-- the heap: the stack and the heap behind it -/
def exh_ (xs : Nat → Int32) (k : Nat) (ini : Bool) (i : Instr) (st : List AV) (h : AH) : Option (List AV × AH) := match i with
  | .getfield x => (match fld_ k x, st with
    | some (kk, p, t, _), .inr (.inr (.inl (some a))) :: r => if kd_ a = kk then
        (if kk < 16 then (if t = 1 then some (.inr (.inl (hL_ h a p)) :: r, h) else if t = 2 then some (.inr (.inr (.inl (hR_ h a p))) :: r, h) else some (.inl (hI_ h a p) :: r, h))
         else if t = 2 then some (.inr (.inr (.inl (cR_ a p))) :: r, h) else some (.inl (cI_ a p) :: r, h)) else none
    | _, _ => none)
  | .putfield x => (match fld_ k x, st with
    | some (kk, p, t, _), v :: .inr (.inr (.inl (some a))) :: r => if kd_ a = kk ∧ kk < 16 ∧ (fnl_ kk p = false ∨ ini = true ∧ k = kk) then
        (match v with
          | .inl y => if t ≠ 1 ∧ t ≠ 2 ∧ nb_ t y = true then some (r, uI_ h a (st_ (hI_ h a) p y)) else none
          | .inr (.inl y) => if t = 1 then some (r, uL_ h a (st_ (hL_ h a) p y)) else none
          | .inr (.inr (.inl y)) => if t = 2 then some (r, uR_ h a (st_ (hR_ h a) p y)) else none
          | _ => none) else none
    | _, _ => none)
  | .iaload => (match st with
    | .inl i :: .inr (.inr (.inl (some a))) :: r => if inb_ i (ln_ a) = true then (if kd_ a = 16 then some (.inl (hI_ h a i.toNatClampNeg) :: r, h) else if kd_ a = 36 then some (.inl (xs i.toNatClampNeg) :: r, h) else none) else none
    | _ => none)
  | .baload => (match st with
    | .inl i :: .inr (.inr (.inl (some a))) :: r => if inb_ i (ln_ a) = true then (if kd_ a = 17 ∨ kd_ a = 18 then some (.inl (hI_ h a i.toNatClampNeg) :: r, h) else if kd_ a = 34 then some (.inl (cI_ a i.toNatClampNeg) :: r, h) else none) else none
    | _ => none)
  | .laload => (match st with
    | .inl i :: .inr (.inr (.inl (some a))) :: r => if inb_ i (ln_ a) = true ∧ kd_ a = 19 then some (.inr (.inl (hL_ h a i.toNatClampNeg)) :: r, h) else none
    | _ => none)
  | .aaload => (match st with
    | .inl i :: .inr (.inr (.inl (some a))) :: r => if inb_ i (ln_ a) = true then (if kd_ a = 20 ∨ kd_ a = 21 ∨ kd_ a = 22 then some (.inr (.inr (.inl (hR_ h a i.toNatClampNeg))) :: r, h) else if kd_ a = 35 then some (.inr (.inr (.inl (cR_ a i.toNatClampNeg))) :: r, h) else none) else none
    | _ => none)
  | .iastore => (match st with
    | .inl v :: .inl i :: .inr (.inr (.inl (some a))) :: r => if inb_ i (ln_ a) = true ∧ kd_ a = 16 then some (r, uI_ h a (st_ (hI_ h a) i.toNatClampNeg v)) else none
    | _ => none)
  | .bastore => (match st with
    | .inl v :: .inl i :: .inr (.inr (.inl (some a))) :: r => if inb_ i (ln_ a) = true ∧ (kd_ a = 17 ∧ nb_ 4 v = true ∨ kd_ a = 18 ∧ nb_ 3 v = true) then some (r, uI_ h a (st_ (hI_ h a) i.toNatClampNeg v)) else none
    | _ => none)
  | .lastore => (match st with
    | .inr (.inl v) :: .inl i :: .inr (.inr (.inl (some a))) :: r => if inb_ i (ln_ a) = true ∧ kd_ a = 19 then some (r, uL_ h a (st_ (hL_ h a) i.toNatClampNeg v)) else none
    | _ => none)
  | .aastore => (match st with
    | .inr (.inr (.inl v)) :: .inl i :: .inr (.inr (.inl (some a))) :: r => if inb_ i (ln_ a) = true ∧ (kd_ a = 20 ∧ ok1_ 0 v = true ∨ kd_ a = 21 ∧ ok1_ 4 v = true ∨ kd_ a = 22 ∧ ok1_ 32 v = true) then some (r, uR_ h a (st_ (hR_ h a) i.toNatClampNeg v)) else none
    | _ => none)
  | .arraylength => (match st with
    | .inr (.inr (.inl (some a))) :: r => if 16 ≤ kd_ a ∧ kd_ a ≤ 22 ∨ 34 ≤ kd_ a ∧ kd_ a ≤ 36 then some (.inl (Int32.ofNat (ln_ a)) :: r, h) else none
    | _ => none)
  | .newarray t => (match st with
    | .inl n :: r => if 0 ≤ n.toInt ∧ n.toNatClampNeg < 4096 ∧ arr_ t < 63 then some (.inr (.inr (.inl (some (mk_ (nx_ h) (arr_ t) n.toNatClampNeg)))) :: r, nw_ h (arr_ t) n.toNatClampNeg n.toNatClampNeg) else none
    | _ => none)
  | .anewarray x => (match cls_ k x, st with
    | some (c, _), .inl n :: r => if 0 ≤ n.toInt ∧ n.toNatClampNeg < 4096 ∧ (c = 0 ∨ c = 4 ∨ c = 32) then some (.inr (.inr (.inl (some (mk_ (nx_ h) (if c = 0 then 20 else if c = 4 then 21 else 22) n.toNatClampNeg)))) :: r, nw_ h (if c = 0 then 20 else if c = 4 then 21 else 22) n.toNatClampNeg n.toNatClampNeg) else none
    | _, _ => none)
  | .new x => (match cls_ k x with
    | some (c, _) => if c < 16 then some (.inr (.inr (.inl (some (mk_ (nx_ h) c 0)))) :: st, nw_ h c 0 (nfl_ c)) else none
    | none => none)
  | _ => none
/-- constants of the pool -/
def ki_ (q : AV × Nat × Nat) : Option AV := if q.2.2 = 2 then some q.1 else if q.2.2 = 0 then (match q.1 with
  | .inl y => some (.inl y)
  | _ => none) else none
def kj_ (q : AV × Nat × Nat) : Option AV := if q.2.2 = 0 then (match q.1 with
  | .inr (.inl y) => some (.inr (.inl y))
  | _ => none) else none
def exk_ (k : Nat) (i : Instr) : Option AV := match i with
  | .ldc x => (kst_ k x).bind ki_
  | .ldc_w x => (kst_ k x).bind ki_
  | .ldc2_w x => (kst_ k x).bind kj_
  | .getstatic x => (kst_ k x).bind (fun q => if q.2.2 = 1 then some q.1 else none)
  | _ => none
/-- a plain instruction -/
def ex_ (xs : Nat → Int32) (m pc len : Nat) (i : Instr) (ls st : List AV) (h : AH) : Option NS_ :=
  match exc_ i with
  | some v => some (pc + len, ls, v :: st, h)
  | none => match exl_ i ls with
    | some v => some (pc + len, ls, v :: st, h)
    | none => match exa_ i st with
      | some st' => some (pc + len, ls, st', h)
      | none => match exs_ (lgs_ m) i ls st with
        | some (ls', st') => some (pc + len, ls', st', h)
        | none => match exj_ pc i st with
          | some (pc', st') => some (pc', ls, st', h)
          | none => match exk_ (kap_ m) i with
            | some v => some (pc + len, ls, v :: st, h)
            | none => match exh_ xs (kap_ m) ((nam_ m).name == "<init>") i st h with
              | some (st', h') => some (pc + len, ls, st', h')
              | none => none
/-- where a throw from a place is caught -/
def hnd_ (m pc : Nat) : Option Nat := if ((nam_ m).cls == RL) && ((nam_ m).name != "law") && decide (pc < 12) then some 15 else none
def rok_ (k : Nat) (st : List AV) (n : Nat) : Bool := if k = 99 then true else match (st.take n).getLast? with
  | some (.inr (.inr (.inl (some a)))) => kd_ a == k
  | _ => false
/-- 'throw new E()' stands at pc -/
def thr_ (m pc : Nat) : Bool := match decode (cod_ m) pc, decode (cod_ m) (pc + 3), decode (cod_ m) (pc + 4), decode (cod_ m) (pc + 7) with
  | .ok (.new x, 3), .ok (.dup, 1), .ok (.invokespecial 191, 3), .ok (.athrow, 1) => (match cls_ (kap_ m) x with
    | some (40, _) => kap_ m == 7
    | _ => false)
  | _, _, _, _ => false
abbrev OU_ : Type := Option (Option AV)
/-- is this kind of call (0 static, 1 virtual, 2 special) the callee's -/
def cty_ (c q : Nat) : Bool := if c = 0 then rcv_ q == 99 else if c = 1 then rcv_ q != 99 && (nam_ q).name != "<init>" else rcv_ q != 99 && (nam_ q).name == "<init>"
/-- the arguments fit the callee's locals, its longs lie where longs may -/
def pok_ (q : Nat) (as : List AV) : Bool := decide ((plc_ as).length ≤ mxl_ q) && (List.range (plc_ as).length).all (fun i => match (plc_ as)[i]? with
  | some (.inr (.inl _)) => decide (i ∈ lgs_ q)
  | _ => true)
/-- a call -/
def cal_ (rn : Nat → Nat → Nat → List AV → List AV → AH → Option (OU_ × AH)) (d m pc : Nat) (ls st : List AV) (h : AH) (c : Option (Nat × Nat × Nat)) (ct : Nat) : Option (OU_ × AH) := match c with
  | none => none
  | some (q, _, _) => if q = 1000 then (match st with
      | .inr (.inr (.inl (some a))) :: r => if ct = 2 ∧ kd_ a < 16 ∧ (r.map acat_).sum ≤ 8 ∧ 0 < d then rn d m (pc + 3) ls r h else none
      | _ => none)
    else (match d with
      | 0 => none
      | d' + 1 => if q < 200 ∧ nar_ q ≤ st.length ∧ ((st.drop (nar_ q)).map acat_).sum ≤ 8 ∧ rok_ (rcv_ q) st (nar_ q) = true ∧ cty_ ct q = true ∧ pok_ q (st.take (nar_ q)).reverse = true then (match rn d' q 0 (ent_ (st.take (nar_ q)).reverse (mxl_ q)) [] h with
        | some (some (some v), h') => rn (d' + 1) m (pc + 3) ls (v :: st.drop (nar_ q)) h'
        | some (some none, h') => rn (d' + 1) m (pc + 3) ls (st.drop (nar_ q)) h'
        | some (none, h') => (match hnd_ m pc with
          | some pc' => rn (d' + 1) m pc' ls [.inr (.inr (.inl (some (mk_ (nx_ h' - 1) 40 0))))] h'
          | none => none)
        | none => none) else none)
/-- how long an instruction is -/
def iln_ (i : Instr) : Nat := match i with
  | .bipush _ => 2
  | .newarray _ => 2
  | .ldc _ => 2
  | .iload _ => 2
  | .lload _ => 2
  | .aload _ => 2
  | .istore _ => 2
  | .lstore _ => 2
  | .astore _ => 2
  | .sipush _ => 3
  | .iinc _ _ => 3
  | .goto _ => 3
  | .ifCond _ _ => 3
  | .if_icmp _ _ => 3
  | .if_acmp _ _ => 3
  | .ifnull _ => 3
  | .ifnonnull _ => 3
  | .ldc_w _ => 3
  | .ldc2_w _ => 3
  | .getstatic _ => 3
  | .getfield _ => 3
  | .putfield _ => 3
  | .invokestatic _ => 3
  | .invokevirtual _ => 3
  | .invokespecial _ => 3
  | .new _ => 3
  | .anewarray _ => 3
  | _ => 1
def lok_ (i : Instr) (len : Nat) : Bool := match i with
  | .tableswitch _ _ _ _ => true
  | i => len == iln_ i
/-- the machine: fuel, depth, method, place, locals, stack, heap -/
def run_ (xs : Nat → Int32) : Nat → Nat → Nat → Nat → List AV → List AV → AH → Option (OU_ × AH)
  | 0, _, _, _, _, _, _ => none
  | n + 1, d, m, pc, ls, st, h => match decode (cod_ m) pc with
    | .error _ => none
    | .ok (i, len) => if lok_ i len = true then
      (match i with
      | .ireturn => (match st with
        | [.inl x] => if rb_ (rty_ m) x = true then some (some (some (.inl x)), h) else none
        | _ => none)
      | .lreturn => (match st with
        | [.inr (.inl x)] => if rty_ m = some .long then some (some (some (.inr (.inl x))), h) else none
        | _ => none)
      | .areturn => (match st with
        | [.inr (.inr (.inl x))] => (match rty_ m with
          | some (.object _) => some (some (some (.inr (.inr (.inl x)))), h)
          | _ => none)
        | _ => none)
      | .return_ => (match st with
        | [] => if rty_ m = none then some (some none, h) else none
        | _ => none)
      | .invokestatic x => cal_ (run_ xs n) d m pc ls st h (mth_ (kap_ m) x) 0
      | .invokevirtual x => cal_ (run_ xs n) d m pc ls st h (mth_ (kap_ m) x) 1
      | .invokespecial x => cal_ (run_ xs n) d m pc ls st h (mth_ (kap_ m) x) 2
      | _ => if thr_ m pc = true then (match st with
        | [] => some (none, xh_ h)
        | _ => none) else (match ex_ xs m pc len i ls st h with
        | some (pc', ls', st', h') => run_ xs n d m pc' ls' st' h'
        | none => none)) else none
