/-! ONE INSTRUCTION, OVER ABSTRACT WORLDS. x: the script (its length, its ints). A row of the program gives the instruction, its length and what its pool entry means. -/
abbrev SX : Type := Nat × (Nat → Int32)
abbrev FE : Type := Instr × Nat × Nat × Nat × Nat
def inb (i : Int32) (n : Nat) : Bool := decide (0 ≤ i.toInt) && decide (i.toInt < (n : Int))
theorem inb_in {i : Int32} {n : Nat} (h : inb i n = true) : vp_in i n := by
  simp only [inb, Bool.and_eq_true, decide_eq_true_eq] at h
  exact vp_in_iff.mpr h
def tgt (pc : Nat) (off : Int) : Nat := ((pc : Int) + off).toNat
def okt (pc : Nat) (off : Int) : Bool := decide (0 ≤ (pc : Int) + off)
theorem tgt_eq {pc : Nat} {off : Int} (h : okt pc off = true) : (pc : Int) + off = (tgt pc off : Int) := by
  simp only [okt, decide_eq_true_eq] at h
  simp only [tgt]
  omega
def kd : Value → Nat
  | .int _ => 0
  | .long _ => 1
  | .float _ => 2
  | .double _ => 3
  | .null => 4
  | .ref _ => 4
  | .retAddr _ => 9
def ldk (t : Nat) (lv : LV) (i : Nat) : Option Value := match lv[i]? with
  | some (some v) => if kd v = t then some v else none
  | _ => none
def bin (f : Int32 → Int32 → Value) : List Value → Option (List Value)
  | .int y :: .int x :: r => some (f x y :: r)
  | _ => none
def un (f : Int32 → Value) : List Value → Option (List Value)
  | .int x :: r => some (f x :: r)
  | _ => none
def bdiv (f : Int32 → Int32 → Int32) : List Value → Option (List Value)
  | .int y :: .int x :: r => if y = 0 then none else some (.int (f x y) :: r)
  | _ => none
def icnd : Jvm.ClassFile.Cond → Int32 → Int32 → Bool
  | .eq, x, y => decide (x = y)
  | .ne, x, y => decide (¬ x = y)
  | .lt, x, y => decide (x < y)
  | .ge, x, y => decide (y ≤ x)
  | .gt, x, y => decide (y < x)
  | .le, x, y => decide (x ≤ y)
/-- where a switch goes -/
def swt (pc : Nat) (d lo hi : Int) (offs : Array Int) (x : Int32) : Option Nat :=
  if x.toInt < lo ∨ hi < x.toInt then (if okt pc d then some (tgt pc d) else none) else match offs[(x.toInt - lo).toNat]? with
    | some o => if okt pc o then some (tgt pc o) else none
    | none => none
def swl (pc : Nat) (d : Int) (ps : Array (Int × Int)) (x : Int32) : Option Nat :=
  let o := Op.lookupswitch.offset ps.toList d x.toInt
  if (ps.toList.zip (ps.toList.drop 1)).all (fun (a, next) => a.1 < next.1) = true then (if okt pc o then some (tgt pc o) else none) else none
/-- old rows of numbers: Integer's two tables, the script, the bytes of the String constants -/
def extA (x : SX) (p : Nat) : Option (Nat × Nat × (Nat → Int32)) :=
  if p = 7 then some (2, 100, fun j => Int32.ofNat (48 + j % 10)) else if p = 8 then some (2, 100, fun j => Int32.ofNat (48 + j / 10)) else if p = 9 then some (0, x.1, x.2) else
    (STRS.find? (fun q => q.2.2.2.2 + 1 == p)).map fun q => (2, q.2.2.2.1.length, fun j => q.2.2.2.1.getD j 0)
def isStr (p : Nat) : Bool := STRS.any fun q => q.2.2.2.2 == p
def rowI (x : SX) (w : PW) (e a : Nat) : Option (Nat × Nat × (Nat → Int32)) := if e = 1 then extA x a else match w a with
  | some (.inl (t, n, .inl f)) => some (t, n, f)
  | _ => none
def fin (n : Nat) (h : Int32) : Option Nat := if inb h n then some h.toNatClampNeg else none
/-- a load of a row of ints, chars or bytes: tag t -/
def xald (t : Nat) (x : SX) (w : PW) (e : Nat) : List Value → Option (List Value)
  | .int i :: .ref a :: r => match rowI x w e a with
    | some (t', n, f) => if t' = t then (fin n i).map fun j => .int (f j) :: r else none
    | none => none
  | _ => none
def xast (t : Nat) (g : Int32 → Int32) (w : PW) : List Value → Option (List Value × PW)
  | .int v :: .int i :: .ref a :: r => match w a with
    | some (.inl (t', n, .inl f)) => if t' = t then (fin n i).map fun j => (r, pupd w a (.inl (t, n, .inl (upd f j (g v))))) else none
    | _ => none
  | _ => none
def lald (w : PW) : List Value → Option (List Value)
  | .int i :: .ref a :: r => match w a with
    | some (.inl (3, n, .inr (.inl f))) => (fin n i).map fun j => .long (f j) :: r
    | _ => none
  | _ => none
def last (w : PW) : List Value → Option (List Value × PW)
  | .long v :: .int i :: .ref a :: r => match w a with
    | some (.inl (3, n, .inr (.inl f))) => (fin n i).map fun j => (r, pupd w a (.inl (3, n, .inr (.inl (vp_updL f j v)))))
    | _ => none
  | _ => none
def dald (w : PW) : List Value → Option (List Value)
  | .int i :: .ref a :: r => match w a with
    | some (.inl (4, n, .inr (.inr (.inr (.inl f))))) => (fin n i).map fun j => .double (f j) :: r
    | _ => none
  | _ => none
def dast (w : PW) : List Value → Option (List Value × PW)
  | .double v :: .int i :: .ref a :: r => match w a with
    | some (.inl (4, n, .inr (.inr (.inr (.inl f))))) => (fin n i).map fun j => (r, pupd w a (.inl (4, n, .inr (.inr (.inr (.inl (vf_upd f j v)))))))
    | _ => none
  | _ => none
def qald (w : PW) : List Value → Option (List Value)
  | .int i :: .ref a :: r => match w a with
    | some (.inl (5, n, .inr (.inr (.inr (.inr f))))) => (fin n i).map fun j => va_rf (f j) :: r
    | _ => none
  | _ => none
/-- a reference to a Canal into a row of them -/
def qast (w : PW) : List Value → Option (List Value × PW)
  | .ref v :: .int i :: .ref a :: r => match w a, w v with
    | some (.inl (5, n, .inr (.inr (.inr (.inr f))))), some (.inr (0, _)) => (fin n i).map fun j => (r, pupd w a (.inl (5, n, .inr (.inr (.inr (.inr (va_up f j (some v))))))))
    | _, _ => none
  | _ => none
def alen (x : SX) (w : PW) (e : Nat) : List Value → Option (List Value)
  | .ref a :: r => if e = 1 then (extA x a).map fun q => .int (Int32.ofNat q.2.1) :: r else match w a with
    | some (.inl (t, q)) => if t < 6 then some (.int (Int32.ofNat q.1) :: r) else none
    | _ => none
  | _ => none
def pfit : FieldType → Value → Bool
  | .int, .int _ => true
  | .boolean, .int x => decide (x = 0 ∨ x = 1)
  | .byte, .int x => decide (x = 0 ∨ x = 1)
  | .object _, .ref _ => true
  | .object _, .null => true
  | .array _, .ref _ => true
  | .array _, .null => true
  | _, _ => false
def fty (ci k : Nat) : Option FieldType := match CLS[ci]? with
  | some r => parseFieldDescriptor (r.2.1 k).2.2.1
  | none => none
def getf (w : PW) (ci k : Nat) : List Value → Option (List Value)
  | .ref a :: r => if ci = 1000 then (if isStr a then some (.ref (a + 1) :: r) else none) else if ci = 1001 then (if isStr a then some (.int 0 :: r) else none) else match w a with
    | some (.inr (c, fs)) => if c = ci then (fs[k]?).map fun v => v :: r else none
    | _ => none
  | _ => none
def putf (w : PW) (ci k : Nat) : List Value → Option (List Value × PW)
  | v :: .ref a :: r => match w a, fty ci k with
    | some (.inr (c, fs)), some ty => if c = ci ∧ k < fs.length ∧ pfit ty v = true then some (r, pupd w a (.inr (c, fs.set k v))) else none
    | _, _ => none
  | _ => none
def ex (x : SX) (pc : Nat) (q : FE) (lv : LV) (st : List Value) (w : PW) : Option CFG :=
  let n := q.2.1
  let a := q.2.2.1
  let b := q.2.2.2.1
  let nx : Option (List Value) → Option CFG := fun o => o.map fun s => (pc + n, lv, s, w)
  let ny : Option (List Value × PW) → Option CFG := fun o => o.map fun s => (pc + n, lv, s.1, s.2)
  match q.1 with
  | .iconst v => some (pc + n, lv, .int (Int32.ofInt v) :: st, w)
  | .bipush v => some (pc + n, lv, .int (Int8.ofInt v).toInt32 :: st, w)
  | .sipush v => some (pc + n, lv, .int (Int16.ofInt v).toInt32 :: st, w)
  | .lconst v => some (pc + n, lv, .long (Int64.ofNat (v : Nat)) :: st, w)
  | .fconst v => if v = 0 then some (pc + n, lv, .float FP.fconst0 :: st, w) else none
  | .aconst_null => some (pc + n, lv, .null :: st, w)
  | .ldc _ => if a = 0 then some (pc + n, lv, .int (Int32.ofNat b) :: st, w) else if a = 1 then some (pc + n, lv, .ref b :: st, w) else none
  | .ldc2_w _ => if a = 2 then some (pc + n, lv, .double (UInt64.ofNat b) :: st, w) else none
  | .iload i => (ldk 0 lv i).map fun v => (pc + n, lv, v :: st, w)
  | .iload_n i => (ldk 0 lv i).map fun v => (pc + n, lv, v :: st, w)
  | .aload i => (ldk 4 lv i).map fun v => (pc + n, lv, v :: st, w)
  | .aload_n i => (ldk 4 lv i).map fun v => (pc + n, lv, v :: st, w)
  | .fload i => (ldk 2 lv i).map fun v => (pc + n, lv, v :: st, w)
  | .dload i => (ldk 3 lv i).map fun v => (pc + n, lv, v :: st, w)
  | .istore i => match st with
    | .int v :: r => if i < lv.length ∧ cut1 lv i = true then some (pc + n, st1 lv i (.int v), r, w) else none
    | _ => none
  | .istore_n i => match st with
    | .int v :: r => if (i : Nat) < lv.length ∧ cut1 lv i = true then some (pc + n, st1 lv i (.int v), r, w) else none
    | _ => none
  | .astore i => match st with
    | .ref v :: r => if i < lv.length ∧ cut1 lv i = true then some (pc + n, st1 lv i (.ref v), r, w) else none
    | .null :: r => if i < lv.length ∧ cut1 lv i = true then some (pc + n, st1 lv i .null, r, w) else none
    | _ => none
  | .astore_n i => match st with
    | .ref v :: r => if (i : Nat) < lv.length ∧ cut1 lv i = true then some (pc + n, st1 lv i (.ref v), r, w) else none
    | .null :: r => if (i : Nat) < lv.length ∧ cut1 lv i = true then some (pc + n, st1 lv i .null, r, w) else none
    | _ => none
  | .fstore i => match st with
    | .float v :: r => if i < lv.length ∧ cut1 lv i = true then some (pc + n, st1 lv i (.float v), r, w) else none
    | _ => none
  | .dstore i => match st with
    | .double v :: r => if i + 1 < lv.length ∧ cut1 lv i = true then some (pc + n, st2 lv i (.double v), r, w) else none
    | _ => none
  | .iinc i v => match lv[i]? with
    | some (some (.int y)) => if i < lv.length ∧ cut1 lv i = true ∧ n = 3 then some (pc + n, st1 lv i (.int (y + Int32.ofInt v)), st, w) else none
    | _ => none
  | .iadd => nx (bin (fun x y => .int (x + y)) st)
  | .isub => nx (bin (fun x y => .int (x - y)) st)
  | .imul => nx (bin (fun x y => .int (x * y)) st)
  | .iand => nx (bin (fun x y => .int (x &&& y)) st)
  | .ior => nx (bin (fun x y => .int (x ||| y)) st)
  | .ishl => nx (bin (fun x y => .int (x <<< (y &&& 31))) st)
  | .ishr => nx (bin (fun x y => .int (x >>> (y &&& 31))) st)
  | .idiv => nx (bdiv (fun x y => x / y) st)
  | .irem => nx (bdiv (fun x y => x - x / y * y) st)
  | .ineg => nx (un (fun x => .int (-x)) st)
  | .i2l => nx (un (fun x => .long x.toInt64) st)
  | .i2c => nx (un (fun x => .int (x.toUInt32 % 65536).toInt32) st)
  | .i2b => nx (un (fun x => .int x.toInt8.toInt32) st)
  | .i2f => nx (un (fun x => .float (FP.i2f x)) st)
  | .i2d => nx (un (fun x => .double (FP.i2d x)) st)
  | .f2d => match st with
    | .float v :: r => if FP.f2d v &&& 0x7fffffffffffffff ≤ 0x7ff0000000000000 then some (pc + n, lv, .double (FP.f2d v) :: r, w) else none
    | _ => none
  | .fdiv => match st with
    | .float v :: .float u :: r => if FP.fdiv u v &&& 0x7fffffff ≤ 0x7f800000 then some (pc + n, lv, .float (FP.fdiv u v) :: r, w) else none
    | _ => none
  | .ddiv => match st with
    | .double v :: .double u :: r => if FP.ddiv u v &&& 0x7fffffffffffffff ≤ 0x7ff0000000000000 then some (pc + n, lv, .double (FP.ddiv u v) :: r, w) else none
    | _ => none
  | .lcmp => match st with
    | .long v :: .long u :: r => some (pc + n, lv, .int (lg_cmp u v) :: r, w)
    | _ => none
  | .dcmp op => match st with
    | .double v :: .double u :: r => some (pc + n, lv, .int (Op.cmpValue (FP.dcmp u v) op) :: r, w)
    | _ => none
  | .fcmp op => match st with
    | .float v :: .float u :: r => some (pc + n, lv, .int (Op.cmpValue (FP.fcmp u v) op) :: r, w)
    | _ => none
  | .dup => match st with
    | v :: r => if v.category = 1 then some (pc + n, lv, v :: v :: r, w) else none
    | _ => none
  | .dup2 => match st with
    | v :: u :: r => if v.category = 1 ∧ u.category = 1 then some (pc + n, lv, v :: u :: v :: u :: r, w) else none
    | _ => none
  | .dup_x1 => match st with
    | v :: u :: r => if v.category = 1 ∧ u.category = 1 then some (pc + n, lv, v :: u :: v :: r, w) else none
    | _ => none
  | .pop => match st with
    | v :: r => if v.category = 1 then some (pc + n, lv, r, w) else none
    | _ => none
  | .ifCond c o => match st with
    | .int v :: r => if okt pc o then some (if icnd c v 0 then tgt pc o else pc + n, lv, r, w) else none
    | _ => none
  | .if_icmp c o => match st with
    | .int v :: .int u :: r => if okt pc o then some (if icnd c u v then tgt pc o else pc + n, lv, r, w) else none
    | _ => none
  | .if_acmp c o => match st with
    | .ref v :: .ref u :: r => if okt pc o ∧ v < 6 ∧ u < 6 then some (if (match c with | .eq => decide (u = v) | .ne => decide (¬ u = v)) then tgt pc o else pc + n, lv, r, w) else none
    | _ => none
  | .ifnull o => match st with
    | .ref _ :: r => some (pc + n, lv, r, w)
    | .null :: r => if okt pc o then some (tgt pc o, lv, r, w) else none
    | _ => none
  | .goto o => if okt pc o then some (tgt pc o, lv, st, w) else none
  | .tableswitch d lo hi offs => match st with
    | .int v :: r => (swt pc d lo hi offs v).map fun t => (t, lv, r, w)
    | _ => none
  | .lookupswitch d ps => match st with
    | .int v :: r => (swl pc d ps v).map fun t => (t, lv, r, w)
    | _ => none
  | .getstatic _ => (STATS[a]?).map fun s => (pc + n, lv, s.2.2.2 :: st, w)
  | .getfield _ => nx (getf w a b st)
  | .putfield _ => ny (putf w a b st)
  | .iaload => nx (xald 0 x w a st)
  | .caload => nx (xald 1 x w a st)
  | .baload => nx (xald 2 x w a st)
  | .iastore => ny (xast 0 (fun v => v) w st)
  | .castore => ny (xast 1 (vp_nar .char) w st)
  | .bastore => ny (xast 2 (vp_nar .byte) w st)
  | .laload => nx (lald w st)
  | .lastore => ny (last w st)
  | .daload => nx (dald w st)
  | .dastore => ny (dast w st)
  | .aaload => nx (qald w st)
  | .aastore => ny (qast w st)
  | .arraylength => nx (alen x w a st)
  | _ => none
def stp (x : SX) (k : Nat) (g : CFG) : Option CFG := match fetch k g.1 with
  | some q => ex x g.1 q g.2.1 g.2.2.1 g.2.2.2
  | none => none
def stps (x : SX) (k : Nat) : Nat → CFG → Option CFG
  | 0, g => some g
  | n + 1, g => match stp x k g with
    | some g' => stps x k n g'
    | none => none
