/-! THE TURNS AS EQUATIONS: by program (wip/whole/mk22.py) -/
section RCS
noncomputable def RC (x : SX) (k pc : Nat) (lv : LV) (st : List Value) (w : PW) (n : Nat) : Option RR := R x (k, (pc, lv, st, w), n)
noncomputable def RM (x : SX) (j : Nat) (as : List Value) (w : PW) (n : Nat) : Option RR := RC x j 0 (lvs (mL j) as) [] w n
variable {x : SX} {k pc n len a b c : Nat} {lv : LV} {st r : List Value} {w : PW} {q : FE}
theorem rc_q (hf : fetch k pc = some q) : RC x k pc lv st w n = (STQ x k q pc lv st w n).bind (app2 (R x)) := by
  unfold RC
  rw [R_unf]
  unfold PHI STEP
  dsimp only
  rw [hf]
theorem rc_exq {g : CFG} (hf : fetch k pc = some q) (hd : STQ x k q pc lv st w n = (match ex x pc q lv st w with
    | some g => tail k g n
    | none => none)) (he : ex x pc q lv st w = some g) : RC x k pc lv st w n = RC x k g.1 g.2.1 g.2.2.1 g.2.2.2 n := by
  rw [rc_q hf, hd, he]
  rfl
theorem rc_map {α : Type} {o : Option α} {F : α → CFG} (hf : fetch k pc = some q) (hd : STQ x k q pc lv st w n = (match ex x pc q lv st w with
    | some g => tail k g n
    | none => none)) (he : ex x pc q lv st w = o.map F) : RC x k pc lv st w n = o.bind fun v => RC x k (F v).1 (F v).2.1 (F v).2.2.1 (F v).2.2.2 n := by
  rw [rc_q hf, hd, he]
  cases o <;> rfl
theorem rc_iconst {i : Int} {u : Int32} (hf : fetch k pc = some (.iconst i, len, a, b, c)) (h : Int32.ofInt i = u) : RC x k pc lv (st) w n = RC x k (pc + len) lv (.int u :: st) w n := rc_exq (g := (pc + len, lv, .int u :: st, w)) hf rfl (by subst h; rfl)
theorem rc_bipush {i : Int} {u : Int32} (hf : fetch k pc = some (.bipush i, len, a, b, c)) (h : (Int8.ofInt i).toInt32 = u) : RC x k pc lv (st) w n = RC x k (pc + len) lv (.int u :: st) w n := rc_exq (g := (pc + len, lv, .int u :: st, w)) hf rfl (by subst h; rfl)
theorem rc_sipush {i : Int} {u : Int32} (hf : fetch k pc = some (.sipush i, len, a, b, c)) (h : (Int16.ofInt i).toInt32 = u) : RC x k pc lv (st) w n = RC x k (pc + len) lv (.int u :: st) w n := rc_exq (g := (pc + len, lv, .int u :: st, w)) hf rfl (by subst h; rfl)
theorem rc_lconst {i : Fin 2} {u : Int64} (hf : fetch k pc = some (.lconst i, len, a, b, c)) (h : Int64.ofNat (i : Nat) = u) : RC x k pc lv (st) w n = RC x k (pc + len) lv (.long u :: st) w n := rc_exq (g := (pc + len, lv, .long u :: st, w)) hf rfl (by subst h; rfl)
theorem rc_aconst  (hf : fetch k pc = some (.aconst_null, len, a, b, c))  : RC x k pc lv (st) w n = RC x k (pc + len) lv (.null :: st) w n := rc_exq (g := (pc + len, lv, .null :: st, w)) hf rfl (rfl)
theorem rc_fconst  (hf : fetch k pc = some (.fconst 0, len, a, b, c))  : RC x k pc lv (st) w n = RC x k (pc + len) lv (.float FP.fconst0 :: st) w n := rc_exq (g := (pc + len, lv, .float FP.fconst0 :: st, w)) hf rfl (rfl)
theorem rc_ldcI {i : Nat} {u : Int32} (hf : fetch k pc = some (.ldc i, len, 0, b, c)) (h : Int32.ofNat b = u) : RC x k pc lv st w n = RC x k (pc + len) lv (.int u :: st) w n := rc_exq (g := (pc + len, lv, .int u :: st, w)) hf rfl (by subst h; rfl)
theorem rc_ldcS {i : Nat} (hf : fetch k pc = some (.ldc i, len, 1, b, c)) : RC x k pc lv st w n = RC x k (pc + len) lv (.ref b :: st) w n := rc_exq (g := (pc + len, lv, .ref b :: st, w)) hf rfl rfl
theorem rc_ldc2 {i : Nat} (hf : fetch k pc = some (.ldc2_w i, len, 2, b, c)) : RC x k pc lv st w n = RC x k (pc + len) lv (.double (UInt64.ofNat b) :: st) w n := rc_exq (g := (pc + len, lv, .double (UInt64.ofNat b) :: st, w)) hf rfl rfl
theorem rc_iload {i : Nat} {v : Value} (hf : fetch k pc = some (.iload i, len, a, b, c)) (h : ldk 0 lv i = some v) : RC x k pc lv st w n = RC x k (pc + len) lv (v :: st) w n := rc_exq (g := (pc + len, lv, v :: st, w)) hf rfl (by simp only [ex, h]; rfl)
theorem rc_iload_n {i : Fin 4} {v : Value} (hf : fetch k pc = some (.iload_n i, len, a, b, c)) (h : ldk 0 lv i = some v) : RC x k pc lv st w n = RC x k (pc + len) lv (v :: st) w n := rc_exq (g := (pc + len, lv, v :: st, w)) hf rfl (by simp only [ex, h]; rfl)
theorem rc_aload {i : Nat} {v : Value} (hf : fetch k pc = some (.aload i, len, a, b, c)) (h : ldk 4 lv i = some v) : RC x k pc lv st w n = RC x k (pc + len) lv (v :: st) w n := rc_exq (g := (pc + len, lv, v :: st, w)) hf rfl (by simp only [ex, h]; rfl)
theorem rc_aload_n {i : Fin 4} {v : Value} (hf : fetch k pc = some (.aload_n i, len, a, b, c)) (h : ldk 4 lv i = some v) : RC x k pc lv st w n = RC x k (pc + len) lv (v :: st) w n := rc_exq (g := (pc + len, lv, v :: st, w)) hf rfl (by simp only [ex, h]; rfl)
theorem rc_fload {i : Nat} {v : Value} (hf : fetch k pc = some (.fload i, len, a, b, c)) (h : ldk 2 lv i = some v) : RC x k pc lv st w n = RC x k (pc + len) lv (v :: st) w n := rc_exq (g := (pc + len, lv, v :: st, w)) hf rfl (by simp only [ex, h]; rfl)
theorem rc_dload {i : Nat} {v : Value} (hf : fetch k pc = some (.dload i, len, a, b, c)) (h : ldk 3 lv i = some v) : RC x k pc lv st w n = RC x k (pc + len) lv (v :: st) w n := rc_exq (g := (pc + len, lv, v :: st, w)) hf rfl (by simp only [ex, h]; rfl)
theorem rc_istore {i : Nat} {v : Int32} {lv1 : LV} (hf : fetch k pc = some (.istore i, len, a, b, c)) (h : oks lv i = true) (h1 : st1 lv i (.int v) = lv1) : RC x k pc lv (.int v :: r) w n = RC x k (pc + len) lv1 r w n := rc_exq (g := (pc + len, lv1, r, w)) hf rfl (by subst h1; rw [oks_iff] at h; show (if _ then _ else none) = _; rw [if_pos h])
theorem rc_astore {i : Nat} {v : Nat} {lv1 : LV} (hf : fetch k pc = some (.astore i, len, a, b, c)) (h : oks lv i = true) (h1 : st1 lv i (.ref v) = lv1) : RC x k pc lv (.ref v :: r) w n = RC x k (pc + len) lv1 r w n := rc_exq (g := (pc + len, lv1, r, w)) hf rfl (by subst h1; rw [oks_iff] at h; show (if _ then _ else none) = _; rw [if_pos h])
theorem rc_istore_n {i : Fin 4} {v : Int32} {lv1 : LV} (hf : fetch k pc = some (.istore_n i, len, a, b, c)) (h : oks lv i = true) (h1 : st1 lv i (.int v) = lv1) : RC x k pc lv (.int v :: r) w n = RC x k (pc + len) lv1 r w n := rc_exq (g := (pc + len, lv1, r, w)) hf rfl (by subst h1; rw [oks_iff] at h; show (if _ then _ else none) = _; rw [if_pos h])
theorem rc_astore_n {i : Fin 4} {v : Nat} {lv1 : LV} (hf : fetch k pc = some (.astore_n i, len, a, b, c)) (h : oks lv i = true) (h1 : st1 lv i (.ref v) = lv1) : RC x k pc lv (.ref v :: r) w n = RC x k (pc + len) lv1 r w n := rc_exq (g := (pc + len, lv1, r, w)) hf rfl (by subst h1; rw [oks_iff] at h; show (if _ then _ else none) = _; rw [if_pos h])
theorem rc_fstore {i : Nat} {v : UInt32} {lv1 : LV} (hf : fetch k pc = some (.fstore i, len, a, b, c)) (h : oks lv i = true) (h1 : st1 lv i (.float v) = lv1) : RC x k pc lv (.float v :: r) w n = RC x k (pc + len) lv1 r w n := rc_exq (g := (pc + len, lv1, r, w)) hf rfl (by subst h1; rw [oks_iff] at h; show (if _ then _ else none) = _; rw [if_pos h])
theorem rc_dstore {i : Nat} {v : UInt64} {lv1 : LV} (hf : fetch k pc = some (.dstore i, len, a, b, c)) (h : i + 1 < lv.length) (h0 : cut1 lv i = true) (h1 : st2 lv i (.double v) = lv1) : RC x k pc lv (.double v :: r) w n = RC x k (pc + len) lv1 r w n := rc_exq (g := (pc + len, lv1, r, w)) hf rfl (by subst h1; show (if _ then _ else none) = _; rw [if_pos ⟨h, h0⟩])
theorem rc_iinc {i : Nat} {d : Int} {lv1 : LV} (hf : fetch k pc = some (.iinc i d, 3, a, b, c)) (h : incv lv i d = some lv1) : RC x k pc lv st w n = RC x k (pc + 3) lv1 st w n := by
  refine rc_exq (g := (pc + 3, lv1, st, w)) hf rfl ?_
  simp only [ex]
  unfold incv at h
  revert h
  generalize lv[i]? = o
  intro h
  split at h
  · next y =>
    cases ho : oks lv i with
    | true =>
      rw [ho] at h
      rw [oks_iff] at ho
      dsimp only
      rw [if_pos ⟨ho.1, ho.2, trivial⟩]
      cases h
      rfl
    | false => rw [ho] at h; cases h
  · cases h
theorem rc_iadd {u v : Int32} (hf : fetch k pc = some (.iadd, len, a, b, c))  : RC x k pc lv (.int v :: .int u :: r) w n = RC x k (pc + len) lv (.int (u + v) :: r) w n := rc_exq (g := (pc + len, lv, .int (u + v) :: r, w)) hf rfl (rfl)
theorem rc_isub {u v : Int32} (hf : fetch k pc = some (.isub, len, a, b, c))  : RC x k pc lv (.int v :: .int u :: r) w n = RC x k (pc + len) lv (.int (u - v) :: r) w n := rc_exq (g := (pc + len, lv, .int (u - v) :: r, w)) hf rfl (rfl)
theorem rc_imul {u v : Int32} (hf : fetch k pc = some (.imul, len, a, b, c))  : RC x k pc lv (.int v :: .int u :: r) w n = RC x k (pc + len) lv (.int (u * v) :: r) w n := rc_exq (g := (pc + len, lv, .int (u * v) :: r, w)) hf rfl (rfl)
theorem rc_iand {u v : Int32} (hf : fetch k pc = some (.iand, len, a, b, c))  : RC x k pc lv (.int v :: .int u :: r) w n = RC x k (pc + len) lv (.int (u &&& v) :: r) w n := rc_exq (g := (pc + len, lv, .int (u &&& v) :: r, w)) hf rfl (rfl)
theorem rc_ior {u v : Int32} (hf : fetch k pc = some (.ior, len, a, b, c))  : RC x k pc lv (.int v :: .int u :: r) w n = RC x k (pc + len) lv (.int (u ||| v) :: r) w n := rc_exq (g := (pc + len, lv, .int (u ||| v) :: r, w)) hf rfl (rfl)
theorem rc_ishl {u v : Int32} (hf : fetch k pc = some (.ishl, len, a, b, c))  : RC x k pc lv (.int v :: .int u :: r) w n = RC x k (pc + len) lv (.int (u <<< (v &&& 31)) :: r) w n := rc_exq (g := (pc + len, lv, .int (u <<< (v &&& 31)) :: r, w)) hf rfl (rfl)
theorem rc_ishr {u v : Int32} (hf : fetch k pc = some (.ishr, len, a, b, c))  : RC x k pc lv (.int v :: .int u :: r) w n = RC x k (pc + len) lv (.int (u >>> (v &&& 31)) :: r) w n := rc_exq (g := (pc + len, lv, .int (u >>> (v &&& 31)) :: r, w)) hf rfl (rfl)
theorem rc_idiv {u v : Int32} (hf : fetch k pc = some (.idiv, len, a, b, c)) (h : ¬ v = 0) : RC x k pc lv (.int v :: .int u :: r) w n = RC x k (pc + len) lv (.int (u / v) :: r) w n := rc_exq (g := (pc + len, lv, .int (u / v) :: r, w)) hf rfl (by show Option.map _ (if v = 0 then none else _) = _; rw [if_neg h]; rfl)
theorem rc_irem {u v : Int32} (hf : fetch k pc = some (.irem, len, a, b, c)) (h : ¬ v = 0) : RC x k pc lv (.int v :: .int u :: r) w n = RC x k (pc + len) lv (.int (u - u / v * v) :: r) w n := rc_exq (g := (pc + len, lv, .int (u - u / v * v) :: r, w)) hf rfl (by show Option.map _ (if v = 0 then none else _) = _; rw [if_neg h]; rfl)
theorem rc_ineg {u : Int32} (hf : fetch k pc = some (.ineg, len, a, b, c))  : RC x k pc lv (.int u :: r) w n = RC x k (pc + len) lv (.int (-u) :: r) w n := rc_exq (g := (pc + len, lv, .int (-u) :: r, w)) hf rfl (rfl)
theorem rc_i2l {u : Int32} (hf : fetch k pc = some (.i2l, len, a, b, c))  : RC x k pc lv (.int u :: r) w n = RC x k (pc + len) lv (.long (u.toInt64) :: r) w n := rc_exq (g := (pc + len, lv, .long (u.toInt64) :: r, w)) hf rfl (rfl)
theorem rc_i2c {u : Int32} (hf : fetch k pc = some (.i2c, len, a, b, c))  : RC x k pc lv (.int u :: r) w n = RC x k (pc + len) lv (.int ((u.toUInt32 % 65536).toInt32) :: r) w n := rc_exq (g := (pc + len, lv, .int ((u.toUInt32 % 65536).toInt32) :: r, w)) hf rfl (rfl)
theorem rc_i2b {u : Int32} (hf : fetch k pc = some (.i2b, len, a, b, c))  : RC x k pc lv (.int u :: r) w n = RC x k (pc + len) lv (.int (u.toInt8.toInt32) :: r) w n := rc_exq (g := (pc + len, lv, .int (u.toInt8.toInt32) :: r, w)) hf rfl (rfl)
theorem rc_i2f {u : Int32} (hf : fetch k pc = some (.i2f, len, a, b, c))  : RC x k pc lv (.int u :: r) w n = RC x k (pc + len) lv (.float (FP.i2f u) :: r) w n := rc_exq (g := (pc + len, lv, .float (FP.i2f u) :: r, w)) hf rfl (rfl)
theorem rc_i2d {u : Int32} (hf : fetch k pc = some (.i2d, len, a, b, c))  : RC x k pc lv (.int u :: r) w n = RC x k (pc + len) lv (.double (FP.i2d u) :: r) w n := rc_exq (g := (pc + len, lv, .double (FP.i2d u) :: r, w)) hf rfl (rfl)
theorem rc_f2d {u : UInt32} (hf : fetch k pc = some (.f2d, len, a, b, c)) (h : FP.f2d u &&& 0x7fffffffffffffff ≤ 0x7ff0000000000000) : RC x k pc lv (.float u :: r) w n = RC x k (pc + len) lv (.double (FP.f2d u) :: r) w n := rc_exq (g := (pc + len, lv, .double (FP.f2d u) :: r, w)) hf rfl (by show (if _ then _ else none) = _; rw [if_pos h])
theorem rc_fdiv {u v : UInt32} (hf : fetch k pc = some (.fdiv, len, a, b, c)) (h : FP.fdiv u v &&& 0x7fffffff ≤ 0x7f800000) : RC x k pc lv (.float v :: .float u :: r) w n = RC x k (pc + len) lv (.float (FP.fdiv u v) :: r) w n := rc_exq (g := (pc + len, lv, .float (FP.fdiv u v) :: r, w)) hf rfl (by show (if _ then _ else none) = _; rw [if_pos h])
theorem rc_ddiv {u v : UInt64} (hf : fetch k pc = some (.ddiv, len, a, b, c)) (h : FP.ddiv u v &&& 0x7fffffffffffffff ≤ 0x7ff0000000000000) : RC x k pc lv (.double v :: .double u :: r) w n = RC x k (pc + len) lv (.double (FP.ddiv u v) :: r) w n := rc_exq (g := (pc + len, lv, .double (FP.ddiv u v) :: r, w)) hf rfl (by show (if _ then _ else none) = _; rw [if_pos h])
theorem rc_lcmp {u v : Int64} (hf : fetch k pc = some (.lcmp, len, a, b, c))  : RC x k pc lv (.long v :: .long u :: r) w n = RC x k (pc + len) lv (.int (lg_cmp u v) :: r) w n := rc_exq (g := (pc + len, lv, .int (lg_cmp u v) :: r, w)) hf rfl (rfl)
theorem rc_dcmp {u v : UInt64} {o : Jvm.ClassFile.CmpOp} (hf : fetch k pc = some (.dcmp o, len, a, b, c))  : RC x k pc lv (.double v :: .double u :: r) w n = RC x k (pc + len) lv (.int (Op.cmpValue (FP.dcmp u v) o) :: r) w n := rc_exq (g := (pc + len, lv, .int (Op.cmpValue (FP.dcmp u v) o) :: r, w)) hf rfl (rfl)
theorem rc_fcmp {u v : UInt32} {o : Jvm.ClassFile.CmpOp} (hf : fetch k pc = some (.fcmp o, len, a, b, c))  : RC x k pc lv (.float v :: .float u :: r) w n = RC x k (pc + len) lv (.int (Op.cmpValue (FP.fcmp u v) o) :: r) w n := rc_exq (g := (pc + len, lv, .int (Op.cmpValue (FP.fcmp u v) o) :: r, w)) hf rfl (rfl)
theorem rc_dupI {v : Int32} (hf : fetch k pc = some (.dup, len, a, b, c))  : RC x k pc lv (.int v :: r) w n = RC x k (pc + len) lv (.int v :: .int v :: r) w n := rc_exq (g := (pc + len, lv, .int v :: .int v :: r, w)) hf rfl (rfl)
theorem rc_dupR {v : Nat} (hf : fetch k pc = some (.dup, len, a, b, c))  : RC x k pc lv (.ref v :: r) w n = RC x k (pc + len) lv (.ref v :: .ref v :: r) w n := rc_exq (g := (pc + len, lv, .ref v :: .ref v :: r, w)) hf rfl (rfl)
theorem rc_dup2 {v : Int32} {u : Nat} (hf : fetch k pc = some (.dup2, len, a, b, c))  : RC x k pc lv (.int v :: .ref u :: r) w n = RC x k (pc + len) lv (.int v :: .ref u :: .int v :: .ref u :: r) w n := rc_exq (g := (pc + len, lv, .int v :: .ref u :: .int v :: .ref u :: r, w)) hf rfl (rfl)
theorem rc_dup_x1 {v : Int32} {u : Nat} (hf : fetch k pc = some (.dup_x1, len, a, b, c))  : RC x k pc lv (.int v :: .ref u :: r) w n = RC x k (pc + len) lv (.int v :: .ref u :: .int v :: r) w n := rc_exq (g := (pc + len, lv, .int v :: .ref u :: .int v :: r, w)) hf rfl (rfl)
theorem rc_popI {v : Int32} (hf : fetch k pc = some (.pop, len, a, b, c))  : RC x k pc lv (.int v :: r) w n = RC x k (pc + len) lv (r) w n := rc_exq (g := (pc + len, lv, r, w)) hf rfl (rfl)
theorem rc_popR {v : Nat} (hf : fetch k pc = some (.pop, len, a, b, c))  : RC x k pc lv (.ref v :: r) w n = RC x k (pc + len) lv (r) w n := rc_exq (g := (pc + len, lv, r, w)) hf rfl (rfl)
theorem rc_ifCond_eq {o : Int} {t : Nat} {v : Int32} (hf : fetch k pc = some (.ifCond .eq o, len, a, b, c)) (ho : okt pc o = true) (ht : tgt pc o = t) : RC x k pc lv (.int v :: r) w n = if v = 0 then RC x k t lv r w n else RC x k (pc + len) lv r w n := by
  subst ht
  by_cases h : v = 0
  · rw [if_pos h]
    refine rc_exq (g := (tgt pc o, lv, r, w)) hf rfl ?_
    have h9 : icnd .eq v 0 = true := decide_eq_true h
    simp only [ex, ho, h9]
    rfl
  · rw [if_neg h]
    refine rc_exq (g := (pc + len, lv, r, w)) hf rfl ?_
    have h9 : icnd .eq v 0 = false := decide_eq_false h
    simp only [ex, ho, h9]
    rfl
theorem rc_ifCond_ne {o : Int} {t : Nat} {v : Int32} (hf : fetch k pc = some (.ifCond .ne o, len, a, b, c)) (ho : okt pc o = true) (ht : tgt pc o = t) : RC x k pc lv (.int v :: r) w n = if v = 0 then RC x k (pc + len) lv r w n else RC x k t lv r w n := by
  subst ht
  by_cases h : v = 0
  · rw [if_pos h]
    refine rc_exq (g := (pc + len, lv, r, w)) hf rfl ?_
    have h9 : icnd .ne v 0 = false := decide_eq_false (fun z => z h)
    simp only [ex, ho, h9]
    rfl
  · rw [if_neg h]
    refine rc_exq (g := (tgt pc o, lv, r, w)) hf rfl ?_
    have h9 : icnd .ne v 0 = true := decide_eq_true h
    simp only [ex, ho, h9]
    rfl
theorem rc_ifCond_lt {o : Int} {t : Nat} {v : Int32} (hf : fetch k pc = some (.ifCond .lt o, len, a, b, c)) (ho : okt pc o = true) (ht : tgt pc o = t) : RC x k pc lv (.int v :: r) w n = if v < 0 then RC x k t lv r w n else RC x k (pc + len) lv r w n := by
  subst ht
  by_cases h : v < 0
  · rw [if_pos h]
    refine rc_exq (g := (tgt pc o, lv, r, w)) hf rfl ?_
    have h9 : icnd .lt v 0 = true := decide_eq_true h
    simp only [ex, ho, h9]
    rfl
  · rw [if_neg h]
    refine rc_exq (g := (pc + len, lv, r, w)) hf rfl ?_
    have h9 : icnd .lt v 0 = false := decide_eq_false h
    simp only [ex, ho, h9]
    rfl
theorem rc_ifCond_ge {o : Int} {t : Nat} {v : Int32} (hf : fetch k pc = some (.ifCond .ge o, len, a, b, c)) (ho : okt pc o = true) (ht : tgt pc o = t) : RC x k pc lv (.int v :: r) w n = if v < 0 then RC x k (pc + len) lv r w n else RC x k t lv r w n := by
  subst ht
  by_cases h : v < 0
  · rw [if_pos h]
    refine rc_exq (g := (pc + len, lv, r, w)) hf rfl ?_
    have h9 : icnd .ge v 0 = false := decide_eq_false (Int32.not_le.mpr h)
    simp only [ex, ho, h9]
    rfl
  · rw [if_neg h]
    refine rc_exq (g := (tgt pc o, lv, r, w)) hf rfl ?_
    have h9 : icnd .ge v 0 = true := decide_eq_true (Int32.not_lt.mp h)
    simp only [ex, ho, h9]
    rfl
theorem rc_ifCond_gt {o : Int} {t : Nat} {v : Int32} (hf : fetch k pc = some (.ifCond .gt o, len, a, b, c)) (ho : okt pc o = true) (ht : tgt pc o = t) : RC x k pc lv (.int v :: r) w n = if 0 < v then RC x k t lv r w n else RC x k (pc + len) lv r w n := by
  subst ht
  by_cases h : 0 < v
  · rw [if_pos h]
    refine rc_exq (g := (tgt pc o, lv, r, w)) hf rfl ?_
    have h9 : icnd .gt v 0 = true := decide_eq_true h
    simp only [ex, ho, h9]
    rfl
  · rw [if_neg h]
    refine rc_exq (g := (pc + len, lv, r, w)) hf rfl ?_
    have h9 : icnd .gt v 0 = false := decide_eq_false h
    simp only [ex, ho, h9]
    rfl
theorem rc_ifCond_le {o : Int} {t : Nat} {v : Int32} (hf : fetch k pc = some (.ifCond .le o, len, a, b, c)) (ho : okt pc o = true) (ht : tgt pc o = t) : RC x k pc lv (.int v :: r) w n = if 0 < v then RC x k (pc + len) lv r w n else RC x k t lv r w n := by
  subst ht
  by_cases h : 0 < v
  · rw [if_pos h]
    refine rc_exq (g := (pc + len, lv, r, w)) hf rfl ?_
    have h9 : icnd .le v 0 = false := decide_eq_false (Int32.not_le.mpr h)
    simp only [ex, ho, h9]
    rfl
  · rw [if_neg h]
    refine rc_exq (g := (tgt pc o, lv, r, w)) hf rfl ?_
    have h9 : icnd .le v 0 = true := decide_eq_true (Int32.not_lt.mp h)
    simp only [ex, ho, h9]
    rfl
theorem rc_if_icmp_eq {o : Int} {t : Nat} {u v : Int32} (hf : fetch k pc = some (.if_icmp .eq o, len, a, b, c)) (ho : okt pc o = true) (ht : tgt pc o = t) : RC x k pc lv (.int v :: .int u :: r) w n = if u = v then RC x k t lv r w n else RC x k (pc + len) lv r w n := by
  subst ht
  by_cases h : u = v
  · rw [if_pos h]
    refine rc_exq (g := (tgt pc o, lv, r, w)) hf rfl ?_
    have h9 : icnd .eq u v = true := decide_eq_true h
    simp only [ex, ho, h9]
    rfl
  · rw [if_neg h]
    refine rc_exq (g := (pc + len, lv, r, w)) hf rfl ?_
    have h9 : icnd .eq u v = false := decide_eq_false h
    simp only [ex, ho, h9]
    rfl
theorem rc_if_icmp_ne {o : Int} {t : Nat} {u v : Int32} (hf : fetch k pc = some (.if_icmp .ne o, len, a, b, c)) (ho : okt pc o = true) (ht : tgt pc o = t) : RC x k pc lv (.int v :: .int u :: r) w n = if u = v then RC x k (pc + len) lv r w n else RC x k t lv r w n := by
  subst ht
  by_cases h : u = v
  · rw [if_pos h]
    refine rc_exq (g := (pc + len, lv, r, w)) hf rfl ?_
    have h9 : icnd .ne u v = false := decide_eq_false (fun z => z h)
    simp only [ex, ho, h9]
    rfl
  · rw [if_neg h]
    refine rc_exq (g := (tgt pc o, lv, r, w)) hf rfl ?_
    have h9 : icnd .ne u v = true := decide_eq_true h
    simp only [ex, ho, h9]
    rfl
theorem rc_if_icmp_lt {o : Int} {t : Nat} {u v : Int32} (hf : fetch k pc = some (.if_icmp .lt o, len, a, b, c)) (ho : okt pc o = true) (ht : tgt pc o = t) : RC x k pc lv (.int v :: .int u :: r) w n = if u < v then RC x k t lv r w n else RC x k (pc + len) lv r w n := by
  subst ht
  by_cases h : u < v
  · rw [if_pos h]
    refine rc_exq (g := (tgt pc o, lv, r, w)) hf rfl ?_
    have h9 : icnd .lt u v = true := decide_eq_true h
    simp only [ex, ho, h9]
    rfl
  · rw [if_neg h]
    refine rc_exq (g := (pc + len, lv, r, w)) hf rfl ?_
    have h9 : icnd .lt u v = false := decide_eq_false h
    simp only [ex, ho, h9]
    rfl
theorem rc_if_icmp_ge {o : Int} {t : Nat} {u v : Int32} (hf : fetch k pc = some (.if_icmp .ge o, len, a, b, c)) (ho : okt pc o = true) (ht : tgt pc o = t) : RC x k pc lv (.int v :: .int u :: r) w n = if u < v then RC x k (pc + len) lv r w n else RC x k t lv r w n := by
  subst ht
  by_cases h : u < v
  · rw [if_pos h]
    refine rc_exq (g := (pc + len, lv, r, w)) hf rfl ?_
    have h9 : icnd .ge u v = false := decide_eq_false (Int32.not_le.mpr h)
    simp only [ex, ho, h9]
    rfl
  · rw [if_neg h]
    refine rc_exq (g := (tgt pc o, lv, r, w)) hf rfl ?_
    have h9 : icnd .ge u v = true := decide_eq_true (Int32.not_lt.mp h)
    simp only [ex, ho, h9]
    rfl
theorem rc_if_icmp_gt {o : Int} {t : Nat} {u v : Int32} (hf : fetch k pc = some (.if_icmp .gt o, len, a, b, c)) (ho : okt pc o = true) (ht : tgt pc o = t) : RC x k pc lv (.int v :: .int u :: r) w n = if v < u then RC x k t lv r w n else RC x k (pc + len) lv r w n := by
  subst ht
  by_cases h : v < u
  · rw [if_pos h]
    refine rc_exq (g := (tgt pc o, lv, r, w)) hf rfl ?_
    have h9 : icnd .gt u v = true := decide_eq_true h
    simp only [ex, ho, h9]
    rfl
  · rw [if_neg h]
    refine rc_exq (g := (pc + len, lv, r, w)) hf rfl ?_
    have h9 : icnd .gt u v = false := decide_eq_false h
    simp only [ex, ho, h9]
    rfl
theorem rc_if_icmp_le {o : Int} {t : Nat} {u v : Int32} (hf : fetch k pc = some (.if_icmp .le o, len, a, b, c)) (ho : okt pc o = true) (ht : tgt pc o = t) : RC x k pc lv (.int v :: .int u :: r) w n = if v < u then RC x k (pc + len) lv r w n else RC x k t lv r w n := by
  subst ht
  by_cases h : v < u
  · rw [if_pos h]
    refine rc_exq (g := (pc + len, lv, r, w)) hf rfl ?_
    have h9 : icnd .le u v = false := decide_eq_false (Int32.not_le.mpr h)
    simp only [ex, ho, h9]
    rfl
  · rw [if_neg h]
    refine rc_exq (g := (tgt pc o, lv, r, w)) hf rfl ?_
    have h9 : icnd .le u v = true := decide_eq_true (Int32.not_lt.mp h)
    simp only [ex, ho, h9]
    rfl
theorem rc_acmp_eq {o : Int} {t u v : Nat} (hf : fetch k pc = some (.if_acmp .eq o, len, a, b, c)) (ho : okt pc o = true) (ht : tgt pc o = t) (hu : u < 6) (hv : v < 6) : RC x k pc lv (.ref v :: .ref u :: r) w n = if u = v then RC x k t lv r w n else RC x k (pc + len) lv r w n := by
  subst ht
  by_cases h : u = v
  · rw [if_pos h]
    refine rc_exq (g := (tgt pc o, lv, r, w)) hf rfl ?_
    simp only [ex, ho, hu, hv, h]
    simp
  · rw [if_neg h]
    refine rc_exq (g := (pc + len, lv, r, w)) hf rfl ?_
    simp only [ex, ho, hu, hv, h]
    simp
theorem rc_acmp_ne {o : Int} {t u v : Nat} (hf : fetch k pc = some (.if_acmp .ne o, len, a, b, c)) (ho : okt pc o = true) (ht : tgt pc o = t) (hu : u < 6) (hv : v < 6) : RC x k pc lv (.ref v :: .ref u :: r) w n = if u = v then RC x k (pc + len) lv r w n else RC x k t lv r w n := by
  subst ht
  by_cases h : u = v
  · rw [if_pos h]
    refine rc_exq (g := (pc + len, lv, r, w)) hf rfl ?_
    simp only [ex, ho, hu, hv, h]
    simp
  · rw [if_neg h]
    refine rc_exq (g := (tgt pc o, lv, r, w)) hf rfl ?_
    simp only [ex, ho, hu, hv, h]
    simp
theorem rc_goto {o : Int} {t : Nat} (hf : fetch k pc = some (.goto o, len, a, b, c)) (ho : okt pc o = true) (ht : tgt pc o = t) : RC x k pc lv st w n = RC x k t lv st w n := by
  subst ht
  exact rc_exq (g := (tgt pc o, lv, st, w)) hf rfl (by simp only [ex, ho]; rfl)
theorem rc_ifnullR {o : Int} {u : Nat} (hf : fetch k pc = some (.ifnull o, len, a, b, c)) : RC x k pc lv (.ref u :: r) w n = RC x k (pc + len) lv r w n := rc_exq (g := (pc + len, lv, r, w)) hf rfl rfl
theorem rc_tsw {d lo hi : Int} {offs : Array Int} {v : Int32} (hf : fetch k pc = some (.tableswitch d lo hi offs, len, a, b, c)) : RC x k pc lv (.int v :: r) w n = (swt pc d lo hi offs v).bind fun t => RC x k t lv r w n := rc_map (F := fun t => (t, lv, r, w)) hf rfl rfl
theorem rc_lsw {d : Int} {ps : Array (Int × Int)} {v : Int32} (hf : fetch k pc = some (.lookupswitch d ps, len, a, b, c)) : RC x k pc lv (.int v :: r) w n = (swl pc d ps v).bind fun t => RC x k t lv r w n := rc_map (F := fun t => (t, lv, r, w)) hf rfl rfl
theorem rc_getstatic {i : Nat} {v : Value} (hf : fetch k pc = some (.getstatic i, len, a, b, c)) (h : stv a = some v) : RC x k pc lv st w n = RC x k (pc + len) lv (v :: st) w n := by
  refine rc_exq (g := (pc + len, lv, v :: st, w)) hf rfl ?_
  unfold stv at h
  obtain ⟨s, hs, rfl⟩ := Option.map_eq_some_iff.mp h
  simp only [ex, hs]
  rfl
theorem rc_getfield {i p : Nat} (hf : fetch k pc = some (.getfield i, len, a, b, c)) : RC x k pc lv (.ref p :: r) w n = (gfd w a b p).bind fun v => RC x k (pc + len) lv (v :: r) w n := by
  refine rc_map (F := fun v => (pc + len, lv, v :: r, w)) hf rfl ?_
  show (getf w a b (.ref p :: r)).map _ = _
  rw [gfd_eq, Option.map_map]
  rfl
theorem rc_putfield {i p : Nat} {v : Value} (hf : fetch k pc = some (.putfield i, len, a, b, c)) : RC x k pc lv (v :: .ref p :: r) w n = (pfd w a b p v).bind fun w' => RC x k (pc + len) lv r w' n := by
  refine rc_map (F := fun w' => (pc + len, lv, r, w')) hf rfl ?_
  show (putf w a b (v :: .ref p :: r)).map _ = _
  rw [pfd_eq, Option.map_map]
  rfl
theorem rc_iaload {p : Nat} {i : Int32} (hf : fetch k pc = some (.iaload, len, a, b, c)) : RC x k pc lv (.int i :: .ref p :: r) w n = (ald 0 x w a p i).bind fun v => RC x k (pc + len) lv (.int v :: r) w n := by
  refine rc_map (F := fun v => (pc + len, lv, .int v :: r, w)) hf rfl ?_
  show (xald 0 x w a (.int i :: .ref p :: r)).map _ = _
  rw [ald_eq, Option.map_map]
  rfl
theorem rc_caload {p : Nat} {i : Int32} (hf : fetch k pc = some (.caload, len, a, b, c)) : RC x k pc lv (.int i :: .ref p :: r) w n = (ald 1 x w a p i).bind fun v => RC x k (pc + len) lv (.int v :: r) w n := by
  refine rc_map (F := fun v => (pc + len, lv, .int v :: r, w)) hf rfl ?_
  show (xald 1 x w a (.int i :: .ref p :: r)).map _ = _
  rw [ald_eq, Option.map_map]
  rfl
theorem rc_baload {p : Nat} {i : Int32} (hf : fetch k pc = some (.baload, len, a, b, c)) : RC x k pc lv (.int i :: .ref p :: r) w n = (ald 2 x w a p i).bind fun v => RC x k (pc + len) lv (.int v :: r) w n := by
  refine rc_map (F := fun v => (pc + len, lv, .int v :: r, w)) hf rfl ?_
  show (xald 2 x w a (.int i :: .ref p :: r)).map _ = _
  rw [ald_eq, Option.map_map]
  rfl
theorem rc_iastore {p : Nat} {i v : Int32} (hf : fetch k pc = some (.iastore, len, a, b, c)) : RC x k pc lv (.int v :: .int i :: .ref p :: r) w n = (ast 0 w p i v).bind fun w' => RC x k (pc + len) lv r w' n := by
  refine rc_map (F := fun w' => (pc + len, lv, r, w')) hf rfl ?_
  show (xast 0 (fun v => v) w (.int v :: .int i :: .ref p :: r)).map _ = _
  rw [ast_eq, Option.map_map]
  rfl
theorem rc_castore {p : Nat} {i v : Int32} (hf : fetch k pc = some (.castore, len, a, b, c)) : RC x k pc lv (.int v :: .int i :: .ref p :: r) w n = (ast 1 w p i (vp_nar .char v)).bind fun w' => RC x k (pc + len) lv r w' n := by
  refine rc_map (F := fun w' => (pc + len, lv, r, w')) hf rfl ?_
  show (xast 1 (vp_nar .char) w (.int v :: .int i :: .ref p :: r)).map _ = _
  rw [ast_eq, Option.map_map]
  rfl
theorem rc_bastore {p : Nat} {i v : Int32} (hf : fetch k pc = some (.bastore, len, a, b, c)) : RC x k pc lv (.int v :: .int i :: .ref p :: r) w n = (ast 2 w p i (vp_nar .byte v)).bind fun w' => RC x k (pc + len) lv r w' n := by
  refine rc_map (F := fun w' => (pc + len, lv, r, w')) hf rfl ?_
  show (xast 2 (vp_nar .byte) w (.int v :: .int i :: .ref p :: r)).map _ = _
  rw [ast_eq, Option.map_map]
  rfl
def lld (w : PW) (p : Nat) (i : Int32) : Option Int64 := match w p with
  | some (.inl (3, n, .inr (.inl f))) => (fin n i).map f
  | _ => none
theorem lld_eq {p : Nat} {i : Int32} : lald w (.int i :: .ref p :: r) = (lld w p i).map fun v => .long v :: r := by
  unfold lald lld
  dsimp only
  generalize w p = o
  split
  · next n f =>
    show (fin n i).map (fun j => .long (f j) :: r) = ((fin n i).map f).map fun v => .long v :: r
    cases fin n i <;> rfl
  · next hno =>
    split
    · next n f => exact (hno _ _ rfl).elim
    · rfl
theorem rc_laload {p : Nat} {i : Int32} (hf : fetch k pc = some (.laload, len, a, b, c)) : RC x k pc lv (.int i :: .ref p :: r) w n = (lld w p i).bind fun v => RC x k (pc + len) lv (.long v :: r) w n := by
  refine rc_map (F := fun v => (pc + len, lv, .long v :: r, w)) hf rfl ?_
  show (lald w (.int i :: .ref p :: r)).map _ = _
  rw [lld_eq, Option.map_map]
  rfl
def lst (w : PW) (p : Nat) (i : Int32) (v : Int64) : Option PW := match w p with
  | some (.inl (3, n, .inr (.inl f))) => (fin n i).map fun j => pupd w p (.inl (3, n, .inr (.inl (vp_updL f j v))))
  | _ => none
theorem lst_eq {p : Nat} {i : Int32} {v : Int64} : last w (.long v :: .int i :: .ref p :: r) = (lst w p i v).map fun w' => (r, w') := by
  unfold last lst
  dsimp only
  generalize w p = o
  split
  · next n f =>
    show (fin n i).map (fun j => (r, pupd w p (.inl (3, n, .inr (.inl (vp_updL f j v)))))) = ((fin n i).map fun j => pupd w p (.inl (3, n, .inr (.inl (vp_updL f j v))))).map fun w' => (r, w')
    cases fin n i <;> rfl
  · next hno =>
    split
    · next n f => exact (hno _ _ rfl).elim
    · rfl
theorem rc_lastore {p : Nat} {i : Int32} {v : Int64} (hf : fetch k pc = some (.lastore, len, a, b, c)) : RC x k pc lv (.long v :: .int i :: .ref p :: r) w n = (lst w p i v).bind fun w' => RC x k (pc + len) lv r w' n := by
  refine rc_map (F := fun w' => (pc + len, lv, r, w')) hf rfl ?_
  show (last w (.long v :: .int i :: .ref p :: r)).map _ = _
  rw [lst_eq, Option.map_map]
  rfl
def dld (w : PW) (p : Nat) (i : Int32) : Option UInt64 := match w p with
  | some (.inl (4, n, .inr (.inr (.inr (.inl f))))) => (fin n i).map f
  | _ => none
theorem dld_eq {p : Nat} {i : Int32} : dald w (.int i :: .ref p :: r) = (dld w p i).map fun v => .double v :: r := by
  unfold dald dld
  dsimp only
  generalize w p = o
  split
  · next n f =>
    show (fin n i).map (fun j => .double (f j) :: r) = ((fin n i).map f).map fun v => .double v :: r
    cases fin n i <;> rfl
  · next hno =>
    split
    · next n f => exact (hno _ _ rfl).elim
    · rfl
theorem rc_daload {p : Nat} {i : Int32} (hf : fetch k pc = some (.daload, len, a, b, c)) : RC x k pc lv (.int i :: .ref p :: r) w n = (dld w p i).bind fun v => RC x k (pc + len) lv (.double v :: r) w n := by
  refine rc_map (F := fun v => (pc + len, lv, .double v :: r, w)) hf rfl ?_
  show (dald w (.int i :: .ref p :: r)).map _ = _
  rw [dld_eq, Option.map_map]
  rfl
def dst (w : PW) (p : Nat) (i : Int32) (v : UInt64) : Option PW := match w p with
  | some (.inl (4, n, .inr (.inr (.inr (.inl f))))) => (fin n i).map fun j => pupd w p (.inl (4, n, .inr (.inr (.inr (.inl (vf_upd f j v))))))
  | _ => none
theorem dst_eq {p : Nat} {i : Int32} {v : UInt64} : dast w (.double v :: .int i :: .ref p :: r) = (dst w p i v).map fun w' => (r, w') := by
  unfold dast dst
  dsimp only
  generalize w p = o
  split
  · next n f =>
    show (fin n i).map (fun j => (r, pupd w p (.inl (4, n, .inr (.inr (.inr (.inl (vf_upd f j v)))))))) = ((fin n i).map fun j => pupd w p (.inl (4, n, .inr (.inr (.inr (.inl (vf_upd f j v))))))).map fun w' => (r, w')
    cases fin n i <;> rfl
  · next hno =>
    split
    · next n f => exact (hno _ _ rfl).elim
    · rfl
theorem rc_dastore {p : Nat} {i : Int32} {v : UInt64} (hf : fetch k pc = some (.dastore, len, a, b, c)) : RC x k pc lv (.double v :: .int i :: .ref p :: r) w n = (dst w p i v).bind fun w' => RC x k (pc + len) lv r w' n := by
  refine rc_map (F := fun w' => (pc + len, lv, r, w')) hf rfl ?_
  show (dast w (.double v :: .int i :: .ref p :: r)).map _ = _
  rw [dst_eq, Option.map_map]
  rfl
theorem rc_aaload {p : Nat} {i : Int32} (hf : fetch k pc = some (.aaload, len, a, b, c)) : RC x k pc lv (.int i :: .ref p :: r) w n = (qld w p i).bind fun v => RC x k (pc + len) lv (v :: r) w n := by
  refine rc_map (F := fun v => (pc + len, lv, v :: r, w)) hf rfl ?_
  show (qald w (.int i :: .ref p :: r)).map _ = _
  rw [qld_eq, Option.map_map]
  rfl
theorem rc_aastore {p v : Nat} {i : Int32} (hf : fetch k pc = some (.aastore, len, a, b, c)) : RC x k pc lv (.ref v :: .int i :: .ref p :: r) w n = (qst w p i v).bind fun w' => RC x k (pc + len) lv r w' n := by
  refine rc_map (F := fun w' => (pc + len, lv, r, w')) hf rfl ?_
  show (qast w (.ref v :: .int i :: .ref p :: r)).map _ = _
  rw [qst_eq, Option.map_map]
  rfl
theorem rc_arraylength {p : Nat} (hf : fetch k pc = some (.arraylength, len, a, b, c)) : RC x k pc lv (.ref p :: r) w n = (aln x w a p).bind fun v => RC x k (pc + len) lv (.int v :: r) w n := by
  refine rc_map (F := fun v => (pc + len, lv, .int v :: r, w)) hf rfl ?_
  show (alen x w a (.ref p :: r)).map _ = _
  rw [aln_eq, Option.map_map]
  rfl
/-! returns -/
theorem rc_ireturn {v : Int32} {m : Option FieldType} (hf : fetch k pc = some (.ireturn, len, a, b, c)) (hm : mR k = m) (h : retB m v = true) : RC x k pc lv [.int v] w n = some (.inl (some (.int v)), w, n) := by
  rw [rc_q hf]
  show Option.bind (if retB (mR k) v = true then done (.inl (some (.int v))) w n else none) _ = _
  rw [hm, if_pos h]
  rfl
theorem rt_int {v : Int32} : retB (some .int) v = true := decide_eq_true rfl
theorem rt_bool {v : Int32} (h : v = 0 ∨ v = 1) : retB (some .boolean) v = true := by rcases h with rfl | rfl <;> rfl
theorem rt_char {v : Int32} (h : v.toUInt32.toUInt16.toUInt32.toInt32 = v) : retB (some .char) v = true := decide_eq_true h
theorem rt_byte {v : Int32} (h : v.toInt8.toInt32 = v) : retB (some .byte) v = true := decide_eq_true h
theorem rc_areturn {v : Nat} (hf : fetch k pc = some (.areturn, len, a, b, c)) (hm : retAB (mR k) = true) : RC x k pc lv [.ref v] w n = some (.inl (some (.ref v)), w, n) := by
  rw [rc_q hf]
  show Option.bind (if retAB (mR k) = true then done (.inl (some (.ref v))) w n else none) _ = _
  rw [if_pos hm]
  rfl
theorem rc_freturn {v : UInt32} (hf : fetch k pc = some (.freturn, len, a, b, c)) (hm : isF (mR k) = true) : RC x k pc lv [.float v] w n = some (.inl (some (.float v)), w, n) := by
  rw [rc_q hf]
  show Option.bind (if isF (mR k) = true then done (.inl (some (.float v))) w n else none) _ = _
  rw [if_pos hm]
  rfl
theorem rc_dreturn {v : UInt64} (hf : fetch k pc = some (.dreturn, len, a, b, c)) (hm : isD (mR k) = true) : RC x k pc lv [.double v] w n = some (.inl (some (.double v)), w, n) := by
  rw [rc_q hf]
  show Option.bind (if isD (mR k) = true then done (.inl (some (.double v))) w n else none) _ = _
  rw [if_pos hm]
  rfl
theorem rc_return (hf : fetch k pc = some (.return_, len, a, b, c)) (hm : isV (mR k) = true) : RC x k pc lv [] w n = some (.inl none, w, n) := by
  rw [rc_q hf]
  show Option.bind (if isV (mR k) = true then done (.inl none) w n else none) _ = _
  rw [if_pos hm]
  rfl
/-! new cells, throws -/
theorem rc_new {i N : Nat} {fs : List Value} (hf : fetch k pc = some (.new i, 3, a, b, c)) (hx : thx k pc = none) (hN : (CLS[a]?).map (fun r => r.2.2) = some N) (h1 : N ≤ 1000) (hd : dfl a = fs) : RC x k pc lv st w n = RC x k (pc + 3) lv (.ref n :: st) (pupd w n (.inr (a, fs))) (n + 1) := by
  rw [rc_q hf]
  obtain ⟨r0, hr0, rfl⟩ := Option.map_eq_some_iff.mp hN
  subst hd
  simp only [STQ, hx, hr0, h1, if_true]
  rfl
theorem rc_throw {i : Nat} {X : String} (hf : fetch k pc = some (.new i, 3, a, b, c)) (hx : thx k pc = some X) (h : csm st ≤ 8) : RC x k pc lv st w n = some (.inr X, w, n + 1) := by
  rw [rc_q hf]
  simp only [STQ, hx, h, if_true]
  rfl
theorem rc_newarray {t : ArrayType} {v : Int32} {N : Nat} (hf : fetch k pc = some (.newarray t, 2, a, b, c)) (h : ¬ v < 0) (hN : v.toNatClampNeg = N) (h1 : N ≤ 1000) : RC x k pc lv (.int v :: r) w n = RC x k (pc + 2) lv (.ref n :: r) (pupd w n (zA a N)) (n + 1) := by
  rw [rc_q hf]
  subst hN
  have h9 : (True ∧ ¬ v < 0 ∧ v.toNatClampNeg ≤ 1000) := ⟨trivial, h, h1⟩
  simp only [STQ]
  rw [if_pos ⟨trivial, h, h1⟩]
  rfl
theorem rc_anewarray {i : Nat} {v : Int32} {N : Nat} (hf : fetch k pc = some (.anewarray i, 3, 5, b, c)) (h : ¬ v < 0) (hN : v.toNatClampNeg = N) (h1 : N ≤ 1000) : RC x k pc lv (.int v :: r) w n = RC x k (pc + 3) lv (.ref n :: r) (pupd w n (zA 5 N)) (n + 1) := by
  rw [rc_q hf]
  subst hN
  simp only [STQ]
  rw [if_pos ⟨trivial, trivial, h, h1⟩]
  rfl
theorem rc_obj {i u : Nat} (hf : fetch k pc = some (.invokespecial i, 3, 7, b, c)) (h : csm r ≤ 8) : RC x k pc lv (.ref u :: r) w n = RC x k (pc + 3) lv r w n := by
  rw [rc_q hf]
  simp only [STQ, h, if_true]
  rfl
theorem rc_min {i : Nat} {u v : Int32} (hf : fetch k pc = some (.invokestatic i, 3, 1, 12, c)) (h : csm r ≤ 8) : RC x k pc lv (.int v :: .int u :: r) w n = RC x k (pc + 3) lv (.int (if v < u then v else u) :: r) w n := by
  rw [rc_q hf]
  have h9 : Nat.ble (csm r) 8 = true := Nat.ble_eq_true_of_le h
  have key : STQ x k (.invokestatic i, 3, 1, 12, c) pc lv (.int v :: .int u :: r) w n = tail k (pc + 3, lv, .int (if v < u then v else u) :: r, w) n := by
    unfold STQ
    dsimp only
    rw [if_pos rfl, if_neg (by decide), if_pos ⟨rfl, rfl⟩, if_pos h9]
  rw [key]
  rfl
theorem rc_max {i : Nat} {u v : Int32} (hf : fetch k pc = some (.invokestatic i, 3, 1, 11, c)) (h : csm r ≤ 8) : RC x k pc lv (.int v :: .int u :: r) w n = RC x k (pc + 3) lv (.int (if u < v then v else u) :: r) w n := by
  rw [rc_q hf]
  have h9 : Nat.ble (csm r) 8 = true := Nat.ble_eq_true_of_le h
  have key : STQ x k (.invokestatic i, 3, 1, 11, c) pc lv (.int v :: .int u :: r) w n = tail k (pc + 3, lv, .int (if u < v then v else u) :: r, w) n := by
    unfold STQ
    dsimp only
    rw [if_pos rfl, if_neg (by decide), if_neg (by decide), if_pos ⟨rfl, rfl⟩, if_pos h9]
  rw [key]
  rfl
/-- arraycopy between two rows of ints, chars or bytes -/
theorem rc_acp {i a0 a1 t n0 n1 : Nat} {sp dp v : Int32} {f0 f1 : Nat → Int32} (hf : fetch k pc = some (.invokestatic i, 3, 8, b, c)) (hw0 : w a0 = some (.inl (t, n0, .inl f0))) (hw1 : w a1 = some (.inl (t, n1, .inl f1))) (ht : t < 3)
    (g1 : ¬ sp < 0) (g2 : ¬ dp < 0) (g3 : ¬ v < 0) (g4 : sp.toNatClampNeg + v.toNatClampNeg ≤ n0) (g5 : dp.toNatClampNeg + v.toNatClampNeg ≤ n1) (h : csm r ≤ 8) (hfit : ∀ i, i < v.toNatClampNeg → fits (tyT t) (.int (f0 (sp.toNatClampNeg + i))) = true) :
    RC x k pc lv (.int v :: .int dp :: .ref a1 :: .int sp :: .ref a0 :: r) w n = RC x k (pc + 3) lv r (pupd w a1 (.inl (t, n1, .inl (va_cpy f0 f1 sp.toNatClampNeg dp.toNatClampNeg v.toNatClampNeg)))) n := by
  rw [rc_q hf]
  have h9 : Nat.ble (csm r) 8 = true := Nat.ble_eq_true_of_le h
  have key : STQ x k (.invokestatic i, 3, 8, b, c) pc lv (.int v :: .int dp :: .ref a1 :: .int sp :: .ref a0 :: r) w n = acp k pc lv w n a0 a1 sp dp v r := by
    unfold STQ
    dsimp only
    rw [if_pos rfl, if_pos rfl]
  rw [key]
  unfold acp
  rw [hw0, hw1]
  dsimp only
  rw [if_pos ⟨rfl, ht, g1, g2, g3, g4, g5, h9, hfit⟩]
  rfl
/-! calls -/
def rvs : Option Value → List Value → List Value
  | some v, l => v :: l
  | none, l => l
theorem rvs_some {v : Value} {l : List Value} : rvs (some v) l = v :: l := rfl
theorem rvs_none {l : List Value} : rvs none l = l := rfl
theorem rvs_eq {o : Option Value} {l : List Value} : o.toList ++ l = rvs o l := by cases o <;> rfl
def cal (o : Option RR) (F : Option Value → PW → Nat → Option RR) (G : String → PW → Nat → Option RR) : Option RR := match o with
  | none => none
  | some (.inl v, w, n) => F v w n
  | some (.inr X, w, n) => G X w n
theorem cal_v {v : Option Value} {n : Nat} {w : PW} {F : Option Value → PW → Nat → Option RR} {G : String → PW → Nat → Option RR} : cal (some (.inl v, w, n)) F G = F v w n := rfl
theorem cal_x {X : String} {n : Nat} {w : PW} {F : Option Value → PW → Nat → Option RR} {G : String → PW → Nat → Option RR} : cal (some (.inr X, w, n)) F G = G X w n := rfl
theorem cal_ite {P : Prop} [Decidable P] {o1 o2 : Option RR} {F : Option Value → PW → Nat → Option RR} {G : String → PW → Nat → Option RR} : cal (if P then o1 else o2) F G = if P then cal o1 F G else cal o2 F G := by split <;> rfl
/-- the class of the object at a place -/
def clo (w : PW) (p : Nat) : Option Nat := match w p with
  | some (.inr (ci, _)) => some ci
  | _ => none
theorem clo_of {w : PW} {p ci : Nat} {fs : List Value} (h : w p = some (.inr (ci, fs))) : clo w p = some ci := by
  unfold clo
  rw [h]
theorem rok_clo {w : PW} {p ci j : Nat} {as : List Value} (h : clo w p = some ci) (hc : rkc ci j = true) : rokB w j (.ref p :: as) = true := by
  unfold clo at h
  split at h
  · next ci' fs hw =>
    cases h
    unfold rokB
    dsimp only
    rw [hw]
    dsimp only
    exact (Bool.or_eq_true _ _).mpr (Or.inl hc)
  · cases h
theorem rok_str {w : PW} {p j : Nat} {as : List Value} (h : isStr p = true) (hc : rcv j = "java/lang/String") : rokB w j (.ref p :: as) = true := by
  unfold rokB
  simp only [h, hc, decide_true, Bool.and_self, Bool.or_true]
noncomputable def xat (k pc a : Nat) (lv : LV) (x : SX) : String → PW → Nat → Option RR := fun X w n => if a = 0 ∨ a = 1 then (if (mH k).isEmpty = true then some (.inr X, w, n) else match hnx k pc X with
      | some h => RC x k h lv [.ref n] w (n + 1)
      | none => none) else none
theorem app2_call {j N : Nat} {as : List Value} : app2 (R x) (.inr ((j, (0, lvs (mL j) as, [], w), n), aft k pc a N lv st)) = cal (RM x j as w n) (fun v w' n' => RC x k (pc + 3) lv (v.toList ++ st.drop N) w' n') (xat k pc a lv x) := by
  simp only [app2]
  show (RM x j as w n).bind _ = _
  cases RM x j as w n with
  | none => rfl
  | some r =>
    obtain ⟨o, w', n'⟩ := r
    cases o with
    | inl v => rfl
    | inr X =>
      show (aft k pc a N lv st (.inr X, w', n')).bind (app1 (R x)) = xat k pc a lv x X w' n'
      unfold aft xat
      dsimp only
      split
      · split
        · rfl
        · cases hnx k pc X <;> rfl
      · rfl
theorem rc_call {i j N : Nat} {st0 as st' : List Value} (hf : fetch k pc = some (cins a i, 3, a, j, c)) (hk : (a == 0 || a == 1 || a == 2 || a == 4 || a == 5 || a == 6) = true) (hj : (j == 11 || j == 12) = false) (ok : okj k a j (mL j) = true) (hN : cgN a j = N) (hl : (st0.take N).length = N) (has : (st0.take N).reverse = as) (hst : st0.drop N = st')
    (hlv : (lvl as).length ≤ mL j) (h : csm st' ≤ 8) (hr : a = 1 ∨ a = 4 ∨ rokB w j as = true) : RC x k pc lv st0 w n = cal (RM x j as w n) (fun v w' n' => RC x k (pc + 3) lv (rvs v st') w' n') (xat k pc a lv x) := by
  have h9 : Nat.ble (csm st') 8 = true := Nat.ble_eq_true_of_le h
  have key : callN k pc a j lv st0 w n = some (.inr ((j, (0, lvs (mL j) as, [], w), n), aft k pc a N lv st0)) := by
    unfold callN
    rw [hN, has, hst, if_pos ⟨ok, hl, h9, hlv, hr⟩]
  have key2 : STQ x k (cins a i, 3, a, j, c) pc lv st0 w n = callN k pc a j lv st0 w n := by
    simp only [Bool.or_eq_true, beq_iff_eq] at hk
    simp only [Bool.or_eq_false_iff, beq_eq_false_iff_ne] at hj
    rcases hk with ((((rfl | rfl) | rfl) | rfl) | rfl) | rfl
    · rfl
    · show STQ x k (.invokestatic i, 3, 1, j, c) pc lv st0 w n = _
      unfold STQ
      dsimp only
      rw [if_pos rfl, if_neg (by decide), if_neg (by intro z; exact hj.2 z.2), if_neg (by intro z; exact hj.1 z.2), if_pos (Or.inl rfl)]
    · rfl
    · rfl
    · rfl
    · rfl
  rw [rc_q hf, key2, key]
  have h8 : ∀ z : S2, (some z).bind (app2 (R x)) = app2 (R x) z := fun _ => rfl
  rw [h8, app2_call, hst]
  congr 1
  funext v w' n'
  rw [rvs_eq]
theorem xat_n {X : String} {a' : Nat} (ha : (a' == 0 || a' == 1) = true) (hm : (mH k).isEmpty = true) : xat k pc a' lv x X w n = some (.inr X, w, n) := by
  unfold xat
  simp only [Bool.or_eq_true, beq_iff_eq] at ha
  rw [if_pos ha, if_pos hm]
theorem xat_h {X : String} {h a' : Nat} (ha : (a' == 0 || a' == 1) = true) (hm : (mH k).isEmpty = false) (hh : hnx k pc X = some h) : xat k pc a' lv x X w n = RC x k h lv [.ref n] w (n + 1) := by
  unfold xat
  simp only [Bool.or_eq_true, beq_iff_eq] at ha
  rw [if_pos ha, hm, hh]
  rfl
theorem csm_nil : csm [] = 0 := rfl
theorem csm_i {v : Int32} {l : List Value} : csm (.int v :: l) = 1 + csm l := by simp [csm, Value.category]
theorem csm_r {v : Nat} {l : List Value} : csm (.ref v :: l) = 1 + csm l := by simp [csm, Value.category]
theorem ob_some {α : Type} {v : α} {f : α → Option RR} : (some v).bind f = f v := rfl
theorem ob_map {α β : Type} {o : Option α} {g : α → β} {f : β → Option RR} : (o.map g).bind f = o.bind fun v => f (g v) := by cases o <;> rfl
theorem ob_ite {α : Type} {P : Prop} [Decidable P] {o1 o2 : Option α} {f : α → Option RR} : (if P then o1 else o2).bind f = if P then o1.bind f else o2.bind f := by split <;> rfl
end RCS
