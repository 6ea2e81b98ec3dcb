/-! WHAT THE MACHINE GIVES AT A METHOD: the words of the tables, the old things, the method's own facts -/
def isNest : Jvm.Cond → Bool
  | .fieldLinkNest .. => true
  | .methodLinkNest .. => true
  | _ => false
/-- private methods of a class that a StringBuilder inherits: they are selected at it too -/
def xselM : List MethodName := [⟨"java/lang/AbstractStringBuilder", "ensureCapacityInternal", "(I)V"⟩, ⟨"java/lang/AbstractStringBuilder", "newCapacity", "(I)I"⟩]
def xsels : List Jvm.Cond := xselM.map fun y => .selects RJ4 y y
def TB : List Jvm.Cond := xsels ++ lw_tbl
def isDC : Jvm.Cond → Bool
  | .declares .. => true
  | .castable .. => true
  | _ => false
def okw (w : Jvm.Cond) : Bool := goodWord w || isNest w || isDC w
def Tab (U : State) : Prop := ∀ w ∈ TB, okw w = true → ∀ a : Array Value, w.before a U = true
theorem Tab.use {U : State} (h : Tab U) {c : Nat} {w : Jvm.Cond} (hc : TB[c]? = some w) (hw : okw w = true) (a : Array Value) : w.before a U = true := h w (List.mem_of_getElem? hc) hw a
theorem Tab.moved {s U : State} (hW : s.WarmedH U.vm) (h : Tab s) : Tab U := by
  intro w hw hk a
  have h0 := h w hw hk
  simp only [okw, Bool.or_eq_true] at hk
  rcases hk with (hk | hk) | hk
  · exact word_at hW (good_of_word hk) (h0 #[])
  · cases w <;> first | (simp [isNest] at hk; done) | skip
    · exact va_tabs rfl rfl (va_Nw.warmM hW (h0 #[]))
    · exact va_tabs rfl rfl (va_Nw.warmF hW (h0 #[]))
  · cases w <;> first | (simp [isDC] at hk; done) | skip
    · exact va_tabs rfl rfl (va_Nw.warmD hW (h0 #[]))
    · exact va_tabs rfl rfl (va_Nw.warmC hW (h0 #[]))
theorem selects_sub {C : String} {y : MethodName} {s : State} {args : Array Value} {n : Nat} (hy : y.cls ≠ "java/lang/invoke/MethodHandle" ∧ y.cls ≠ "java/lang/invoke/VarHandle")
    (hins : (Jvm.Cond.instantiable C n).before args s = true) (hsup : ∃ kY, s.vm.classes[(s.vm.findClass y.cls).getD 0]? = some kY ∧ kY.isInterface = false) (hpriv : (Jvm.Cond.privateMethod y).before args s = true) (hinst : (Jvm.Cond.instanceMethod y).before args s = true) :
    (Jvm.Cond.selects C y y).before args s = true := by
  obtain ⟨c, k, hc, hk, -, hniab, -, -⟩ := Cond.instantiable_spec hins
  obtain ⟨mk, methM, hnamed, hmethM, -, -⟩ := Cond.instanceMethod_spec hinst
  have hfound : s.methodFound? y.cls y.name y.desc = some mk := State.methodFound?_of_named hnamed hy
  have hcls : s.vm.findClass y.cls = some mk.cls := findClass_of_methodNamed hnamed
  obtain ⟨kY, hkY, hni⟩ := hsup
  rw [hcls, Option.getD_some] at hkY
  have hsel : selectMethod {} s.vm c mk = .method mk := selectMethod_private hmethM (Cond.privateMethod_at hpriv mk methM hnamed hmethM)
  simp only [Cond.before, Cond.holds, Cond.value, hc, hfound, hnamed, hsel, hkY]
  simp; exact hni
/-- texts of exceptions, and classes that a handler doesn't take -/
def ETX : List (String × Nat × String) := (lw_tbl.filterMap fun w => match w with
  | .stringRef o i t => some (o, i, t)
  | _ => none)
abbrev eA (E : ENV) : Nat → Prop := fun q => eN E ≤ q
def XV (E : ENV) (U : State) : Prop :=
  (∀ q ∈ STRS, vk_R q.1 q.2.1 q.2.2.1 (eX E q.2.2.2.2) U) ∧ (∀ q ∈ ETX, ∃ sa, vk_R q.1 q.2.1 q.2.2 sa U) ∧ (∀ q ∈ NCL, va_Nc q.1 q.2 U) ∧ va_AO RX0 U
def XT (x : SX) (E : ENV) (U : State) (H : Heap) : Prop :=
  (∀ q ∈ STATS, va_Z q.1 q.2.1 q.2.2.1 (cv E (eX E) q.2.2.2) (eA E) U H) ∧
  (∀ q ∈ STRS, va_O "java/lang/String" (eX E q.2.2.2.2) (eA E) U H ∧ va_OF "java/lang/String" "coder" "B" (.int 0) (eX E q.2.2.2.2) (eA E) U H ∧ va_OF "java/lang/String" "value" "[B" (.ref (eX E (q.2.2.2.2 + 1))) (eX E q.2.2.2.2) (eA E) U H) ∧
  (∀ p t n f, extA x p = some (t, n, f) → va_T (tyT t) (eX E p) n (fun j => .int (f j)) (eA E) U H) ∧
  (∀ i j, i < 6 → j < 6 → eX E i = eX E j → i = j) ∧
  vx_Zq Bundle.tN "UNASSIGNED_STACK" Bundle.steD (eA E) U H ∧ vx_Zq Bundle.tN "SUPPRESSED_SENTINEL" Bundle.listD (eA E) U H
theorem XT.moved {x : SX} {E : ENV} {u U : State} {H : Heap} (hvm : u.vm.Alike U.vm) (h : XT x E u H) : XT x E U H := by
  obtain ⟨h1, h2, h3, h4, h5, h6⟩ := h
  exact ⟨fun q hq => (h1 q hq).moved hvm, fun q hq => ⟨(h2 q hq).1.moved hvm, (h2 q hq).2.1.moved hvm, (h2 q hq).2.2.moved hvm⟩, fun p t n f hf => (h3 p t n f hf).moved hvm, h4, h5.moved hvm, h6.moved hvm⟩
theorem XT.kept {x : SX} {E : ENV} {U : State} {H H1 : Heap} (h : XT x E U H) (hq : ∀ a : Nat, a < H.size → ¬ eA E a → H1[a]? = H[a]?) : XT x E U H1 := by
  obtain ⟨h1, h2, h3, h4, h5, h6⟩ := h
  exact ⟨fun q hq' => (h1 q hq').kept hq, fun q hq' => ⟨(h2 q hq').1.kept hq, (h2 q hq').2.1.kept hq, (h2 q hq').2.2.kept hq⟩, fun p t n f hf => (h3 p t n f hf).kept hq, h4, h5.kept hq, h6.kept hq⟩
theorem va_Nc.moved' {C T : String} {u U : State} (hvm : u.vm.Alike U.vm) (h : va_Nc C T u) : va_Nc C T U := by
  obtain ⟨c, t, h1, h2, h3⟩ := h
  exact ⟨c, t, by rw [hvm.findClass]; exact h1, by rw [hvm.findClass]; exact h2, by rw [← h3]; exact (Vm.Alike.assignable hvm.symm c t).symm⟩
theorem XV.moved {E : ENV} {s U : State} (hW : s.WarmedH U.vm) (h : XV E s) : XV E U := by
  obtain ⟨h1, h2, h3, h4⟩ := h
  exact ⟨fun q hq => (h1 q hq).warm hW, fun q hq => by obtain ⟨sa, h⟩ := h2 q hq; exact ⟨sa, h.warm hW⟩, fun q hq => (h3 q hq).moved' hW.alike, h4.moved hW.alike⟩
/-- at a state of the method k -/
def MC (x : SX) (k : Nat) (p : Program) (l : Launch) (R : Room) (s : State) (m : MethodId) (meth : Method) (c : Code) (E : ENV) : Prop :=
  k < KN ∧ p.tables.exec = Jvm.exec ∧ c.code = mB k ∧ c.maxLocals = mL k ∧ s.vm.findClass (mC k) = some m.cls ∧ meth.sig.returnType = mR k ∧ meth.locks = false ∧ c.exceptionTable.toList = tableOf (mH k) ∧
  ((mY k).name = "<init>" → meth.name = "<init>") ∧ l.stackTraces = false ∧ Tab s ∧ XV E s ∧ va_K (eD E) CLS (TYS E) s ∧ XT x E s s.heap ∧ eN E ≤ s.heap.size ∧ (eU E).category = 1 ∧ 16 + mK k ≤ R.frames ∧ 200 + 80 * mK k ≤ R.locals
/-! THE CHECKS of the program's rows -/
def wat (c : Nat) (w : Jvm.Cond) : Bool := decide (TB[c]? = some w)
theorem wat_at {c : Nat} {w : Jvm.Cond} (h : wat c w = true) : TB[c]? = some w := of_decide_eq_true h
def objI : MethodName := ⟨"java/lang/Object", "<init>", "()V"⟩
/-- a call: not of the law, its room is less -/
def cok (k b : Nat) : Bool := decide (b + 1 < KN) && decide (mK b < mK k) && decide (mL b ≤ 60)
def ilen : Instr → Nat
  | .iconst _ | .lconst _ | .fconst _ | .aconst_null | .iload_n _ | .aload_n _ | .istore_n _ | .astore_n _ | .iadd | .isub | .imul | .iand | .ior | .ishl | .ishr | .idiv | .irem | .ineg | .i2l | .i2c | .i2b | .i2f | .i2d | .f2d | .fdiv | .ddiv | .lcmp | .dcmp _ | .fcmp _ | .dup | .dup2 | .dup_x1 | .pop => 1
  | .iaload | .caload | .baload | .iastore | .castore | .bastore | .laload | .lastore | .daload | .dastore | .aaload | .aastore | .arraylength | .ireturn | .areturn | .freturn | .dreturn | .return_ | .athrow => 1
  | .bipush _ | .ldc _ | .iload _ | .aload _ | .fload _ | .dload _ | .istore _ | .astore _ | .fstore _ | .dstore _ | .newarray _ => 2
  | .sipush _ | .ldc_w _ | .ldc2_w _ | .iinc _ _ | .ifCond _ _ | .if_icmp _ _ | .if_acmp _ _ | .ifnull _ | .goto _ | .getstatic _ | .getfield _ | .putfield _ | .new _ | .anewarray _ | .invokevirtual _ | .invokestatic _ | .invokespecial _ => 3
  | _ => 0
def lenok (i : Instr) (n : Nat) : Bool := decide (ilen i = 0 ∨ n = ilen i)
def chk (k : Nat) (e : ENT) : Bool :=
  let a := e.2.2.2.1
  let b := e.2.2.2.2.1
  let c := e.2.2.2.2.2
  lenok e.2.1 e.2.2.1 && match e.2.1 with
  | .getfield i => if a = 1000 then wat c (.fieldLink (mC k) i "java/lang/String" "value" "[B") else if a = 1001 then wat c (.fieldLink (mC k) i "java/lang/String" "coder" "B") else match CLS[a]? with
    | some r => decide (b < r.2.2) && (wat c (.fieldLink (mC k) i (r.2.1 b).1 (r.2.1 b).2.1 (r.2.1 b).2.2.1) || wat c (.fieldLinkNest (mC k) i (r.2.1 b).1 (r.2.1 b).2.1 (r.2.1 b).2.2.1 "ChordCanal"))
    | none => false
  | .putfield i => match CLS[a]? with
    | some r => decide (b < r.2.2) && wat c (.fieldLink (mC k) i (r.2.1 b).1 (r.2.1 b).2.1 (r.2.1 b).2.2.1) && (!(r.2.1 b).2.2.2 || (decide ((mY k).name = "<init>") && decide ((r.2.1 b).1 = mC k)))
    | none => false
  | .getstatic i => match STATS[a]? with
    | some q => wat c (.fieldLink (mC k) i q.1 q.2.1 q.2.2.1)
    | none => true
  | .ldc i => if a = 0 then wat c (.constant (mC k) i (Int32.ofNat b)) else if a = 1 then STRS.any fun q => decide (q.1 = mC k ∧ q.2.1 = i ∧ q.2.2.2.2 = b) else true
  | .ldc2_w i => if a = 2 then wat c (.constantDouble (mC k) i (UInt64.ofNat b)) else true
  | .new i => match CLS[a]? with
    | some r => wat c (.classLink (mC k) i r.1)
    | none => true
  | .anewarray i => if a = 5 then wat c (.classLink (mC k) i RX0) else true
  | .newarray t => decide (a < 5) && decide (newarray.typeOf t = tyT a)
  | .invokevirtual i => if a = 0 then cok k b && wat c (.methodLink (mC k) i (mY b)) else if a = 3 then cok k b && wat c (.methodLinkNest (mC k) i (mY b) "ChordCanal") else true
  | .invokestatic i => if a = 1 then cok k b && wat c (.methodLink (mC k) i (mY b)) else if a = 4 then cok k b && wat c (.methodLinkNest (mC k) i (mY b) "ChordCanal") else if a = 8 then wat c (.methodLink (mC k) i arraycopyName) else true
  | .invokespecial i => if a = 2 then cok k b && wat c (.methodLink (mC k) i (mY b)) else if a = 5 then cok k b && wat c (.methodLinkNest (mC k) i (mY b) "ChordCanal") else if a = 6 then cok k b && wat c (.methodLink (mC k) i (mY b)) else if a = 7 then wat c (.methodLink (mC k) i objI) else true
  | _ => true
/-- a method's word of its code -/
def cw (k : Nat) : Jvm.Cond := match mH k with
  | [] => .code (mY k) (mB k) (mL k) (mR k)
  | h => .codeWith (mY k) (mB k) (mL k) (mR k) h
def rcv (k : Nat) : String := if (mY k).cls = "java/lang/AbstractStringBuilder" then RJ4 else (mY k).cls
/-- what a caller needs of the method: its kind (0 instance, 1 static, 2 constructor), the places of its words -/
def cchk (k : Nat) : Bool :=
  let q := MWI.getD k (0, 0, 0, 0, 0, 0)
  decide ((mY k).cls ≠ "java/lang/invoke/MethodHandle" ∧ (mY k).cls ≠ "java/lang/invoke/VarHandle") && (plainName (mY k).cls || decide (k = 11 ∨ k = 12)) && decide ((parseMethodDescriptor (mY k).desc).map (fun d => d.parameters.length) = some q.2.1) && wat q.2.2.1 (cw k) && wat q.2.2.2.1 (.initialized (mY k).cls) &&
    (match q.1 with
    | 0 => wat q.2.2.2.2.1 (.instanceMethod (mY k)) && wat q.2.2.2.2.2 (.selects (rcv k) (mY k) (mY k))
    | 1 => wat q.2.2.2.2.1 (.static (mY k))
    | 2 => wat q.2.2.2.2.1 (.instanceMethod (mY k)) && decide ((mY k).name = "<init>") && decide (mR k = none)
    | 3 => wat q.2.2.2.2.1 (.instanceMethod (mY k)) && wat q.2.2.2.2.2 (.sameMethod (mY k).cls (mY k).cls (mY k).name (mY k).desc)
    | _ => false)
