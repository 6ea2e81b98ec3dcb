/-! RULES OVER CONFIGURATIONS: V says that a method, from a configuration on, comes to an end that Q speaks of, wherever its world lies -/
section RUL
def RET (k pc : Nat) : Option Value → Prop
  | none => decode (mB k) pc = .ok (.return_, 1) ∧ mR k = none
  | some (.int v) => decode (mB k) pc = .ok (.ireturn, 1) ∧ ∃ ty, mR k = some ty ∧ narrow ty (.int v) = .int v
  | some (.float _) => decode (mB k) pc = .ok (.freturn, 1) ∧ mR k = some .float
  | some (.double _) => decode (mB k) pc = .ok (.dreturn, 1) ∧ mR k = some .double
  | some (.ref _) => decode (mB k) pc = .ok (.areturn, 1) ∧ ∃ ty, mR k = some ty ∧ ((∃ nm, ty = .object nm) ∨ ∃ t, ty = .array t)
  | some .null => decode (mB k) pc = .ok (.areturn, 1) ∧ ∃ ty, mR k = some ty ∧ ((∃ nm, ty = .object nm) ∨ ∃ t, ty = .array t)
  | _ => False
/-- 'throw new X("..")' stands at pc: the class, its pool entry, the text's, the constructor's, the text, whether the text's load is the wide one -/
def thrOk (k pc : Nat) (X : String) (ik is ic : Nat) (text : String) (wide : Bool) : Prop :=
  mH k = [] ∧ decode (mB k) pc = .ok (.new ik, 3) ∧ decode (mB k) (pc + 3) = .ok (.dup, 1) ∧
  (if wide = true then decode (mB k) (pc + 4) = .ok (.ldc_w is, 3) ∧ decode (mB k) (pc + 7) = .ok (.invokespecial ic, 3) ∧ decode (mB k) (pc + 10) = .ok (.athrow, 1)
    else decode (mB k) (pc + 4) = .ok (.ldc is, 2) ∧ decode (mB k) (pc + 6) = .ok (.invokespecial ic, 3) ∧ decode (mB k) (pc + 9) = .ok (.athrow, 1)) ∧
  (mC k, is, text) ∈ ETX ∧ (∀ w ∈ Cond.classLink (mC k) ik X :: Cond.initialized X :: atX (mC k) ic X "java/lang/RuntimeException" ["java/lang/Exception"], w ∈ TB ∧ okw w = true ∧ vx_ot w = true) ∧ Bundle.fit X = true
def THR (k pc : Nat) (X : String) : Prop := ∃ ik is ic text wide, thrOk k pc X ik is ic text wide
def ENDS (x : SX) (k : Nat) (p : Program) (l : Launch) (e : Env) (R : Room) (s : State) (m : MethodId) (args : Array Value) (below : List Frame) (meth : Method) (c : Code) (Z : State → Prop) (E : ENV) (ad : Nat → Nat) (n mc ms : Nat) (Q : QT) : Prop :=
  (∀ (r : Option Value) (w' : PW) (n' : Nat) (ad' : Nat → Nat), Q (.inl r) w' n' → n ≤ n' → agr n ad ad' → (∀ v, r = some v → vok n' v) → ∀ pc : Nat, RET k pc r → ∀ (cells slots : Nat), cells ≤ mc → slots ≤ ms → ∀ (H : Heap) (locs : List Loc) (ls : Array Slot), HC E ad' n' w' H → va_S (eA E) s.heap H locs →
    W p l e R s m args below meth c H locs cells slots Z (F0 m pc ls (r.toList.map (cv E ad')))) ∧
  (∀ (X : String) (w' : PW) (n' : Nat) (ad' : Nat → Nat), Q (.inr X) w' n' → n ≤ n' → agr n ad ad' → mH k = [] → ∀ (cells slots : Nat) (H : Heap) (locs : List Loc), HC E ad' n' w' H → va_S (eA E) s.heap H locs →
    (∀ (pc : Nat) (ls : Array Slot) (st : List Value) (q : Addr) (cx : Cell), cells ≤ mc → slots ≤ ms → H[q]? = some cx → cx.vm = .none → s.vm.findClass X = some cx.cls → vx_W p l e R s m args below meth c H locs cells slots Z (F0 m pc ls st) q) ∧
    (∀ (pc : Nat) (ls : Array Slot) (st : List Value), THR k pc X → ls.size = c.maxLocals → (st.map fun v => v.category).sum ≤ 8 → cells + 1 ≤ mc → slots + 6 ≤ ms → W p l e R s m args below meth c H locs cells slots Z (F0 m pc ls st)))
def V (x : SX) (k mc ms n : Nat) (g : CFG) (Q : QT) : Prop :=
  ∀ (p : Program) (l : Launch) (e : Env) (R : Room) (s : State) (m : MethodId) (args : Array Value) (below : List Frame) (meth : Method) (c : Code) (Z : State → Prop) (E : ENV), MC x k p l R s m meth c E →
  ∀ (ad : Nat → Nat) (cells slots : Nat), cells + mc ≤ R.cells → slots + ms ≤ R.slots → ENDS x k p l e R s m args below meth c Z E ad n (cells + mc) (slots + ms) Q → SK k p l e R s m args below meth c cells slots Z E ad n g
def rmk (k mc ms : Nat) : Room := { frames := 16 + mK k, cells := mc, slots := ms, locals := 200 + 80 * mK k }
def PreC (x : SX) (E : ENV) (ad : Nat → Nat) (n : Nat) (w : PW) (as : List Value) : Array Value → State → Prop := fun v U =>
  v = (as.map (cv E ad)).toArray ∧ eN E ≤ U.heap.size ∧ Tab U ∧ XV E U ∧ va_K (eD E) CLS (TYS E) U ∧ XT x E U U.heap ∧ HC E ad n w U.heap ∧ (eU E).category = 1
def QcC (E : ENV) (ad : Nat → Nat) (n : Nat) (Q : QT) : Array Value → State → Outcome → State → Prop := fun _ st o t =>
  ∃ (r : Option Value) (w' : PW) (n' : Nat) (ad' : Nat → Nat), o = .returned (r.map (cv E ad')) ∧ Q (.inl r) w' n' ∧ n ≤ n' ∧ agr n ad ad' ∧ HC E ad' n' w' t.heap ∧ (∀ v, r = some v → vok n' v) ∧ va_F (eA E) st t
def XcC (E : ENV) (ad : Nat → Nat) (n : Nat) (Q : QT) : String → State → State → Prop := fun X st t =>
  ∃ (w' : PW) (n' : Nat) (ad' : Nat → Nat), Q (.inr X) w' n' ∧ n ≤ n' ∧ agr n ad ad' ∧ HC E ad' n' w' t.heap ∧ va_F (eA E) st t
/-- the method k, called with these arguments in this world: it ends as Q says -/
def Ev (x : SX) (k mc ms : Nat) (as : List Value) (w : PW) (n : Nat) (Q : QT) : Prop :=
  (∀ v ∈ as, vok n v) → ∀ (l : Launch), l.stackTraces = false → ∀ (E : ENV) (ad : Nat → Nat), vx_Met l (mY k) [cw k] (rmk k mc ms) (PreC x E ad n w as) (QcC E ad n Q) (XcC E ad n Q) mc ms (eA E)
theorem blindC {x : SX} {E : ENV} {ad : Nat → Nat} {n : Nat} {w : PW} {as : List Value} : FrameBlind (PreC x E ad n w as) := by
  intro a U g mk q
  obtain ⟨q0, q1, q2, q3, q4, q5, q6, q7⟩ := q
  exact ⟨q0, q1, q2.moved (U := U.calling g mk a) (State.WarmedH.refl U), q3.moved (U := U.calling g mk a) (State.WarmedH.refl U), va_K.moved (u := U) (U := U.calling g mk a) (Vm.Alike.refl U.vm) q4, XT.moved (u := U) (U := U.calling g mk a) (Vm.Alike.refl U.vm) q5, q6, q7⟩
variable {x : SX} {k mc ms n : Nat} {g : CFG} {Q : QT}
theorem V_imp {Q' : QT} (h : V x k mc ms n g Q) (hq : ∀ o w' n', Q o w' n' → Q' o w' n') : V x k mc ms n g Q' := by
  intro p l e R s m args below meth c Z E M ad cells slots h1 h2 hE
  exact h p l e R s m args below meth c Z E M ad cells slots h1 h2 ⟨fun r w' n' ad' hQ => hE.1 r w' n' ad' (hq _ _ _ hQ), fun X w' n' ad' hQ => hE.2 X w' n' ad' (hq _ _ _ hQ)⟩
theorem V_stp {g' : CFG} (hs : stp x k g = some g') (h : V x k mc ms n g' Q) : V x k mc ms n g Q := by
  intro p l e R s m args below meth c Z E M ad cells slots h1 h2 hE
  obtain ⟨pc, lv, st, w⟩ := g
  unfold stp at hs
  split at hs
  · next q hq =>
    obtain ⟨i, len, a, b, c'⟩ := q
    obtain ⟨hd, hm⟩ := fetch_dec M.1 hq
    exact ex_sound M hd (chk_all M.1 hm) hs (h p l e R s m args below meth c Z E M ad cells slots h1 h2 hE)
  · cases hs
theorem V_stps {N : Nat} : ∀ {g g' : CFG}, stps x k N g = some g' → V x k mc ms n g' Q → V x k mc ms n g Q := by
  induction N with
  | zero => intro g g' hs h; cases hs; exact h
  | succ N ih =>
    intro g g' hs h
    unfold stps at hs
    split at hs
    · next g1 h1 => exact V_stp h1 (ih hs h)
    · cases hs
/-- what a run of steps comes to -/
def Vo (x : SX) (k mc ms n : Nat) (o : Option CFG) (Q : QT) : Prop := match o with
  | some g => V x k mc ms n g Q
  | none => False
theorem V_run (N : Nat) (h : Vo x k mc ms n (stps x k N g) Q) : V x k mc ms n g Q := by
  cases hs : stps x k N g with
  | none => rw [hs] at h; exact h.elim
  | some g' => rw [hs] at h; exact V_stps hs h
theorem V_weak {pc : Nat} {lv lv' : LV} {st : List Value} {w : PW} (hl : lv'.length = lv.length) (hs : ∀ (i : Nat) (v : Value), lv'[i]? = some (some v) → lv[i]? = some (some v)) (h : V x k mc ms n (pc, lv', st, w) Q) : V x k mc ms n (pc, lv, st, w) Q := by
  intro p l e R s m args below meth c Z E M ad cells slots h1 h2 hE H locs ls hC hS hlz hlv hst
  exact h p l e R s m args below meth c Z E M ad cells slots h1 h2 hE H locs ls hC hS (lz_weak hl hs hlz) (fun i v hi => hlv i v (hs i v hi)) hst
/-- less of the room is enough -/
theorem V_room {mc' ms' : Nat} (h1 : mc' ≤ mc) (h2 : ms' ≤ ms) (h : V x k mc' ms' n g Q) : V x k mc ms n g Q := by
  intro p l e R s m args below meth c Z E M ad cells slots g1 g2 hE
  refine h p l e R s m args below meth c Z E M ad cells slots (by omega) (by omega) ⟨fun r w' n' ad' hQ i1 i2 i3 pc i4 c' s' j1 j2 => hE.1 r w' n' ad' hQ i1 i2 i3 pc i4 c' s' (by omega) (by omega), fun X w' n' ad' hQ i1 i2 i3 c' s' H locs i4 i5 => ?_⟩
  obtain ⟨ha, hb⟩ := hE.2 X w' n' ad' hQ i1 i2 i3 c' s' H locs i4 i5
  exact ⟨fun pc ls st q cx j1 j2 => ha pc ls st q cx (by omega) (by omega), fun pc ls st j0 j1 j2 j3 j4 => hb pc ls st j0 j1 j2 (by omega) (by omega)⟩
theorem V_retV {pc : Nat} {lv : LV} {w : PW} {q : FE} (hf : fetch k pc = some q) (hi : q.1 = .return_) (hr : mR k = none) (hQ : Q (.inl none) w n) : V x k mc ms n (pc, lv, [], w) Q := by
  intro p l e R s m args below meth c Z E M ad cells slots h1 h2 hE H locs ls hC hS hl hlv hst
  obtain ⟨i, len, a, b, c'⟩ := q
  obtain ⟨hd, hm⟩ := fetch_dec M.1 hf
  have hln := chk_len (chk_all M.1 hm)
  cases hi
  obtain rfl : len = 1 := by simpa [lenok, ilen] using hln
  exact hE.1 none w n ad hQ (Nat.le_refl _) agr_rf (fun v h => by cases h) pc ⟨hd, hr⟩ cells slots (by omega) (by omega) H locs ls hC hS
theorem V_retI {pc : Nat} {lv : LV} {w : PW} {q : FE} {v : Int32} {ty : FieldType} (hf : fetch k pc = some q) (hi : q.1 = .ireturn) (hr : mR k = some ty) (hn : narrow ty (.int v) = .int v) (hQ : Q (.inl (some (.int v))) w n) : V x k mc ms n (pc, lv, [.int v], w) Q := by
  intro p l e R s m args below meth c Z E M ad cells slots h1 h2 hE H locs ls hC hS hl hlv hst
  obtain ⟨i, len, a, b, c'⟩ := q
  obtain ⟨hd, hm⟩ := fetch_dec M.1 hf
  have hln := chk_len (chk_all M.1 hm)
  cases hi
  obtain rfl : len = 1 := by simpa [lenok, ilen] using hln
  exact hE.1 (some (.int v)) w n ad hQ (Nat.le_refl _) agr_rf (fun u h => by cases h; trivial) pc ⟨hd, ty, hr, hn⟩ cells slots (by omega) (by omega) H locs ls hC hS
theorem V_retF {pc : Nat} {lv : LV} {w : PW} {q : FE} {v : UInt32} (hf : fetch k pc = some q) (hi : q.1 = .freturn) (hr : mR k = some .float) (hQ : Q (.inl (some (.float v))) w n) : V x k mc ms n (pc, lv, [.float v], w) Q := by
  intro p l e R s m args below meth c Z E M ad cells slots h1 h2 hE H locs ls hC hS hl hlv hst
  obtain ⟨i, len, a, b, c'⟩ := q
  obtain ⟨hd, hm⟩ := fetch_dec M.1 hf
  have hln := chk_len (chk_all M.1 hm)
  cases hi
  obtain rfl : len = 1 := by simpa [lenok, ilen] using hln
  exact hE.1 (some (.float v)) w n ad hQ (Nat.le_refl _) agr_rf (fun u h => by cases h; trivial) pc ⟨hd, hr⟩ cells slots (by omega) (by omega) H locs ls hC hS
theorem V_retD {pc : Nat} {lv : LV} {w : PW} {q : FE} {v : UInt64} (hf : fetch k pc = some q) (hi : q.1 = .dreturn) (hr : mR k = some .double) (hQ : Q (.inl (some (.double v))) w n) : V x k mc ms n (pc, lv, [.double v], w) Q := by
  intro p l e R s m args below meth c Z E M ad cells slots h1 h2 hE H locs ls hC hS hl hlv hst
  obtain ⟨i, len, a, b, c'⟩ := q
  obtain ⟨hd, hm⟩ := fetch_dec M.1 hf
  have hln := chk_len (chk_all M.1 hm)
  cases hi
  obtain rfl : len = 1 := by simpa [lenok, ilen] using hln
  exact hE.1 (some (.double v)) w n ad hQ (Nat.le_refl _) agr_rf (fun u h => by cases h; trivial) pc ⟨hd, hr⟩ cells slots (by omega) (by omega) H locs ls hC hS
theorem V_retA {pc : Nat} {lv : LV} {w : PW} {q : FE} {a : Nat} {ty : FieldType} (hf : fetch k pc = some q) (hi : q.1 = .areturn) (hr : mR k = some ty) (hty : (∃ nm, ty = .object nm) ∨ ∃ t, ty = .array t) (hQ : Q (.inl (some (.ref a))) w n) : V x k mc ms n (pc, lv, [.ref a], w) Q := by
  intro p l e R s m args below meth c Z E M ad cells slots h1 h2 hE H locs ls hC hS hl hlv hst
  obtain ⟨i, len, a', b, c'⟩ := q
  obtain ⟨hd, hm⟩ := fetch_dec M.1 hf
  have hln := chk_len (chk_all M.1 hm)
  cases hi
  obtain rfl : len = 1 := by simpa [lenok, ilen] using hln
  exact hE.1 (some (.ref a)) w n ad hQ (Nat.le_refl _) agr_rf (fun u h => by cases h; exact hst _ List.mem_cons_self) pc ⟨hd, ty, hr, hty⟩ cells slots (by omega) (by omega) H locs ls hC hS
theorem V_throw {pc : Nat} {lv : LV} {st : List Value} {w : PW} {X : String} (ht : THR k pc X) (hst : (st.map fun v => v.category).sum ≤ 8) (hc : 1 ≤ mc) (hs : 6 ≤ ms) (hQ : Q (.inr X) w n) : V x k mc ms n (pc, lv, st, w) Q := by
  intro p l e R s m args below meth c Z E M ad cells slots h1 h2 hE H locs ls hC hS hl hlv hst'
  obtain ⟨ik, is, ic, text, wide, hok⟩ := id ht
  have hU := M.2.2.2.2.2.2.2.2.2.2.2.2.2.2.2.1
  have hml := M.2.2.2.1
  refine (hE.2 X w n ad hQ (Nat.le_refl _) agr_rf hok.1 cells slots H locs hC hS).2 pc ls _ ht (by rw [hl.1.1, hml]) ?_ (by omega) (by omega)
  rw [List.map_map]
  have : ((fun v => Value.category v) ∘ cv E ad) = fun v => Value.category v := by funext v; exact cv_cat hU v
  rw [this]
  exact hst
end RUL
