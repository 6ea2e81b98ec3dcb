/-! CALLS, over configurations -/
section CLL
theorem Met_vx {l : Launch} {y : MethodName} {ws : List Cond} {rm : Room} {Pc : Array Value → State → Prop} {Qc : Array Value → State → Outcome → State → Prop} {XC : String → State → State → Prop} {mc ms : Nat} {free : Addr → Prop}
    (h : vx_Met l y ws rm Pc Qc XC mc ms free) (hno : ∀ X st t, ¬ XC X st t) : Met l y ws rm Pc Qc mc ms free := by
  intro p e h1 h2 h3 s m args below g1 g2 g3 g4
  obtain ⟨n, o, a1, a2, a3, a4⟩ := h p e h1 h2 h3 s m args below g1 g2 g3 g4
  refine ⟨n, o, a1, a2, a3, ?_⟩
  rcases a4 with a4 | ⟨q, -, X, ce, L, hX, -⟩
  · exact a4
  · exact absurd hX (hno _ _ _)
variable {p : Program} {l : Launch} {e : Env} {R : Room} {s : State} {m : MethodId} {args : Array Value} {below : List Frame} {meth : Method} {c : Code} {H : Heap} {locs : List Loc} {cells slots : Nat} {Z : State → Prop} {E : ENV} {ad : Nat → Nat}
theorem vx_Run_of {mc ms : Nat} {g : JFrame} {rest : List Value} {Qa : State → Outcome → State → Prop} {XC : String → State → State → Prop} {free : Addr → Prop}
    (h : va_Run p l e R s m args below meth c H locs cells slots mc ms g rest Qa free) : vx_Run p l e R s m args below meth c H locs cells slots mc ms g rest Qa XC free := fun T hT X => Or.inl (h T hT X)
/-- behind a call -/
theorem run_W {mc1 ms1 n pc : Nat} {ls : Array Slot} {st0 rest : List Value} {a : Array Value} {Qc : QT} (hr : vx_Run p l e R s m args below meth c H locs cells slots mc1 ms1 (F0 m pc ls st0) rest (QcC E ad n Qc a) (XcC E ad n Qc) (eA E)) (hS : va_S (eA E) s.heap H locs)
    (k1 : ∀ (r : Option Value) (w' : PW) (n' : Nat) (ad' : Nat → Nat) (H1 : Heap) (locs1 : List Loc), Qc (.inl r) w' n' → n ≤ n' → agr n ad ad' → (∀ v, r = some v → vok n' v) → HC E ad' n' w' H1 → va_S (eA E) s.heap H1 locs1 →
      W p l e R s m args below meth c H1 locs1 (cells + mc1) (slots + ms1) Z (F0 m (pc + 3) ls ((r.map (cv E ad')).toList ++ rest)))
    (k2 : ∀ (X : String) (w' : PW) (n' : Nat) (ad' : Nat → Nat) (q : Addr) (cx : Cell) (H1 : Heap) (locs1 : List Loc), Qc (.inr X) w' n' → n ≤ n' → agr n ad ad' → HC E ad' n' w' H1 → va_S (eA E) s.heap H1 locs1 → H1[q]? = some cx → cx.vm = .none → s.vm.findClass X = some cx.cls →
      vx_W p l e R s m args below meth c H1 locs1 (cells + mc1) (slots + ms1) Z (F0 m pc ls rest) q) : W p l e R s m args below meth c H locs cells slots Z (F0 m pc ls st0) := by
  intro T hT X
  rcases hr T hT X with ⟨v, st₀, t, T', L, h0, X', hL, e1, e2, ⟨r, w', n', ad', hv, hQ, hn, ha, hC, hvk, hz, hk⟩, st⟩ | ⟨q, st₀, t, T', L, X9, ce, h0, X', hL, e1, e2, ⟨w', n', ad', hQ, hn, ha, hC, hz, hk⟩, hce, hcv, hcl, st⟩
  · cases hv
    rw [h0] at hz hk
    have hS1 : va_S (eA E) s.heap T'.heap (locs ++ L) := ⟨Nat.le_trans hS.1 (by rw [e1]; exact hz), fun q h1 h2 => by rw [e1, hk q (Nat.lt_of_lt_of_le h1 hS.1) h2]; exact hS.2.1 q h1 h2, fun q hq => (List.mem_append.mp hq).elim (hS.2.2 q) (hL q)⟩
    obtain ⟨t2, a1, b1⟩ := k1 r w' n' ad' T'.heap (locs ++ L) hQ hn ha hvk (by rw [e1]; exact hC) hS1 T' rfl X'
    exact ⟨t2, st t2 a1, b1⟩
  · rw [h0] at hz hk
    have hS1 : va_S (eA E) s.heap T'.heap (locs ++ L) := ⟨Nat.le_trans hS.1 (by rw [e1]; exact hz), fun q h1 h2 => by rw [e1, hk q (Nat.lt_of_lt_of_le h1 hS.1) h2]; exact hS.2.1 q h1 h2, fun q hq => (List.mem_append.mp hq).elim (hS.2.2 q) (hL q)⟩
    obtain ⟨t2, a1, b1⟩ := k2 X9 w' n' ad' q ce T'.heap (locs ++ L) hQ hn ha (by rw [e1]; exact hC) hS1 (by rw [e1]; exact hce) hcv hcl T' rfl X'
    exact ⟨t2, st.trans a1, b1⟩
theorem SUP_ok : Jvm.Cond.superclass "java/lang/StringBuilder" "java/lang/AbstractStringBuilder" ∈ TB ∧ okw (.superclass "java/lang/StringBuilder" "java/lang/AbstractStringBuilder") = true := by decide +kernel
/-- the receiver: an object of the world, or a String constant -/
def rok (w : PW) (j : Nat) : List Value → Prop
  | .ref a :: _ => (∃ ci fs, w a = some (.inr (ci, fs)) ∧ (CLS[ci]?).map (fun r => r.1) = some (rcv j)) ∨ (isStr a = true ∧ rcv j = "java/lang/String")
  | _ => False
theorem rok_at {x : SX} {k n : Nat} {w : PW} (M : MC x k p l R s m meth c E) (hC : HC E ad n w H) (hS : va_S (eA E) s.heap H locs) {j a : Nat} {as : List Value} (h : rok w j (.ref a :: as)) :
    ∃ cellB : Cell, H[ad a]? = some cellB ∧ cellB.vm.isStatics = false ∧ s.vm.findClass (rcv j) = some cellB.cls := by
  obtain ⟨hkn, hx, hb, hml, hown, hret, hlocks, htab, hin, hfl, hT, hV, hK, hX, hN, hU, hR1, hR2⟩ := id M
  rcases h with ⟨ci, fs, hw, hr⟩ | ⟨hs, hr⟩
  · obtain ⟨r, hr1, hr2⟩ := Option.map_eq_some_iff.mp hr
    rw [← hr2]
    exact va_recv (q := r) (q0 := 0) hK (P1 (HW_at hC.1 hw)) hr1 rfl
  · obtain ⟨q9, hq9, hqa⟩ := List.any_eq_true.mp hs
    simp only [beq_iff_eq] at hqa
    have hbX := STRS_lt q9 hq9
    obtain ⟨hO, -, -⟩ := (hX.kept hS.2.1).2.1 q9 hq9
    rw [hqa] at hO hbX
    have h2 : ad a = eX E a := hC.2.2.2 a (by omega)
    rw [h2, hr]
    obtain ⟨cell, c1, c2, c3, -⟩ := hO
    exact ⟨cell, c1, c2, c3⟩
theorem pre_at {x : SX} {k n : Nat} {w : PW} (M : MC x k p l R s m meth c E) (hC : HC E ad n w H) (hS : va_S (eA E) s.heap H locs) (as : List Value) : ∀ U : State, U.heap = H → s.WarmedH U.vm → PreC x E ad n w as (as.map (cv E ad)).toArray U := by
  obtain ⟨hkn, hx, hb, hml, hown, hret, hlocks, htab, hin, hfl, hT, hV, hK, hX, hN, hU, hR1, hR2⟩ := id M
  intro U hU1 hW
  refine ⟨rfl, by rw [hU1]; exact Nat.le_trans hN hS.1, hT.moved hW, hV.moved hW, hK.moved hW.alike, ?_, by rw [hU1]; exact hC, hU⟩
  rw [hU1]
  exact (hX.kept hS.2.1).moved hW.alike
theorem okw_warm {s U : State} {w : Jvm.Cond} (hW : s.WarmedH U.vm) (hT : Tab s) (hm : w ∈ TB) (hk : okw w = true) (a' : Array Value) : w.before a' U = true := (hT.moved hW) w hm hk a'
theorem cw_ok {k : Nat} : okw (cw k) = true := by
  unfold cw okw
  split <;> rfl
/-- which calls: of a method without handlers, or of the law's own with some -/
def kdq : Nat → Nat
  | 0 => 0
  | 1 => 1
  | 2 => 2
  | 4 => 1
  | 5 => 2
  | _ => 3
abbrev MWD : Nat × Nat × Nat × Nat × Nat × Nat := (0, 0, 0, 0, 0, 0)
def kok (k kd j : Nat) : Bool := (MWI.getD j MWD).1 == kdq kd && ((decide (mH j = []) && (kd == 0 || kd == 1 || kd == 2 || kd == 4 || kd == 5 || (kd == 6 && decide (mC k = "java/lang/StringBuilder" ∧ (mY j).cls = "java/lang/AbstractStringBuilder" ∧ (mY j).name ≠ "<init>")))) || (!decide (mH j = []) && kd == 1))
theorem cok_facts {k j : Nat} (h : cok k j = true) : j + 1 < KN ∧ mK j < mK k ∧ mL j ≤ 60 := by
  simp only [cok, Bool.and_eq_true, decide_eq_true_eq] at h
  exact ⟨h.1.1, h.1.2, h.2⟩
theorem cw_nil {j : Nat} (h : mH j = []) : cw j = .code (mY j) (mB j) (mL j) (mR j) := by unfold cw; rw [h]
theorem cw_cons {j : Nat} (h : ¬ mH j = []) : cw j = .codeWith (mY j) (mB j) (mL j) (mR j) (mH j) := by
  unfold cw
  split
  · next h0 => exact absurd h0 h
  · rfl
theorem rm_ok {k j mc ms : Nat} {R : Room} (h1 : mK j < mK k) (h2 : mL j ≤ 60) (hR1 : 16 + mK k ≤ R.frames) (hR2 : 200 + 80 * mK k ≤ R.locals) : (rmk j mc ms).frames + 1 ≤ R.frames ∧ 8 + (mL j + 11) + (rmk j mc ms).locals ≤ R.locals := by
  show 16 + mK j + 1 ≤ R.frames ∧ 8 + (mL j + 11) + (200 + 80 * mK j) ≤ R.locals
  omega
theorem npar {j q : Nat} (h : (parseMethodDescriptor (mY j).desc).map (fun d => d.parameters.length) = some q) : ∀ sig, parseMethodDescriptor (mY j).desc = some sig → q = sig.parameters.length := by
  intro sig hs
  rw [hs] at h
  exact (Option.some.inj h).symm
def cins : Nat → Nat → Instr
  | 0, i => .invokevirtual i
  | 1, i => .invokestatic i
  | 4, i => .invokestatic i
  | _, i => .invokespecial i
/-- an exception comes up at a call: out of the method, or to a handler -/
def covs (k pc hpc : Nat) (X : String) : Prop := ∃ (pre : List ExceptionTableEntry) (z : ExceptionTableEntry) (suf : List ExceptionTableEntry) (name : String), tableOf (mH k) = pre ++ z :: suf ∧
  (∀ y ∈ pre, covers y pc = false ∨ (y.catchType ≠ 0 ∧ ∃ nm : String, (Jvm.Cond.classLink (mC k) y.catchType nm ∈ TB ∧ okw (.classLink (mC k) y.catchType nm) = true) ∧ (X, nm) ∈ NCL)) ∧ covers z pc = true ∧ z.catchType ≠ 0 ∧
  (Jvm.Cond.classLink (mC k) z.catchType name ∈ TB ∧ okw (.classLink (mC k) z.catchType name) = true) ∧ (Jvm.Cond.castable X name ∈ TB ∧ okw (.castable X name) = true) ∧ z.handlerPc = hpc
def XCO (x : SX) (k mc ms : Nat) (pc : Nat) (lv : LV) (X : String) (w' : PW) (n' : Nat) (Q : QT) : Prop :=
  (mH k = [] ∧ Q (.inr X) w' n') ∨ ∃ hpc, covs k pc hpc X ∧ V x k mc ms (n' + 1) (hpc, lv, [.ref n'], w') Q
theorem call_run {x : SX} {k n : Nat} {w : PW} {pc i kd j c' mc1 ms1 : Nat} {as st' : List Value} {ls : Array Slot} {lv : LV} {Qc : QT} (M : MC x k p l R s m meth c E) (hf : fetch k pc = some (cins kd i, 3, kd, j, c')) (hk : kok k kd j = true)
    (he : Ev x j mc1 ms1 as w n Qc) (hno : kd = 0 ∨ kd = 1 ∨ ∀ X w' n', ¬ Qc (.inr X) w' n') (hrv : kd = 1 ∨ kd = 4 ∨ rok w j as) (hln : as.length = (MWI.getD j MWD).2.1 + (if kd = 1 ∨ kd = 4 then 0 else 1)) (hrf : kd = 1 ∨ kd = 4 ∨ ∃ a as', as = .ref a :: as')
    (hC : HC E ad n w H) (hS : va_S (eA E) s.heap H locs) (hl : lz E ad (mL k) ls lv) (hvk : ∀ v ∈ as, vok n v) (hs : (st'.map fun v => v.category).sum ≤ 8) (hcl : cells + mc1 ≤ R.cells ∧ slots + ms1 ≤ R.slots) :
    vx_Run p l e R s m args below meth c H locs cells slots mc1 ms1 (F0 m pc ls ((as.reverse ++ st').map (cv E ad))) (st'.map (cv E ad)) (QcC E ad n Qc (as.map (cv E ad)).toArray) (XcC E ad n Qc) (eA E) := by
  obtain ⟨hkn, hx, hb, hml, hown, hret, hlocks, htab, hin, hfl, hT, hV, hK, hX, hN, hU, hR1, hR2⟩ := id M
  obtain ⟨hd, hm⟩ := fetch_dec M.1 hf
  have hc := chk_all M.1 hm
  have hM := he hvk l hfl E ad
  have hpre := pre_at M hC hS as
  have hFix : CallFix p m c (mB k) (mL k) s args [] (mC k) := ⟨hx, hb, hml, hown, fun _ h => by cases h⟩
  have hsz : (F0 m pc ls ((as.reverse ++ st').map (cv E ad))).locals.size = mL k := hl.1.1
  have hcat : 2 * (F0 m pc ls ((as.reverse ++ st').map (cv E ad))).monitorRoom + ((st'.map (cv E ad)).map fun v => v.category).sum ≤ 8 := by
    show 2 * 0 + _ ≤ 8
    rw [cat_cv hU]; omega
  have hnoX : (∀ X w' n', ¬ Qc (.inr X) w' n') → ∀ X st t, ¬ XcC E ad n Qc X st t := fun h X st t ⟨w', n', _, hQ, _⟩ => h X w' n' hQ
  simp only [chk, Bool.and_eq_true] at hc
  replace hc := hc.2
  simp only [kok, Bool.and_eq_true, Bool.or_eq_true, beq_iff_eq, decide_eq_true_eq, Bool.not_eq_true', decide_eq_false_iff_not] at hk
  obtain ⟨hq1, hk⟩ := hk
  have facts : cok k j = true → (mK j < mK k ∧ mL j ≤ 60) ∧ ((mY j).cls ≠ "java/lang/invoke/MethodHandle" ∧ (mY j).cls ≠ "java/lang/invoke/VarHandle") ∧ ((parseMethodDescriptor (mY j).desc).map (fun d => d.parameters.length) = some (MWI.getD j MWD).2.1) ∧
      (cw j).before args s = true ∧ (∀ w ∈ [cw j], ∀ (a' : Array Value) (U : State), s.WarmedH U.vm → w.before a' U = true) ∧ (Cond.initialized (mY j).cls).before args s = true ∧
      ((MWI.getD j MWD).1 = 0 → (Cond.instanceMethod (mY j)).before args s = true ∧ (Cond.selects (rcv j) (mY j) (mY j)).before args s = true) ∧ ((MWI.getD j MWD).1 = 1 → (Cond.static (mY j)).before args s = true) ∧
      ((MWI.getD j MWD).1 = 2 → (Cond.instanceMethod (mY j)).before args s = true ∧ (mY j).name = "<init>" ∧ mR j = none) ∧ ((MWI.getD j MWD).1 = 3 → (Cond.instanceMethod (mY j)).before args s = true ∧ (Cond.sameMethod (mY j).cls (mY j).cls (mY j).name (mY j).desc).before args s = true) := by
    intro hck
    obtain ⟨h1, h2, h3⟩ := cok_facts hck
    have hcc := cchk_all h1
    simp only [cchk, Bool.and_eq_true, decide_eq_true_eq] at hcc
    obtain ⟨⟨⟨⟨⟨c1, c2⟩, c3⟩, c4⟩, c5⟩, c6⟩ := hcc
    refine ⟨⟨h2, h3⟩, c1, c3, hT.use (wat_at c4) cw_ok _, fun w hw a' U hW => ?_, hT.use (wat_at c5) rfl _, fun h0 => ?_, fun h0 => ?_, fun h0 => ?_, fun h0 => ?_⟩
    · rw [List.mem_singleton.mp hw]
      exact (hT.moved hW).use (wat_at c4) cw_ok _
    · rw [h0] at c6
      simp only [Bool.and_eq_true] at c6
      exact ⟨hT.use (wat_at c6.1) rfl _, hT.use (wat_at c6.2) rfl _⟩
    · rw [h0] at c6
      exact hT.use (wat_at c6) rfl _
    · rw [h0] at c6
      simp only [Bool.and_eq_true, decide_eq_true_eq] at c6
      exact ⟨hT.use (wat_at c6.1.1) rfl _, c6.1.2, c6.2⟩
    · rw [h0] at c6
      simp only [Bool.and_eq_true] at c6
      exact ⟨hT.use (wat_at c6.1) rfl _, hT.use (wat_at c6.2) rfl _⟩
  have map_len : (as.map (cv E ad)).length = as.length := List.length_map _
  rcases hk with ⟨hH, hk⟩ | ⟨hH, rfl⟩
  · rw [cw_nil hH] at hM
    rw [cw_nil hH] at facts
    have mem1 : Cond.code (mY j) (mB j) (mL j) (mR j) ∈ [Cond.code (mY j) (mB j) (mL j) (mR j)] := List.mem_cons_self
    rcases hk with ((((rfl | rfl) | rfl) | rfl) | rfl) | ⟨rfl, hk6⟩
    · replace hc : (cok k j && wat c' (.methodLink (mC k) i (mY j))) = true := hc
      simp only [Bool.and_eq_true] at hc
      obtain ⟨hck, hlk⟩ := hc
      obtain ⟨⟨f1, f2⟩, f3, f4, f5, f6, f7, f8, -, -, -⟩ := facts hck
      obtain ⟨f8, f9⟩ := f8 hq1
      obtain ⟨r1, r2⟩ := rm_ok (mc := mc1) (ms := ms1) f1 f2 hR1 hR2
      rcases hrf with h | h | ⟨a, as', rfl⟩
      · cases h
      · cases h
      have hrk := rok_at M hC hS (hrv.elim (fun h => by cases h) (fun h => h.elim (fun h => by cases h) id))
      exact vx_runV (C := rcv j) (b := ad a) (As := as'.map (cv E ad)) hFix hM ⟨⟨rfl, rfl, r1, r2, f6, mem1, f5, f7, f3, npar f4, hT.use (wat_at hlk) rfl _⟩, f8, f9⟩ ⟨blindC, hrk, hpre⟩ rfl (by rw [List.length_map]; simpa using hln) hsz (by simp [cv_rf]) hcat hd hcl
    · replace hc : (cok k j && wat c' (.methodLink (mC k) i (mY j))) = true := hc
      simp only [Bool.and_eq_true] at hc
      obtain ⟨hck, hlk⟩ := hc
      obtain ⟨⟨f1, f2⟩, f3, f4, f5, f6, f7, -, f8, -, -⟩ := facts hck
      have f8 := f8 hq1
      obtain ⟨r1, r2⟩ := rm_ok (mc := mc1) (ms := ms1) f1 f2 hR1 hR2
      exact vx_runS (As := as.map (cv E ad)) hFix hM ⟨⟨rfl, rfl, r1, r2, f6, mem1, f5, f7, f3, npar f4, hT.use (wat_at hlk) rfl _⟩, f8⟩ ⟨blindC, hpre⟩ rfl (by rw [List.length_map]; simpa using hln) hsz (by simp [cv_rf]) hcat hd hcl
    · replace hc : (cok k j && wat c' (.methodLink (mC k) i (mY j))) = true := hc
      simp only [Bool.and_eq_true] at hc
      obtain ⟨hck, hlk⟩ := hc
      obtain ⟨⟨f1, f2⟩, f3, f4, f5, f6, f7, -, -, f8, -⟩ := facts hck
      obtain ⟨f8, f9, f10⟩ := f8 hq1
      obtain ⟨r1, r2⟩ := rm_ok (mc := mc1) (ms := ms1) f1 f2 hR1 hR2
      rcases hrf with h | h | ⟨a, as', rfl⟩
      · cases h
      · cases h
      have hno' := hno.elim (fun h => by cases h) (fun h => h.elim (fun h => by cases h) id)
      have hM' := Met_vx hM (hnoX hno')
      rw [f10] at hM' f5 f6
      rw [f10] at mem1
      exact vx_Run_of (va_runI (b := ad a) (As := as'.map (cv E ad)) hFix hM' ⟨⟨rfl, rfl, r1, r2, f6, mem1, f5, f7, f3, npar f4, hT.use (wat_at hlk) rfl _⟩, f9, f8⟩ ⟨blindC, hpre⟩ rfl (by rw [List.length_map]; simpa using hln) hsz (by simp [cv_rf]) hcat hd hcl)
    · replace hc : (cok k j && wat c' (.methodLinkNest (mC k) i (mY j) "ChordCanal")) = true := hc
      simp only [Bool.and_eq_true] at hc
      obtain ⟨hck, hlk⟩ := hc
      obtain ⟨⟨f1, f2⟩, f3, f4, f5, f6, f7, -, f8, -, -⟩ := facts hck
      have f8 := f8 hq1
      obtain ⟨r1, r2⟩ := rm_ok (mc := mc1) (ms := ms1) f1 f2 hR1 hR2
      have hno' := hno.elim (fun h => by cases h) (fun h => h.elim (fun h => by cases h) id)
      exact vx_Run_of (va_runSN (As := as.map (cv E ad)) hFix (Met_vx hM (hnoX hno')) ⟨⟨⟨rfl, rfl, r1, r2, f6, mem1⟩, f5, f7, f3, npar f4, hT.use (wat_at hlk) rfl _⟩, f8, trivial⟩ ⟨blindC, hpre⟩ rfl (by rw [List.length_map]; simpa using hln) hsz (by simp [cv_rf]) hcat hd hcl)
    · replace hc : (cok k j && wat c' (.methodLinkNest (mC k) i (mY j) "ChordCanal")) = true := hc
      simp only [Bool.and_eq_true] at hc
      obtain ⟨hck, hlk⟩ := hc
      obtain ⟨⟨f1, f2⟩, f3, f4, f5, f6, f7, -, -, f8, -⟩ := facts hck
      obtain ⟨f8, f9, f10⟩ := f8 hq1
      obtain ⟨r1, r2⟩ := rm_ok (mc := mc1) (ms := ms1) f1 f2 hR1 hR2
      rcases hrf with h | h | ⟨a, as', rfl⟩
      · cases h
      · cases h
      have hno' := hno.elim (fun h => by cases h) (fun h => h.elim (fun h => by cases h) id)
      have hM' := Met_vx hM (hnoX hno')
      rw [f10] at hM' f5 f6
      rw [f10] at mem1
      exact vx_Run_of (va_runIN (b := ad a) (As := as'.map (cv E ad)) hFix hM' ⟨⟨⟨rfl, rfl, r1, r2, f6, mem1⟩, f5, f7, f3, npar f4, hT.use (wat_at hlk) rfl _⟩, f9, f8⟩ ⟨blindC, hpre⟩ rfl (by rw [List.length_map]; simpa using hln) hsz (by simp [cv_rf]) hcat hd hcl)
    · replace hc : (cok k j && wat c' (.methodLink (mC k) i (mY j))) = true := hc
      simp only [Bool.and_eq_true] at hc
      obtain ⟨hck, hlk⟩ := hc
      obtain ⟨⟨f1, f2⟩, f3, f4, f5, f6, f7, -, -, -, f8⟩ := facts hck
      obtain ⟨f8, f9⟩ := f8 hq1
      obtain ⟨e1, e2, e3⟩ := hk6
      obtain ⟨r1, r2⟩ := rm_ok (mc := mc1) (ms := ms1) f1 f2 hR1 hR2
      rcases hrf with h | h | ⟨a, as', rfl⟩
      · cases h
      · cases h
      have hrk := rok_at M hC hS (hrv.elim (fun h => by cases h) (fun h => h.elim (fun h => by cases h) id))
      have hrc : rcv j = RJ4 := by unfold rcv; rw [if_pos e2]
      have hno' := hno.elim (fun h => by cases h) (fun h => h.elim (fun h => by cases h) id)
      have hat : ClassAt s (rcv j) ((eD E).1 8) := by rw [hrc]; exact (hK.1 8 (RJ4, TJ4, 4) rfl).2
      have hsup : (Cond.superclass (mC k) (mY j).cls).before args s = true := by rw [e1, e2]; exact hT _ SUP_ok.1 SUP_ok.2 _
      exact vx_Run_of (va_runSU (C := rcv j) (b := ad a) (As := as'.map (cv E ad)) hat hFix (Met_vx hM (hnoX hno')) ⟨⟨rfl, rfl, r1, r2, f6, mem1⟩, hT.use (wat_at hlk) rfl _, f9, hsup, f8, f7, f5, e3, npar f4⟩ ⟨blindC, hrk, hpre⟩ rfl (by rw [List.length_map]; simpa using hln) hsz (by simp [cv_rf]) hcat hd hcl)
  · rw [cw_cons hH] at hM
    rw [cw_cons hH] at facts
    replace hc : (cok k j && wat c' (.methodLink (mC k) i (mY j))) = true := hc
    simp only [Bool.and_eq_true] at hc
    obtain ⟨hck, hlk⟩ := hc
    obtain ⟨⟨f1, f2⟩, f3, f4, f5, f6, f7, -, f8, -, -⟩ := facts hck
    have f8 := f8 hq1
    obtain ⟨r1, r2⟩ := rm_ok (mc := mc1) (ms := ms1) f1 f2 hR1 hR2
    exact vx_runSX (hh := mH j) (As := as.map (cv E ad)) hFix hM ⟨⟨rfl, rfl, r1, r2, f6, List.mem_cons_self⟩, f5, f7, f3, npar f4, hT.use (wat_at hlk) rfl _, f8⟩ ⟨blindC, hpre⟩ rfl (by rw [List.length_map]; simpa using hln) hsz (by simp [cv_rf]) hcat hd hcl
theorem V_call {x : SX} {k mc ms n : Nat} {w : PW} {pc i kd j c' mc1 ms1 : Nat} {as st' : List Value} {lv : LV} {Qc Q : QT} (hf : fetch k pc = some (cins kd i, 3, kd, j, c')) (hk : kok k kd j = true)
    (he : Ev x j mc1 ms1 as w n Qc) (hno : kd = 0 ∨ kd = 1 ∨ ∀ X w' n', ¬ Qc (.inr X) w' n') (hrv : kd = 1 ∨ kd = 4 ∨ rok w j as) (hln : as.length = (MWI.getD j MWD).2.1 + (if kd = 1 ∨ kd = 4 then 0 else 1)) (hrf : kd = 1 ∨ kd = 4 ∨ ∃ a as', as = .ref a :: as')
    (hs : (st'.map fun v => v.category).sum ≤ 8)
    (h : ∀ r w' n', Qc (.inl r) w' n' → n ≤ n' → V x k mc ms n' (pc + 3, lv, r.toList ++ st', w') Q)
    (hX : ∀ X w' n', Qc (.inr X) w' n' → n ≤ n' → XCO x k mc ms pc lv X w' n' Q) : V x k (mc + mc1) (ms + ms1) n (pc, lv, as.reverse ++ st', w) Q := by
  intro p l e R s m args below meth c Z E M ad cells slots h1 h2 hE H locs ls hC hS hl hlv hst
  dsimp only at hl hlv hst ⊢
  have hva : ∀ v ∈ as, vok n v := fun v hv => hst v (List.mem_append_left _ (List.mem_reverse.mpr hv))
  have hvs : ∀ v ∈ st', vok n v := fun v hv => hst v (List.mem_append_right _ hv)
  have hr := call_run (e := e) (args := args) (below := below) (cells := cells) (slots := slots) (st' := st') M hf hk he hno hrv hln hrf hC hS hl hva hs ⟨by omega, by omega⟩
  obtain ⟨hkn, hx, hb, hml, hown, hret, hlocks, htab, hin, hfl, hT, hV, hK, hXX, hN, hU, hR1, hR2⟩ := id M
  refine run_W hr hS (fun r w' n' ad' H1 locs1 hQ hn ha hvr hC1 hS1 => ?_) (fun X w' n' ad' q cx H1 locs1 hQ hn ha hC1 hS1 hcx hcv hcl => ?_)
  · have hh := h r w' n' hQ hn p l e R s m args below meth c Z E M ad' (cells + mc1) (slots + ms1) (by omega) (by omega) (ENDS_up hn ha (by omega) (by omega) hE) H1 locs1 ls hC1 hS1 (lz_agr ha hlv hl) (fun i v h => vok_mono hn (hlv i v h)) (fun v hv => (List.mem_append.mp hv).elim (fun h => hvr v (by cases r <;> simp at h; rw [h])) (fun h => vok_mono hn (hvs v h)))
    dsimp only at hh
    rw [List.map_append, cvs_agr ha hvs] at hh
    cases r <;> exact hh
  · rcases hX X w' n' hQ hn with ⟨h0, hQ2⟩ | ⟨hpc, ⟨pre, z, suf, name, hsp, hpass, hcov, hz0, hlink, hcast, hhp⟩, hV2⟩
    · exact (hE.2 X w' n' ad' hQ2 hn ha h0 (cells + mc1) (slots + ms1) H1 locs1 hC1 hS1).1 pc ls _ q cx (by omega) (by omega) hcx hcv hcl
    · refine vx_catch (own := mC k) (name := name) (E := X) hown pre z suf (by rw [htab]; exact hsp) (fun y hy => (hpass y hy).elim Or.inl (fun ⟨a1, nm, a2, a3⟩ => Or.inr ⟨a1, nm, hT _ a2.1 a2.2 _, hV.2.2.1 (X, nm) a3⟩)) hcov hz0 (hT _ hlink.1 hlink.2 _) (hT _ hcast.1 hcast.2 _) hcx hcv hcl ?_
      have ha2 : agr n' ad' (va_up ad' n' q) := fun i h => by simp only [va_up]; rw [if_neg (Nat.ne_of_lt h)]
      have ha3 : agr n ad (va_up ad' n' q) := agr_tr hn ha ha2
      have hh := hV2 p l e R s m args below meth c Z E M (va_up ad' n' q) (cells + mc1) (slots + ms1) (by omega) (by omega) (ENDS_up (Nat.le_succ_of_le hn) ha3 (by omega) (by omega) hE) H1 locs1 ls
        ⟨HW_agr hC1.2.1 ha2 hC1.1, wok_mono (Nat.le_succ n') hC1.2.1, Nat.le_succ_of_le hC1.2.2.1, fun i hi => (ha2 i (Nat.lt_of_lt_of_le hi hC1.2.2.1)).trans (hC1.2.2.2 i hi)⟩ hS1 (lz_agr ha3 hlv hl) (fun i v h => vok_mono (Nat.le_succ_of_le hn) (hlv i v h)) (fun v hv => by rw [List.mem_singleton.mp hv]; exact Nat.lt_succ_self n')
      dsimp only at hh
      rw [hhp]
      rw [show List.map (cv E (va_up ad' n' q)) [.ref n'] = [.ref q] by simp [cv, va_up]] at hh
      exact hh
end CLL
