/-! CONTRACTS THAT NAME THE ANSWER AND THE WORLD; calls by them -/
section EQS
def EQ (r : Option Value) (w1 : PW) (n1 : Nat) : QT := fun o w' n' => o = .inl r ∧ w' = w1 ∧ n' = n1
theorem EQ_def {r : Option Value} {w1 w' : PW} {n1 n' : Nat} {o : OUT} : EQ r w1 n1 o w' n' = (o = .inl r ∧ w' = w1 ∧ n' = n1) := rfl
def okc (k kd j N : Nat) : Bool := kok k kd j && decide ((MWI.getD j MWD).2.1 + (if kd = 1 ∨ kd = 4 then 0 else 1) = N)
def rkc (ci j : Nat) : Bool := decide ((CLS[ci]?).map (fun r => r.1) = some (rcv j))
variable {x : SX} {k mc ms n : Nat} {Q : QT} {lv : LV} {w : PW}
theorem V_callQ {pc i kd j c' mc1 ms1 N : Nat} {st0 : List Value} {Qc : QT} (ok : okc k kd j N = true) (hf : fetch k pc = some (cins kd i, 3, kd, j, c')) (hl : (st0.take N).length = N) (hs : Nat.ble ((st0.drop N).map fun v => v.category).sum 8 = true)
    (hrv : kd = 1 ∨ kd = 4 ∨ rok w j (st0.take N).reverse) (he : Ev x j mc1 ms1 (st0.take N).reverse w n Qc) (hno : kd = 0 ∨ kd = 1 ∨ ∀ X w' n', ¬ Qc (.inr X) w' n')
    (h : ∀ r w' n', Qc (.inl r) w' n' → n ≤ n' → V x k mc ms n' (pc + 3, lv, r.toList ++ st0.drop N, w') Q)
    (hX : ∀ X w' n', Qc (.inr X) w' n' → n ≤ n' → XCO x k mc ms pc lv X w' n' Q) : V x k (mc + mc1) (ms + ms1) n (pc, lv, st0, w) Q := by
  simp only [okc, Bool.and_eq_true, decide_eq_true_eq] at ok
  have h0 : (st0.take N).reverse.reverse ++ st0.drop N = st0 := by rw [List.reverse_reverse, List.take_append_drop]
  have hz : ∀ as : List Value, rok w j as → ∃ a as', as = .ref a :: as' := by
    intro as hr
    unfold rok at hr
    split at hr
    · exact ⟨_, _, rfl⟩
    · exact hr.elim
  have hc := V_call (mc := mc) (ms := ms) (lv := lv) (st' := st0.drop N) (Q := Q) hf ok.1 he hno hrv (by rw [List.length_reverse, hl, ok.2]) (hrv.imp id (fun g => g.imp id (hz _))) (Nat.le_of_ble_eq_true hs) h hX
  rw [h0] at hc
  exact hc
theorem V_callE {pc i kd j c' mc1 ms1 n1 N : Nat} {st0 : List Value} {r : Option Value} {w1 : PW} (ok : okc k kd j N = true) (hf : fetch k pc = some (cins kd i, 3, kd, j, c')) (hl : (st0.take N).length = N) (hs : Nat.ble ((st0.drop N).map fun v => v.category).sum 8 = true)
    (hrv : kd = 1 ∨ kd = 4 ∨ rok w j (st0.take N).reverse) (he : Ev x j mc1 ms1 (st0.take N).reverse w n (EQ r w1 n1))
    (h : V x k mc ms n1 (pc + 3, lv, r.toList ++ st0.drop N, w1) Q) : V x k (mc + mc1) (ms + ms1) n (pc, lv, st0, w) Q := by
  refine V_callQ ok hf hl hs hrv he (Or.inr (Or.inr fun X w' n' h => by cases h.1)) (fun r' w' n' hq _ => ?_) (fun X w' n' h => by cases h.1)
  obtain ⟨h1, rfl, rfl⟩ := hq
  cases h1
  exact h
/-- a static call -/
theorem V_cS {pc i j c' n1 N : Nat} {st0 : List Value} {r : Option Value} {w1 : PW} (ok : okc k 1 j N = true) (hf : fetch k pc = some (.invokestatic i, 3, 1, j, c')) (he : Ev x j 0 0 (st0.take N).reverse w n (EQ r w1 n1))
    (hl : (st0.take N).length = N) (hs : Nat.ble ((st0.drop N).map fun v => v.category).sum 8 = true) (h : V x k mc ms n1 (pc + 3, lv, r.toList ++ st0.drop N, w1) Q) : V x k mc ms n (pc, lv, st0, w) Q :=
  V_callE (mc1 := 0) (ms1 := 0) ok hf hl hs (Or.inl rfl) he h
/-- .. of a private method of another class of the nest -/
theorem V_cN {pc i j c' n1 N : Nat} {st0 : List Value} {r : Option Value} {w1 : PW} (ok : okc k 4 j N = true) (hf : fetch k pc = some (.invokestatic i, 3, 4, j, c')) (he : Ev x j 0 0 (st0.take N).reverse w n (EQ r w1 n1))
    (hl : (st0.take N).length = N) (hs : Nat.ble ((st0.drop N).map fun v => v.category).sum 8 = true) (h : V x k mc ms n1 (pc + 3, lv, r.toList ++ st0.drop N, w1) Q) : V x k mc ms n (pc, lv, st0, w) Q :=
  V_callE (mc1 := 0) (ms1 := 0) ok hf hl hs (Or.inr (Or.inl rfl)) he h
theorem rok_of {j a ci : Nat} {fs as as' : List Value} (ha : as = .ref a :: as') (hw : w a = some (.inr (ci, fs))) (hc : rkc ci j = true) : rok w j as := by
  subst ha
  exact Or.inl ⟨ci, fs, hw, of_decide_eq_true hc⟩
/-- a call of an object's method -/
theorem V_cV {pc i j c' n1 N a ci : Nat} {st0 as' fs : List Value} {r : Option Value} {w1 : PW} (ok : (okc k 0 j N && rkc ci j) = true) (hf : fetch k pc = some (.invokevirtual i, 3, 0, j, c')) (he : Ev x j 0 0 (st0.take N).reverse w n (EQ r w1 n1))
    (hl : (st0.take N).length = N) (hs : Nat.ble ((st0.drop N).map fun v => v.category).sum 8 = true) (hra : (st0.take N).reverse = .ref a :: as') (hw : w a = some (.inr (ci, fs)))
    (h : V x k mc ms n1 (pc + 3, lv, r.toList ++ st0.drop N, w1) Q) : V x k mc ms n (pc, lv, st0, w) Q := by
  simp only [Bool.and_eq_true] at ok
  exact V_callE (mc1 := 0) (ms1 := 0) (i := i) ok.1 hf hl hs (Or.inr (Or.inr (rok_of hra hw ok.2))) he h
theorem Ev_of {as : List Value} (L : Nat) (lv0 : LV) (hk : (decide (k < KN) && plainName (mY k).cls && decide (mL k = L)) = true) (hl : Nat.ble (lvl as).length L = true) (hlv : lvs L as = lv0) (h : V x k mc ms n (0, lv0, [], w) Q) : Ev x k mc ms as w n Q := by
  simp only [Bool.and_eq_true, decide_eq_true_eq] at hk
  obtain ⟨⟨h1, h2⟩, h3⟩ := hk
  refine Ev_of_V h1 h2 (by rw [h3]; exact Nat.le_of_ble_eq_true hl) ?_
  rw [h3, hlv]
  exact h
theorem Ev_imp {as : List Value} {Q' : QT} (h : Ev x k mc ms as w n Q) (hq : ∀ o w' n', Q o w' n' → Q' o w' n') : Ev x k mc ms as w n Q' := by
  intro hv l hl E ad p e h1 h2 h3 s m args below g1 g2 g3 g4
  obtain ⟨n9, o, a1, a2, a3, a4⟩ := h hv l hl E ad p e h1 h2 h3 s m args below g1 g2 g3 g4
  refine ⟨n9, o, a1, a2, a3, ?_⟩
  rcases a4 with ⟨⟨r, w', n', ad', b1, b2, b3⟩, b4⟩ | ⟨q, b0, X, ce, L, ⟨w', n', ad', b2, b3⟩, b4⟩
  · exact Or.inl ⟨⟨r, w', n', ad', b1, hq _ _ _ b2, b3⟩, b4⟩
  · exact Or.inr ⟨q, b0, X, ce, L, ⟨w', n', ad', hq _ _ _ b2, b3⟩, b4⟩
/-! small facts for simp -/
theorem ldk_z {t : Nat} {v : Value} {l : LV} : ldk t (some v :: l) 0 = (if kd v = t then some v else none) := rfl
theorem ldk_s {t i : Nat} {v : Option Value} {l : LV} : ldk t (v :: l) (i + 1) = ldk t l i := by
  unfold ldk
  rw [List.getElem?_cons_succ]
theorem kd_int {v : Int32} : kd (.int v) = 0 := rfl
theorem kd_ref {v : Nat} : kd (.ref v) = 4 := rfl
theorem kd_long {v : Int64} : kd (.long v) = 1 := rfl
theorem kd_float {v : UInt32} : kd (.float v) = 2 := rfl
theorem kd_double {v : UInt64} : kd (.double v) = 3 := rfl
theorem st1_z {u : Option Value} {v : Value} {l : LV} : st1 (u :: l) 0 v = some v :: l := rfl
theorem st1_s {i : Nat} {u : Option Value} {v : Value} {l : LV} : st1 (u :: l) (i + 1) v = u :: st1 l i v := rfl
/-- no wide value behind the local -/
def wd (u : Option Value) : Bool := match u with
  | some v => v.category == 1
  | none => true
theorem wd_int {v : Int32} : wd (some (.int v)) = true := rfl
theorem wd_ref {v : Nat} : wd (some (.ref v)) = true := rfl
theorem wd_none : wd none = true := rfl
theorem oks_z {u : Option Value} {l : LV} : oks (u :: l) 0 = true := by simp [oks, cut1]
theorem oks_1 {u v : Option Value} {l : LV} : oks (u :: v :: l) 1 = wd u := by
  simp only [oks, cut1, List.length_cons]
  rw [decide_eq_true (by omega)]
  cases u <;> rfl
theorem oks_s {i : Nat} {u v : Option Value} {l : LV} : oks (u :: v :: l) (i + 2) = oks (v :: l) (i + 1) := by
  simp only [oks, cut1, List.length_cons]
  rw [List.getElem?_cons_succ]
  congr 1
  exact decide_eq_decide.mpr (by omega)
theorem incv_z {v : Int32} {d : Int} {l : LV} : incv (some (.int v) :: l) 0 d = some (some (.int (v + Int32.ofInt d)) :: l) := by
  unfold incv
  simp [oks_z, st1]
theorem incv_s {i : Nat} {u : Option Value} {d : Int} {l : LV} (h : oks (u :: l) (i + 1) = oks l i) : incv (u :: l) (i + 1) d = (incv l i d).map fun l' => u :: l' := by
  unfold incv
  rw [List.getElem?_cons_succ, h]
  generalize l[i]? = o
  cases o with
  | none => rfl
  | some y =>
    cases y with
    | none => rfl
    | some y =>
      cases y with
      | int y => cases oks l i <;> rfl
      | _ => rfl
theorem oks_sw {i : Nat} {u : Option Value} {l : LV} (h : wd u = true) : oks (u :: l) (i + 1) = oks l i := by
  cases i with
  | zero =>
    cases l with
    | nil => simp [oks, cut1]
    | cons v l => rw [oks_1, oks_z, h]
  | succ i =>
    simp only [oks, cut1, List.length_cons]
    rw [List.getElem?_cons_succ]
    congr 1
    exact decide_eq_decide.mpr (by omega)
theorem incv_si {i : Nat} {a : Int32} {d : Int} {l : LV} : incv (some (.int a) :: l) (i + 1) d = (incv l i d).map fun l' => some (.int a) :: l' := incv_s (oks_sw rfl)
theorem incv_sr {i a : Nat} {d : Int} {l : LV} : incv (some (.ref a) :: l) (i + 1) d = (incv l i d).map fun l' => some (.ref a) :: l' := incv_s (oks_sw rfl)
theorem incv_sn {i : Nat} {d : Int} {l : LV} : incv (none :: l) (i + 1) d = (incv l i d).map fun l' => none :: l' := incv_s (oks_sw rfl)
theorem st2_z {u u' : Option Value} {v : Value} {l : LV} : st2 (u :: u' :: l) 0 v = some v :: none :: l := rfl
theorem st2_s {i : Nat} {u : Option Value} {v : Value} {l : LV} : st2 (u :: l) (i + 1) v = u :: st2 l i v := rfl
/-! rows: an index that is a small number -/
theorem i32_ti {a : Nat} (h : a < 2147483648) : (Int32.ofNat a).toInt = (a : Int) := Int32.toInt_ofNat_of_lt h
theorem i32_cl {a : Nat} (h : a < 2147483648) : (Int32.ofNat a).toNatClampNeg = a := by
  show (Int32.ofNat a).toInt.toNat = a
  rw [i32_ti h, Int.toNat_natCast]
theorem fin_nat {n a : Nat} (h : a < n) (hn : n ≤ 2147483648) : fin n (Int32.ofNat a) = some a := by
  have h1 : a < 2147483648 := Nat.lt_of_lt_of_le h hn
  unfold fin inb
  rw [i32_ti h1, i32_cl h1, decide_eq_true (Int.natCast_nonneg a), decide_eq_true (by omega)]
  rfl
theorem fin_of {n : Nat} {v : Int32} (h0 : 0 ≤ v.toInt) (h1 : v.toInt < n) : fin n v = some v.toNatClampNeg := by
  unfold fin inb
  rw [decide_eq_true h0, decide_eq_true h1]
  rfl
end EQS
