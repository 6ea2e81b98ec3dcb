/-! WHAT A METHOD OWES from a configuration on, instruction by instruction -/
section WPS
def icP : Jvm.ClassFile.Cond → Int32 → Int32 → Prop
  | .eq, x, y => x = y
  | .ne, x, y => ¬ x = y
  | .lt, x, y => x < y
  | .ge, x, y => y ≤ x
  | .gt, x, y => y < x
  | .le, x, y => x ≤ y
theorem icnd_t {c : Jvm.ClassFile.Cond} {x y : Int32} (h : icP c x y) : icnd c x y = true := by cases c <;> exact decide_eq_true h
theorem icnd_f {c : Jvm.ClassFile.Cond} {x y : Int32} (h : ¬ icP c x y) : icnd c x y = false := by cases c <;> exact decide_eq_false h
def nrmI : Instr → Instr
  | .iload_n i => .iload i
  | .aload_n i => .aload i
  | .istore_n i => .istore i
  | .astore_n i => .astore i
  | .bipush v => if (Int8.ofInt v).toInt32 = Int32.ofInt v then .iconst v else .bipush v
  | .sipush v => if (Int16.ofInt v).toInt32 = Int32.ofInt v then .iconst v else .sipush v
  | i => i
def fN (k pc : Nat) : Option FE := (fetch k pc).map fun q => (nrmI q.1, q.2)
theorem ex_nrm {x : SX} {pc : Nat} {q : FE} {lv : LV} {st : List Value} {w : PW} : ex x pc (nrmI q.1, q.2) lv st w = ex x pc q lv st w := by
  obtain ⟨i, len, a, b, c⟩ := q
  dsimp only
  unfold nrmI
  split
  · rfl
  · rfl
  · rfl
  · rfl
  · split
    · next h => simp only [ex, h]
    · rfl
  · split
    · next h => simp only [ex, h]
    · rfl
  · rfl
theorem nrm_of {i j : Instr} (h : nrmI i = j) (h1 : ∀ k, j ≠ .iload k) (h2 : ∀ k, j ≠ .aload k) (h3 : ∀ k, j ≠ .istore k) (h4 : ∀ k, j ≠ .astore k) (h5 : ∀ v, j ≠ .iconst v) (h6 : ∀ v, j ≠ .bipush v) (h7 : ∀ v, j ≠ .sipush v) : i = j := by
  unfold nrmI at h
  split at h
  · exact absurd h.symm (h1 _)
  · exact absurd h.symm (h2 _)
  · exact absurd h.symm (h3 _)
  · exact absurd h.symm (h4 _)
  · split at h
    · exact absurd h.symm (h5 _)
    · exact absurd h.symm (h6 _)
  · split at h
    · exact absurd h.symm (h5 _)
    · exact absurd h.symm (h7 _)
  · exact h
def retok : Option FieldType → Int32 → Prop
  | some .int, _ => True
  | some .boolean, v => v = 0 ∨ v = 1
  | some .char, v => v.toUInt32.toUInt16.toUInt32.toInt32 = v
  | _, _ => False
theorem retok_n {t : Option FieldType} {v : Int32} (h : retok t v) : ∃ ty, t = some ty ∧ narrow ty (.int v) = .int v := by
  unfold retok at h
  split at h
  · exact ⟨_, rfl, rfl⟩
  · rcases h with rfl | rfl <;> exact ⟨_, rfl, by simp [narrow]⟩
  · exact ⟨_, rfl, by simp only [narrow, h]⟩
  · exact h.elim
def retA : Option FieldType → Prop
  | some (.object _) => True
  | some (.array _) => True
  | _ => False
theorem retA_n {t : Option FieldType} (h : retA t) : ∃ ty, t = some ty ∧ ((∃ nm, ty = .object nm) ∨ ∃ u, ty = .array u) := by
  unfold retA at h
  split at h
  · exact ⟨_, rfl, Or.inl ⟨_, rfl⟩⟩
  · exact ⟨_, rfl, Or.inr ⟨_, rfl⟩⟩
  · exact h.elim
def oC (o : Option CFG) (C : Nat → LV → List Value → PW → Prop) (d : Prop) : Prop := match o with
  | some g => C g.1 g.2.1 g.2.2.1 g.2.2.2
  | none => d
def WX (x : SX) (k mc ms n : Nat) (Q : QT) (C : Nat → LV → List Value → PW → Prop) (pc : Nat) (o : Option FE) (lv : LV) (st : List Value) (w : PW) : Prop :=
  match o with
  | none => V x k mc ms n (pc, lv, st, w) Q
  | some q => match q.1 with
    | .ifCond c o => (match st with
      | .int v :: r => okt pc o = true ∧ (icP c v 0 → C (tgt pc o) lv r w) ∧ (¬ icP c v 0 → C (pc + q.2.1) lv r w)
      | _ => False)
    | .if_icmp c o => (match st with
      | .int v :: .int u :: r => okt pc o = true ∧ (icP c u v → C (tgt pc o) lv r w) ∧ (¬ icP c u v → C (pc + q.2.1) lv r w)
      | _ => False)
    | .ireturn => (match st with
      | [.int v] => retok (mR k) v ∧ Q (.inl (some (.int v))) w n
      | _ => False)
    | .areturn => (match st with
      | [.ref v] => retA (mR k) ∧ Q (.inl (some (.ref v))) w n
      | _ => False)
    | .freturn => (match st with
      | [.float v] => mR k = some .float ∧ Q (.inl (some (.float v))) w n
      | _ => False)
    | .dreturn => (match st with
      | [.double v] => mR k = some .double ∧ Q (.inl (some (.double v))) w n
      | _ => False)
    | .return_ => (match st with
      | [] => mR k = none ∧ Q (.inl none) w n
      | _ => False)
    | _ => oC (ex x pc q lv st w) C (V x k mc ms n (pc, lv, st, w) Q)
theorem WX_sound {x : SX} {k mc ms n : Nat} {Q : QT} {C : Nat → LV → List Value → PW → Prop} {pc : Nat} {q : FE} {lv : LV} {st : List Value} {w : PW} (hf : fetch k pc = some q) (h : WX x k mc ms n Q C pc (some (nrmI q.1, q.2)) lv st w)
    (hC : ∀ pc' lv' st' w', C pc' lv' st' w' → V x k mc ms n (pc', lv', st', w') Q) : V x k mc ms n (pc, lv, st, w) Q := by
  have hst : ∀ j, nrmI q.1 = j → stp x k (pc, lv, st, w) = ex x pc (j, q.2) lv st w := by
    intro j hj
    subst hj
    unfold stp
    rw [hf, ex_nrm]
  unfold WX at h
  dsimp only at h
  split at h
  · next c o hq =>
    split at h
    · next v r =>
      obtain ⟨h0, h1, h2⟩ := h
      have hs := hst _ hq
      simp only [ex, h0, if_true] at hs
      by_cases hc : icP c v 0
      · rw [icnd_t hc, if_pos rfl] at hs
        exact V_stp hs (hC _ _ _ _ (h1 hc))
      · rw [icnd_f hc] at hs
        exact V_stp hs (hC _ _ _ _ (h2 hc))
    · exact h.elim
  · next c o hq =>
    split at h
    · next v u r =>
      obtain ⟨h0, h1, h2⟩ := h
      have hs := hst _ hq
      simp only [ex, h0, if_true] at hs
      by_cases hc : icP c u v
      · rw [icnd_t hc, if_pos rfl] at hs
        exact V_stp hs (hC _ _ _ _ (h1 hc))
      · rw [icnd_f hc] at hs
        exact V_stp hs (hC _ _ _ _ (h2 hc))
    · exact h.elim
  · next hq =>
    have hi := nrm_of hq (by intro k h; cases h) (by intro k h; cases h) (by intro k h; cases h) (by intro k h; cases h) (by intro k h; cases h) (by intro k h; cases h) (by intro k h; cases h)
    split at h
    · obtain ⟨ty, h1, h2⟩ := retok_n h.1
      exact V_retI hf hi h1 h2 h.2
    · exact h.elim
  · next hq =>
    have hi := nrm_of hq (by intro k h; cases h) (by intro k h; cases h) (by intro k h; cases h) (by intro k h; cases h) (by intro k h; cases h) (by intro k h; cases h) (by intro k h; cases h)
    split at h
    · obtain ⟨ty, h1, h2⟩ := retA_n h.1
      exact V_retA hf hi h1 h2 h.2
    · exact h.elim
  · next hq =>
    have hi := nrm_of hq (by intro k h; cases h) (by intro k h; cases h) (by intro k h; cases h) (by intro k h; cases h) (by intro k h; cases h) (by intro k h; cases h) (by intro k h; cases h)
    split at h
    · exact V_retF hf hi h.1 h.2
    · exact h.elim
  · next hq =>
    have hi := nrm_of hq (by intro k h; cases h) (by intro k h; cases h) (by intro k h; cases h) (by intro k h; cases h) (by intro k h; cases h) (by intro k h; cases h) (by intro k h; cases h)
    split at h
    · exact V_retD hf hi h.1 h.2
    · exact h.elim
  · next hq =>
    have hi := nrm_of hq (by intro k h; cases h) (by intro k h; cases h) (by intro k h; cases h) (by intro k h; cases h) (by intro k h; cases h) (by intro k h; cases h) (by intro k h; cases h)
    split at h
    · exact V_retV hf hi h.1 h.2
    · exact h.elim
  · have hs := hst _ rfl
    unfold oC at h
    split at h
    · next g hg => rw [hg] at hs; exact V_stp hs (hC _ _ _ _ h)
    · exact h
def stopB : List Nat → Nat → Bool
  | [], _ => false
  | a :: l, pc => (pc == a) || stopB l pc
/-- at most N instructions, no further than the places S -/
def WP (x : SX) (k mc ms n : Nat) (Q : QT) (S : List Nat) : Nat → Nat → LV → List Value → PW → Prop
  | 0, pc, lv, st, w => V x k mc ms n (pc, lv, st, w) Q
  | N + 1, pc, lv, st, w => WX x k mc ms n Q (fun pc' lv' st' w' => cond (stopB S pc') (V x k mc ms n (pc', lv', st', w') Q) (WP x k mc ms n Q S N pc' lv' st' w')) pc (fN k pc) lv st w
variable {x : SX} {k mc ms n : Nat} {Q : QT} {S : List Nat} {C : Nat → LV → List Value → PW → Prop} {pc len a b c N : Nat} {lv : LV} {st r : List Value} {w : PW}
theorem wp_z : WP x k mc ms n Q S 0 pc lv st w = V x k mc ms n (pc, lv, st, w) Q := rfl
theorem wp_s : WP x k mc ms n Q S (N + 1) pc lv st w = WX x k mc ms n Q (fun pc' lv' st' w' => cond (stopB S pc') (V x k mc ms n (pc', lv', st', w') Q) (WP x k mc ms n Q S N pc' lv' st' w')) pc (fN k pc) lv st w := rfl
theorem V_wp (S : List Nat) (N : Nat) : ∀ {pc : Nat} {lv : LV} {st : List Value} {w : PW}, WP x k mc ms n Q S N pc lv st w → V x k mc ms n (pc, lv, st, w) Q := by
  induction N with
  | zero => intro pc lv st w h; exact h
  | succ N ih =>
    intro pc lv st w h
    rw [wp_s] at h
    unfold fN at h
    cases hf : fetch k pc with
    | none => rw [hf] at h; exact h
    | some q =>
      rw [hf] at h
      refine WX_sound hf h (fun pc' lv' st' w' h => ?_)
      cases hs : stopB S pc' with
      | true => rw [hs] at h; exact h
      | false => rw [hs] at h; exact ih h
/-! the instructions, as equations -/
def oV {α : Type} (o : Option α) (f : α → Prop) (d : Prop) : Prop := match o with
  | some v => f v
  | none => d
theorem oV_some {α : Type} {v : α} {f : α → Prop} {d : Prop} : oV (some v) f d = f v := rfl
theorem oC_map {α : Type} {o : Option α} {F : α → CFG} {d : Prop} : oC (o.map F) C d = oV o (fun v => C (F v).1 (F v).2.1 (F v).2.2.1 (F v).2.2.2) d := by cases o <;> rfl
theorem wx_iconst {v : Int} : WX x k mc ms n Q C pc (some (.iconst v, len, a, b, c)) lv st w = C (pc + len) lv (.int (Int32.ofInt v) :: st) w := rfl
theorem wx_bipush {v : Int} : WX x k mc ms n Q C pc (some (.bipush v, len, a, b, c)) lv st w = C (pc + len) lv (.int (Int8.ofInt v).toInt32 :: st) w := rfl
theorem wx_sipush {v : Int} : WX x k mc ms n Q C pc (some (.sipush v, len, a, b, c)) lv st w = C (pc + len) lv (.int (Int16.ofInt v).toInt32 :: st) w := rfl
theorem wx_lconst {v : Fin 2} : WX x k mc ms n Q C pc (some (.lconst v, len, a, b, c)) lv st w = C (pc + len) lv (.long (Int64.ofNat (v : Nat)) :: st) w := rfl
theorem wx_aconst : WX x k mc ms n Q C pc (some (.aconst_null, len, a, b, c)) lv st w = C (pc + len) lv (.null :: st) w := rfl
theorem wx_ldcI {i : Nat} : WX x k mc ms n Q C pc (some (.ldc i, len, 0, b, c)) lv st w = C (pc + len) lv (.int (Int32.ofNat b) :: st) w := rfl
theorem wx_ldcS {i : Nat} : WX x k mc ms n Q C pc (some (.ldc i, len, 1, b, c)) lv st w = C (pc + len) lv (.ref b :: st) w := rfl
theorem wx_ldc2 {i : Nat} : WX x k mc ms n Q C pc (some (.ldc2_w i, len, 2, b, c)) lv st w = C (pc + len) lv (.double (UInt64.ofNat b) :: st) w := rfl
theorem wx_iload {i : Nat} : WX x k mc ms n Q C pc (some (.iload i, len, a, b, c)) lv st w = oV (ldk 0 lv i) (fun v => C (pc + len) lv (v :: st) w) (V x k mc ms n (pc, lv, st, w) Q) := oC_map
theorem wx_aload {i : Nat} : WX x k mc ms n Q C pc (some (.aload i, len, a, b, c)) lv st w = oV (ldk 4 lv i) (fun v => C (pc + len) lv (v :: st) w) (V x k mc ms n (pc, lv, st, w) Q) := oC_map
theorem wx_fload {i : Nat} : WX x k mc ms n Q C pc (some (.fload i, len, a, b, c)) lv st w = oV (ldk 2 lv i) (fun v => C (pc + len) lv (v :: st) w) (V x k mc ms n (pc, lv, st, w) Q) := oC_map
theorem wx_dload {i : Nat} : WX x k mc ms n Q C pc (some (.dload i, len, a, b, c)) lv st w = oV (ldk 3 lv i) (fun v => C (pc + len) lv (v :: st) w) (V x k mc ms n (pc, lv, st, w) Q) := oC_map
def oks (lv : LV) (i : Nat) : Bool := decide (i < lv.length) && cut1 lv i
theorem oks_iff {i : Nat} : (oks lv i = true) = (i < lv.length ∧ cut1 lv i = true) := by simp [oks]
theorem oC_oks {i : Nat} {g : CFG} {d : Prop} : oC (if i < lv.length ∧ cut1 lv i = true then some g else none) C d = cond (oks lv i) (C g.1 g.2.1 g.2.2.1 g.2.2.2) d := by
  by_cases h : i < lv.length ∧ cut1 lv i = true
  · rw [if_pos h, show oks lv i = true by rw [oks_iff]; exact h]; rfl
  · rw [if_neg h, show oks lv i = false from Bool.eq_false_iff.mpr (fun z => h (by rw [oks_iff] at z; exact z))]; rfl
theorem wx_istore {i : Nat} {v : Int32} : WX x k mc ms n Q C pc (some (.istore i, len, a, b, c)) lv (.int v :: r) w = cond (oks lv i) (C (pc + len) (st1 lv i (.int v)) r w) (V x k mc ms n (pc, lv, .int v :: r, w) Q) := by
  show oC (if i < lv.length ∧ cut1 lv i = true then _ else none) _ _ = _
  exact oC_oks
theorem wx_astoreR {i v : Nat} : WX x k mc ms n Q C pc (some (.astore i, len, a, b, c)) lv (.ref v :: r) w = cond (oks lv i) (C (pc + len) (st1 lv i (.ref v)) r w) (V x k mc ms n (pc, lv, .ref v :: r, w) Q) := by
  show oC (if i < lv.length ∧ cut1 lv i = true then _ else none) _ _ = _
  exact oC_oks
theorem wx_fstore {i : Nat} {v : UInt32} : WX x k mc ms n Q C pc (some (.fstore i, len, a, b, c)) lv (.float v :: r) w = cond (oks lv i) (C (pc + len) (st1 lv i (.float v)) r w) (V x k mc ms n (pc, lv, .float v :: r, w) Q) := by
  show oC (if i < lv.length ∧ cut1 lv i = true then _ else none) _ _ = _
  exact oC_oks
theorem wx_dstore {i : Nat} {v : UInt64} : WX x k mc ms n Q C pc (some (.dstore i, len, a, b, c)) lv (.double v :: r) w = (if i + 1 < lv.length ∧ cut1 lv i = true then C (pc + len) (st2 lv i (.double v)) r w else V x k mc ms n (pc, lv, .double v :: r, w) Q) := by
  show oC (if i + 1 < lv.length ∧ cut1 lv i = true then _ else none) _ _ = _
  split <;> rfl
def incv (lv : LV) (i : Nat) (v : Int) : Option LV := match lv[i]? with
  | some (some (.int y)) => cond (oks lv i) (some (st1 lv i (.int (y + Int32.ofInt v)))) none
  | _ => none
theorem wx_iinc {i : Nat} {v : Int} : WX x k mc ms n Q C pc (some (.iinc i v, 3, a, b, c)) lv st w = oV (incv lv i v) (fun lv' => C (pc + 3) lv' st w) (V x k mc ms n (pc, lv, st, w) Q) := by
  show oC (ex x pc (.iinc i v, 3, a, b, c) lv st w) _ _ = _
  simp only [ex, incv]
  generalize lv[i]? = o
  cases o with
  | none => rfl
  | some u =>
    cases u with
    | none => rfl
    | some y =>
      cases y with
      | int y =>
        dsimp only
        split
        · next h =>
          have ho : oks lv i = true := by rw [oks_iff]; exact ⟨h.1, h.2.1⟩
          rw [ho]; rfl
        · next h =>
          cases ho : oks lv i with
          | true =>
            rw [oks_iff] at ho
            exact absurd (by first | exact ⟨ho.1, ho.2, rfl⟩ | exact ⟨ho.1, ho.2, trivial⟩ | exact ho) h
          | false => rfl
      | _ => rfl
theorem wx_iadd {u v : Int32} : WX x k mc ms n Q C pc (some (.iadd, len, a, b, c)) lv (.int v :: .int u :: r) w = C (pc + len) lv (.int (u + v) :: r) w := rfl
theorem wx_isub {u v : Int32} : WX x k mc ms n Q C pc (some (.isub, len, a, b, c)) lv (.int v :: .int u :: r) w = C (pc + len) lv (.int (u - v) :: r) w := rfl
theorem wx_imul {u v : Int32} : WX x k mc ms n Q C pc (some (.imul, len, a, b, c)) lv (.int v :: .int u :: r) w = C (pc + len) lv (.int (u * v) :: r) w := rfl
theorem wx_iand {u v : Int32} : WX x k mc ms n Q C pc (some (.iand, len, a, b, c)) lv (.int v :: .int u :: r) w = C (pc + len) lv (.int (u &&& v) :: r) w := rfl
theorem wx_ior {u v : Int32} : WX x k mc ms n Q C pc (some (.ior, len, a, b, c)) lv (.int v :: .int u :: r) w = C (pc + len) lv (.int (u ||| v) :: r) w := rfl
theorem wx_ishl {u v : Int32} : WX x k mc ms n Q C pc (some (.ishl, len, a, b, c)) lv (.int v :: .int u :: r) w = C (pc + len) lv (.int (u <<< (v &&& 31)) :: r) w := rfl
theorem wx_ishr {u v : Int32} : WX x k mc ms n Q C pc (some (.ishr, len, a, b, c)) lv (.int v :: .int u :: r) w = C (pc + len) lv (.int (u >>> (v &&& 31)) :: r) w := rfl
theorem wx_idiv {u v : Int32} : WX x k mc ms n Q C pc (some (.idiv, len, a, b, c)) lv (.int v :: .int u :: r) w = (if v = 0 then V x k mc ms n (pc, lv, .int v :: .int u :: r, w) Q else C (pc + len) lv (.int (u / v) :: r) w) := by
  show oC ((if v = 0 then none else some _).map _) _ _ = _
  split <;> rfl
theorem wx_irem {u v : Int32} : WX x k mc ms n Q C pc (some (.irem, len, a, b, c)) lv (.int v :: .int u :: r) w = (if v = 0 then V x k mc ms n (pc, lv, .int v :: .int u :: r, w) Q else C (pc + len) lv (.int (u - u / v * v) :: r) w) := by
  show oC ((if v = 0 then none else some _).map _) _ _ = _
  split <;> rfl
theorem wx_ineg {u : Int32} : WX x k mc ms n Q C pc (some (.ineg, len, a, b, c)) lv (.int u :: r) w = C (pc + len) lv (.int (-u) :: r) w := rfl
theorem wx_i2l {u : Int32} : WX x k mc ms n Q C pc (some (.i2l, len, a, b, c)) lv (.int u :: r) w = C (pc + len) lv (.long u.toInt64 :: r) w := rfl
theorem wx_i2c {u : Int32} : WX x k mc ms n Q C pc (some (.i2c, len, a, b, c)) lv (.int u :: r) w = C (pc + len) lv (.int (u.toUInt32 % 65536).toInt32 :: r) w := rfl
theorem wx_i2b {u : Int32} : WX x k mc ms n Q C pc (some (.i2b, len, a, b, c)) lv (.int u :: r) w = C (pc + len) lv (.int u.toInt8.toInt32 :: r) w := rfl
theorem wx_i2f {u : Int32} : WX x k mc ms n Q C pc (some (.i2f, len, a, b, c)) lv (.int u :: r) w = C (pc + len) lv (.float (FP.i2f u) :: r) w := rfl
theorem wx_i2d {u : Int32} : WX x k mc ms n Q C pc (some (.i2d, len, a, b, c)) lv (.int u :: r) w = C (pc + len) lv (.double (FP.i2d u) :: r) w := rfl
theorem wx_f2d {u : UInt32} : WX x k mc ms n Q C pc (some (.f2d, len, a, b, c)) lv (.float u :: r) w = (if FP.f2d u &&& 0x7fffffffffffffff ≤ 0x7ff0000000000000 then C (pc + len) lv (.double (FP.f2d u) :: r) w else V x k mc ms n (pc, lv, .float u :: r, w) Q) := by
  show oC (if _ then _ else none) _ _ = _
  split <;> rfl
theorem wx_fdiv {u v : UInt32} : WX x k mc ms n Q C pc (some (.fdiv, len, a, b, c)) lv (.float v :: .float u :: r) w = (if FP.fdiv u v &&& 0x7fffffff ≤ 0x7f800000 then C (pc + len) lv (.float (FP.fdiv u v) :: r) w else V x k mc ms n (pc, lv, .float v :: .float u :: r, w) Q) := by
  show oC (if _ then _ else none) _ _ = _
  split <;> rfl
theorem wx_ddiv {u v : UInt64} : WX x k mc ms n Q C pc (some (.ddiv, len, a, b, c)) lv (.double v :: .double u :: r) w = (if FP.ddiv u v &&& 0x7fffffffffffffff ≤ 0x7ff0000000000000 then C (pc + len) lv (.double (FP.ddiv u v) :: r) w else V x k mc ms n (pc, lv, .double v :: .double u :: r, w) Q) := by
  show oC (if _ then _ else none) _ _ = _
  split <;> rfl
theorem wx_fconst : WX x k mc ms n Q C pc (some (.fconst 0, len, a, b, c)) lv st w = C (pc + len) lv (.float FP.fconst0 :: st) w := rfl
theorem wx_lcmp {u v : Int64} : WX x k mc ms n Q C pc (some (.lcmp, len, a, b, c)) lv (.long v :: .long u :: r) w = C (pc + len) lv (.int (lg_cmp u v) :: r) w := rfl
theorem wx_dcmp {u v : UInt64} {o : Jvm.ClassFile.CmpOp} : WX x k mc ms n Q C pc (some (.dcmp o, len, a, b, c)) lv (.double v :: .double u :: r) w = C (pc + len) lv (.int (Op.cmpValue (FP.dcmp u v) o) :: r) w := rfl
theorem wx_fcmp {u v : UInt32} {o : Jvm.ClassFile.CmpOp} : WX x k mc ms n Q C pc (some (.fcmp o, len, a, b, c)) lv (.float v :: .float u :: r) w = C (pc + len) lv (.int (Op.cmpValue (FP.fcmp u v) o) :: r) w := rfl
theorem wx_dupI {v : Int32} : WX x k mc ms n Q C pc (some (.dup, len, a, b, c)) lv (.int v :: r) w = C (pc + len) lv (.int v :: .int v :: r) w := rfl
theorem wx_dupR {v : Nat} : WX x k mc ms n Q C pc (some (.dup, len, a, b, c)) lv (.ref v :: r) w = C (pc + len) lv (.ref v :: .ref v :: r) w := rfl
theorem wx_dup2 {v : Int32} {u : Nat} : WX x k mc ms n Q C pc (some (.dup2, len, a, b, c)) lv (.int v :: .ref u :: r) w = C (pc + len) lv (.int v :: .ref u :: .int v :: .ref u :: r) w := rfl
theorem wx_dup_x1 {v : Int32} {u : Nat} : WX x k mc ms n Q C pc (some (.dup_x1, len, a, b, c)) lv (.int v :: .ref u :: r) w = C (pc + len) lv (.int v :: .ref u :: .int v :: r) w := rfl
theorem wx_popI {v : Int32} : WX x k mc ms n Q C pc (some (.pop, len, a, b, c)) lv (.int v :: r) w = C (pc + len) lv r w := rfl
theorem wx_popR {v : Nat} : WX x k mc ms n Q C pc (some (.pop, len, a, b, c)) lv (.ref v :: r) w = C (pc + len) lv r w := rfl
theorem wx_ifCond {cn : Jvm.ClassFile.Cond} {o : Int} {v : Int32} : WX x k mc ms n Q C pc (some (.ifCond cn o, len, a, b, c)) lv (.int v :: r) w = (okt pc o = true ∧ (icP cn v 0 → C (tgt pc o) lv r w) ∧ (¬ icP cn v 0 → C (pc + len) lv r w)) := rfl
theorem wx_if_icmp {cn : Jvm.ClassFile.Cond} {o : Int} {u v : Int32} : WX x k mc ms n Q C pc (some (.if_icmp cn o, len, a, b, c)) lv (.int v :: .int u :: r) w = (okt pc o = true ∧ (icP cn u v → C (tgt pc o) lv r w) ∧ (¬ icP cn u v → C (pc + len) lv r w)) := rfl
theorem wx_ifnullR {o : Int} {u : Nat} : WX x k mc ms n Q C pc (some (.ifnull o, len, a, b, c)) lv (.ref u :: r) w = C (pc + len) lv r w := rfl
theorem wx_goto {o : Int} : WX x k mc ms n Q C pc (some (.goto o, len, a, b, c)) lv st w = (if okt pc o = true then C (tgt pc o) lv st w else V x k mc ms n (pc, lv, st, w) Q) := by
  show oC (if _ then _ else none) _ _ = _
  split <;> rfl
theorem wx_tsw {d lo hi : Int} {offs : Array Int} {v : Int32} : WX x k mc ms n Q C pc (some (.tableswitch d lo hi offs, len, a, b, c)) lv (.int v :: r) w = oV (swt pc d lo hi offs v) (fun t => C t lv r w) (V x k mc ms n (pc, lv, .int v :: r, w) Q) := oC_map
theorem wx_lsw {d : Int} {ps : Array (Int × Int)} {v : Int32} : WX x k mc ms n Q C pc (some (.lookupswitch d ps, len, a, b, c)) lv (.int v :: r) w = oV (swl pc d ps v) (fun t => C t lv r w) (V x k mc ms n (pc, lv, .int v :: r, w) Q) := oC_map
def stv (a : Nat) : Option Value := (STATS[a]?).map fun s => s.2.2.2
theorem wx_getstatic {i : Nat} : WX x k mc ms n Q C pc (some (.getstatic i, len, a, b, c)) lv st w = oV (stv a) (fun v => C (pc + len) lv (v :: st) w) (V x k mc ms n (pc, lv, st, w) Q) := by
  show oC ((STATS[a]?).map _) _ _ = _
  unfold stv
  cases STATS[a]? <;> rfl
def gfd (w : PW) (ci k p : Nat) : Option Value := if ci = 1000 then (if isStr p then some (.ref (p + 1)) else none) else if ci = 1001 then (if isStr p then some (.int 0) else none) else match w p with
  | some (.inr (c, fs)) => if c = ci then fs[k]? else none
  | _ => none
theorem gfd_eq {p ci k : Nat} : getf w ci k (.ref p :: r) = (gfd w ci k p).map fun v => v :: r := by
  unfold getf gfd
  dsimp only
  by_cases h1 : ci = 1000
  · rw [if_pos h1, if_pos h1]; cases isStr p <;> rfl
  · rw [if_neg h1, if_neg h1]
    by_cases h2 : ci = 1001
    · rw [if_pos h2, if_pos h2]; cases isStr p <;> rfl
    · rw [if_neg h2, if_neg h2]
      cases w p with
      | none => rfl
      | some e =>
        cases e with
        | inl q => rfl
        | inr q =>
          obtain ⟨c, fs⟩ := q
          dsimp only
          by_cases h3 : c = ci
          · rw [if_pos h3, if_pos h3]
          · rw [if_neg h3, if_neg h3]; rfl
theorem oV_map {α β : Type} {o : Option α} {F : α → β} {f : β → Prop} {d : Prop} : oV (o.map F) f d = oV o (fun v => f (F v)) d := by cases o <;> rfl
theorem wx_getfield {i p : Nat} : WX x k mc ms n Q C pc (some (.getfield i, len, a, b, c)) lv (.ref p :: r) w = oV (gfd w a b p) (fun v => C (pc + len) lv (v :: r) w) (V x k mc ms n (pc, lv, .ref p :: r, w) Q) := by
  show oC ((getf w a b (.ref p :: r)).map _) _ _ = _
  rw [gfd_eq, oC_map, oV_map]
def pfd (w : PW) (ci k p : Nat) (v : Value) : Option PW := match w p, fty ci k with
  | some (.inr (c, fs)), some ty => if c = ci ∧ k < fs.length ∧ pfit ty v = true then some (pupd w p (.inr (c, fs.set k v))) else none
  | _, _ => none
theorem pfd_eq {p ci k : Nat} {v : Value} : putf w ci k (v :: .ref p :: r) = (pfd w ci k p v).map fun w' => (r, w') := by
  unfold putf pfd
  dsimp only
  cases w p with
  | none => rfl
  | some e =>
    cases e with
    | inl q => rfl
    | inr q =>
      obtain ⟨c, fs⟩ := q
      cases fty ci k with
      | none => rfl
      | some ty =>
        dsimp only
        by_cases h3 : c = ci ∧ k < fs.length ∧ pfit ty v = true
        · rw [if_pos h3, if_pos h3]; rfl
        · rw [if_neg h3, if_neg h3]; rfl
theorem wx_putfield {i p : Nat} {v : Value} : WX x k mc ms n Q C pc (some (.putfield i, len, a, b, c)) lv (v :: .ref p :: r) w = oV (pfd w a b p v) (fun w' => C (pc + len) lv r w') (V x k mc ms n (pc, lv, v :: .ref p :: r, w) Q) := by
  show oC ((putf w a b (v :: .ref p :: r)).map _) _ _ = _
  rw [pfd_eq, oC_map, oV_map]
def ald (t : Nat) (x : SX) (w : PW) (e p : Nat) (i : Int32) : Option Int32 := match rowI x w e p with
  | some (t', n, f) => if t' = t then (fin n i).map f else none
  | none => none
theorem ald_eq {t e p : Nat} {i : Int32} : xald t x w e (.int i :: .ref p :: r) = (ald t x w e p i).map fun v => .int v :: r := by
  unfold xald ald
  dsimp only
  cases rowI x w e p with
  | none => rfl
  | some q =>
    obtain ⟨t', n, f⟩ := q
    dsimp only
    by_cases ht : t' = t
    · rw [if_pos ht, if_pos ht]; cases fin n i <;> rfl
    · rw [if_neg ht, if_neg ht]; rfl
theorem wx_iaload {p : Nat} {i : Int32} : WX x k mc ms n Q C pc (some (.iaload, len, a, b, c)) lv (.int i :: .ref p :: r) w = oV (ald 0 x w a p i) (fun v => C (pc + len) lv (.int v :: r) w) (V x k mc ms n (pc, lv, .int i :: .ref p :: r, w) Q) := by
  show oC ((xald 0 x w a (.int i :: .ref p :: r)).map _) _ _ = _
  rw [ald_eq, oC_map, oV_map]
theorem wx_caload {p : Nat} {i : Int32} : WX x k mc ms n Q C pc (some (.caload, len, a, b, c)) lv (.int i :: .ref p :: r) w = oV (ald 1 x w a p i) (fun v => C (pc + len) lv (.int v :: r) w) (V x k mc ms n (pc, lv, .int i :: .ref p :: r, w) Q) := by
  show oC ((xald 1 x w a (.int i :: .ref p :: r)).map _) _ _ = _
  rw [ald_eq, oC_map, oV_map]
theorem wx_baload {p : Nat} {i : Int32} : WX x k mc ms n Q C pc (some (.baload, len, a, b, c)) lv (.int i :: .ref p :: r) w = oV (ald 2 x w a p i) (fun v => C (pc + len) lv (.int v :: r) w) (V x k mc ms n (pc, lv, .int i :: .ref p :: r, w) Q) := by
  show oC ((xald 2 x w a (.int i :: .ref p :: r)).map _) _ _ = _
  rw [ald_eq, oC_map, oV_map]
def ast (t : Nat) (w : PW) (p : Nat) (i v : Int32) : Option PW := match w p with
  | some (.inl (t', n, .inl f)) => if t' = t then (fin n i).map fun j => pupd w p (.inl (t, n, .inl (upd f j v))) else none
  | _ => none
theorem ast_eq {t p : Nat} {g : Int32 → Int32} {i v : Int32} : xast t g w (.int v :: .int i :: .ref p :: r) = (ast t w p i (g v)).map fun w' => (r, w') := by
  unfold xast ast
  dsimp only
  cases w p with
  | none => rfl
  | some e =>
    cases e with
    | inr q => rfl
    | inl q =>
      obtain ⟨t', n, f⟩ := q
      cases f with
      | inr f => rfl
      | inl f =>
        dsimp only
        by_cases ht : t' = t
        · rw [if_pos ht, if_pos ht]; cases fin n i <;> rfl
        · rw [if_neg ht, if_neg ht]; rfl
theorem wx_iastore {p : Nat} {i v : Int32} : WX x k mc ms n Q C pc (some (.iastore, len, a, b, c)) lv (.int v :: .int i :: .ref p :: r) w = oV (ast 0 w p i v) (fun w' => C (pc + len) lv r w') (V x k mc ms n (pc, lv, .int v :: .int i :: .ref p :: r, w) Q) := by
  show oC ((xast 0 (fun v => v) w (.int v :: .int i :: .ref p :: r)).map _) _ _ = _
  rw [ast_eq, oC_map, oV_map]
theorem wx_castore {p : Nat} {i v : Int32} : WX x k mc ms n Q C pc (some (.castore, len, a, b, c)) lv (.int v :: .int i :: .ref p :: r) w = oV (ast 1 w p i (vp_nar .char v)) (fun w' => C (pc + len) lv r w') (V x k mc ms n (pc, lv, .int v :: .int i :: .ref p :: r, w) Q) := by
  show oC ((xast 1 (vp_nar .char) w (.int v :: .int i :: .ref p :: r)).map _) _ _ = _
  rw [ast_eq, oC_map, oV_map]
theorem wx_bastore {p : Nat} {i v : Int32} : WX x k mc ms n Q C pc (some (.bastore, len, a, b, c)) lv (.int v :: .int i :: .ref p :: r) w = oV (ast 2 w p i (vp_nar .byte v)) (fun w' => C (pc + len) lv r w') (V x k mc ms n (pc, lv, .int v :: .int i :: .ref p :: r, w) Q) := by
  show oC ((xast 2 (vp_nar .byte) w (.int v :: .int i :: .ref p :: r)).map _) _ _ = _
  rw [ast_eq, oC_map, oV_map]
theorem wx_laload {p : Nat} {i : Int32} : WX x k mc ms n Q C pc (some (.laload, len, a, b, c)) lv (.int i :: .ref p :: r) w = oC ((lald w (.int i :: .ref p :: r)).map fun s => (pc + len, lv, s, w)) C (V x k mc ms n (pc, lv, .int i :: .ref p :: r, w) Q) := rfl
theorem wx_lastore {p : Nat} {i : Int32} {v : Int64} : WX x k mc ms n Q C pc (some (.lastore, len, a, b, c)) lv (.long v :: .int i :: .ref p :: r) w = oC ((last w (.long v :: .int i :: .ref p :: r)).map fun s => (pc + len, lv, s.1, s.2)) C (V x k mc ms n (pc, lv, .long v :: .int i :: .ref p :: r, w) Q) := rfl
theorem wx_daload {p : Nat} {i : Int32} : WX x k mc ms n Q C pc (some (.daload, len, a, b, c)) lv (.int i :: .ref p :: r) w = oC ((dald w (.int i :: .ref p :: r)).map fun s => (pc + len, lv, s, w)) C (V x k mc ms n (pc, lv, .int i :: .ref p :: r, w) Q) := rfl
theorem wx_dastore {p : Nat} {i : Int32} {v : UInt64} : WX x k mc ms n Q C pc (some (.dastore, len, a, b, c)) lv (.double v :: .int i :: .ref p :: r) w = oC ((dast w (.double v :: .int i :: .ref p :: r)).map fun s => (pc + len, lv, s.1, s.2)) C (V x k mc ms n (pc, lv, .double v :: .int i :: .ref p :: r, w) Q) := rfl
def qld (w : PW) (p : Nat) (i : Int32) : Option Value := match w p with
  | some (.inl (5, n, .inr (.inr (.inr (.inr f))))) => (fin n i).map fun j => va_rf (f j)
  | _ => none
theorem qld_eq {p : Nat} {i : Int32} : qald w (.int i :: .ref p :: r) = (qld w p i).map fun v => v :: r := by
  unfold qald qld
  dsimp only
  generalize w p = o
  split
  · next n f =>
    show (fin n i).map (fun j => va_rf (f j) :: r) = ((fin n i).map fun j => va_rf (f j)).map fun v => v :: r
    cases fin n i <;> rfl
  · next hno =>
    split
    · next n f => exact (hno _ _ rfl).elim
    · rfl
theorem wx_aaload {p : Nat} {i : Int32} : WX x k mc ms n Q C pc (some (.aaload, len, a, b, c)) lv (.int i :: .ref p :: r) w = oV (qld w p i) (fun v => C (pc + len) lv (v :: r) w) (V x k mc ms n (pc, lv, .int i :: .ref p :: r, w) Q) := by
  show oC ((qald w (.int i :: .ref p :: r)).map _) _ _ = _
  rw [qld_eq, oC_map, oV_map]
def qst (w : PW) (p : Nat) (i : Int32) (v : Nat) : Option PW := match w p, w v with
  | some (.inl (5, n, .inr (.inr (.inr (.inr f))))), some (.inr (0, _)) => (fin n i).map fun j => pupd w p (.inl (5, n, .inr (.inr (.inr (.inr (va_up f j (some v)))))))
  | _, _ => none
theorem qst_eq {p v : Nat} {i : Int32} : qast w (.ref v :: .int i :: .ref p :: r) = (qst w p i v).map fun w' => (r, w') := by
  unfold qast qst
  dsimp only
  generalize w p = o
  generalize w v = o2
  split
  · next n f _ =>
    show (fin n i).map (fun j => (r, pupd w p (.inl (5, n, .inr (.inr (.inr (.inr (va_up f j (some v))))))))) = ((fin n i).map fun j => pupd w p (.inl (5, n, .inr (.inr (.inr (.inr (va_up f j (some v)))))))).map fun w' => (r, w')
    cases fin n i <;> rfl
  · next hno =>
    split
    · next n f fs => exact (hno _ _ _ rfl rfl).elim
    · rfl
theorem wx_aastore {p v : Nat} {i : Int32} : WX x k mc ms n Q C pc (some (.aastore, len, a, b, c)) lv (.ref v :: .int i :: .ref p :: r) w = oV (qst w p i v) (fun w' => C (pc + len) lv r w') (V x k mc ms n (pc, lv, .ref v :: .int i :: .ref p :: r, w) Q) := by
  show oC ((qast w (.ref v :: .int i :: .ref p :: r)).map _) _ _ = _
  rw [qst_eq, oC_map, oV_map]
def aln (x : SX) (w : PW) (e p : Nat) : Option Int32 := if e = 1 then (extA x p).map fun q => Int32.ofNat q.2.1 else match w p with
  | some (.inl (t, q)) => if t < 6 then some (Int32.ofNat q.1) else none
  | _ => none
theorem aln_eq {e p : Nat} : alen x w e (.ref p :: r) = (aln x w e p).map fun v => .int v :: r := by
  unfold alen aln
  dsimp only
  by_cases h1 : e = 1
  · rw [if_pos h1, if_pos h1]; cases extA x p <;> rfl
  · rw [if_neg h1, if_neg h1]
    cases w p with
    | none => rfl
    | some e =>
      cases e with
      | inr q => rfl
      | inl q =>
        obtain ⟨t, q⟩ := q
        dsimp only
        by_cases h2 : t < 6
        · rw [if_pos h2, if_pos h2]; rfl
        · rw [if_neg h2, if_neg h2]; rfl
theorem wx_arraylength {p : Nat} : WX x k mc ms n Q C pc (some (.arraylength, len, a, b, c)) lv (.ref p :: r) w = oV (aln x w a p) (fun v => C (pc + len) lv (.int v :: r) w) (V x k mc ms n (pc, lv, .ref p :: r, w) Q) := by
  show oC ((alen x w a (.ref p :: r)).map _) _ _ = _
  rw [aln_eq, oC_map, oV_map]
theorem wx_ireturn {v : Int32} : WX x k mc ms n Q C pc (some (.ireturn, len, a, b, c)) lv [.int v] w = (retok (mR k) v ∧ Q (.inl (some (.int v))) w n) := rfl
theorem wx_areturn {v : Nat} : WX x k mc ms n Q C pc (some (.areturn, len, a, b, c)) lv [.ref v] w = (retA (mR k) ∧ Q (.inl (some (.ref v))) w n) := rfl
theorem wx_freturn {v : UInt32} : WX x k mc ms n Q C pc (some (.freturn, len, a, b, c)) lv [.float v] w = (mR k = some .float ∧ Q (.inl (some (.float v))) w n) := rfl
theorem wx_dreturn {v : UInt64} : WX x k mc ms n Q C pc (some (.dreturn, len, a, b, c)) lv [.double v] w = (mR k = some .double ∧ Q (.inl (some (.double v))) w n) := rfl
theorem wx_return : WX x k mc ms n Q C pc (some (.return_, len, a, b, c)) lv [] w = (mR k = none ∧ Q (.inl none) w n) := rfl
theorem wx_new {i : Nat} : WX x k mc ms n Q C pc (some (.new i, len, a, b, c)) lv st w = V x k mc ms n (pc, lv, st, w) Q := rfl
theorem wx_newarray {t : ArrayType} : WX x k mc ms n Q C pc (some (.newarray t, len, a, b, c)) lv st w = V x k mc ms n (pc, lv, st, w) Q := rfl
theorem wx_anewarray {i : Nat} : WX x k mc ms n Q C pc (some (.anewarray i, len, a, b, c)) lv st w = V x k mc ms n (pc, lv, st, w) Q := rfl
theorem wx_invokev {i : Nat} : WX x k mc ms n Q C pc (some (.invokevirtual i, len, a, b, c)) lv st w = V x k mc ms n (pc, lv, st, w) Q := rfl
theorem wx_invokes {i : Nat} : WX x k mc ms n Q C pc (some (.invokestatic i, len, a, b, c)) lv st w = V x k mc ms n (pc, lv, st, w) Q := rfl
theorem wx_invokei {i : Nat} : WX x k mc ms n Q C pc (some (.invokespecial i, len, a, b, c)) lv st w = V x k mc ms n (pc, lv, st, w) Q := rfl
theorem wx_athrow : WX x k mc ms n Q C pc (some (.athrow, len, a, b, c)) lv st w = V x k mc ms n (pc, lv, st, w) Q := rfl
end WPS
