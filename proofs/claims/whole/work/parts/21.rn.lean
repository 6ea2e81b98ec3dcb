/-! THE PROGRAM AS A FUNCTION: rn runs a method from a configuration on, with its calls, at most F turns deep; R is its limit; R_V: what R gives is a contract. The room is told by the places: a new cell or a throw takes a place. -/
section RNS
def THT : List (Nat × Nat × String) := [(45, 15, "java/util/NoSuchElementException"), (48, 35, "java/util/NoSuchElementException"), (49, 11, "java/lang/IllegalArgumentException"), (54, 17, "java/util/NoSuchElementException"), (57, 22, "java/util/NoSuchElementException"), (66, 58, "java/lang/IllegalStateException"), (67, 57, "java/util/NoSuchElementException"), (77, 19, "java/lang/ArithmeticException"), (81, 15, "java/lang/IndexOutOfBoundsException"), (82, 12, "java/lang/IllegalArgumentException"), (82, 33, "java/lang/IllegalStateException"), (83, 25, "java/lang/IllegalArgumentException"), (83, 69, "java/lang/IllegalStateException"), (84, 8, "java/util/NoSuchElementException"), (85, 8, "java/util/NoSuchElementException"), (86, 10, "java/util/NoSuchElementException"), (88, 7, "java/lang/IllegalStateException"), (90, 7, "java/lang/IndexOutOfBoundsException"), (90, 25, "java/lang/IllegalArgumentException"), (90, 43, "java/lang/IllegalStateException"), (90, 61, "java/lang/UnsupportedOperationException"), (90, 79, "java/util/NoSuchElementException"), (91, 11, "java/lang/IllegalArgumentException"), (92, 7, "java/lang/IndexOutOfBoundsException"), (93, 8, "java/lang/IndexOutOfBoundsException"), (94, 7, "java/lang/IndexOutOfBoundsException"), (95, 17, "java/util/NoSuchElementException")]
def HND : List (Nat × Nat × String × Nat) := [(298, 7, "java/lang/IllegalArgumentException", 15), (298, 7, "java/lang/IllegalStateException", 19), (299, 7, "java/lang/IndexOutOfBoundsException", 15), (299, 7, "java/lang/IllegalArgumentException", 19), (300, 5, "java/lang/IndexOutOfBoundsException", 13), (301, 5, "java/lang/IndexOutOfBoundsException", 13), (301, 5, "java/lang/IllegalArgumentException", 17), (302, 4, "java/lang/IllegalArgumentException", 12), (303, 5, "java/lang/IndexOutOfBoundsException", 13), (303, 5, "java/lang/IllegalArgumentException", 17), (303, 5, "java/lang/UnsupportedOperationException", 21), (304, 4, "java/util/NoSuchElementException", 12), (305, 4, "java/lang/IllegalArgumentException", 12), (306, 4, "java/lang/IllegalArgumentException", 12), (307, 4, "java/lang/IllegalArgumentException", 12), (308, 4, "java/lang/IllegalArgumentException", 12), (308, 4, "java/util/NoSuchElementException", 15), (309, 5, "java/lang/IndexOutOfBoundsException", 13), (310, 4, "java/lang/IndexOutOfBoundsException", 12), (311, 4, "java/lang/IndexOutOfBoundsException", 12), (311, 4, "java/util/NoSuchElementException", 15), (312, 5, "java/lang/IndexOutOfBoundsException", 20), (312, 5, "java/lang/IllegalArgumentException", 24), (313, 5, "java/lang/IndexOutOfBoundsException", 13), (314, 5, "java/lang/IndexOutOfBoundsException", 13), (315, 4, "java/lang/IndexOutOfBoundsException", 12), (316, 4, "java/lang/IndexOutOfBoundsException", 12), (317, 4, "java/util/NoSuchElementException", 12), (318, 4, "java/lang/IndexOutOfBoundsException", 12), (319, 4, "java/lang/IndexOutOfBoundsException", 12), (320, 5, "java/lang/IndexOutOfBoundsException", 13), (320, 5, "java/util/NoSuchElementException", 17), (321, 4, "java/util/NoSuchElementException", 12), (322, 4, "java/util/NoSuchElementException", 12), (323, 4, "java/util/NoSuchElementException", 19), (324, 4, "java/util/NoSuchElementException", 12), (325, 4, "java/util/NoSuchElementException", 19), (326, 4, "java/util/NoSuchElementException", 12), (327, 4, "java/util/NoSuchElementException", 12), (327, 4, "java/lang/IllegalStateException", 15), (328, 5, "java/lang/IndexOutOfBoundsException", 13), (328, 5, "java/util/NoSuchElementException", 17), (329, 4, "java/lang/IndexOutOfBoundsException", 12), (329, 4, "java/lang/ArithmeticException", 15), (330, 4, "java/lang/IndexOutOfBoundsException", 12), (331, 4, "java/lang/IndexOutOfBoundsException", 12), (332, 4, "java/lang/IllegalArgumentException", 12), (332, 4, "java/lang/IllegalStateException", 15), (333, 3, "java/lang/IllegalArgumentException", 11), (333, 3, "java/lang/IllegalStateException", 14), (334, 3, "java/util/NoSuchElementException", 11), (335, 3, "java/util/NoSuchElementException", 11), (336, 3, "java/util/NoSuchElementException", 11), (337, 3, "java/lang/IllegalStateException", 11)]
abbrev RR : Type := OUT × PW × Nat
abbrev TK : Type := Nat × CFG × Nat
abbrev S1 : Type := RR ⊕ TK
abbrev S2 : Type := S1 ⊕ (TK × (RR → Option S1))
def csm (st : List Value) : Nat := (st.map fun v => v.category).sum
def retB : Option FieldType → Int32 → Bool
  | some ty, v => (match narrow ty (.int v) with
    | .int u => decide (u = v)
    | _ => false)
  | none, _ => false
theorem retB_n {t : Option FieldType} {v : Int32} (h : retB t v = true) : ∃ ty, t = some ty ∧ narrow ty (.int v) = .int v := by
  cases t with
  | none => cases h
  | some ty =>
    refine ⟨ty, rfl, ?_⟩
    unfold retB at h
    dsimp only at h
    split at h
    · next u hu =>
      rw [of_decide_eq_true h] at hu
      exact hu
    · cases h
def retAB : Option FieldType → Bool
  | some (.object _) => true
  | some (.array _) => true
  | _ => false
theorem retAB_n {t : Option FieldType} (h : retAB t = true) : ∃ ty, t = some ty ∧ ((∃ nm, ty = .object nm) ∨ ∃ u, ty = .array u) := by
  unfold retAB at h
  split at h
  · exact ⟨_, rfl, Or.inl ⟨_, rfl⟩⟩
  · exact ⟨_, rfl, Or.inr ⟨_, rfl⟩⟩
  · cases h
def isF : Option FieldType → Bool
  | some .float => true
  | _ => false
def isD : Option FieldType → Bool
  | some .double => true
  | _ => false
def isV : Option FieldType → Bool
  | none => true
  | _ => false
theorem isF_n {t : Option FieldType} (h : isF t = true) : t = some .float := by
  unfold isF at h
  split at h
  · rfl
  · cases h
theorem isD_n {t : Option FieldType} (h : isD t = true) : t = some .double := by
  unfold isD at h
  split at h
  · rfl
  · cases h
theorem isV_n {t : Option FieldType} (h : isV t = true) : t = none := by
  unfold isV at h
  split at h
  · rfl
  · cases h
def thx (k pc : Nat) : Option String := (THT.find? fun q => q.1 == k && q.2.1 == pc).map fun q => q.2.2
def hnx (k pc : Nat) (X : String) : Option Nat := (HND.find? fun q => q.1 == k && (q.2.1 == pc && q.2.2.1 == X)).map fun q => q.2.2.2
/-- the receiver of a call -/
def rokB (w : PW) (j : Nat) : List Value → Bool
  | .ref a :: _ => (match w a with
    | some (.inr (ci, _)) => decide ((CLS[ci]?).map (fun r => r.1) = some (rcv j))
    | _ => false) || (isStr a && decide (rcv j = "java/lang/String"))
  | _ => false
def tail (k : Nat) (g : CFG) (n : Nat) : Option S2 := some (.inl (.inr (k, g, n)))
def done (o : OUT) (w : PW) (n : Nat) : Option S2 := some (.inl (.inl (o, w, n)))
def cgN (a j : Nat) : Nat := (MWI.getD j MWD).2.1 + (if a = 1 ∨ a = 4 then 0 else 1)
/-- behind a call -/
def aft (k pc a N : Nat) (lv : LV) (st : List Value) (r : RR) : Option S1 := match r.1 with
  | .inl v => some (.inr (k, (pc + 3, lv, v.toList ++ st.drop N, r.2.1), r.2.2))
  | .inr X => if a = 0 ∨ a = 1 then (if (mH k).isEmpty = true then some (.inl (.inr X, r.2.1, r.2.2)) else match hnx k pc X with
      | some h => some (.inr (k, (h, lv, [.ref r.2.2], r.2.1), r.2.2 + 1))
      | none => none) else none
def okj (k a j L : Nat) : Bool := kok k a j && (decide (j < KN) && (plainName (mY j).cls && decide (mL j = L)))
def callN (k pc a j : Nat) (lv : LV) (st : List Value) (w : PW) (n : Nat) : Option S2 :=
  if okj k a j (mL j) = true ∧ (st.take (cgN a j)).length = cgN a j ∧ Nat.ble (csm (st.drop (cgN a j))) 8 = true ∧ (lvl (st.take (cgN a j)).reverse).length ≤ mL j ∧ (a = 1 ∨ a = 4 ∨ rokB w j (st.take (cgN a j)).reverse = true) then
    some (.inr ((j, (0, lvs (mL j) (st.take (cgN a j)).reverse, [], w), n), aft k pc a (cgN a j) lv st))
  else none
/-- System.arraycopy, its length given -/
def acp (k pc : Nat) (lv : LV) (w : PW) (n a0 a1 : Nat) (sp dp v : Int32) (r : List Value) : Option S2 := match w a0, w a1 with
  | some (.inl (t, n0, .inl f0)), some (.inl (t1, n1, .inl f1)) => if t1 = t ∧ t < 3 ∧ ¬ sp < 0 ∧ ¬ dp < 0 ∧ ¬ v < 0 ∧ sp.toNatClampNeg + v.toNatClampNeg ≤ n0 ∧ dp.toNatClampNeg + v.toNatClampNeg ≤ n1 ∧ Nat.ble (csm r) 8 = true ∧ (∀ i, i < v.toNatClampNeg → fits (tyT t) (.int (f0 (sp.toNatClampNeg + i))) = true) then
      tail k (pc + 3, lv, r, pupd w a1 (.inl (t, n1, .inl (va_cpy f0 f1 sp.toNatClampNeg dp.toNatClampNeg v.toNatClampNeg)))) n else none
  | _, _ => none
def STQ (x : SX) (k : Nat) (q : FE) (pc : Nat) (lv : LV) (st : List Value) (w : PW) (n : Nat) : Option S2 := match q.1 with
  | .ireturn => (match st with
    | [.int v] => if retB (mR k) v = true then done (.inl (some (.int v))) w n else none
    | _ => none)
  | .areturn => (match st with
    | [.ref v] => if retAB (mR k) = true then done (.inl (some (.ref v))) w n else none
    | _ => none)
  | .freturn => (match st with
    | [.float v] => if isF (mR k) = true then done (.inl (some (.float v))) w n else none
    | _ => none)
  | .dreturn => (match st with
    | [.double v] => if isD (mR k) = true then done (.inl (some (.double v))) w n else none
    | _ => none)
  | .return_ => (match st with
    | [] => if isV (mR k) = true then done (.inl none) w n else none
    | _ => none)
  | .new _ => if q.2.1 = 3 then (match thx k pc with
    | some X => if csm st ≤ 8 then done (.inr X) w (n + 1) else none
    | none => (match CLS[q.2.2.1]? with
      | some r => if r.2.2 ≤ 1000 then tail k (pc + 3, lv, .ref n :: st, pupd w n (.inr (q.2.2.1, dfl q.2.2.1))) (n + 1) else none
      | none => none)) else none
  | .newarray _ => (match st with
    | .int v :: r => if q.2.1 = 2 ∧ ¬ v < 0 ∧ v.toNatClampNeg ≤ 1000 then tail k (pc + 2, lv, .ref n :: r, pupd w n (zA q.2.2.1 v.toNatClampNeg)) (n + 1) else none
    | _ => none)
  | .anewarray _ => (match st with
    | .int v :: r => if q.2.1 = 3 ∧ q.2.2.1 = 5 ∧ ¬ v < 0 ∧ v.toNatClampNeg ≤ 1000 then tail k (pc + 3, lv, .ref n :: r, pupd w n (zA 5 v.toNatClampNeg)) (n + 1) else none
    | _ => none)
  | .invokevirtual _ => if q.2.1 = 3 ∧ q.2.2.1 = 0 then callN k pc 0 q.2.2.2.1 lv st w n else none
  | .invokestatic _ => if q.2.1 = 3 then (if q.2.2.1 = 8 then (match st with
      | .int v :: .int dp :: .ref a1 :: .int sp :: .ref a0 :: r => acp k pc lv w n a0 a1 sp dp v r
      | _ => none) else if q.2.2.1 = 1 ∧ q.2.2.2.1 = 12 then (match st with
      | .int v :: .int u :: r => if Nat.ble (csm r) 8 = true then tail k (pc + 3, lv, .int (if v < u then v else u) :: r, w) n else none
      | _ => none) else if q.2.2.1 = 1 ∧ q.2.2.2.1 = 11 then (match st with
      | .int v :: .int u :: r => if Nat.ble (csm r) 8 = true then tail k (pc + 3, lv, .int (if u < v then v else u) :: r, w) n else none
      | _ => none) else if q.2.2.1 = 1 ∨ q.2.2.1 = 4 then callN k pc q.2.2.1 q.2.2.2.1 lv st w n else none) else none
  | .invokespecial _ => if q.2.1 = 3 then (if q.2.2.1 = 7 then (match st with
      | .ref _ :: r => if csm r ≤ 8 then tail k (pc + 3, lv, r, w) n else none
      | _ => none) else if q.2.2.1 = 2 ∨ q.2.2.1 = 5 ∨ q.2.2.1 = 6 then callN k pc q.2.2.1 q.2.2.2.1 lv st w n else none) else none
  | _ => (match ex x pc q lv st w with
    | some g => tail k g n
    | none => none)
def STEP (x : SX) (t : TK) : Option S2 := match fetch t.1 t.2.1.1 with
  | some q => STQ x t.1 q t.2.1.1 t.2.1.2.1 t.2.1.2.2.1 t.2.1.2.2.2 t.2.2
  | none => none
def app1 (f : TK → Option RR) : S1 → Option RR
  | .inl r => some r
  | .inr t => f t
def app2 (f : TK → Option RR) : S2 → Option RR
  | .inl s => app1 f s
  | .inr (t, K) => (f t).bind fun r => (K r).bind (app1 f)
def PHI (x : SX) (f : TK → Option RR) (t : TK) : Option RR := (STEP x t).bind (app2 f)
def rn (x : SX) : Nat → TK → Option RR
  | 0 => fun _ => none
  | F + 1 => PHI x (rn x F)
def sub (f g : TK → Option RR) : Prop := ∀ t r, f t = some r → g t = some r
theorem app1_sub {f g : TK → Option RR} (h : sub f g) {s : S1} {r : RR} (hs : app1 f s = some r) : app1 g s = some r := by
  cases s with
  | inl r' => exact hs
  | inr t => exact h t r hs
theorem app2_sub {f g : TK → Option RR} (h : sub f g) {s : S2} {r : RR} (hs : app2 f s = some r) : app2 g s = some r := by
  cases s with
  | inl s => exact app1_sub h hs
  | inr q =>
    obtain ⟨t, K⟩ := q
    simp only [app2] at hs ⊢
    obtain ⟨r1, h1, h2⟩ := Option.bind_eq_some_iff.mp hs
    obtain ⟨s1, h3, h4⟩ := Option.bind_eq_some_iff.mp h2
    rw [h t r1 h1]
    show (K r1).bind (app1 g) = some r
    rw [h3]
    exact app1_sub h h4
theorem PHI_sub {x : SX} {f g : TK → Option RR} (h : sub f g) : sub (PHI x f) (PHI x g) := by
  intro t r hs
  unfold PHI at hs ⊢
  obtain ⟨s, h1, h2⟩ := Option.bind_eq_some_iff.mp hs
  rw [h1]
  exact app2_sub h h2
theorem rn_sub1 {x : SX} : ∀ F, sub (rn x F) (rn x (F + 1)) := by
  intro F
  induction F with
  | zero => intro t r h; cases h
  | succ F ih => exact PHI_sub ih
theorem rn_sub {x : SX} {F G : Nat} (h : F ≤ G) : sub (rn x F) (rn x G) := by
  obtain ⟨d, rfl⟩ := Nat.exists_eq_add_of_le h
  clear h
  induction d with
  | zero => intro t r h; exact h
  | succ d ih => intro t r h; exact rn_sub1 (F + d) t r (ih t r h)
noncomputable def R (x : SX) (t : TK) : Option RR := @dite (Option RR) (∃ r F, rn x F t = some r) (Classical.propDecidable _) (fun h => some (Classical.choose h)) (fun _ => none)
theorem R_of {x : SX} {t : TK} {F : Nat} {r : RR} (h : rn x F t = some r) : R x t = some r := by
  have h0 : ∃ r F, rn x F t = some r := ⟨r, F, h⟩
  unfold R
  rw [dif_pos h0]
  obtain ⟨G, hG⟩ := Classical.choose_spec h0
  have h1 := rn_sub (Nat.le_max_left F G) t r h
  have h2 := rn_sub (Nat.le_max_right F G) t _ hG
  rw [h1] at h2
  exact h2.symm
theorem R_ex {x : SX} {t : TK} {r : RR} (h : R x t = some r) : ∃ F, rn x F t = some r := by
  unfold R at h
  split at h
  · next h0 =>
    obtain ⟨G, hG⟩ := Classical.choose_spec h0
    cases h
    exact ⟨G, hG⟩
  · cases h
theorem rn_R {x : SX} (F : Nat) : sub (rn x F) (R x) := fun _ _ h => R_of h
theorem app1_ex {x : SX} {s : S1} {r : RR} (h : app1 (R x) s = some r) : ∃ F, app1 (rn x F) s = some r := by
  cases s with
  | inl r' => exact ⟨0, h⟩
  | inr t => exact R_ex h
theorem app2_ex {x : SX} {s : S2} {r : RR} (h : app2 (R x) s = some r) : ∃ F, app2 (rn x F) s = some r := by
  cases s with
  | inl s => exact app1_ex h
  | inr q =>
    obtain ⟨t, K⟩ := q
    simp only [app2] at h ⊢
    obtain ⟨r1, h1, h2⟩ := Option.bind_eq_some_iff.mp h
    obtain ⟨s1, h3, h4⟩ := Option.bind_eq_some_iff.mp h2
    obtain ⟨F, hF⟩ := R_ex h1
    obtain ⟨G, hG⟩ := app1_ex h4
    refine ⟨max F G, ?_⟩
    rw [rn_sub (Nat.le_max_left F G) t r1 hF]
    show (K r1).bind (app1 (rn x (max F G))) = some r
    rw [h3]
    exact app1_sub (rn_sub (Nat.le_max_right F G)) hG
/-- the program, turn by turn -/
theorem R_unf {x : SX} (t : TK) : R x t = PHI x (R x) t := by
  have h1 : ∀ r, R x t = some r → PHI x (R x) t = some r := by
    intro r h
    obtain ⟨F, hF⟩ := R_ex h
    cases F with
    | zero => cases hF
    | succ F => exact PHI_sub (rn_R F) t r hF
  have h2 : ∀ r, PHI x (R x) t = some r → R x t = some r := by
    intro r h
    unfold PHI at h
    obtain ⟨s, hs, h⟩ := Option.bind_eq_some_iff.mp h
    obtain ⟨F, hF⟩ := app2_ex h
    refine R_of (F := F + 1) ?_
    show PHI x (rn x F) t = some r
    unfold PHI
    rw [hs]
    exact hF
  cases hR : R x t with
  | some r => exact (h1 r hR).symm
  | none =>
    cases hP : PHI x (R x) t with
    | none => rfl
    | some r => rw [h2 r hP] at hR; cases hR
end RNS
