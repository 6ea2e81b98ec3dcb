/-! WHAT THE STATEMENT GIVES OF THE START -/
section PRE
def FL : List Jvm.Cond := flatC (Jvm.Cond.and given_1 narrow_1)
def subB : List Jvm.Cond → List Jvm.Cond → Bool
  | _, [] => false
  | [], _ :: _ => true
  | a :: as, b :: bs => if a = b then (match as with | [] => true | _ :: _ => subB as bs) else subB (a :: as) bs
theorem subB_ok : ∀ (m l : List Jvm.Cond), subB l m = true → ∀ c ∈ l, c ∈ m := by
  intro m
  induction m with
  | nil => intro l h; cases l <;> simp [subB] at h
  | cons b bs ih =>
    intro l h c hc
    cases l with
    | nil => cases hc
    | cons a as =>
      unfold subB at h
      by_cases hab : a = b
      · rw [if_pos hab] at h
        rcases List.mem_cons.mp hc with rfl | hc
        · rw [hab]; exact List.mem_cons_self
        · cases as with
          | nil => cases hc
          | cons a2 as2 => exact List.mem_cons_of_mem _ (ih _ h c hc)
      · rw [if_neg hab] at h
        exact List.mem_cons_of_mem _ (ih _ h c hc)
/-- a table of bytes behind a term -/
def tabE (tm : Jvm.Term) (n : Nat) (f : Nat → Int32) : List Jvm.Cond := Jvm.Cond.arrayOf tm .byte :: Jvm.Cond.eq (.length tm) (.int (Int32.ofNat n)) :: (List.range n).map fun j => Jvm.Cond.eq (.elem tm (.int (Int32.ofNat j))) (.int (f j))
abbrev digT (nm : String) : Jvm.Term := .static "java/lang/Integer" nm "[B"
abbrev strT (q : String × Nat × String × List Int32 × Nat) : Jvm.Term := .string q.1 q.2.1
abbrev valT (q : String × Nat × String × List Int32 × Nat) : Jvm.Term := .field (strT q) "java/lang/String" "value" "[B"
def strE (q : String × Nat × String × List Int32 × Nat) : List Jvm.Cond := Jvm.Cond.exactly (strT q) "java/lang/String" :: Jvm.Cond.eq (.field (strT q) "java/lang/String" "coder" "B") (.int 0) :: tabE (valT q) q.2.2.2.1.length (fun j => q.2.2.2.1.getD j 0)
abbrev fltT (nm : String) : Jvm.Term := .static "ChordCanal$Fault" nm "LChordCanal$Fault;"
def fltE (nm : String) (i : Nat) : List Jvm.Cond := [Jvm.Cond.exactly (fltT nm) "ChordCanal$Fault", Jvm.Cond.eq (.field (fltT nm) "java/lang/Enum" "ordinal" "I") (.int (Int32.ofNat i))]
def FNM : List (String × Nat) := [("NOTHING", 0), ("NO_SUCH_PLACE", 1), ("BAD_ARGUMENT", 2), ("FULL_CANAL", 3), ("FULL_REACH", 4), ("NO_SUCH_BARGE", 5)]
theorem E_one : subB (tabE (digT "DigitOnes") 100 (fun j => Int32.ofNat (48 + j % 10))) FL = true := by decide +kernel
theorem E_ten : subB (tabE (digT "DigitTens") 100 (fun j => Int32.ofNat (48 + j / 10))) FL = true := by decide +kernel
theorem E_str : ∀ q ∈ STRS, subB (strE q) FL = true := by decide +kernel
theorem E_flt : ∀ q ∈ FNM, subB (fltE q.1 q.2) FL = true := by decide +kernel
theorem E_ncl : subB (NCL.map fun q => Jvm.Cond.not (.castable q.1 q.2)) FL = true := by decide +kernel
theorem E_oth : subB [Jvm.Cond.eq (.static "java/lang/String" "COMPACT_STRINGS" "Z") (.int 1), Jvm.Cond.isRef (.static "jdk/internal/util/Preconditions" "SIOOBE_FORMATTER" "Ljava/util/function/BiFunction;"), Jvm.Cond.isRef (.static Bundle.tN "UNASSIGNED_STACK" Bundle.steD), Jvm.Cond.isRef (.static Bundle.tN "SUPPRESSED_SENTINEL" Bundle.listD)] FL = true := by decide +kernel
/-! words of the tables -/
theorem W_sta : ∀ q ∈ STATS, Jvm.Cond.laysStatic q.1 q.2.1 q.2.2.1 ∈ lw_tbl ∧ Jvm.Cond.initialized q.1 ∈ lw_tbl := by decide +kernel
theorem W_str : ∀ q ∈ STRS, Jvm.Cond.stringRef q.1 q.2.1 q.2.2.1 ∈ lw_tbl := by decide +kernel
theorem W_cls : ∀ q ∈ CLS, (∀ w ∈ u_ws q.1 q.2.1 q.2.2, w ∈ lw_tbl) ∧ Jvm.Cond.instantiable q.1 q.2.2 ∈ lw_tbl := by decide +kernel
theorem W_arr : ∀ t, t < 5 → Jvm.Cond.arrayClass (tyT t) ∈ lw_tbl := by decide +kernel
theorem W_oth : Jvm.Cond.arrayOver (.object RX0) ∈ lw_tbl ∧ Jvm.Cond.laysStatic Bundle.tN "UNASSIGNED_STACK" Bundle.steD ∈ lw_tbl ∧ Jvm.Cond.laysStatic Bundle.tN "SUPPRESSED_SENTINEL" Bundle.listD ∈ lw_tbl ∧ Jvm.Cond.initialized Bundle.tN ∈ lw_tbl := by decide +kernel
theorem W_sel : ∀ y ∈ xselM, y.cls = "java/lang/AbstractStringBuilder" ∧ (y.cls ≠ "java/lang/invoke/MethodHandle" ∧ y.cls ≠ "java/lang/invoke/VarHandle") ∧ Jvm.Cond.privateMethod y ∈ lw_tbl ∧ Jvm.Cond.instanceMethod y ∈ lw_tbl := by decide +kernel
theorem W_asb : Jvm.Cond.instantiable RJ4 4 ∈ lw_tbl ∧ Jvm.Cond.selects RJ4 ⟨"java/lang/AbstractStringBuilder", "isLatin1", "()Z"⟩ ⟨"java/lang/AbstractStringBuilder", "isLatin1", "()Z"⟩ ∈ lw_tbl := by decide +kernel
/-! places -/
def tmX (p : Nat) : Jvm.Term := match STATS.find? (fun q => q.2.2.2 == Value.ref p) with
  | some q => .static q.1 q.2.1 q.2.2.1
  | none => match STRS.find? (fun q => q.2.2.2.2 == p) with
    | some q => strT q
    | none => match STRS.find? (fun q => q.2.2.2.2 + 1 == p) with
      | some q => valT q
      | none => .arg 0
def P_sta : Bool := STATS.all fun q => match q.2.2.2 with
  | .ref p => decide (tmX p = .static q.1 q.2.1 q.2.2.1)
  | _ => true
theorem P_sta_ok : P_sta = true := by decide +kernel
theorem P_str : ∀ q ∈ STRS, tmX q.2.2.2.2 = strT q ∧ tmX (q.2.2.2.2 + 1) = valT q := by decide +kernel
theorem P_oth : tmX 9 = .arg 0 ∧ tmX 7 = digT "DigitOnes" ∧ tmX 8 = digT "DigitTens" := by decide +kernel
theorem P_flt : ∀ q ∈ FNM, tmX q.2 = fltT q.1 := by decide +kernel
end PRE
