abbrev tws : List Cond := Cond.classLink (mC 45) 71 "java/util/NoSuchElementException" :: Cond.initialized "java/util/NoSuchElementException" :: vx_atS (mC 45) 75 "java/util/NoSuchElementException" ["java/lang/RuntimeException", "java/lang/Exception"]
theorem tt1 : mH 45 = [] := by decide +kernel
theorem tt2 : (mC 45, 73, "no chord") ∈ ETX := by decide +kernel
theorem tt3 : Bundle.fit "java/util/NoSuchElementException" = true := by decide +kernel
theorem tt4 : ∀ w ∈ tws, w ∈ TB := by decide +kernel
theorem tt5 : ∀ w ∈ tws, okw w = true := by decide +kernel
theorem tt6 : ∀ w ∈ tws, vx_ot w = true := by decide +kernel
theorem tt7 : decode (mB 45) 15 = .ok (.new 71, 3) ∧ decode (mB 45) (15 + 3) = .ok (.dup, 1) := by decide +kernel
theorem tt8 : tws = [] := by
  unfold tws vx_atS Bundle.ownAtoms
  simp
  trace_state
  sorry
