/-! Math.min, Math.max; the throws of the class: by program (wip/whole/mk15m.py) -/
section MTH
theorem MM_ok : (Jvm.Cond.static Lib.Math.min.name ∈ TB ∧ okw (.static Lib.Math.min.name) = true) ∧ (Jvm.Cond.static Lib.Math.max.name ∈ TB ∧ okw (.static Lib.Math.max.name) = true) ∧ (Jvm.Cond.initialized "java/lang/Math" ∈ TB ∧ okw (.initialized "java/lang/Math") = true) ∧
    (Jvm.Cond.code Lib.Math.min.name Lib.Math.min.code 2 (some .int) ∈ TB ∧ okw (.code Lib.Math.min.name Lib.Math.min.code 2 (some .int)) = true) ∧ (Jvm.Cond.code Lib.Math.max.name Lib.Math.max.code 2 (some .int) ∈ TB ∧ okw (.code Lib.Math.max.name Lib.Math.max.code 2 (some .int)) = true) := by decide +kernel
theorem MY11 : mY 11 = Lib.Math.max.name := by decide +kernel
theorem MY12 : mY 12 = Lib.Math.min.name := by decide +kernel
variable {x : SX} {k mc ms n : Nat} {Q : QT}
theorem V_mmin {pc i c' : Nat} {u v : Int32} {lv : LV} {st : List Value} {w : PW} (hf : fetch k pc = some (.invokestatic i, 3, 1, 12, c')) (hs : Nat.ble (st.map fun v => v.category).sum 8 = true)
    (h : V x k mc ms n (pc + 3, lv, .int (if v < u then v else u) :: st, w) Q) : V x k mc ms n (pc, lv, .int v :: .int u :: st, w) Q := by
  intro p l e R s m args below meth c Z E M ad cells slots h1 h2 hE H locs ls hC hS hl hlv hst
  obtain ⟨hd, hm⟩ := fetch_dec M.1 hf
  have hc := chk_all M.1 hm
  simp only [chk, Bool.and_eq_true] at hc
  replace hc := hc.2
  replace hc : (cok k 12 && wat c' (.methodLink (mC k) i (mY 12))) = true := hc
  simp only [Bool.and_eq_true] at hc
  rw [MY12] at hc
  obtain ⟨hkn, hx, hb, hml, hown, hret, hlocks, htab, hin, hfl, hT, hV, hK, hX, hN', hU, hR1, hR2⟩ := id M
  obtain ⟨m1, m2, m3, m4, m5⟩ := MM_ok
  have hs8 := Nat.le_of_ble_eq_true hs
  dsimp only at hl hlv hst ⊢
  refine va_mmin hx hb (by rw [hml]; exact hl.1.1.symm) hown (hT.use (wat_at hc.2) rfl _) (hT _ m1.1 m1.2 _) (hT _ m3.1 m3.2 _) (hT _ m4.1 m4.2 _) (by omega) (by
    show ((st.map (cv E ad)).map fun v => v.category).sum + 13 ≤ R.locals
    rw [cat_cv hU]; omega) (by omega) (by omega) hd ?_
  exact h p l e R s m args below meth c Z E M ad cells slots h1 h2 hE H locs ls hC hS hl hlv (vok_c trivial (vok_t (vok_t hst)))
theorem V_mmax {pc i c' : Nat} {u v : Int32} {lv : LV} {st : List Value} {w : PW} (hf : fetch k pc = some (.invokestatic i, 3, 1, 11, c')) (hs : Nat.ble (st.map fun v => v.category).sum 8 = true)
    (h : V x k mc ms n (pc + 3, lv, .int (if u < v then v else u) :: st, w) Q) : V x k mc ms n (pc, lv, .int v :: .int u :: st, w) Q := by
  intro p l e R s m args below meth c Z E M ad cells slots h1 h2 hE H locs ls hC hS hl hlv hst
  obtain ⟨hd, hm⟩ := fetch_dec M.1 hf
  have hc := chk_all M.1 hm
  simp only [chk, Bool.and_eq_true] at hc
  replace hc := hc.2
  replace hc : (cok k 11 && wat c' (.methodLink (mC k) i (mY 11))) = true := hc
  simp only [Bool.and_eq_true] at hc
  rw [MY11] at hc
  obtain ⟨hkn, hx, hb, hml, hown, hret, hlocks, htab, hin, hfl, hT, hV, hK, hX, hN', hU, hR1, hR2⟩ := id M
  obtain ⟨m1, m2, m3, m4, m5⟩ := MM_ok
  have hs8 := Nat.le_of_ble_eq_true hs
  dsimp only at hl hlv hst ⊢
  refine va_mmax hx hb (by rw [hml]; exact hl.1.1.symm) hown (hT.use (wat_at hc.2) rfl _) (hT _ m2.1 m2.2 _) (hT _ m3.1 m3.2 _) (hT _ m5.1 m5.2 _) (by omega) (by
    show ((st.map (cv E ad)).map fun v => v.category).sum + 13 ≤ R.locals
    rw [cat_cv hU]; omega) (by omega) (by omega) hd ?_
  exact h p l e R s m args below meth c Z E M ad cells slots h1 h2 hE H locs ls hC hS hl hlv (vok_c trivial (vok_t (vok_t hst)))
end MTH
