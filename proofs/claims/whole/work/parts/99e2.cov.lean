/-! HANDLERS: what covers -/
def covB (k pc hpc i : Nat) (X name : String) : Bool := match (tableOf (mH k))[i]? with
  | some z => ((tableOf (mH k)).take i).all (fun y => !(covers y pc) || (decide (y.catchType ≠ 0) && NCL.any fun q => decide (q.1 = X) && (TB.contains (.classLink (mC k) y.catchType q.2) && okw (.classLink (mC k) y.catchType q.2)))) &&
      (covers z pc && (decide (z.catchType ≠ 0) && ((TB.contains (.classLink (mC k) z.catchType name) && okw (.classLink (mC k) z.catchType name)) && ((TB.contains (.castable X name) && okw (.castable X name)) && decide (z.handlerPc = hpc)))))
  | none => false
theorem covB_ok {k pc hpc i : Nat} {X name : String} (h : covB k pc hpc i X name = true) : covs k pc hpc X := by
  unfold covB at h
  split at h
  · next z hz =>
    rw [Bool.and_eq_true] at h
    obtain ⟨h1, h⟩ := h
    rw [Bool.and_eq_true] at h
    obtain ⟨h2, h⟩ := h
    simp only [Bool.and_eq_true, decide_eq_true_eq, List.contains_iff_mem] at h
    obtain ⟨h3, h4, h5, h6⟩ := h
    refine ⟨(tableOf (mH k)).take i, z, (tableOf (mH k)).drop (i + 1), name, ?_, fun y hy => ?_, h2, h3, h4, h5, h6⟩
    · obtain ⟨hl, hg⟩ := List.getElem?_eq_some_iff.mp hz
      rw [← hg, List.getElem_cons_drop, List.take_append_drop]
    · have h9 := List.all_eq_true.mp h1 y hy
      rw [Bool.or_eq_true] at h9
      rcases h9 with h9 | h9
      · left
        cases hcv : covers y pc with
        | false => rfl
        | true =>
          rw [hcv] at h9
          cases h9
      · simp only [Bool.and_eq_true, decide_eq_true_eq, List.any_eq_true, List.contains_iff_mem] at h9
        obtain ⟨a1, q, a2, a3, a4⟩ := h9
        refine Or.inr ⟨a1, q.2, a4, ?_⟩
        rw [← a3]
        exact a2
  · cases h
