theorem dk338_17a : dok cL_law (q338_17.take 30) := by unfold dok; decide +kernel
theorem dk338_17b : dok cL_law ((q338_17.drop 30).take 30) := by unfold dok; decide +kernel
theorem dk338_17c : dok cL_law ((q338_17.drop 30).drop 30) := by unfold dok; decide +kernel
theorem dk338_17 : dok cL_law q338_17 := by
  have h := dok_app dk338_17a (dok_app dk338_17b dk338_17c)
  rw [List.take_append_drop, List.take_append_drop] at h
  exact h
