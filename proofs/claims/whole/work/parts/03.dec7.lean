theorem dk338_18a : dok cL_law (q338_18.take 30) := by unfold dok; decide +kernel
theorem dk338_18b : dok cL_law ((q338_18.drop 30).take 30) := by unfold dok; decide +kernel
theorem dk338_18c : dok cL_law ((q338_18.drop 30).drop 30) := by unfold dok; decide +kernel
theorem dk338_18 : dok cL_law q338_18 := by
  have h := dok_app dk338_18a (dok_app dk338_18b dk338_18c)
  rw [List.take_append_drop, List.take_append_drop] at h
  exact h
