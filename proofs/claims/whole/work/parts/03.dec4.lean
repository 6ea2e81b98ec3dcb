theorem dk338_12 : dok cL_law q338_12 := by unfold dok; decide +kernel
theorem dk338_13 : dok cL_law q338_13 := by unfold dok; decide +kernel
theorem dk338_14 : dok cL_law q338_14 := by unfold dok; decide +kernel
theorem dk338_15 : dok cL_law q338_15 := by unfold dok; decide +kernel
