theorem dk338_8 : dok cL_law q338_8 := by unfold dok; decide +kernel
theorem dk338_9 : dok cL_law q338_9 := by unfold dok; decide +kernel
theorem dk338_10 : dok cL_law q338_10 := by unfold dok; decide +kernel
theorem dk338_11 : dok cL_law q338_11 := by unfold dok; decide +kernel
