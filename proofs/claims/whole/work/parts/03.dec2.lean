theorem dk338_7 : dok cL_law q338_7 := by unfold dok; decide +kernel
theorem dk338_8 : dok cL_law q338_8 := by unfold dok; decide +kernel
theorem dk338_9 : dok cL_law q338_9 := by unfold dok; decide +kernel
theorem dk338_10 : dok cL_law q338_10 := by unfold dok; decide +kernel
theorem dk338_11 : dok cL_law q338_11 := by unfold dok; decide +kernel
theorem dk338_12 : dok cL_law q338_12 := by unfold dok; decide +kernel
theorem dk338_13 : dok cL_law q338_13 := by unfold dok; decide +kernel
