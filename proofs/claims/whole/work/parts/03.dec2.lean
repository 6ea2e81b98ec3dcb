theorem dk338_4 : dok cL_law q338_4 := by unfold dok; decide +kernel
theorem dk338_5 : dok cL_law q338_5 := by unfold dok; decide +kernel
theorem dk338_6 : dok cL_law q338_6 := by unfold dok; decide +kernel
theorem dk338_7 : dok cL_law q338_7 := by unfold dok; decide +kernel
