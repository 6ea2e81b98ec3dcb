theorem dk338_0 : dok cL_law q338_0 := by unfold dok; decide +kernel
theorem dk338_1 : dok cL_law q338_1 := by unfold dok; decide +kernel
theorem dk338_2 : dok cL_law q338_2 := by unfold dok; decide +kernel
theorem dk338_3 : dok cL_law q338_3 := by unfold dok; decide +kernel
theorem dk338_4 : dok cL_law q338_4 := by unfold dok; decide +kernel
theorem dk338_5 : dok cL_law q338_5 := by unfold dok; decide +kernel
theorem dk338_6 : dok cL_law q338_6 := by unfold dok; decide +kernel
