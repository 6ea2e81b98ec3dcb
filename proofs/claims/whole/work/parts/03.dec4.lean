theorem dk338_21 : dok cL_law q338_21 := by unfold dok; decide +kernel
theorem dk338_22 : dok cL_law q338_22 := by unfold dok; decide +kernel
theorem dk338_23 : dok cL_law q338_23 := by unfold dok; decide +kernel
theorem dk338_24 : dok cL_law q338_24 := by unfold dok; decide +kernel
theorem dk338_25 : dok cL_law q338_25 := by unfold dok; decide +kernel
theorem dk338_26 : dok cL_law q338_26 := by unfold dok; decide +kernel
theorem dk338_27 : dok cL_law q338_27 := by unfold dok; decide +kernel
