theorem dk338_28 : dok cL_law q338_28 := by unfold dok; decide +kernel
theorem dk338_29 : dok cL_law q338_29 := by unfold dok; decide +kernel
theorem dk338_30 : dok cL_law q338_30 := by unfold dok; decide +kernel
theorem dk338_31 : dok cL_law q338_31 := by unfold dok; decide +kernel
theorem dk338_32 : dok cL_law q338_32 := by unfold dok; decide +kernel
theorem dk338_33 : dok cL_law q338_33 := by unfold dok; decide +kernel
theorem dk338_34 : dok cL_law q338_34 := by unfold dok; decide +kernel
