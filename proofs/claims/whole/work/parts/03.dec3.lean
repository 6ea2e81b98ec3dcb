theorem dk338_14 : dok cL_law q338_14 := by unfold dok; decide +kernel
theorem dk338_15 : dok cL_law q338_15 := by unfold dok; decide +kernel
theorem dk338_16 : dok cL_law q338_16 := by unfold dok; decide +kernel
theorem dk338_17 : dok cL_law q338_17 := by unfold dok; decide +kernel
theorem dk338_18 : dok cL_law q338_18 := by unfold dok; decide +kernel
theorem dk338_19 : dok cL_law q338_19 := by unfold dok; decide +kernel
theorem dk338_20 : dok cL_law q338_20 := by unfold dok; decide +kernel
