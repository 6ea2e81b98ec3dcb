theorem dk338_35 : dok cL_law q338_35 := by unfold dok; decide +kernel
theorem dk338_36 : dok cL_law q338_36 := by unfold dok; decide +kernel
theorem dk338_37 : dok cL_law q338_37 := by unfold dok; decide +kernel
theorem dk338_38 : dok cL_law q338_38 := by unfold dok; decide +kernel
theorem dk338_39 : dok cL_law q338_39 := by unfold dok; decide +kernel
theorem dk338_40 : dok cL_law q338_40 := by unfold dok; decide +kernel
theorem dk338_41 : dok cL_law q338_41 := by unfold dok; decide +kernel
