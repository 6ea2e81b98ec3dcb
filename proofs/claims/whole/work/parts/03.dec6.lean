theorem dk338_17 : dok cL_law q338_17 := by unfold dok; decide +kernel
