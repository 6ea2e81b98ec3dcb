theorem dk338_16 : dok cL_law q338_16 := by unfold dok; decide +kernel
