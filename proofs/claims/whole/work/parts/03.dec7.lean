theorem dk338_18 : dok cL_law q338_18 := by unfold dok; decide +kernel
