/-! THE THROWS AND THE HANDLERS: by program (wip/whole/mk20.py) -/
theorem th45_15 : THR 45 15 "java/util/NoSuchElementException" := ⟨71, 73, 75, "no chord", false, by unfold thrOk; decide +kernel⟩
theorem th48_35 : THR 48 35 "java/util/NoSuchElementException" := ⟨71, 106, 75, "no note opens the gate", false, by unfold thrOk; decide +kernel⟩
theorem th49_11 : THR 49 11 "java/lang/IllegalArgumentException" := ⟨112, 114, 116, "no such note", false, by unfold thrOk; decide +kernel⟩
theorem th54_17 : THR 54 17 "java/util/NoSuchElementException" := ⟨71, 132, 75, "no such rank", false, by unfold thrOk; decide +kernel⟩
theorem th57_22 : THR 57 22 "java/util/NoSuchElementException" := ⟨71, 158, 75, "no such position", false, by unfold thrOk; decide +kernel⟩
theorem th66_58 : THR 66 58 "java/lang/IllegalStateException" := ⟨194, 196, 198, "the barge does not leave soon", false, by unfold thrOk; decide +kernel⟩
theorem th67_57 : THR 67 57 "java/util/NoSuchElementException" := ⟨71, 202, 75, "the string is not detuned soon", false, by unfold thrOk; decide +kernel⟩
theorem th77_19 : THR 77 19 "java/lang/ArithmeticException" := ⟨237, 239, 241, "no passages", false, by unfold thrOk; decide +kernel⟩
theorem th81_15 : THR 81 15 "java/lang/IndexOutOfBoundsException" := ⟨265, 267, 269, "no such index", true, by unfold thrOk; decide +kernel⟩
theorem th82_12 : THR 82 12 "java/lang/IllegalArgumentException" := ⟨112, 273, 116, "no such character", true, by unfold thrOk; decide +kernel⟩
theorem th82_33 : THR 82 33 "java/lang/IllegalStateException" := ⟨194, 278, 198, "the script buffer is full", true, by unfold thrOk; decide +kernel⟩
theorem th83_25 : THR 83 25 "java/lang/IllegalArgumentException" := ⟨112, 289, 116, "not a script", true, by unfold thrOk; decide +kernel⟩
theorem th83_69 : THR 83 69 "java/lang/IllegalStateException" := ⟨194, 295, 198, "a command failed", true, by unfold thrOk; decide +kernel⟩
theorem th84_8 : THR 84 8 "java/util/NoSuchElementException" := ⟨71, 301, 75, "no script without the form", true, by unfold thrOk; decide +kernel⟩
theorem th85_8 : THR 85 8 "java/util/NoSuchElementException" := ⟨71, 303, 75, "no script with a failed command", true, by unfold thrOk; decide +kernel⟩
theorem th86_10 : THR 86 10 "java/util/NoSuchElementException" := ⟨71, 306, 75, "nothing to undo", true, by unfold thrOk; decide +kernel⟩
theorem th88_7 : THR 88 7 "java/lang/IllegalStateException" := ⟨194, 311, 198, "no snapshot", true, by unfold thrOk; decide +kernel⟩
theorem th90_7 : THR 90 7 "java/lang/IndexOutOfBoundsException" := ⟨265, 333, 269, "no such gate, string or reach", true, by unfold thrOk; decide +kernel⟩
theorem th90_25 : THR 90 25 "java/lang/IllegalArgumentException" := ⟨112, 338, 116, "not between the limits", true, by unfold thrOk; decide +kernel⟩
theorem th90_43 : THR 90 43 "java/lang/IllegalStateException" := ⟨194, 343, 198, "too many barges", true, by unfold thrOk; decide +kernel⟩
theorem th90_61 : THR 90 61 "java/lang/UnsupportedOperationException" := ⟨348, 350, 352, "too much water", true, by unfold thrOk; decide +kernel⟩
theorem th90_79 : THR 90 79 "java/util/NoSuchElementException" := ⟨71, 356, 75, "no such barge", true, by unfold thrOk; decide +kernel⟩
theorem th91_11 : THR 91 11 "java/lang/IllegalArgumentException" := ⟨112, 358, 116, "no sum of notes", true, by unfold thrOk; decide +kernel⟩
theorem th92_7 : THR 92 7 "java/lang/IndexOutOfBoundsException" := ⟨265, 363, 269, "no such gate", true, by unfold thrOk; decide +kernel⟩
theorem th93_8 : THR 93 8 "java/lang/IndexOutOfBoundsException" := ⟨265, 368, 269, "no such string", true, by unfold thrOk; decide +kernel⟩
theorem th94_7 : THR 94 7 "java/lang/IndexOutOfBoundsException" := ⟨265, 373, 269, "no such reach", true, by unfold thrOk; decide +kernel⟩
theorem th95_17 : THR 95 17 "java/util/NoSuchElementException" := ⟨71, 356, 75, "no such barge", true, by unfold thrOk; decide +kernel⟩
theorem THT_ok : ∀ q ∈ THT, THR q.1 q.2.1 q.2.2 := by
  intro q hq
  simp only [THT, List.mem_cons, List.not_mem_nil, or_false] at hq
  rcases hq with rfl | rfl | rfl | rfl | rfl | rfl | rfl | rfl | rfl | rfl | rfl | rfl | rfl | rfl | rfl | rfl | rfl | rfl | rfl | rfl | rfl | rfl | rfl | rfl | rfl | rfl | rfl
  · exact th45_15
  · exact th48_35
  · exact th49_11
  · exact th54_17
  · exact th57_22
  · exact th66_58
  · exact th67_57
  · exact th77_19
  · exact th81_15
  · exact th82_12
  · exact th82_33
  · exact th83_25
  · exact th83_69
  · exact th84_8
  · exact th85_8
  · exact th86_10
  · exact th88_7
  · exact th90_7
  · exact th90_25
  · exact th90_43
  · exact th90_61
  · exact th90_79
  · exact th91_11
  · exact th92_7
  · exact th93_8
  · exact th94_7
  · exact th95_17
