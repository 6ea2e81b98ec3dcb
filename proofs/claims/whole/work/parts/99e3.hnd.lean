/-! HANDLERS of the law -/
theorem hd298_7_15 : covs 298 7 15 "java/lang/IllegalArgumentException" := covB_ok (i := 0) (name := "java/lang/IllegalArgumentException") (by decide +kernel)
theorem hd298_7_19 : covs 298 7 19 "java/lang/IllegalStateException" := covB_ok (i := 1) (name := "java/lang/IllegalStateException") (by decide +kernel)
theorem hd299_7_15 : covs 299 7 15 "java/lang/IndexOutOfBoundsException" := covB_ok (i := 0) (name := "java/lang/IndexOutOfBoundsException") (by decide +kernel)
theorem hd299_7_19 : covs 299 7 19 "java/lang/IllegalArgumentException" := covB_ok (i := 1) (name := "java/lang/IllegalArgumentException") (by decide +kernel)
theorem hd300_5_13 : covs 300 5 13 "java/lang/IndexOutOfBoundsException" := covB_ok (i := 0) (name := "java/lang/IndexOutOfBoundsException") (by decide +kernel)
theorem hd301_5_13 : covs 301 5 13 "java/lang/IndexOutOfBoundsException" := covB_ok (i := 0) (name := "java/lang/IndexOutOfBoundsException") (by decide +kernel)
theorem hd301_5_17 : covs 301 5 17 "java/lang/IllegalArgumentException" := covB_ok (i := 1) (name := "java/lang/IllegalArgumentException") (by decide +kernel)
theorem hd302_4_12 : covs 302 4 12 "java/lang/IllegalArgumentException" := covB_ok (i := 0) (name := "java/lang/IllegalArgumentException") (by decide +kernel)
theorem hd303_5_13 : covs 303 5 13 "java/lang/IndexOutOfBoundsException" := covB_ok (i := 0) (name := "java/lang/IndexOutOfBoundsException") (by decide +kernel)
theorem hd303_5_17 : covs 303 5 17 "java/lang/IllegalArgumentException" := covB_ok (i := 1) (name := "java/lang/IllegalArgumentException") (by decide +kernel)
theorem hd303_5_21 : covs 303 5 21 "java/lang/UnsupportedOperationException" := covB_ok (i := 2) (name := "java/lang/UnsupportedOperationException") (by decide +kernel)
theorem hd304_4_12 : covs 304 4 12 "java/util/NoSuchElementException" := covB_ok (i := 0) (name := "java/util/NoSuchElementException") (by decide +kernel)
theorem hd305_4_12 : covs 305 4 12 "java/lang/IllegalArgumentException" := covB_ok (i := 0) (name := "java/lang/IllegalArgumentException") (by decide +kernel)
theorem hd306_4_12 : covs 306 4 12 "java/lang/IllegalArgumentException" := covB_ok (i := 0) (name := "java/lang/IllegalArgumentException") (by decide +kernel)
theorem hd307_4_12 : covs 307 4 12 "java/lang/IllegalArgumentException" := covB_ok (i := 0) (name := "java/lang/IllegalArgumentException") (by decide +kernel)
theorem hd308_4_12 : covs 308 4 12 "java/lang/IllegalArgumentException" := covB_ok (i := 0) (name := "java/lang/IllegalArgumentException") (by decide +kernel)
theorem hd308_4_15 : covs 308 4 15 "java/util/NoSuchElementException" := covB_ok (i := 1) (name := "java/util/NoSuchElementException") (by decide +kernel)
theorem hd309_5_13 : covs 309 5 13 "java/lang/IndexOutOfBoundsException" := covB_ok (i := 0) (name := "java/lang/IndexOutOfBoundsException") (by decide +kernel)
theorem hd310_4_12 : covs 310 4 12 "java/lang/IndexOutOfBoundsException" := covB_ok (i := 0) (name := "java/lang/IndexOutOfBoundsException") (by decide +kernel)
theorem hd311_4_12 : covs 311 4 12 "java/lang/IndexOutOfBoundsException" := covB_ok (i := 0) (name := "java/lang/IndexOutOfBoundsException") (by decide +kernel)
theorem hd311_4_15 : covs 311 4 15 "java/util/NoSuchElementException" := covB_ok (i := 1) (name := "java/util/NoSuchElementException") (by decide +kernel)
theorem hd312_5_20 : covs 312 5 20 "java/lang/IndexOutOfBoundsException" := covB_ok (i := 0) (name := "java/lang/IndexOutOfBoundsException") (by decide +kernel)
theorem hd312_5_24 : covs 312 5 24 "java/lang/IllegalArgumentException" := covB_ok (i := 1) (name := "java/lang/IllegalArgumentException") (by decide +kernel)
theorem hd313_5_13 : covs 313 5 13 "java/lang/IndexOutOfBoundsException" := covB_ok (i := 0) (name := "java/lang/IndexOutOfBoundsException") (by decide +kernel)
theorem hd314_5_13 : covs 314 5 13 "java/lang/IndexOutOfBoundsException" := covB_ok (i := 0) (name := "java/lang/IndexOutOfBoundsException") (by decide +kernel)
theorem hd315_4_12 : covs 315 4 12 "java/lang/IndexOutOfBoundsException" := covB_ok (i := 0) (name := "java/lang/IndexOutOfBoundsException") (by decide +kernel)
theorem hd316_4_12 : covs 316 4 12 "java/lang/IndexOutOfBoundsException" := covB_ok (i := 0) (name := "java/lang/IndexOutOfBoundsException") (by decide +kernel)
theorem hd317_4_12 : covs 317 4 12 "java/util/NoSuchElementException" := covB_ok (i := 0) (name := "java/util/NoSuchElementException") (by decide +kernel)
theorem hd318_4_12 : covs 318 4 12 "java/lang/IndexOutOfBoundsException" := covB_ok (i := 0) (name := "java/lang/IndexOutOfBoundsException") (by decide +kernel)
theorem hd319_4_12 : covs 319 4 12 "java/lang/IndexOutOfBoundsException" := covB_ok (i := 0) (name := "java/lang/IndexOutOfBoundsException") (by decide +kernel)
theorem hd320_5_13 : covs 320 5 13 "java/lang/IndexOutOfBoundsException" := covB_ok (i := 0) (name := "java/lang/IndexOutOfBoundsException") (by decide +kernel)
theorem hd320_5_17 : covs 320 5 17 "java/util/NoSuchElementException" := covB_ok (i := 1) (name := "java/util/NoSuchElementException") (by decide +kernel)
theorem hd321_4_12 : covs 321 4 12 "java/util/NoSuchElementException" := covB_ok (i := 0) (name := "java/util/NoSuchElementException") (by decide +kernel)
theorem hd322_4_12 : covs 322 4 12 "java/util/NoSuchElementException" := covB_ok (i := 0) (name := "java/util/NoSuchElementException") (by decide +kernel)
theorem hd323_4_19 : covs 323 4 19 "java/util/NoSuchElementException" := covB_ok (i := 0) (name := "java/util/NoSuchElementException") (by decide +kernel)
theorem hd324_4_12 : covs 324 4 12 "java/util/NoSuchElementException" := covB_ok (i := 0) (name := "java/util/NoSuchElementException") (by decide +kernel)
theorem hd325_4_19 : covs 325 4 19 "java/util/NoSuchElementException" := covB_ok (i := 0) (name := "java/util/NoSuchElementException") (by decide +kernel)
theorem hd326_4_12 : covs 326 4 12 "java/util/NoSuchElementException" := covB_ok (i := 0) (name := "java/util/NoSuchElementException") (by decide +kernel)
theorem hd327_4_12 : covs 327 4 12 "java/util/NoSuchElementException" := covB_ok (i := 0) (name := "java/util/NoSuchElementException") (by decide +kernel)
theorem hd327_4_15 : covs 327 4 15 "java/lang/IllegalStateException" := covB_ok (i := 1) (name := "java/lang/IllegalStateException") (by decide +kernel)
theorem hd328_5_13 : covs 328 5 13 "java/lang/IndexOutOfBoundsException" := covB_ok (i := 0) (name := "java/lang/IndexOutOfBoundsException") (by decide +kernel)
theorem hd328_5_17 : covs 328 5 17 "java/util/NoSuchElementException" := covB_ok (i := 1) (name := "java/util/NoSuchElementException") (by decide +kernel)
theorem hd329_4_12 : covs 329 4 12 "java/lang/IndexOutOfBoundsException" := covB_ok (i := 0) (name := "java/lang/IndexOutOfBoundsException") (by decide +kernel)
theorem hd329_4_15 : covs 329 4 15 "java/lang/ArithmeticException" := covB_ok (i := 1) (name := "java/lang/ArithmeticException") (by decide +kernel)
theorem hd330_4_12 : covs 330 4 12 "java/lang/IndexOutOfBoundsException" := covB_ok (i := 0) (name := "java/lang/IndexOutOfBoundsException") (by decide +kernel)
theorem hd331_4_12 : covs 331 4 12 "java/lang/IndexOutOfBoundsException" := covB_ok (i := 0) (name := "java/lang/IndexOutOfBoundsException") (by decide +kernel)
theorem hd332_4_12 : covs 332 4 12 "java/lang/IllegalArgumentException" := covB_ok (i := 0) (name := "java/lang/IllegalArgumentException") (by decide +kernel)
theorem hd332_4_15 : covs 332 4 15 "java/lang/IllegalStateException" := covB_ok (i := 1) (name := "java/lang/IllegalStateException") (by decide +kernel)
theorem hd333_3_11 : covs 333 3 11 "java/lang/IllegalArgumentException" := covB_ok (i := 0) (name := "java/lang/IllegalArgumentException") (by decide +kernel)
theorem hd333_3_14 : covs 333 3 14 "java/lang/IllegalStateException" := covB_ok (i := 1) (name := "java/lang/IllegalStateException") (by decide +kernel)
theorem hd334_3_11 : covs 334 3 11 "java/util/NoSuchElementException" := covB_ok (i := 0) (name := "java/util/NoSuchElementException") (by decide +kernel)
theorem hd335_3_11 : covs 335 3 11 "java/util/NoSuchElementException" := covB_ok (i := 0) (name := "java/util/NoSuchElementException") (by decide +kernel)
theorem hd336_3_11 : covs 336 3 11 "java/util/NoSuchElementException" := covB_ok (i := 0) (name := "java/util/NoSuchElementException") (by decide +kernel)
theorem hd337_3_11 : covs 337 3 11 "java/lang/IllegalStateException" := covB_ok (i := 0) (name := "java/lang/IllegalStateException") (by decide +kernel)
theorem HND_ok : ∀ q ∈ HND, covs q.1 q.2.1 q.2.2.2 q.2.2.1 := by
  intro q hq
  simp only [HND, List.mem_cons, List.not_mem_nil, or_false] at hq
  rcases hq with rfl | rfl | rfl | rfl | rfl | rfl | rfl | rfl | rfl | rfl | rfl | rfl | rfl | rfl | rfl | rfl | rfl | rfl | rfl | rfl | rfl | rfl | rfl | rfl | rfl | rfl | rfl | rfl | rfl | rfl | rfl | rfl | rfl | rfl | rfl | rfl | rfl | rfl | rfl | rfl | rfl | rfl | rfl | rfl | rfl | rfl | rfl | rfl | rfl | rfl | rfl | rfl | rfl | rfl
  · exact hd298_7_15
  · exact hd298_7_19
  · exact hd299_7_15
  · exact hd299_7_19
  · exact hd300_5_13
  · exact hd301_5_13
  · exact hd301_5_17
  · exact hd302_4_12
  · exact hd303_5_13
  · exact hd303_5_17
  · exact hd303_5_21
  · exact hd304_4_12
  · exact hd305_4_12
  · exact hd306_4_12
  · exact hd307_4_12
  · exact hd308_4_12
  · exact hd308_4_15
  · exact hd309_5_13
  · exact hd310_4_12
  · exact hd311_4_12
  · exact hd311_4_15
  · exact hd312_5_20
  · exact hd312_5_24
  · exact hd313_5_13
  · exact hd314_5_13
  · exact hd315_4_12
  · exact hd316_4_12
  · exact hd317_4_12
  · exact hd318_4_12
  · exact hd319_4_12
  · exact hd320_5_13
  · exact hd320_5_17
  · exact hd321_4_12
  · exact hd322_4_12
  · exact hd323_4_19
  · exact hd324_4_12
  · exact hd325_4_19
  · exact hd326_4_12
  · exact hd327_4_12
  · exact hd327_4_15
  · exact hd328_5_13
  · exact hd328_5_17
  · exact hd329_4_12
  · exact hd329_4_15
  · exact hd330_4_12
  · exact hd331_4_12
  · exact hd332_4_12
  · exact hd332_4_15
  · exact hd333_3_11
  · exact hd333_3_14
  · exact hd334_3_11
  · exact hd335_3_11
  · exact hd336_3_11
  · exact hd337_3_11
