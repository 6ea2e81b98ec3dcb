/-! THE LAW: its calls, part 3 -/
section LWC
set_option maxRecDepth 20000
variable {x : SX} {i n B : Nat} {w : PW} {e0 : Int32}
theorem lc_28 {a6 a7 a8 a9 : Option Value} (hx : x.1 ≤ 2048) (hi : i + 4 ≤ x.1) (hB : B < 2147483648) (hF : FVe B w n e0) : LC x 1946 i a6 a7 a8 a9 w n B := by
  obtain ⟨m, s, t, y, hs, le, lf, F, K, sc, c, q, cs, hV, hS, hO, -⟩ := hF
  have k64 := (WD_64 hV.1).2.1
  have h1 : Int32.ofNat i + 1 = Int32.ofNat (i + 1) := i_add (b := 1)
  have h2 : Int32.ofNat i + 2 = Int32.ofNat (i + 2) := i_add (b := 2)
  have h3 : Int32.ofNat i + 3 = Int32.ofNat (i + 3) := i_add (b := 3)
  have y1 : ∀ w, ald 0 x w 1 9 (Int32.ofNat (i + 1)) = some (x.2 (i + 1)) := fun w => scr_l hx (by omega)
  have y2 : ∀ w, ald 0 x w 1 9 (Int32.ofNat (i + 2)) = some (x.2 (i + 2)) := fun w => scr_l hx (by omega)
  have y3 : ∀ w, ald 0 x w 1 9 (Int32.ofNat (i + 3)) = some (x.2 (i + 3)) := fun w => scr_l hx (by omega)
  obtain ⟨e, r, w1, n1, w2, n2, B', E1, E2, k227, hn, hz, hl, hF⟩ := PR_of hS hO (p324 (x := x) (n := n) (u := (x.2 (i + 1))) hV)
  obtain ⟨k2, e192⟩ := thr (x := x) hF
  refine ⟨some (.int e), some (.int r), a8, a9, w2, n2, B', e, ?_, hn, hl, hF⟩
  by_cases he : e = 0
  · obtain ⟨f, f1, f2⟩ := hz he
    have l0 := lld_0 f1
    rw [f2] at l0
    subst he
    simp only [csN, csm_i, csm_r, Nat.reduceAdd, Nat.reduceLeDiff, wdI, wdR, wdN, clM_0, clC_0, clC_1, clC_6, clC_8, true_or, or_true, i10, i01, ob_some, ob_map, cal_v, rvs_some, rvs_none, XO_at, cal_x, lw338_1946, lw338_1947, lw338_1948, lw338_1950, lw338_1951, lw338_1952, lw338_1953, lw338_1954, lw338_1957, lw338_1959, lw338_1960, lw338_1961, lw338_1963, lw338_1964, lw338_1965, lw338_1966, lw338_1969, lw338_1971, lw338_1972, lw338_1975, lw338_1977, lw338_1980, lw338_1981, lw338_1982, lw338_1984, lw338_1987, lw338_1988, lw338_1989, lw338_1990, lw338_1992, lw338_1993, lw338_1994, lw338_1997, lw338_1998, lw338_1999, h1, h2, h3, y1, y2, y3, if_true, if_false, E1, k227, E2, k2, e192, l0, lg_self]
  · skip
    simp only [csN, csm_i, csm_r, Nat.reduceAdd, Nat.reduceLeDiff, wdI, wdR, wdN, clM_0, clC_0, clC_1, clC_6, clC_8, true_or, or_true, i10, i01, ob_some, ob_map, cal_v, rvs_some, rvs_none, XO_at, cal_x, lw338_1946, lw338_1947, lw338_1948, lw338_1950, lw338_1951, lw338_1952, lw338_1953, lw338_1954, lw338_1957, lw338_1959, lw338_1960, lw338_1961, lw338_1963, lw338_1964, lw338_1965, lw338_1966, lw338_1969, lw338_1971, lw338_1972, lw338_1975, lw338_1977, lw338_1980, lw338_1981, lw338_1982, lw338_1984, lw338_1987, lw338_1988, lw338_1989, lw338_1990, lw338_1992, lw338_1993, lw338_1994, lw338_1997, lw338_1998, lw338_1999, h1, h2, h3, y1, y2, y3, if_true, if_false, E1, k227, E2, k2, e192, he]
theorem lc_29 {a6 a7 a8 a9 : Option Value} (hx : x.1 ≤ 2048) (hi : i + 4 ≤ x.1) (hB : B < 2147483648) (hF : FVe B w n e0) : LC x 2002 i a6 a7 a8 a9 w n B := by
  obtain ⟨m, s, t, y, hs, le, lf, F, K, sc, c, q, cs, hV, hS, hO, -⟩ := hF
  have k64 := (WD_64 hV.1).2.1
  have h1 : Int32.ofNat i + 1 = Int32.ofNat (i + 1) := i_add (b := 1)
  have h2 : Int32.ofNat i + 2 = Int32.ofNat (i + 2) := i_add (b := 2)
  have h3 : Int32.ofNat i + 3 = Int32.ofNat (i + 3) := i_add (b := 3)
  have y1 : ∀ w, ald 0 x w 1 9 (Int32.ofNat (i + 1)) = some (x.2 (i + 1)) := fun w => scr_l hx (by omega)
  have y2 : ∀ w, ald 0 x w 1 9 (Int32.ofNat (i + 2)) = some (x.2 (i + 2)) := fun w => scr_l hx (by omega)
  have y3 : ∀ w, ald 0 x w 1 9 (Int32.ofNat (i + 3)) = some (x.2 (i + 3)) := fun w => scr_l hx (by omega)
  obtain ⟨e, d, w1, n1, w2, n2, B', E1, E2, k227, hn, hz, hl, hF⟩ := PRB_of hS hO (p325 (x := x) (n := n) (u := (x.2 (i + 1))) hV)
  obtain ⟨k2, e192⟩ := thr (x := x) hF
  refine ⟨some (.int e), some (.int (bi d)), a8, a9, w2, n2, B', e, ?_, hn, hl, hF⟩
  by_cases he : e = 0
  · obtain ⟨f, f1, f2⟩ := hz he
    have l0 := lld_0 f1
    rw [f2] at l0
    subst he
    cases d with
    | true =>
      rw [bi_t] at E2 ⊢
      rw [cond_true] at l0
      simp only [csN, csm_i, csm_r, Nat.reduceAdd, Nat.reduceLeDiff, wdI, wdR, wdN, clM_0, clC_0, clC_1, clC_6, clC_8, true_or, or_true, i10, i01, ob_some, ob_map, cal_v, rvs_some, rvs_none, XO_at, cal_x, lw338_2002, lw338_2003, lw338_2004, lw338_2006, lw338_2007, lw338_2008, lw338_2009, lw338_2010, lw338_2013, lw338_2015, lw338_2016, lw338_2017, lw338_2019, lw338_2020, lw338_2021, lw338_2022, lw338_2025, lw338_2027, lw338_2028, lw338_2031, lw338_2033, lw338_2036, lw338_2037, lw338_2038, lw338_2040, lw338_2043, lw338_2044, lw338_2045, lw338_2046, lw338_2048, lw338_2051, lw338_2052, lw338_2055, lw338_2056, lw338_2057, lw338_2060, lw338_2061, lw338_2062, h1, h2, h3, y1, y2, y3, if_true, if_false, E1, k227, E2, k2, e192, l0, lg_self]
    | false =>
      rw [bi_f] at E2 ⊢
      rw [cond_false] at l0
      simp only [csN, csm_i, csm_r, Nat.reduceAdd, Nat.reduceLeDiff, wdI, wdR, wdN, clM_0, clC_0, clC_1, clC_6, clC_8, true_or, or_true, i10, i01, ob_some, ob_map, cal_v, rvs_some, rvs_none, XO_at, cal_x, lw338_2002, lw338_2003, lw338_2004, lw338_2006, lw338_2007, lw338_2008, lw338_2009, lw338_2010, lw338_2013, lw338_2015, lw338_2016, lw338_2017, lw338_2019, lw338_2020, lw338_2021, lw338_2022, lw338_2025, lw338_2027, lw338_2028, lw338_2031, lw338_2033, lw338_2036, lw338_2037, lw338_2038, lw338_2040, lw338_2043, lw338_2044, lw338_2045, lw338_2046, lw338_2048, lw338_2051, lw338_2052, lw338_2055, lw338_2056, lw338_2057, lw338_2060, lw338_2061, lw338_2062, h1, h2, h3, y1, y2, y3, if_true, if_false, E1, k227, E2, k2, e192, l0, lg_self]
  · skip
    simp only [csN, csm_i, csm_r, Nat.reduceAdd, Nat.reduceLeDiff, wdI, wdR, wdN, clM_0, clC_0, clC_1, clC_6, clC_8, true_or, or_true, i10, i01, ob_some, ob_map, cal_v, rvs_some, rvs_none, XO_at, cal_x, lw338_2002, lw338_2003, lw338_2004, lw338_2006, lw338_2007, lw338_2008, lw338_2009, lw338_2010, lw338_2013, lw338_2015, lw338_2016, lw338_2017, lw338_2019, lw338_2020, lw338_2021, lw338_2022, lw338_2025, lw338_2027, lw338_2028, lw338_2031, lw338_2033, lw338_2036, lw338_2037, lw338_2038, lw338_2040, lw338_2043, lw338_2044, lw338_2045, lw338_2046, lw338_2048, lw338_2051, lw338_2052, lw338_2055, lw338_2056, lw338_2057, lw338_2060, lw338_2061, lw338_2062, h1, h2, h3, y1, y2, y3, if_true, if_false, E1, k227, E2, k2, e192, he]
theorem lc_30 {a6 a7 a8 a9 : Option Value} (hx : x.1 ≤ 2048) (hi : i + 4 ≤ x.1) (hB : B < 2147483648) (hF : FVe B w n e0) : LC x 2065 i a6 a7 a8 a9 w n B := by
  obtain ⟨m, s, t, y, hs, le, lf, F, K, sc, c, q, cs, hV, hS, hO, -⟩ := hF
  have k64 := (WD_64 hV.1).2.1
  have h1 : Int32.ofNat i + 1 = Int32.ofNat (i + 1) := i_add (b := 1)
  have h2 : Int32.ofNat i + 2 = Int32.ofNat (i + 2) := i_add (b := 2)
  have h3 : Int32.ofNat i + 3 = Int32.ofNat (i + 3) := i_add (b := 3)
  have y1 : ∀ w, ald 0 x w 1 9 (Int32.ofNat (i + 1)) = some (x.2 (i + 1)) := fun w => scr_l hx (by omega)
  have y2 : ∀ w, ald 0 x w 1 9 (Int32.ofNat (i + 2)) = some (x.2 (i + 2)) := fun w => scr_l hx (by omega)
  have y3 : ∀ w, ald 0 x w 1 9 (Int32.ofNat (i + 3)) = some (x.2 (i + 3)) := fun w => scr_l hx (by omega)
  obtain ⟨e, r, w1, n1, w2, n2, B', E1, E2, k227, hn, hz, hl, hF⟩ := PR_of hS hO (p326 (x := x) (n := n) (u := (x.2 (i + 1))) hV)
  obtain ⟨k2, e192⟩ := thr (x := x) hF
  refine ⟨some (.int e), some (.int r), a8, a9, w2, n2, B', e, ?_, hn, hl, hF⟩
  by_cases he : e = 0
  · obtain ⟨f, f1, f2⟩ := hz he
    have l0 := lld_0 f1
    rw [f2] at l0
    subst he
    simp only [csN, csm_i, csm_r, Nat.reduceAdd, Nat.reduceLeDiff, wdI, wdR, wdN, clM_0, clC_0, clC_1, clC_6, clC_8, true_or, or_true, i10, i01, ob_some, ob_map, cal_v, rvs_some, rvs_none, XO_at, cal_x, lw338_2065, lw338_2066, lw338_2067, lw338_2069, lw338_2070, lw338_2071, lw338_2072, lw338_2073, lw338_2076, lw338_2078, lw338_2079, lw338_2080, lw338_2082, lw338_2083, lw338_2084, lw338_2085, lw338_2088, lw338_2090, lw338_2091, lw338_2094, lw338_2096, lw338_2099, lw338_2100, lw338_2101, lw338_2103, lw338_2106, lw338_2107, lw338_2108, lw338_2109, lw338_2111, lw338_2112, lw338_2113, lw338_2116, lw338_2117, lw338_2118, h1, h2, h3, y1, y2, y3, if_true, if_false, E1, k227, E2, k2, e192, l0, lg_self]
  · skip
    simp only [csN, csm_i, csm_r, Nat.reduceAdd, Nat.reduceLeDiff, wdI, wdR, wdN, clM_0, clC_0, clC_1, clC_6, clC_8, true_or, or_true, i10, i01, ob_some, ob_map, cal_v, rvs_some, rvs_none, XO_at, cal_x, lw338_2065, lw338_2066, lw338_2067, lw338_2069, lw338_2070, lw338_2071, lw338_2072, lw338_2073, lw338_2076, lw338_2078, lw338_2079, lw338_2080, lw338_2082, lw338_2083, lw338_2084, lw338_2085, lw338_2088, lw338_2090, lw338_2091, lw338_2094, lw338_2096, lw338_2099, lw338_2100, lw338_2101, lw338_2103, lw338_2106, lw338_2107, lw338_2108, lw338_2109, lw338_2111, lw338_2112, lw338_2113, lw338_2116, lw338_2117, lw338_2118, h1, h2, h3, y1, y2, y3, if_true, if_false, E1, k227, E2, k2, e192, he]
theorem lc_31 {a6 a7 a8 a9 : Option Value} (hx : x.1 ≤ 2048) (hi : i + 4 ≤ x.1) (hB : B < 2147483648) (hF : FVe B w n e0) : LC x 2121 i a6 a7 a8 a9 w n B := by
  obtain ⟨m, s, t, y, hs, le, lf, F, K, sc, c, q, cs, hV, hS, hO, -⟩ := hF
  have k64 := (WD_64 hV.1).2.1
  have h1 : Int32.ofNat i + 1 = Int32.ofNat (i + 1) := i_add (b := 1)
  have h2 : Int32.ofNat i + 2 = Int32.ofNat (i + 2) := i_add (b := 2)
  have h3 : Int32.ofNat i + 3 = Int32.ofNat (i + 3) := i_add (b := 3)
  have y1 : ∀ w, ald 0 x w 1 9 (Int32.ofNat (i + 1)) = some (x.2 (i + 1)) := fun w => scr_l hx (by omega)
  have y2 : ∀ w, ald 0 x w 1 9 (Int32.ofNat (i + 2)) = some (x.2 (i + 2)) := fun w => scr_l hx (by omega)
  have y3 : ∀ w, ald 0 x w 1 9 (Int32.ofNat (i + 3)) = some (x.2 (i + 3)) := fun w => scr_l hx (by omega)
  obtain ⟨e, r, w1, n1, w2, n2, B', E1, E2, k227, hn, hz, hl, hF⟩ := PR_of hS hO (p327 (x := x) (n := n) (u := (x.2 (i + 1))) hV)
  obtain ⟨k2, e192⟩ := thr (x := x) hF
  refine ⟨some (.int e), some (.int r), a8, a9, w2, n2, B', e, ?_, hn, hl, hF⟩
  by_cases he : e = 0
  · obtain ⟨f, f1, f2⟩ := hz he
    have l0 := lld_0 f1
    rw [f2] at l0
    subst he
    simp only [csN, csm_i, csm_r, Nat.reduceAdd, Nat.reduceLeDiff, wdI, wdR, wdN, clM_0, clC_0, clC_1, clC_6, clC_8, true_or, or_true, i10, i01, ob_some, ob_map, cal_v, rvs_some, rvs_none, XO_at, cal_x, lw338_2121, lw338_2122, lw338_2123, lw338_2125, lw338_2126, lw338_2127, lw338_2128, lw338_2129, lw338_2132, lw338_2134, lw338_2135, lw338_2136, lw338_2138, lw338_2139, lw338_2140, lw338_2141, lw338_2144, lw338_2146, lw338_2147, lw338_2150, lw338_2152, lw338_2155, lw338_2156, lw338_2157, lw338_2159, lw338_2162, lw338_2163, lw338_2164, lw338_2165, lw338_2167, lw338_2168, lw338_2169, lw338_2172, lw338_2173, lw338_2174, h1, h2, h3, y1, y2, y3, if_true, if_false, E1, k227, E2, k2, e192, l0, lg_self]
  · skip
    simp only [csN, csm_i, csm_r, Nat.reduceAdd, Nat.reduceLeDiff, wdI, wdR, wdN, clM_0, clC_0, clC_1, clC_6, clC_8, true_or, or_true, i10, i01, ob_some, ob_map, cal_v, rvs_some, rvs_none, XO_at, cal_x, lw338_2121, lw338_2122, lw338_2123, lw338_2125, lw338_2126, lw338_2127, lw338_2128, lw338_2129, lw338_2132, lw338_2134, lw338_2135, lw338_2136, lw338_2138, lw338_2139, lw338_2140, lw338_2141, lw338_2144, lw338_2146, lw338_2147, lw338_2150, lw338_2152, lw338_2155, lw338_2156, lw338_2157, lw338_2159, lw338_2162, lw338_2163, lw338_2164, lw338_2165, lw338_2167, lw338_2168, lw338_2169, lw338_2172, lw338_2173, lw338_2174, h1, h2, h3, y1, y2, y3, if_true, if_false, E1, k227, E2, k2, e192, he]
theorem lc_32 {a6 a7 a8 a9 : Option Value} (hx : x.1 ≤ 2048) (hi : i + 4 ≤ x.1) (hB : B < 2147483648) (hF : FVe B w n e0) : LC x 2177 i a6 a7 a8 a9 w n B := by
  obtain ⟨m, s, t, y, hs, le, lf, F, K, sc, c, q, cs, hV, hS, hO, -⟩ := hF
  have k64 := (WD_64 hV.1).2.1
  have h1 : Int32.ofNat i + 1 = Int32.ofNat (i + 1) := i_add (b := 1)
  have h2 : Int32.ofNat i + 2 = Int32.ofNat (i + 2) := i_add (b := 2)
  have h3 : Int32.ofNat i + 3 = Int32.ofNat (i + 3) := i_add (b := 3)
  have y1 : ∀ w, ald 0 x w 1 9 (Int32.ofNat (i + 1)) = some (x.2 (i + 1)) := fun w => scr_l hx (by omega)
  have y2 : ∀ w, ald 0 x w 1 9 (Int32.ofNat (i + 2)) = some (x.2 (i + 2)) := fun w => scr_l hx (by omega)
  have y3 : ∀ w, ald 0 x w 1 9 (Int32.ofNat (i + 3)) = some (x.2 (i + 3)) := fun w => scr_l hx (by omega)
  obtain ⟨e, r, w1, n1, w2, n2, B', E1, E2, k227, hn, hz, hl, hF⟩ := PR_of hS hO (p328 (x := x) (n := n) (u := (x.2 (i + 1))) (v := (x.2 (i + 2))) hV)
  obtain ⟨k2, e192⟩ := thr (x := x) hF
  refine ⟨some (.int e), some (.int r), a8, a9, w2, n2, B', e, ?_, hn, hl, hF⟩
  by_cases he : e = 0
  · obtain ⟨f, f1, f2⟩ := hz he
    have l0 := lld_0 f1
    rw [f2] at l0
    subst he
    simp only [csN, csm_i, csm_r, Nat.reduceAdd, Nat.reduceLeDiff, wdI, wdR, wdN, clM_0, clC_0, clC_1, clC_6, clC_8, true_or, or_true, i10, i01, ob_some, ob_map, cal_v, rvs_some, rvs_none, XO_at, cal_x, lw338_2177, lw338_2178, lw338_2179, lw338_2181, lw338_2182, lw338_2183, lw338_2184, lw338_2185, lw338_2187, lw338_2188, lw338_2189, lw338_2190, lw338_2191, lw338_2194, lw338_2196, lw338_2197, lw338_2198, lw338_2200, lw338_2201, lw338_2202, lw338_2203, lw338_2204, lw338_2206, lw338_2207, lw338_2208, lw338_2209, lw338_2212, lw338_2214, lw338_2215, lw338_2218, lw338_2220, lw338_2223, lw338_2224, lw338_2225, lw338_2227, lw338_2230, lw338_2231, lw338_2232, lw338_2233, lw338_2235, lw338_2236, lw338_2237, lw338_2240, lw338_2241, lw338_2242, h1, h2, h3, y1, y2, y3, if_true, if_false, E1, k227, E2, k2, e192, l0, lg_self]
  · skip
    simp only [csN, csm_i, csm_r, Nat.reduceAdd, Nat.reduceLeDiff, wdI, wdR, wdN, clM_0, clC_0, clC_1, clC_6, clC_8, true_or, or_true, i10, i01, ob_some, ob_map, cal_v, rvs_some, rvs_none, XO_at, cal_x, lw338_2177, lw338_2178, lw338_2179, lw338_2181, lw338_2182, lw338_2183, lw338_2184, lw338_2185, lw338_2187, lw338_2188, lw338_2189, lw338_2190, lw338_2191, lw338_2194, lw338_2196, lw338_2197, lw338_2198, lw338_2200, lw338_2201, lw338_2202, lw338_2203, lw338_2204, lw338_2206, lw338_2207, lw338_2208, lw338_2209, lw338_2212, lw338_2214, lw338_2215, lw338_2218, lw338_2220, lw338_2223, lw338_2224, lw338_2225, lw338_2227, lw338_2230, lw338_2231, lw338_2232, lw338_2233, lw338_2235, lw338_2236, lw338_2237, lw338_2240, lw338_2241, lw338_2242, h1, h2, h3, y1, y2, y3, if_true, if_false, E1, k227, E2, k2, e192, he]
theorem lc_33 {a6 a7 a8 a9 : Option Value} (hx : x.1 ≤ 2048) (hi : i + 4 ≤ x.1) (hB : B < 2147483648) (hF : FVe B w n e0) : LC x 2245 i a6 a7 a8 a9 w n B := by
  obtain ⟨m, s, t, y, hs, le, lf, F, K, sc, c, q, cs, hV, hS, hO, -⟩ := hF
  have k64 := (WD_64 hV.1).2.1
  have h1 : Int32.ofNat i + 1 = Int32.ofNat (i + 1) := i_add (b := 1)
  have h2 : Int32.ofNat i + 2 = Int32.ofNat (i + 2) := i_add (b := 2)
  have h3 : Int32.ofNat i + 3 = Int32.ofNat (i + 3) := i_add (b := 3)
  have y1 : ∀ w, ald 0 x w 1 9 (Int32.ofNat (i + 1)) = some (x.2 (i + 1)) := fun w => scr_l hx (by omega)
  have y2 : ∀ w, ald 0 x w 1 9 (Int32.ofNat (i + 2)) = some (x.2 (i + 2)) := fun w => scr_l hx (by omega)
  have y3 : ∀ w, ald 0 x w 1 9 (Int32.ofNat (i + 3)) = some (x.2 (i + 3)) := fun w => scr_l hx (by omega)
  obtain ⟨r, w1, n1, w2, n2, B', e, E1, E2, k227, hn, hl, hF⟩ := SM_of hS hO (p68 (x := x) (n := n)  hV)
  refine ⟨a6, a7, a8, a9, w2, n2, B', e, ?_, hn, hl, hF⟩
  simp only [csN, csm_i, csm_r, Nat.reduceAdd, Nat.reduceLeDiff, wdI, wdR, wdN, clM_0, clC_0, clC_1, clC_6, clC_8, true_or, or_true, i10, i01, ob_some, ob_map, cal_v, rvs_some, rvs_none, XO_at, cal_x, lw338_2245, lw338_2246, lw338_2249, lw338_2250, lw338_2253, lw338_2256, lw338_2257, h1, h2, h3, y1, y2, y3, k64, E1, k227, E2, if_true]
theorem lc_34 {a6 a7 a8 a9 : Option Value} (hx : x.1 ≤ 2048) (hi : i + 4 ≤ x.1) (hB : B < 2147483648) (hF : FVe B w n e0) : LC x 2258 i a6 a7 a8 a9 w n B := by
  obtain ⟨m, s, t, y, hs, le, lf, F, K, sc, c, q, cs, hV, hS, hO, -⟩ := hF
  have k64 := (WD_64 hV.1).2.1
  have h1 : Int32.ofNat i + 1 = Int32.ofNat (i + 1) := i_add (b := 1)
  have h2 : Int32.ofNat i + 2 = Int32.ofNat (i + 2) := i_add (b := 2)
  have h3 : Int32.ofNat i + 3 = Int32.ofNat (i + 3) := i_add (b := 3)
  have y1 : ∀ w, ald 0 x w 1 9 (Int32.ofNat (i + 1)) = some (x.2 (i + 1)) := fun w => scr_l hx (by omega)
  have y2 : ∀ w, ald 0 x w 1 9 (Int32.ofNat (i + 2)) = some (x.2 (i + 2)) := fun w => scr_l hx (by omega)
  have y3 : ∀ w, ald 0 x w 1 9 (Int32.ofNat (i + 3)) = some (x.2 (i + 3)) := fun w => scr_l hx (by omega)
  obtain ⟨r, w1, n1, w2, n2, B', e, E1, E2, k227, hn, hl, hF⟩ := SM_of hS hO (p69 (x := x) (n := n)  hV)
  refine ⟨a6, a7, a8, a9, w2, n2, B', e, ?_, hn, hl, hF⟩
  simp only [csN, csm_i, csm_r, Nat.reduceAdd, Nat.reduceLeDiff, wdI, wdR, wdN, clM_0, clC_0, clC_1, clC_6, clC_8, true_or, or_true, i10, i01, ob_some, ob_map, cal_v, rvs_some, rvs_none, XO_at, cal_x, lw338_2258, lw338_2259, lw338_2262, lw338_2263, lw338_2266, lw338_2269, lw338_2270, h1, h2, h3, y1, y2, y3, k64, E1, k227, E2, if_true]
theorem lc_35 {a6 a7 a8 a9 : Option Value} (hx : x.1 ≤ 2048) (hi : i + 4 ≤ x.1) (hB : B < 2147483648) (hF : FVe B w n e0) : LC x 2271 i a6 a7 a8 a9 w n B := by
  obtain ⟨m, s, t, y, hs, le, lf, F, K, sc, c, q, cs, hV, hS, hO, -⟩ := hF
  have k64 := (WD_64 hV.1).2.1
  have h1 : Int32.ofNat i + 1 = Int32.ofNat (i + 1) := i_add (b := 1)
  have h2 : Int32.ofNat i + 2 = Int32.ofNat (i + 2) := i_add (b := 2)
  have h3 : Int32.ofNat i + 3 = Int32.ofNat (i + 3) := i_add (b := 3)
  have y1 : ∀ w, ald 0 x w 1 9 (Int32.ofNat (i + 1)) = some (x.2 (i + 1)) := fun w => scr_l hx (by omega)
  have y2 : ∀ w, ald 0 x w 1 9 (Int32.ofNat (i + 2)) = some (x.2 (i + 2)) := fun w => scr_l hx (by omega)
  have y3 : ∀ w, ald 0 x w 1 9 (Int32.ofNat (i + 3)) = some (x.2 (i + 3)) := fun w => scr_l hx (by omega)
  obtain ⟨r, w1, n1, w2, n2, B', e, E1, E2, k227, hn, hl, hF⟩ := SM_of hS hO (p70 (x := x) (n := n)  hV)
  refine ⟨a6, a7, a8, a9, w2, n2, B', e, ?_, hn, hl, hF⟩
  simp only [csN, csm_i, csm_r, Nat.reduceAdd, Nat.reduceLeDiff, wdI, wdR, wdN, clM_0, clC_0, clC_1, clC_6, clC_8, true_or, or_true, i10, i01, ob_some, ob_map, cal_v, rvs_some, rvs_none, XO_at, cal_x, lw338_2271, lw338_2272, lw338_2275, lw338_2276, lw338_2279, lw338_2282, lw338_2283, h1, h2, h3, y1, y2, y3, k64, E1, k227, E2, if_true]
theorem lc_36 {a6 a7 a8 a9 : Option Value} (hx : x.1 ≤ 2048) (hi : i + 4 ≤ x.1) (hB : B < 2147483648) (hF : FVe B w n e0) : LC x 2284 i a6 a7 a8 a9 w n B := by
  obtain ⟨m, s, t, y, hs, le, lf, F, K, sc, c, q, cs, hV, hS, hO, -⟩ := hF
  have k64 := (WD_64 hV.1).2.1
  have h1 : Int32.ofNat i + 1 = Int32.ofNat (i + 1) := i_add (b := 1)
  have h2 : Int32.ofNat i + 2 = Int32.ofNat (i + 2) := i_add (b := 2)
  have h3 : Int32.ofNat i + 3 = Int32.ofNat (i + 3) := i_add (b := 3)
  have y1 : ∀ w, ald 0 x w 1 9 (Int32.ofNat (i + 1)) = some (x.2 (i + 1)) := fun w => scr_l hx (by omega)
  have y2 : ∀ w, ald 0 x w 1 9 (Int32.ofNat (i + 2)) = some (x.2 (i + 2)) := fun w => scr_l hx (by omega)
  have y3 : ∀ w, ald 0 x w 1 9 (Int32.ofNat (i + 3)) = some (x.2 (i + 3)) := fun w => scr_l hx (by omega)
  obtain ⟨r, w1, n1, w2, n2, B', e, E1, E2, k227, hn, hl, hF⟩ := SM_of hS hO (p71 (x := x) (n := n)  hV)
  refine ⟨a6, a7, a8, a9, w2, n2, B', e, ?_, hn, hl, hF⟩
  simp only [csN, csm_i, csm_r, Nat.reduceAdd, Nat.reduceLeDiff, wdI, wdR, wdN, clM_0, clC_0, clC_1, clC_6, clC_8, true_or, or_true, i10, i01, ob_some, ob_map, cal_v, rvs_some, rvs_none, XO_at, cal_x, lw338_2284, lw338_2285, lw338_2288, lw338_2289, lw338_2292, lw338_2295, lw338_2296, h1, h2, h3, y1, y2, y3, k64, E1, k227, E2, if_true]
theorem lc_37 {a6 a7 a8 a9 : Option Value} (hx : x.1 ≤ 2048) (hi : i + 4 ≤ x.1) (hB : B < 2147483648) (hF : FVe B w n e0) : LC x 2297 i a6 a7 a8 a9 w n B := by
  obtain ⟨m, s, t, y, hs, le, lf, F, K, sc, c, q, cs, hV, hS, hO, -⟩ := hF
  have k64 := (WD_64 hV.1).2.1
  have h1 : Int32.ofNat i + 1 = Int32.ofNat (i + 1) := i_add (b := 1)
  have h2 : Int32.ofNat i + 2 = Int32.ofNat (i + 2) := i_add (b := 2)
  have h3 : Int32.ofNat i + 3 = Int32.ofNat (i + 3) := i_add (b := 3)
  have y1 : ∀ w, ald 0 x w 1 9 (Int32.ofNat (i + 1)) = some (x.2 (i + 1)) := fun w => scr_l hx (by omega)
  have y2 : ∀ w, ald 0 x w 1 9 (Int32.ofNat (i + 2)) = some (x.2 (i + 2)) := fun w => scr_l hx (by omega)
  have y3 : ∀ w, ald 0 x w 1 9 (Int32.ofNat (i + 3)) = some (x.2 (i + 3)) := fun w => scr_l hx (by omega)
  obtain ⟨r, w1, n1, w2, n2, B', e, E1, E2, k227, hn, hl, hF⟩ := SM_of hS hO (p72 (x := x) (n := n)  hV)
  refine ⟨a6, a7, a8, a9, w2, n2, B', e, ?_, hn, hl, hF⟩
  simp only [csN, csm_i, csm_r, Nat.reduceAdd, Nat.reduceLeDiff, wdI, wdR, wdN, clM_0, clC_0, clC_1, clC_6, clC_8, true_or, or_true, i10, i01, ob_some, ob_map, cal_v, rvs_some, rvs_none, XO_at, cal_x, lw338_2297, lw338_2298, lw338_2301, lw338_2302, lw338_2305, lw338_2308, lw338_2309, h1, h2, h3, y1, y2, y3, k64, E1, k227, E2, if_true]
theorem lc_38 {a6 a7 a8 a9 : Option Value} (hx : x.1 ≤ 2048) (hi : i + 4 ≤ x.1) (hB : B < 2147483648) (hF : FVe B w n e0) : LC x 2310 i a6 a7 a8 a9 w n B := by
  obtain ⟨m, s, t, y, hs, le, lf, F, K, sc, c, q, cs, hV, hS, hO, -⟩ := hF
  have k64 := (WD_64 hV.1).2.1
  have h1 : Int32.ofNat i + 1 = Int32.ofNat (i + 1) := i_add (b := 1)
  have h2 : Int32.ofNat i + 2 = Int32.ofNat (i + 2) := i_add (b := 2)
  have h3 : Int32.ofNat i + 3 = Int32.ofNat (i + 3) := i_add (b := 3)
  have y1 : ∀ w, ald 0 x w 1 9 (Int32.ofNat (i + 1)) = some (x.2 (i + 1)) := fun w => scr_l hx (by omega)
  have y2 : ∀ w, ald 0 x w 1 9 (Int32.ofNat (i + 2)) = some (x.2 (i + 2)) := fun w => scr_l hx (by omega)
  have y3 : ∀ w, ald 0 x w 1 9 (Int32.ofNat (i + 3)) = some (x.2 (i + 3)) := fun w => scr_l hx (by omega)
  obtain ⟨r, w1, n1, w2, n2, B', e, E1, E2, k227, hn, hl, hF⟩ := SM_of hS hO (p73 (x := x) (n := n)  hV)
  refine ⟨a6, a7, a8, a9, w2, n2, B', e, ?_, hn, hl, hF⟩
  simp only [csN, csm_i, csm_r, Nat.reduceAdd, Nat.reduceLeDiff, wdI, wdR, wdN, clM_0, clC_0, clC_1, clC_6, clC_8, true_or, or_true, i10, i01, ob_some, ob_map, cal_v, rvs_some, rvs_none, XO_at, cal_x, lw338_2310, lw338_2311, lw338_2314, lw338_2315, lw338_2318, lw338_2321, lw338_2322, h1, h2, h3, y1, y2, y3, k64, E1, k227, E2, if_true]
theorem lc_39 {a6 a7 a8 a9 : Option Value} (hx : x.1 ≤ 2048) (hi : i + 4 ≤ x.1) (hB : B < 2147483648) (hF : FVe B w n e0) : LC x 2323 i a6 a7 a8 a9 w n B := by
  obtain ⟨m, s, t, y, hs, le, lf, F, K, sc, c, q, cs, hV, hS, hO, -⟩ := hF
  have k64 := (WD_64 hV.1).2.1
  have h1 : Int32.ofNat i + 1 = Int32.ofNat (i + 1) := i_add (b := 1)
  have h2 : Int32.ofNat i + 2 = Int32.ofNat (i + 2) := i_add (b := 2)
  have h3 : Int32.ofNat i + 3 = Int32.ofNat (i + 3) := i_add (b := 3)
  have y1 : ∀ w, ald 0 x w 1 9 (Int32.ofNat (i + 1)) = some (x.2 (i + 1)) := fun w => scr_l hx (by omega)
  have y2 : ∀ w, ald 0 x w 1 9 (Int32.ofNat (i + 2)) = some (x.2 (i + 2)) := fun w => scr_l hx (by omega)
  have y3 : ∀ w, ald 0 x w 1 9 (Int32.ofNat (i + 3)) = some (x.2 (i + 3)) := fun w => scr_l hx (by omega)
  obtain ⟨r, w1, n1, w2, n2, B', e, E1, E2, k227, hn, hl, hF⟩ := SM_of hS hO (p74 (x := x) (n := n)  hV)
  refine ⟨a6, a7, a8, a9, w2, n2, B', e, ?_, hn, hl, hF⟩
  simp only [csN, csm_i, csm_r, Nat.reduceAdd, Nat.reduceLeDiff, wdI, wdR, wdN, clM_0, clC_0, clC_1, clC_6, clC_8, true_or, or_true, i10, i01, ob_some, ob_map, cal_v, rvs_some, rvs_none, XO_at, cal_x, lw338_2323, lw338_2324, lw338_2327, lw338_2328, lw338_2331, lw338_2334, lw338_2335, h1, h2, h3, y1, y2, y3, k64, E1, k227, E2, if_true]
theorem lc_40 {a6 a7 a8 a9 : Option Value} (hx : x.1 ≤ 2048) (hi : i + 4 ≤ x.1) (hB : B < 2147483648) (hF : FVe B w n e0) : LC x 2336 i a6 a7 a8 a9 w n B := by
  obtain ⟨m, s, t, y, hs, le, lf, F, K, sc, c, q, cs, hV, hS, hO, -⟩ := hF
  have k64 := (WD_64 hV.1).2.1
  have h1 : Int32.ofNat i + 1 = Int32.ofNat (i + 1) := i_add (b := 1)
  have h2 : Int32.ofNat i + 2 = Int32.ofNat (i + 2) := i_add (b := 2)
  have h3 : Int32.ofNat i + 3 = Int32.ofNat (i + 3) := i_add (b := 3)
  have y1 : ∀ w, ald 0 x w 1 9 (Int32.ofNat (i + 1)) = some (x.2 (i + 1)) := fun w => scr_l hx (by omega)
  have y2 : ∀ w, ald 0 x w 1 9 (Int32.ofNat (i + 2)) = some (x.2 (i + 2)) := fun w => scr_l hx (by omega)
  have y3 : ∀ w, ald 0 x w 1 9 (Int32.ofNat (i + 3)) = some (x.2 (i + 3)) := fun w => scr_l hx (by omega)
  obtain ⟨r, w1, n1, w2, n2, B', e, E1, E2, k227, hn, hl, hF⟩ := SM_of hS hO (p75 (x := x) (n := n)  hV)
  refine ⟨a6, a7, a8, a9, w2, n2, B', e, ?_, hn, hl, hF⟩
  simp only [csN, csm_i, csm_r, Nat.reduceAdd, Nat.reduceLeDiff, wdI, wdR, wdN, clM_0, clC_0, clC_1, clC_6, clC_8, true_or, or_true, i10, i01, ob_some, ob_map, cal_v, rvs_some, rvs_none, XO_at, cal_x, lw338_2336, lw338_2337, lw338_2340, lw338_2341, lw338_2344, lw338_2347, lw338_2348, h1, h2, h3, y1, y2, y3, k64, E1, k227, E2, if_true]
end LWC
