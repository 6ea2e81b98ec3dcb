/-! THE LAW: its calls, part 4 -/
section LWC
set_option maxRecDepth 20000
variable {x : SX} {i n B : Nat} {w : PW} {e0 : Int32}
theorem lc_41 {a6 a7 a8 a9 : Option Value} (hx : x.1 ≤ 2048) (hi : i + 4 ≤ x.1) (hB : B < 2147483648) (hF : FVe B w n e0) : LC x 2349 i a6 a7 a8 a9 w n B := by
  obtain ⟨m, s, t, y, hs, le, lf, F, K, sc, c, q, cs, hV, hS, hO, -⟩ := hF
  have k64 := (WD_64 hV.1).2.1
  have h1 : Int32.ofNat i + 1 = Int32.ofNat (i + 1) := i_add (b := 1)
  have h2 : Int32.ofNat i + 2 = Int32.ofNat (i + 2) := i_add (b := 2)
  have h3 : Int32.ofNat i + 3 = Int32.ofNat (i + 3) := i_add (b := 3)
  have y1 : ∀ w, ald 0 x w 1 9 (Int32.ofNat (i + 1)) = some (x.2 (i + 1)) := fun w => scr_l hx (by omega)
  have y2 : ∀ w, ald 0 x w 1 9 (Int32.ofNat (i + 2)) = some (x.2 (i + 2)) := fun w => scr_l hx (by omega)
  have y3 : ∀ w, ald 0 x w 1 9 (Int32.ofNat (i + 3)) = some (x.2 (i + 3)) := fun w => scr_l hx (by omega)
  obtain ⟨k227, d, w2, e, E1, E2, hd, hF⟩ := SMD_of (x := x) hV hS hO
  have hc := dcm_self hd
  refine ⟨some (.double d), none, some (.double d), none, w2, n, B, e, ?_, by omega, by omega, hF⟩
  have s1 : ∀ w, RC x 338 2353 [some (.ref 9), some (.ref 64), some (.ref 227), some (.ref 237), some (.ref 238), some (.int (Int32.ofNat i)), a6, a7, a8, a9] [.double d] w n = RC x 338 2355 [some (.ref 9), some (.ref 64), some (.ref 227), some (.ref 237), some (.ref 238), some (.int (Int32.ofNat i)), some (.double d), none, a8, a9] [] w n := fun w => lw338_2353 rfl
  have s2 : ∀ w, RC x 338 2359 [some (.ref 9), some (.ref 64), some (.ref 227), some (.ref 237), some (.ref 238), some (.int (Int32.ofNat i)), some (.double d), none, a8, a9] [.double d] w n = RC x 338 2361 [some (.ref 9), some (.ref 64), some (.ref 227), some (.ref 237), some (.ref 238), some (.int (Int32.ofNat i)), some (.double d), none, some (.double d), none] [] w n := fun w => lw338_2359 rfl
  simp only [csN, csm_i, csm_r, Nat.reduceAdd, Nat.reduceLeDiff, wdI, wdR, wdN, clM_0, clC_0, clC_1, clC_6, clC_8, true_or, or_true, i10, i01, ob_some, ob_map, cal_v, rvs_some, rvs_none, XO_at, cal_x, lw338_2349, lw338_2350, lw338_2355, lw338_2356, lw338_2361, lw338_2363, lw338_2365, lw338_2366, lw338_2369, lw338_2371, lw338_2373, lw338_2374, lw338_2377, lw338_2379, lw338_2381, lw338_2382, lw338_2385, lw338_2386, lw338_2387, h1, h2, h3, y1, y2, y3, k64, E1, s1, k227, E2, s2, hc, if_true]
theorem lc_42 {a6 a7 a8 a9 : Option Value} (hx : x.1 ≤ 2048) (hi : i + 4 ≤ x.1) (hB : B < 2147483648) (hF : FVe B w n e0) : LC x 2390 i a6 a7 a8 a9 w n B := by
  obtain ⟨m, s, t, y, hs, le, lf, F, K, sc, c, q, cs, hV, hS, hO, -⟩ := hF
  have k64 := (WD_64 hV.1).2.1
  have h1 : Int32.ofNat i + 1 = Int32.ofNat (i + 1) := i_add (b := 1)
  have h2 : Int32.ofNat i + 2 = Int32.ofNat (i + 2) := i_add (b := 2)
  have h3 : Int32.ofNat i + 3 = Int32.ofNat (i + 3) := i_add (b := 3)
  have y1 : ∀ w, ald 0 x w 1 9 (Int32.ofNat (i + 1)) = some (x.2 (i + 1)) := fun w => scr_l hx (by omega)
  have y2 : ∀ w, ald 0 x w 1 9 (Int32.ofNat (i + 2)) = some (x.2 (i + 2)) := fun w => scr_l hx (by omega)
  have y3 : ∀ w, ald 0 x w 1 9 (Int32.ofNat (i + 3)) = some (x.2 (i + 3)) := fun w => scr_l hx (by omega)
  obtain ⟨e, fv, w1, n1, w2, n2, B', E1, E2, k227, hn, hz, hl, hF⟩ := PRF_of hS hO (p329 (x := x) (n := n) (u := (x.2 (i + 1))) hV)
  obtain ⟨k2, e192⟩ := thr (x := x) hF
  refine ⟨some (.int e), some (.float fv), a8, a9, w2, n2, B', e, ?_, hn, hl, hF⟩
  by_cases he : e = 0
  · obtain ⟨hv, g, f1, f2⟩ := hz he
    have l0 := dld_0 f1
    rw [f2] at l0
    have hc := dcm_self hv
    subst he
    simp only [csN, csm_i, csm_r, Nat.reduceAdd, Nat.reduceLeDiff, wdI, wdR, wdN, clM_0, clC_0, clC_1, clC_6, clC_8, true_or, or_true, i10, i01, ob_some, ob_map, cal_v, rvs_some, rvs_none, XO_at, cal_x, lw338_2390, lw338_2391, lw338_2392, lw338_2394, lw338_2395, lw338_2396, lw338_2397, lw338_2399, lw338_2402, lw338_2404, lw338_2405, lw338_2406, lw338_2408, lw338_2409, lw338_2410, lw338_2411, lw338_2414, lw338_2416, lw338_2417, lw338_2420, lw338_2422, lw338_2425, lw338_2426, lw338_2427, lw338_2429, lw338_2432, lw338_2434, lw338_2435, lw338_2436, lw338_2438, lw338_2439, lw338_2440, lw338_2443, lw338_2445, lw338_2446, lw338_2447, lw338_2449, lw338_2450, lw338_2451, lw338_2452, lw338_2455, lw338_2457, lw338_2459, lw338_2460, lw338_2463, lw338_2464, lw338_2465, h1, h2, h3, y1, y2, y3, if_true, if_false, E1, k227, E2, k2, e192, l0, hv, hc]
  · simp only [csN, csm_i, csm_r, Nat.reduceAdd, Nat.reduceLeDiff, wdI, wdR, wdN, clM_0, clC_0, clC_1, clC_6, clC_8, true_or, or_true, i10, i01, ob_some, ob_map, cal_v, rvs_some, rvs_none, XO_at, cal_x, lw338_2390, lw338_2391, lw338_2392, lw338_2394, lw338_2395, lw338_2396, lw338_2397, lw338_2399, lw338_2402, lw338_2404, lw338_2405, lw338_2406, lw338_2408, lw338_2409, lw338_2410, lw338_2411, lw338_2414, lw338_2416, lw338_2417, lw338_2420, lw338_2422, lw338_2425, lw338_2426, lw338_2427, lw338_2429, lw338_2432, lw338_2434, lw338_2435, lw338_2436, lw338_2438, lw338_2439, lw338_2440, lw338_2443, lw338_2445, lw338_2446, lw338_2447, lw338_2449, lw338_2450, lw338_2451, lw338_2452, lw338_2455, lw338_2457, lw338_2459, lw338_2460, lw338_2463, lw338_2464, lw338_2465, h1, h2, h3, y1, y2, y3, if_true, if_false, E1, k227, E2, k2, e192, he]
theorem lc_43 {a6 a7 a8 a9 : Option Value} (hx : x.1 ≤ 2048) (hi : i + 4 ≤ x.1) (hB : B < 2147483648) (hF : FVe B w n e0) : LC x 2468 i a6 a7 a8 a9 w n B := by
  obtain ⟨m, s, t, y, hs, le, lf, F, K, sc, c, q, cs, hV, hS, hO, -⟩ := hF
  have k64 := (WD_64 hV.1).2.1
  have h1 : Int32.ofNat i + 1 = Int32.ofNat (i + 1) := i_add (b := 1)
  have h2 : Int32.ofNat i + 2 = Int32.ofNat (i + 2) := i_add (b := 2)
  have h3 : Int32.ofNat i + 3 = Int32.ofNat (i + 3) := i_add (b := 3)
  have y1 : ∀ w, ald 0 x w 1 9 (Int32.ofNat (i + 1)) = some (x.2 (i + 1)) := fun w => scr_l hx (by omega)
  have y2 : ∀ w, ald 0 x w 1 9 (Int32.ofNat (i + 2)) = some (x.2 (i + 2)) := fun w => scr_l hx (by omega)
  have y3 : ∀ w, ald 0 x w 1 9 (Int32.ofNat (i + 3)) = some (x.2 (i + 3)) := fun w => scr_l hx (by omega)
  obtain ⟨r, w1, n1, w2, n2, B', e, E1, E2, k227, hn, hl, hF⟩ := SM_of hS hO (p78 (x := x) (n := n)  hV)
  refine ⟨a6, a7, a8, a9, w2, n2, B', e, ?_, hn, hl, hF⟩
  simp only [csN, csm_i, csm_r, Nat.reduceAdd, Nat.reduceLeDiff, wdI, wdR, wdN, clM_0, clC_0, clC_1, clC_6, clC_8, true_or, or_true, i10, i01, ob_some, ob_map, cal_v, rvs_some, rvs_none, XO_at, cal_x, lw338_2468, lw338_2469, lw338_2472, lw338_2473, lw338_2476, lw338_2479, lw338_2480, h1, h2, h3, y1, y2, y3, k64, E1, k227, E2, if_true]
theorem lc_44 {a6 a7 a8 a9 : Option Value} (hx : x.1 ≤ 2048) (hi : i + 4 ≤ x.1) (hB : B < 2147483648) (hF : FVe B w n e0) : LC x 2481 i a6 a7 a8 a9 w n B := by
  obtain ⟨m, s, t, y, hs, le, lf, F, K, sc, c, q, cs, hV, hS, hO, -⟩ := hF
  have k64 := (WD_64 hV.1).2.1
  have h1 : Int32.ofNat i + 1 = Int32.ofNat (i + 1) := i_add (b := 1)
  have h2 : Int32.ofNat i + 2 = Int32.ofNat (i + 2) := i_add (b := 2)
  have h3 : Int32.ofNat i + 3 = Int32.ofNat (i + 3) := i_add (b := 3)
  have y1 : ∀ w, ald 0 x w 1 9 (Int32.ofNat (i + 1)) = some (x.2 (i + 1)) := fun w => scr_l hx (by omega)
  have y2 : ∀ w, ald 0 x w 1 9 (Int32.ofNat (i + 2)) = some (x.2 (i + 2)) := fun w => scr_l hx (by omega)
  have y3 : ∀ w, ald 0 x w 1 9 (Int32.ofNat (i + 3)) = some (x.2 (i + 3)) := fun w => scr_l hx (by omega)
  obtain ⟨e, r, w1, n1, w2, n2, B', E1, E2, k227, hn, hz, hl, hF⟩ := p330 (x := x) (n := n) (u := (x.2 (i + 1))) hV hS hO
  obtain ⟨k2, e192⟩ := thr (x := x) hF
  refine ⟨some (.int e), some (.int r), a8, a9, w2, n2, B', e, ?_, hn, hl, hF⟩
  by_cases he : e = 0
  · obtain ⟨f, f1, f2⟩ := hz he
    have l0 := lld_0 f1
    rw [f2] at l0
    subst he
    simp only [csN, csm_i, csm_r, Nat.reduceAdd, Nat.reduceLeDiff, wdI, wdR, wdN, clM_0, clC_0, clC_1, clC_6, clC_8, true_or, or_true, i10, i01, ob_some, ob_map, cal_v, rvs_some, rvs_none, XO_at, cal_x, lw338_2481, lw338_2482, lw338_2483, lw338_2485, lw338_2486, lw338_2487, lw338_2488, lw338_2489, lw338_2492, lw338_2494, lw338_2495, lw338_2496, lw338_2498, lw338_2499, lw338_2500, lw338_2501, lw338_2504, lw338_2506, lw338_2507, lw338_2510, lw338_2512, lw338_2515, lw338_2516, lw338_2517, lw338_2519, lw338_2522, lw338_2523, lw338_2524, lw338_2525, lw338_2527, lw338_2528, lw338_2529, lw338_2532, lw338_2533, lw338_2534, h1, h2, h3, y1, y2, y3, if_true, if_false, E1, k227, E2, k2, e192, l0, lg_self]
  · skip
    simp only [csN, csm_i, csm_r, Nat.reduceAdd, Nat.reduceLeDiff, wdI, wdR, wdN, clM_0, clC_0, clC_1, clC_6, clC_8, true_or, or_true, i10, i01, ob_some, ob_map, cal_v, rvs_some, rvs_none, XO_at, cal_x, lw338_2481, lw338_2482, lw338_2483, lw338_2485, lw338_2486, lw338_2487, lw338_2488, lw338_2489, lw338_2492, lw338_2494, lw338_2495, lw338_2496, lw338_2498, lw338_2499, lw338_2500, lw338_2501, lw338_2504, lw338_2506, lw338_2507, lw338_2510, lw338_2512, lw338_2515, lw338_2516, lw338_2517, lw338_2519, lw338_2522, lw338_2523, lw338_2524, lw338_2525, lw338_2527, lw338_2528, lw338_2529, lw338_2532, lw338_2533, lw338_2534, h1, h2, h3, y1, y2, y3, if_true, if_false, E1, k227, E2, k2, e192, he]
theorem lc_45 {a6 a7 a8 a9 : Option Value} (hx : x.1 ≤ 2048) (hi : i + 4 ≤ x.1) (hB : B < 2147483648) (hF : FVe B w n e0) : LC x 2537 i a6 a7 a8 a9 w n B := by
  obtain ⟨m, s, t, y, hs, le, lf, F, K, sc, c, q, cs, hV, hS, hO, -⟩ := hF
  have k64 := (WD_64 hV.1).2.1
  have h1 : Int32.ofNat i + 1 = Int32.ofNat (i + 1) := i_add (b := 1)
  have h2 : Int32.ofNat i + 2 = Int32.ofNat (i + 2) := i_add (b := 2)
  have h3 : Int32.ofNat i + 3 = Int32.ofNat (i + 3) := i_add (b := 3)
  have y1 : ∀ w, ald 0 x w 1 9 (Int32.ofNat (i + 1)) = some (x.2 (i + 1)) := fun w => scr_l hx (by omega)
  have y2 : ∀ w, ald 0 x w 1 9 (Int32.ofNat (i + 2)) = some (x.2 (i + 2)) := fun w => scr_l hx (by omega)
  have y3 : ∀ w, ald 0 x w 1 9 (Int32.ofNat (i + 3)) = some (x.2 (i + 3)) := fun w => scr_l hx (by omega)
  obtain ⟨r, w1, n1, w2, n2, B', e, E1, E2, k227, hn, hl, hF⟩ := p80 (x := x) (n := n)  hV hS hO
  refine ⟨a6, a7, a8, a9, w2, n2, B', e, ?_, hn, hl, hF⟩
  simp only [csN, csm_i, csm_r, Nat.reduceAdd, Nat.reduceLeDiff, wdI, wdR, wdN, clM_0, clC_0, clC_1, clC_6, clC_8, true_or, or_true, i10, i01, ob_some, ob_map, cal_v, rvs_some, rvs_none, XO_at, cal_x, lw338_2537, lw338_2538, lw338_2541, lw338_2542, lw338_2545, lw338_2548, lw338_2549, h1, h2, h3, y1, y2, y3, k64, E1, k227, E2, if_true]
theorem lc_46 {a6 a7 a8 a9 : Option Value} (hx : x.1 ≤ 2048) (hi : i + 4 ≤ x.1) (hB : B < 2147483648) (hF : FVe B w n e0) : LC x 2550 i a6 a7 a8 a9 w n B := by
  obtain ⟨m, s, t, y, hs, le, lf, F, K, sc, c, q, cs, hV, hS, hO, -⟩ := hF
  have k64 := (WD_64 hV.1).2.1
  have h1 : Int32.ofNat i + 1 = Int32.ofNat (i + 1) := i_add (b := 1)
  have h2 : Int32.ofNat i + 2 = Int32.ofNat (i + 2) := i_add (b := 2)
  have h3 : Int32.ofNat i + 3 = Int32.ofNat (i + 3) := i_add (b := 3)
  have y1 : ∀ w, ald 0 x w 1 9 (Int32.ofNat (i + 1)) = some (x.2 (i + 1)) := fun w => scr_l hx (by omega)
  have y2 : ∀ w, ald 0 x w 1 9 (Int32.ofNat (i + 2)) = some (x.2 (i + 2)) := fun w => scr_l hx (by omega)
  have y3 : ∀ w, ald 0 x w 1 9 (Int32.ofNat (i + 3)) = some (x.2 (i + 3)) := fun w => scr_l hx (by omega)
  obtain ⟨e, r, w1, n1, w2, n2, B', E1, E2, k227, hn, hz, hl, hF⟩ := p331 (x := x) (n := n) (u := (x.2 (i + 1))) hV hS hO
  obtain ⟨k2, e192⟩ := thr (x := x) hF
  refine ⟨some (.int e), some (.int r), a8, a9, w2, n2, B', e, ?_, hn, hl, hF⟩
  by_cases he : e = 0
  · obtain ⟨f, f1, f2⟩ := hz he
    have l0 := lld_0 f1
    rw [f2] at l0
    subst he
    simp only [csN, csm_i, csm_r, Nat.reduceAdd, Nat.reduceLeDiff, wdI, wdR, wdN, clM_0, clC_0, clC_1, clC_6, clC_8, true_or, or_true, i10, i01, ob_some, ob_map, cal_v, rvs_some, rvs_none, XO_at, cal_x, lw338_2550, lw338_2551, lw338_2552, lw338_2554, lw338_2555, lw338_2556, lw338_2557, lw338_2558, lw338_2561, lw338_2563, lw338_2564, lw338_2565, lw338_2567, lw338_2568, lw338_2569, lw338_2570, lw338_2573, lw338_2575, lw338_2576, lw338_2579, lw338_2581, lw338_2584, lw338_2585, lw338_2586, lw338_2588, lw338_2591, lw338_2592, lw338_2593, lw338_2594, lw338_2596, lw338_2597, lw338_2598, lw338_2601, lw338_2602, lw338_2603, h1, h2, h3, y1, y2, y3, if_true, if_false, E1, k227, E2, k2, e192, l0, lg_self]
  · skip
    simp only [csN, csm_i, csm_r, Nat.reduceAdd, Nat.reduceLeDiff, wdI, wdR, wdN, clM_0, clC_0, clC_1, clC_6, clC_8, true_or, or_true, i10, i01, ob_some, ob_map, cal_v, rvs_some, rvs_none, XO_at, cal_x, lw338_2550, lw338_2551, lw338_2552, lw338_2554, lw338_2555, lw338_2556, lw338_2557, lw338_2558, lw338_2561, lw338_2563, lw338_2564, lw338_2565, lw338_2567, lw338_2568, lw338_2569, lw338_2570, lw338_2573, lw338_2575, lw338_2576, lw338_2579, lw338_2581, lw338_2584, lw338_2585, lw338_2586, lw338_2588, lw338_2591, lw338_2592, lw338_2593, lw338_2594, lw338_2596, lw338_2597, lw338_2598, lw338_2601, lw338_2602, lw338_2603, h1, h2, h3, y1, y2, y3, if_true, if_false, E1, k227, E2, k2, e192, he]
theorem lc_47 {a6 a7 a8 a9 : Option Value} (hx : x.1 ≤ 2048) (hi : i + 4 ≤ x.1) (hB : B < 2147483648) (hF : FVe B w n e0) : LC x 2606 i a6 a7 a8 a9 w n B := by
  obtain ⟨m, s, t, y, hs, le, lf, F, K, sc, c, q, cs, hV, hS, hO, -⟩ := hF
  have k64 := (WD_64 hV.1).2.1
  have h1 : Int32.ofNat i + 1 = Int32.ofNat (i + 1) := i_add (b := 1)
  have h2 : Int32.ofNat i + 2 = Int32.ofNat (i + 2) := i_add (b := 2)
  have h3 : Int32.ofNat i + 3 = Int32.ofNat (i + 3) := i_add (b := 3)
  have y1 : ∀ w, ald 0 x w 1 9 (Int32.ofNat (i + 1)) = some (x.2 (i + 1)) := fun w => scr_l hx (by omega)
  have y2 : ∀ w, ald 0 x w 1 9 (Int32.ofNat (i + 2)) = some (x.2 (i + 2)) := fun w => scr_l hx (by omega)
  have y3 : ∀ w, ald 0 x w 1 9 (Int32.ofNat (i + 3)) = some (x.2 (i + 3)) := fun w => scr_l hx (by omega)
  obtain ⟨e, r, w1, n1, w2, n2, B', E1, E2, k227, hn, hz, hl, hF⟩ := PRS_of hO (p332 (x := x) (n := n) (v := ((x.2 (i + 1)).toUInt32 % 65536).toInt32) hV hS)
  obtain ⟨k2, e192⟩ := thr (x := x) hF
  refine ⟨some (.int e), some (.int r), a8, a9, w2, n2, B', e, ?_, hn, hl, hF⟩
  by_cases he : e = 0
  · obtain ⟨f, f1, f2⟩ := hz he
    have l0 := lld_0 f1
    rw [f2] at l0
    subst he
    simp only [csN, csm_i, csm_r, Nat.reduceAdd, Nat.reduceLeDiff, wdI, wdR, wdN, clM_0, clC_0, clC_1, clC_6, clC_8, true_or, or_true, i10, i01, ob_some, ob_map, cal_v, rvs_some, rvs_none, XO_at, cal_x, lw338_2606, lw338_2607, lw338_2608, lw338_2610, lw338_2611, lw338_2612, lw338_2613, lw338_2614, lw338_2615, lw338_2618, lw338_2620, lw338_2621, lw338_2622, lw338_2624, lw338_2625, lw338_2626, lw338_2627, lw338_2628, lw338_2631, lw338_2633, lw338_2634, lw338_2637, lw338_2639, lw338_2642, lw338_2643, lw338_2644, lw338_2646, lw338_2649, lw338_2650, lw338_2651, lw338_2652, lw338_2654, lw338_2655, lw338_2656, lw338_2659, lw338_2660, lw338_2661, h1, h2, h3, y1, y2, y3, if_true, if_false, E1, k227, E2, k2, e192, l0, lg_self]
  · skip
    simp only [csN, csm_i, csm_r, Nat.reduceAdd, Nat.reduceLeDiff, wdI, wdR, wdN, clM_0, clC_0, clC_1, clC_6, clC_8, true_or, or_true, i10, i01, ob_some, ob_map, cal_v, rvs_some, rvs_none, XO_at, cal_x, lw338_2606, lw338_2607, lw338_2608, lw338_2610, lw338_2611, lw338_2612, lw338_2613, lw338_2614, lw338_2615, lw338_2618, lw338_2620, lw338_2621, lw338_2622, lw338_2624, lw338_2625, lw338_2626, lw338_2627, lw338_2628, lw338_2631, lw338_2633, lw338_2634, lw338_2637, lw338_2639, lw338_2642, lw338_2643, lw338_2644, lw338_2646, lw338_2649, lw338_2650, lw338_2651, lw338_2652, lw338_2654, lw338_2655, lw338_2656, lw338_2659, lw338_2660, lw338_2661, h1, h2, h3, y1, y2, y3, if_true, if_false, E1, k227, E2, k2, e192, he]
theorem lc_48 {a6 a7 a8 a9 : Option Value} (hx : x.1 ≤ 2048) (hi : i + 4 ≤ x.1) (hB : B < 2147483648) (hF : FVe B w n e0) : LC x 2664 i a6 a7 a8 a9 w n B := by
  obtain ⟨m, s, t, y, hs, le, lf, F, K, sc, c, q, cs, hV, hS, hO, -⟩ := hF
  have k64 := (WD_64 hV.1).2.1
  have h1 : Int32.ofNat i + 1 = Int32.ofNat (i + 1) := i_add (b := 1)
  have h2 : Int32.ofNat i + 2 = Int32.ofNat (i + 2) := i_add (b := 2)
  have h3 : Int32.ofNat i + 3 = Int32.ofNat (i + 3) := i_add (b := 3)
  have y1 : ∀ w, ald 0 x w 1 9 (Int32.ofNat (i + 1)) = some (x.2 (i + 1)) := fun w => scr_l hx (by omega)
  have y2 : ∀ w, ald 0 x w 1 9 (Int32.ofNat (i + 2)) = some (x.2 (i + 2)) := fun w => scr_l hx (by omega)
  have y3 : ∀ w, ald 0 x w 1 9 (Int32.ofNat (i + 3)) = some (x.2 (i + 3)) := fun w => scr_l hx (by omega)
  obtain ⟨e, r, w1, n1, w2, n2, B', E1, E2, k227, hn, hz, hl, hF⟩ := PRS_of hO (p333 (x := x) (n := n)  hV hS)
  obtain ⟨k2, e192⟩ := thr (x := x) hF
  refine ⟨some (.int e), some (.int r), a8, a9, w2, n2, B', e, ?_, hn, hl, hF⟩
  by_cases he : e = 0
  · obtain ⟨f, f1, f2⟩ := hz he
    have l0 := lld_0 f1
    rw [f2] at l0
    subst he
    simp only [csN, csm_i, csm_r, Nat.reduceAdd, Nat.reduceLeDiff, wdI, wdR, wdN, clM_0, clC_0, clC_1, clC_6, clC_8, true_or, or_true, i10, i01, ob_some, ob_map, cal_v, rvs_some, rvs_none, XO_at, cal_x, lw338_2664, lw338_2665, lw338_2666, lw338_2669, lw338_2671, lw338_2672, lw338_2675, lw338_2677, lw338_2678, lw338_2681, lw338_2683, lw338_2686, lw338_2687, lw338_2688, lw338_2690, lw338_2693, lw338_2694, lw338_2695, lw338_2696, lw338_2698, lw338_2699, lw338_2700, lw338_2703, lw338_2704, lw338_2705, h1, h2, h3, y1, y2, y3, if_true, if_false, E1, k227, E2, k2, e192, l0, lg_self]
  · skip
    simp only [csN, csm_i, csm_r, Nat.reduceAdd, Nat.reduceLeDiff, wdI, wdR, wdN, clM_0, clC_0, clC_1, clC_6, clC_8, true_or, or_true, i10, i01, ob_some, ob_map, cal_v, rvs_some, rvs_none, XO_at, cal_x, lw338_2664, lw338_2665, lw338_2666, lw338_2669, lw338_2671, lw338_2672, lw338_2675, lw338_2677, lw338_2678, lw338_2681, lw338_2683, lw338_2686, lw338_2687, lw338_2688, lw338_2690, lw338_2693, lw338_2694, lw338_2695, lw338_2696, lw338_2698, lw338_2699, lw338_2700, lw338_2703, lw338_2704, lw338_2705, h1, h2, h3, y1, y2, y3, if_true, if_false, E1, k227, E2, k2, e192, he]
theorem lc_49 {a6 a7 a8 a9 : Option Value} (hx : x.1 ≤ 2048) (hi : i + 4 ≤ x.1) (hB : B < 2147483648) (hF : FVe B w n e0) : LC x 2708 i a6 a7 a8 a9 w n B := by
  obtain ⟨m, s, t, y, hs, le, lf, F, K, sc, c, q, cs, hV, hS, hO, -⟩ := hF
  have k64 := (WD_64 hV.1).2.1
  have h1 : Int32.ofNat i + 1 = Int32.ofNat (i + 1) := i_add (b := 1)
  have h2 : Int32.ofNat i + 2 = Int32.ofNat (i + 2) := i_add (b := 2)
  have h3 : Int32.ofNat i + 3 = Int32.ofNat (i + 3) := i_add (b := 3)
  have y1 : ∀ w, ald 0 x w 1 9 (Int32.ofNat (i + 1)) = some (x.2 (i + 1)) := fun w => scr_l hx (by omega)
  have y2 : ∀ w, ald 0 x w 1 9 (Int32.ofNat (i + 2)) = some (x.2 (i + 2)) := fun w => scr_l hx (by omega)
  have y3 : ∀ w, ald 0 x w 1 9 (Int32.ofNat (i + 3)) = some (x.2 (i + 3)) := fun w => scr_l hx (by omega)
  obtain ⟨e, r, w1, n1, w2, n2, B', E1, E2, k227, hn, hz, hl, hF⟩ := PR_of hS hO (p334 (x := x) (n := n)  hV hS)
  obtain ⟨k2, e192⟩ := thr (x := x) hF
  refine ⟨some (.int e), some (.int r), a8, a9, w2, n2, B', e, ?_, hn, hl, hF⟩
  by_cases he : e = 0
  · obtain ⟨f, f1, f2⟩ := hz he
    have l0 := lld_0 f1
    rw [f2] at l0
    subst he
    simp only [csN, csm_i, csm_r, Nat.reduceAdd, Nat.reduceLeDiff, wdI, wdR, wdN, clM_0, clC_0, clC_1, clC_6, clC_8, true_or, or_true, i10, i01, ob_some, ob_map, cal_v, rvs_some, rvs_none, XO_at, cal_x, lw338_2708, lw338_2709, lw338_2710, lw338_2713, lw338_2715, lw338_2716, lw338_2719, lw338_2721, lw338_2722, lw338_2725, lw338_2727, lw338_2730, lw338_2731, lw338_2732, lw338_2734, lw338_2737, lw338_2738, lw338_2739, lw338_2740, lw338_2742, lw338_2743, lw338_2744, lw338_2747, lw338_2748, lw338_2749, h1, h2, h3, y1, y2, y3, if_true, if_false, E1, k227, E2, k2, e192, l0, lg_self]
  · skip
    simp only [csN, csm_i, csm_r, Nat.reduceAdd, Nat.reduceLeDiff, wdI, wdR, wdN, clM_0, clC_0, clC_1, clC_6, clC_8, true_or, or_true, i10, i01, ob_some, ob_map, cal_v, rvs_some, rvs_none, XO_at, cal_x, lw338_2708, lw338_2709, lw338_2710, lw338_2713, lw338_2715, lw338_2716, lw338_2719, lw338_2721, lw338_2722, lw338_2725, lw338_2727, lw338_2730, lw338_2731, lw338_2732, lw338_2734, lw338_2737, lw338_2738, lw338_2739, lw338_2740, lw338_2742, lw338_2743, lw338_2744, lw338_2747, lw338_2748, lw338_2749, h1, h2, h3, y1, y2, y3, if_true, if_false, E1, k227, E2, k2, e192, he]
theorem lc_50 {a6 a7 a8 a9 : Option Value} (hx : x.1 ≤ 2048) (hi : i + 4 ≤ x.1) (hB : B < 2147483648) (hF : FVe B w n e0) : LC x 2752 i a6 a7 a8 a9 w n B := by
  obtain ⟨m, s, t, y, hs, le, lf, F, K, sc, c, q, cs, hV, hS, hO, -⟩ := hF
  have k64 := (WD_64 hV.1).2.1
  have h1 : Int32.ofNat i + 1 = Int32.ofNat (i + 1) := i_add (b := 1)
  have h2 : Int32.ofNat i + 2 = Int32.ofNat (i + 2) := i_add (b := 2)
  have h3 : Int32.ofNat i + 3 = Int32.ofNat (i + 3) := i_add (b := 3)
  have y1 : ∀ w, ald 0 x w 1 9 (Int32.ofNat (i + 1)) = some (x.2 (i + 1)) := fun w => scr_l hx (by omega)
  have y2 : ∀ w, ald 0 x w 1 9 (Int32.ofNat (i + 2)) = some (x.2 (i + 2)) := fun w => scr_l hx (by omega)
  have y3 : ∀ w, ald 0 x w 1 9 (Int32.ofNat (i + 3)) = some (x.2 (i + 3)) := fun w => scr_l hx (by omega)
  obtain ⟨e, r, w1, n1, w2, n2, B', E1, E2, k227, hn, hz, hl, hF⟩ := PR_of hS hO (p335 (x := x) (n := n)  hV hS)
  obtain ⟨k2, e192⟩ := thr (x := x) hF
  refine ⟨some (.int e), some (.int r), a8, a9, w2, n2, B', e, ?_, hn, hl, hF⟩
  by_cases he : e = 0
  · obtain ⟨f, f1, f2⟩ := hz he
    have l0 := lld_0 f1
    rw [f2] at l0
    subst he
    simp only [csN, csm_i, csm_r, Nat.reduceAdd, Nat.reduceLeDiff, wdI, wdR, wdN, clM_0, clC_0, clC_1, clC_6, clC_8, true_or, or_true, i10, i01, ob_some, ob_map, cal_v, rvs_some, rvs_none, XO_at, cal_x, lw338_2752, lw338_2753, lw338_2754, lw338_2757, lw338_2759, lw338_2760, lw338_2763, lw338_2765, lw338_2766, lw338_2769, lw338_2771, lw338_2774, lw338_2775, lw338_2776, lw338_2778, lw338_2781, lw338_2782, lw338_2783, lw338_2784, lw338_2786, lw338_2787, lw338_2788, lw338_2791, lw338_2792, lw338_2793, h1, h2, h3, y1, y2, y3, if_true, if_false, E1, k227, E2, k2, e192, l0, lg_self]
  · skip
    simp only [csN, csm_i, csm_r, Nat.reduceAdd, Nat.reduceLeDiff, wdI, wdR, wdN, clM_0, clC_0, clC_1, clC_6, clC_8, true_or, or_true, i10, i01, ob_some, ob_map, cal_v, rvs_some, rvs_none, XO_at, cal_x, lw338_2752, lw338_2753, lw338_2754, lw338_2757, lw338_2759, lw338_2760, lw338_2763, lw338_2765, lw338_2766, lw338_2769, lw338_2771, lw338_2774, lw338_2775, lw338_2776, lw338_2778, lw338_2781, lw338_2782, lw338_2783, lw338_2784, lw338_2786, lw338_2787, lw338_2788, lw338_2791, lw338_2792, lw338_2793, h1, h2, h3, y1, y2, y3, if_true, if_false, E1, k227, E2, k2, e192, he]
theorem lc_51 {a6 a7 a8 a9 : Option Value} (hx : x.1 ≤ 2048) (hi : i + 4 ≤ x.1) (hB : B < 2147483648) (hF : FVe B w n e0) : LC x 2796 i a6 a7 a8 a9 w n B := by
  obtain ⟨m, s, t, y, hs, le, lf, F, K, sc, c, q, cs, hV, hS, hO, -⟩ := hF
  have k64 := (WD_64 hV.1).2.1
  have h1 : Int32.ofNat i + 1 = Int32.ofNat (i + 1) := i_add (b := 1)
  have h2 : Int32.ofNat i + 2 = Int32.ofNat (i + 2) := i_add (b := 2)
  have h3 : Int32.ofNat i + 3 = Int32.ofNat (i + 3) := i_add (b := 3)
  have y1 : ∀ w, ald 0 x w 1 9 (Int32.ofNat (i + 1)) = some (x.2 (i + 1)) := fun w => scr_l hx (by omega)
  have y2 : ∀ w, ald 0 x w 1 9 (Int32.ofNat (i + 2)) = some (x.2 (i + 2)) := fun w => scr_l hx (by omega)
  have y3 : ∀ w, ald 0 x w 1 9 (Int32.ofNat (i + 3)) = some (x.2 (i + 3)) := fun w => scr_l hx (by omega)
  obtain ⟨e, r, w1, n1, w2, n2, B', E1, E2, k227, hn, hz, hl, hF⟩ := PR_of hS hO (p336 (x := x) (n := n)  hV)
  obtain ⟨k2, e192⟩ := thr (x := x) hF
  refine ⟨some (.int e), some (.int r), a8, a9, w2, n2, B', e, ?_, hn, hl, hF⟩
  by_cases he : e = 0
  · obtain ⟨f, f1, f2⟩ := hz he
    have l0 := lld_0 f1
    rw [f2] at l0
    subst he
    simp only [csN, csm_i, csm_r, Nat.reduceAdd, Nat.reduceLeDiff, wdI, wdR, wdN, clM_0, clC_0, clC_1, clC_6, clC_8, true_or, or_true, i10, i01, ob_some, ob_map, cal_v, rvs_some, rvs_none, XO_at, cal_x, lw338_2796, lw338_2797, lw338_2798, lw338_2801, lw338_2803, lw338_2804, lw338_2807, lw338_2809, lw338_2810, lw338_2813, lw338_2815, lw338_2818, lw338_2819, lw338_2820, lw338_2822, lw338_2825, lw338_2826, lw338_2827, lw338_2828, lw338_2830, lw338_2831, lw338_2832, lw338_2835, lw338_2836, lw338_2837, h1, h2, h3, y1, y2, y3, if_true, if_false, E1, k227, E2, k2, e192, l0, lg_self]
  · skip
    simp only [csN, csm_i, csm_r, Nat.reduceAdd, Nat.reduceLeDiff, wdI, wdR, wdN, clM_0, clC_0, clC_1, clC_6, clC_8, true_or, or_true, i10, i01, ob_some, ob_map, cal_v, rvs_some, rvs_none, XO_at, cal_x, lw338_2796, lw338_2797, lw338_2798, lw338_2801, lw338_2803, lw338_2804, lw338_2807, lw338_2809, lw338_2810, lw338_2813, lw338_2815, lw338_2818, lw338_2819, lw338_2820, lw338_2822, lw338_2825, lw338_2826, lw338_2827, lw338_2828, lw338_2830, lw338_2831, lw338_2832, lw338_2835, lw338_2836, lw338_2837, h1, h2, h3, y1, y2, y3, if_true, if_false, E1, k227, E2, k2, e192, he]
theorem lc_52 {a6 a7 a8 a9 : Option Value} (hx : x.1 ≤ 2048) (hi : i + 4 ≤ x.1) (hB : B < 2147483648) (hF : FVe B w n e0) : LC x 2840 i a6 a7 a8 a9 w n B := by
  obtain ⟨m, s, t, y, hs, le, lf, F, K, sc, c, q, cs, hV, hS, hO, -⟩ := hF
  have k64 := (WD_64 hV.1).2.1
  have h1 : Int32.ofNat i + 1 = Int32.ofNat (i + 1) := i_add (b := 1)
  have h2 : Int32.ofNat i + 2 = Int32.ofNat (i + 2) := i_add (b := 2)
  have h3 : Int32.ofNat i + 3 = Int32.ofNat (i + 3) := i_add (b := 3)
  have y1 : ∀ w, ald 0 x w 1 9 (Int32.ofNat (i + 1)) = some (x.2 (i + 1)) := fun w => scr_l hx (by omega)
  have y2 : ∀ w, ald 0 x w 1 9 (Int32.ofNat (i + 2)) = some (x.2 (i + 2)) := fun w => scr_l hx (by omega)
  have y3 : ∀ w, ald 0 x w 1 9 (Int32.ofNat (i + 3)) = some (x.2 (i + 3)) := fun w => scr_l hx (by omega)
  obtain ⟨r, w1, n1, w2, n2, B', e, E1, E2, k227, hn, hl, hF⟩ := SM_of hS hO (p87 (x := x) (n := n)  hV)
  refine ⟨a6, a7, a8, a9, w2, n2, B', e, ?_, hn, hl, hF⟩
  simp only [csN, csm_i, csm_r, Nat.reduceAdd, Nat.reduceLeDiff, wdI, wdR, wdN, clM_0, clC_0, clC_1, clC_6, clC_8, true_or, or_true, i10, i01, ob_some, ob_map, cal_v, rvs_some, rvs_none, XO_at, cal_x, lw338_2840, lw338_2841, lw338_2844, lw338_2845, lw338_2848, lw338_2851, lw338_2852, h1, h2, h3, y1, y2, y3, k64, E1, k227, E2, if_true]
theorem lc_53 {a6 a7 a8 a9 : Option Value} (hx : x.1 ≤ 2048) (hi : i + 4 ≤ x.1) (hB : B < 2147483648) (hF : FVe B w n e0) : LC x 2853 i a6 a7 a8 a9 w n B := by
  obtain ⟨m, s, t, y, hs, le, lf, F, K, sc, c, q, cs, hV, hS, hO, -⟩ := hF
  have k64 := (WD_64 hV.1).2.1
  have h1 : Int32.ofNat i + 1 = Int32.ofNat (i + 1) := i_add (b := 1)
  have h2 : Int32.ofNat i + 2 = Int32.ofNat (i + 2) := i_add (b := 2)
  have h3 : Int32.ofNat i + 3 = Int32.ofNat (i + 3) := i_add (b := 3)
  have y1 : ∀ w, ald 0 x w 1 9 (Int32.ofNat (i + 1)) = some (x.2 (i + 1)) := fun w => scr_l hx (by omega)
  have y2 : ∀ w, ald 0 x w 1 9 (Int32.ofNat (i + 2)) = some (x.2 (i + 2)) := fun w => scr_l hx (by omega)
  have y3 : ∀ w, ald 0 x w 1 9 (Int32.ofNat (i + 3)) = some (x.2 (i + 3)) := fun w => scr_l hx (by omega)
  obtain ⟨e, r, w1, n1, w2, n2, B', E1, E2, k227, hn, hz, hl, hF⟩ := PR_of hS hO (p337 (x := x) (n := n)  hV)
  obtain ⟨k2, e192⟩ := thr (x := x) hF
  refine ⟨some (.int e), some (.int r), a8, a9, w2, n2, B', e, ?_, hn, hl, hF⟩
  by_cases he : e = 0
  · obtain ⟨f, f1, f2⟩ := hz he
    have l0 := lld_0 f1
    rw [f2] at l0
    subst he
    simp only [csN, csm_i, csm_r, Nat.reduceAdd, Nat.reduceLeDiff, wdI, wdR, wdN, clM_0, clC_0, clC_1, clC_6, clC_8, true_or, or_true, i10, i01, ob_some, ob_map, cal_v, rvs_some, rvs_none, XO_at, cal_x, lw338_2853, lw338_2854, lw338_2855, lw338_2858, lw338_2860, lw338_2861, lw338_2864, lw338_2866, lw338_2867, lw338_2870, lw338_2872, lw338_2875, lw338_2876, lw338_2877, lw338_2879, lw338_2882, lw338_2883, lw338_2884, lw338_2885, lw338_2887, lw338_2888, lw338_2889, lw338_2892, lw338_2893, lw338_2894, h1, h2, h3, y1, y2, y3, if_true, if_false, E1, k227, E2, k2, e192, l0, lg_self]
  · skip
    simp only [csN, csm_i, csm_r, Nat.reduceAdd, Nat.reduceLeDiff, wdI, wdR, wdN, clM_0, clC_0, clC_1, clC_6, clC_8, true_or, or_true, i10, i01, ob_some, ob_map, cal_v, rvs_some, rvs_none, XO_at, cal_x, lw338_2853, lw338_2854, lw338_2855, lw338_2858, lw338_2860, lw338_2861, lw338_2864, lw338_2866, lw338_2867, lw338_2870, lw338_2872, lw338_2875, lw338_2876, lw338_2877, lw338_2879, lw338_2882, lw338_2883, lw338_2884, lw338_2885, lw338_2887, lw338_2888, lw338_2889, lw338_2892, lw338_2893, lw338_2894, h1, h2, h3, y1, y2, y3, if_true, if_false, E1, k227, E2, k2, e192, he]
end LWC
