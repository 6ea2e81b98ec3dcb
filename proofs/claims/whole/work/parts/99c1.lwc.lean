/-! THE LAW: its calls, part 1 -/
section LWC
set_option maxRecDepth 20000
variable {x : SX} {i n B : Nat} {w : PW} {e0 : Int32}
/-- from a call's code to behind it -/
def LC (x : SX) (pc i : Nat) (a6 a7 a8 a9 : Option Value) (w : PW) (n B : Nat) : Prop := ∃ b6 b7 b8 b9 w' n' B' e, RC x 338 pc [some (.ref 9), some (.ref 64), some (.ref 227), some (.ref 237), some (.ref 238), some (.int (Int32.ofNat i)), a6, a7, a8, a9] [] w n = RC x 338 2897 [some (.ref 9), some (.ref 64), some (.ref 227), some (.ref 237), some (.ref 238), some (.int (Int32.ofNat i)), b6, b7, b8, b9] [] w' n' ∧ n' ≤ n + 2 ∧ B' ≤ B + 64 ∧ FVe B' w' n' e
theorem scr_l {j : Nat} (hx : x.1 ≤ 2048) (hj : j < x.1) : ald 0 x w 1 9 (Int32.ofNat j) = some (x.2 j) := by
  unfold ald rowI
  rw [if_pos rfl, show extA x 9 = some (0, x.1, x.2) from rfl]
  dsimp only
  rw [if_pos rfl, fin_nat hj (by omega)]
  rfl
theorem lld_0 {f : Nat → Int64} (h : w 237 = some (lcl f)) : lld w 237 0 = some (f 0) := by
  unfold lld
  rw [h]
  show (fin 1 0).map f = _
  rw [fin_lit (by decide) (by decide)]
  rfl
theorem dld_0 {g : Nat → UInt64} (h : w 238 = some (dcl g)) : dld w 238 0 = some (g 0) := by
  unfold dld
  rw [h]
  show (fin 1 0).map g = _
  rw [fin_lit (by decide) (by decide)]
  rfl
theorem lg_self {v : Int64} : lg_cmp v v = 0 := by
  unfold lg_cmp
  simp
theorem thr {e : Int32} (h : FVe B w n e) : clo w 227 = some 7 ∧ RM x 192 [.ref 227] w n = some (.inl (some (.int e)), w, n) := by
  obtain ⟨m, s, t, y, hs, le, lf, F, K, sc, c, q, cs, hV, hS, hO, h13⟩ := h
  refine ⟨clM hV.2.1, ?_⟩
  have g : gfd w 7 13 227 = some (.int e) := by
    rw [← hV.2.1, gM_0_13, h13]
  simp only [csN, csm_i, csm_r, Nat.reduceAdd, Nat.reduceLeDiff, wdI, wdR, wdN, clM_0, clC_0, clC_1, clC_6, clC_8, true_or, or_true, i10, i01, ob_some, ob_map, cal_v, rvs_some, rvs_none, XO_at, cal_x, m192, r192_0, r192_1, r192_4, g]
theorem lc_0 {a6 a7 a8 a9 : Option Value} (hx : x.1 ≤ 2048) (hi : i + 4 ≤ x.1) (hB : B < 2147483648) (hF : FVe B w n e0) : LC x 276 i a6 a7 a8 a9 w n B := by
  obtain ⟨m, s, t, y, hs, le, lf, F, K, sc, c, q, cs, hV, hS, hO, -⟩ := hF
  have k64 := (WD_64 hV.1).2.1
  have h1 : Int32.ofNat i + 1 = Int32.ofNat (i + 1) := i_add (b := 1)
  have h2 : Int32.ofNat i + 2 = Int32.ofNat (i + 2) := i_add (b := 2)
  have h3 : Int32.ofNat i + 3 = Int32.ofNat (i + 3) := i_add (b := 3)
  have y1 : ∀ w, ald 0 x w 1 9 (Int32.ofNat (i + 1)) = some (x.2 (i + 1)) := fun w => scr_l hx (by omega)
  have y2 : ∀ w, ald 0 x w 1 9 (Int32.ofNat (i + 2)) = some (x.2 (i + 2)) := fun w => scr_l hx (by omega)
  have y3 : ∀ w, ald 0 x w 1 9 (Int32.ofNat (i + 3)) = some (x.2 (i + 3)) := fun w => scr_l hx (by omega)
  obtain ⟨e, r, w1, n1, w2, n2, B', E1, E2, k227, hn, hz, hl, hF⟩ := PR_of hS hO (p298 (x := x) (n := n) (u := (x.2 (i + 1))) (v := (x.2 (i + 2))) (d := !decide (x.2 (i + 3) = 0)) hV)
  have hb : bi (!decide (x.2 (i + 3) = 0)) = if x.2 (i + 3) = 0 then 0 else 1 := by
    by_cases h : x.2 (i + 3) = 0
    · rw [if_pos h, decide_eq_true h]; rfl
    · rw [if_neg h, decide_eq_false h]; rfl
  obtain ⟨k2, e192⟩ := thr (x := x) hF
  refine ⟨some (.int e), some (.int r), a8, a9, w2, n2, B', e, ?_, hn, hl, hF⟩
  by_cases he : e = 0
  · obtain ⟨f, f1, f2⟩ := hz he
    have l0 := lld_0 f1
    rw [f2] at l0
    subst he
    by_cases hq : x.2 (i + 3) = 0
    · rw [if_pos hq] at hb
      rw [hb] at E1 E2
      simp only [csN, csm_i, csm_r, Nat.reduceAdd, Nat.reduceLeDiff, wdI, wdR, wdN, clM_0, clC_0, clC_1, clC_6, clC_8, true_or, or_true, i10, i01, ob_some, ob_map, cal_v, rvs_some, rvs_none, XO_at, cal_x, lw338_276, lw338_277, lw338_278, lw338_280, lw338_281, lw338_282, lw338_283, lw338_284, lw338_286, lw338_287, lw338_288, lw338_289, lw338_290, lw338_292, lw338_293, lw338_294, lw338_295, lw338_298, lw338_299, lw338_302, lw338_303, lw338_304, lw338_307, lw338_309, lw338_310, lw338_311, lw338_313, lw338_314, lw338_315, lw338_316, lw338_317, lw338_319, lw338_320, lw338_321, lw338_322, lw338_323, lw338_325, lw338_326, lw338_327, lw338_328, lw338_331, lw338_332, lw338_335, lw338_336, lw338_339, lw338_341, lw338_342, lw338_345, lw338_347, lw338_350, lw338_351, lw338_352, lw338_354, lw338_357, lw338_358, lw338_359, lw338_360, lw338_362, lw338_363, lw338_364, lw338_367, lw338_368, lw338_369, h1, h2, h3, y1, y2, y3, hq, if_true, if_false, E1, k227, E2, k2, e192, l0, lg_self]
    · rw [if_neg hq] at hb
      rw [hb] at E1 E2
      simp only [csN, csm_i, csm_r, Nat.reduceAdd, Nat.reduceLeDiff, wdI, wdR, wdN, clM_0, clC_0, clC_1, clC_6, clC_8, true_or, or_true, i10, i01, ob_some, ob_map, cal_v, rvs_some, rvs_none, XO_at, cal_x, lw338_276, lw338_277, lw338_278, lw338_280, lw338_281, lw338_282, lw338_283, lw338_284, lw338_286, lw338_287, lw338_288, lw338_289, lw338_290, lw338_292, lw338_293, lw338_294, lw338_295, lw338_298, lw338_299, lw338_302, lw338_303, lw338_304, lw338_307, lw338_309, lw338_310, lw338_311, lw338_313, lw338_314, lw338_315, lw338_316, lw338_317, lw338_319, lw338_320, lw338_321, lw338_322, lw338_323, lw338_325, lw338_326, lw338_327, lw338_328, lw338_331, lw338_332, lw338_335, lw338_336, lw338_339, lw338_341, lw338_342, lw338_345, lw338_347, lw338_350, lw338_351, lw338_352, lw338_354, lw338_357, lw338_358, lw338_359, lw338_360, lw338_362, lw338_363, lw338_364, lw338_367, lw338_368, lw338_369, h1, h2, h3, y1, y2, y3, hq, if_true, if_false, E1, k227, E2, k2, e192, l0, lg_self]
  · skip
    by_cases hq : x.2 (i + 3) = 0
    · rw [if_pos hq] at hb
      rw [hb] at E1 E2
      simp only [csN, csm_i, csm_r, Nat.reduceAdd, Nat.reduceLeDiff, wdI, wdR, wdN, clM_0, clC_0, clC_1, clC_6, clC_8, true_or, or_true, i10, i01, ob_some, ob_map, cal_v, rvs_some, rvs_none, XO_at, cal_x, lw338_276, lw338_277, lw338_278, lw338_280, lw338_281, lw338_282, lw338_283, lw338_284, lw338_286, lw338_287, lw338_288, lw338_289, lw338_290, lw338_292, lw338_293, lw338_294, lw338_295, lw338_298, lw338_299, lw338_302, lw338_303, lw338_304, lw338_307, lw338_309, lw338_310, lw338_311, lw338_313, lw338_314, lw338_315, lw338_316, lw338_317, lw338_319, lw338_320, lw338_321, lw338_322, lw338_323, lw338_325, lw338_326, lw338_327, lw338_328, lw338_331, lw338_332, lw338_335, lw338_336, lw338_339, lw338_341, lw338_342, lw338_345, lw338_347, lw338_350, lw338_351, lw338_352, lw338_354, lw338_357, lw338_358, lw338_359, lw338_360, lw338_362, lw338_363, lw338_364, lw338_367, lw338_368, lw338_369, h1, h2, h3, y1, y2, y3, hq, if_true, if_false, E1, k227, E2, k2, e192, he]
    · rw [if_neg hq] at hb
      rw [hb] at E1 E2
      simp only [csN, csm_i, csm_r, Nat.reduceAdd, Nat.reduceLeDiff, wdI, wdR, wdN, clM_0, clC_0, clC_1, clC_6, clC_8, true_or, or_true, i10, i01, ob_some, ob_map, cal_v, rvs_some, rvs_none, XO_at, cal_x, lw338_276, lw338_277, lw338_278, lw338_280, lw338_281, lw338_282, lw338_283, lw338_284, lw338_286, lw338_287, lw338_288, lw338_289, lw338_290, lw338_292, lw338_293, lw338_294, lw338_295, lw338_298, lw338_299, lw338_302, lw338_303, lw338_304, lw338_307, lw338_309, lw338_310, lw338_311, lw338_313, lw338_314, lw338_315, lw338_316, lw338_317, lw338_319, lw338_320, lw338_321, lw338_322, lw338_323, lw338_325, lw338_326, lw338_327, lw338_328, lw338_331, lw338_332, lw338_335, lw338_336, lw338_339, lw338_341, lw338_342, lw338_345, lw338_347, lw338_350, lw338_351, lw338_352, lw338_354, lw338_357, lw338_358, lw338_359, lw338_360, lw338_362, lw338_363, lw338_364, lw338_367, lw338_368, lw338_369, h1, h2, h3, y1, y2, y3, hq, if_true, if_false, E1, k227, E2, k2, e192, he]
theorem lc_1 {a6 a7 a8 a9 : Option Value} (hx : x.1 ≤ 2048) (hi : i + 4 ≤ x.1) (hB : B < 2147483648) (hF : FVe B w n e0) : LC x 372 i a6 a7 a8 a9 w n B := by
  obtain ⟨m, s, t, y, hs, le, lf, F, K, sc, c, q, cs, hV, hS, hO, -⟩ := hF
  have k64 := (WD_64 hV.1).2.1
  have h1 : Int32.ofNat i + 1 = Int32.ofNat (i + 1) := i_add (b := 1)
  have h2 : Int32.ofNat i + 2 = Int32.ofNat (i + 2) := i_add (b := 2)
  have h3 : Int32.ofNat i + 3 = Int32.ofNat (i + 3) := i_add (b := 3)
  have y1 : ∀ w, ald 0 x w 1 9 (Int32.ofNat (i + 1)) = some (x.2 (i + 1)) := fun w => scr_l hx (by omega)
  have y2 : ∀ w, ald 0 x w 1 9 (Int32.ofNat (i + 2)) = some (x.2 (i + 2)) := fun w => scr_l hx (by omega)
  have y3 : ∀ w, ald 0 x w 1 9 (Int32.ofNat (i + 3)) = some (x.2 (i + 3)) := fun w => scr_l hx (by omega)
  obtain ⟨e, r, w1, n1, w2, n2, B', E1, E2, k227, hn, hz, hl, hF⟩ := PR_of hS hO (p299 (x := x) (n := n) (u := (x.2 (i + 1))) (v := (x.2 (i + 2))) (z := (x.2 (i + 3))) hV)
  obtain ⟨k2, e192⟩ := thr (x := x) hF
  refine ⟨some (.int e), some (.int r), a8, a9, w2, n2, B', e, ?_, hn, hl, hF⟩
  by_cases he : e = 0
  · obtain ⟨f, f1, f2⟩ := hz he
    have l0 := lld_0 f1
    rw [f2] at l0
    subst he
    simp only [csN, csm_i, csm_r, Nat.reduceAdd, Nat.reduceLeDiff, wdI, wdR, wdN, clM_0, clC_0, clC_1, clC_6, clC_8, true_or, or_true, i10, i01, ob_some, ob_map, cal_v, rvs_some, rvs_none, XO_at, cal_x, lw338_372, lw338_373, lw338_374, lw338_376, lw338_377, lw338_378, lw338_379, lw338_380, lw338_382, lw338_383, lw338_384, lw338_385, lw338_386, lw338_388, lw338_389, lw338_390, lw338_391, lw338_392, lw338_395, lw338_397, lw338_398, lw338_399, lw338_401, lw338_402, lw338_403, lw338_404, lw338_405, lw338_407, lw338_408, lw338_409, lw338_410, lw338_411, lw338_413, lw338_414, lw338_415, lw338_416, lw338_419, lw338_421, lw338_422, lw338_425, lw338_427, lw338_430, lw338_431, lw338_432, lw338_434, lw338_437, lw338_438, lw338_439, lw338_440, lw338_442, lw338_443, lw338_444, lw338_447, lw338_448, lw338_449, h1, h2, h3, y1, y2, y3, if_true, if_false, E1, k227, E2, k2, e192, l0, lg_self]
  · skip
    simp only [csN, csm_i, csm_r, Nat.reduceAdd, Nat.reduceLeDiff, wdI, wdR, wdN, clM_0, clC_0, clC_1, clC_6, clC_8, true_or, or_true, i10, i01, ob_some, ob_map, cal_v, rvs_some, rvs_none, XO_at, cal_x, lw338_372, lw338_373, lw338_374, lw338_376, lw338_377, lw338_378, lw338_379, lw338_380, lw338_382, lw338_383, lw338_384, lw338_385, lw338_386, lw338_388, lw338_389, lw338_390, lw338_391, lw338_392, lw338_395, lw338_397, lw338_398, lw338_399, lw338_401, lw338_402, lw338_403, lw338_404, lw338_405, lw338_407, lw338_408, lw338_409, lw338_410, lw338_411, lw338_413, lw338_414, lw338_415, lw338_416, lw338_419, lw338_421, lw338_422, lw338_425, lw338_427, lw338_430, lw338_431, lw338_432, lw338_434, lw338_437, lw338_438, lw338_439, lw338_440, lw338_442, lw338_443, lw338_444, lw338_447, lw338_448, lw338_449, h1, h2, h3, y1, y2, y3, if_true, if_false, E1, k227, E2, k2, e192, he]
theorem lc_2 {a6 a7 a8 a9 : Option Value} (hx : x.1 ≤ 2048) (hi : i + 4 ≤ x.1) (hB : B < 2147483648) (hF : FVe B w n e0) : LC x 452 i a6 a7 a8 a9 w n B := by
  obtain ⟨m, s, t, y, hs, le, lf, F, K, sc, c, q, cs, hV, hS, hO, -⟩ := hF
  have k64 := (WD_64 hV.1).2.1
  have h1 : Int32.ofNat i + 1 = Int32.ofNat (i + 1) := i_add (b := 1)
  have h2 : Int32.ofNat i + 2 = Int32.ofNat (i + 2) := i_add (b := 2)
  have h3 : Int32.ofNat i + 3 = Int32.ofNat (i + 3) := i_add (b := 3)
  have y1 : ∀ w, ald 0 x w 1 9 (Int32.ofNat (i + 1)) = some (x.2 (i + 1)) := fun w => scr_l hx (by omega)
  have y2 : ∀ w, ald 0 x w 1 9 (Int32.ofNat (i + 2)) = some (x.2 (i + 2)) := fun w => scr_l hx (by omega)
  have y3 : ∀ w, ald 0 x w 1 9 (Int32.ofNat (i + 3)) = some (x.2 (i + 3)) := fun w => scr_l hx (by omega)
  obtain ⟨e, r, w1, n1, w2, n2, B', E1, E2, k227, hn, hz, hl, hF⟩ := PR_of hS hO (p300 (x := x) (n := n) (u := (x.2 (i + 1))) (v := (x.2 (i + 2))) hV)
  obtain ⟨k2, e192⟩ := thr (x := x) hF
  refine ⟨some (.int e), some (.int r), a8, a9, w2, n2, B', e, ?_, hn, hl, hF⟩
  by_cases he : e = 0
  · obtain ⟨f, f1, f2⟩ := hz he
    have l0 := lld_0 f1
    rw [f2] at l0
    subst he
    simp only [csN, csm_i, csm_r, Nat.reduceAdd, Nat.reduceLeDiff, wdI, wdR, wdN, clM_0, clC_0, clC_1, clC_6, clC_8, true_or, or_true, i10, i01, ob_some, ob_map, cal_v, rvs_some, rvs_none, XO_at, cal_x, lw338_452, lw338_453, lw338_454, lw338_456, lw338_457, lw338_458, lw338_459, lw338_460, lw338_462, lw338_463, lw338_464, lw338_465, lw338_466, lw338_469, lw338_471, lw338_472, lw338_473, lw338_475, lw338_476, lw338_477, lw338_478, lw338_479, lw338_481, lw338_482, lw338_483, lw338_484, lw338_487, lw338_489, lw338_490, lw338_493, lw338_495, lw338_498, lw338_499, lw338_500, lw338_502, lw338_505, lw338_506, lw338_507, lw338_508, lw338_510, lw338_511, lw338_512, lw338_515, lw338_516, lw338_517, h1, h2, h3, y1, y2, y3, if_true, if_false, E1, k227, E2, k2, e192, l0, lg_self]
  · skip
    simp only [csN, csm_i, csm_r, Nat.reduceAdd, Nat.reduceLeDiff, wdI, wdR, wdN, clM_0, clC_0, clC_1, clC_6, clC_8, true_or, or_true, i10, i01, ob_some, ob_map, cal_v, rvs_some, rvs_none, XO_at, cal_x, lw338_452, lw338_453, lw338_454, lw338_456, lw338_457, lw338_458, lw338_459, lw338_460, lw338_462, lw338_463, lw338_464, lw338_465, lw338_466, lw338_469, lw338_471, lw338_472, lw338_473, lw338_475, lw338_476, lw338_477, lw338_478, lw338_479, lw338_481, lw338_482, lw338_483, lw338_484, lw338_487, lw338_489, lw338_490, lw338_493, lw338_495, lw338_498, lw338_499, lw338_500, lw338_502, lw338_505, lw338_506, lw338_507, lw338_508, lw338_510, lw338_511, lw338_512, lw338_515, lw338_516, lw338_517, h1, h2, h3, y1, y2, y3, if_true, if_false, E1, k227, E2, k2, e192, he]
theorem lc_3 {a6 a7 a8 a9 : Option Value} (hx : x.1 ≤ 2048) (hi : i + 4 ≤ x.1) (hB : B < 2147483648) (hF : FVe B w n e0) : LC x 520 i a6 a7 a8 a9 w n B := by
  obtain ⟨m, s, t, y, hs, le, lf, F, K, sc, c, q, cs, hV, hS, hO, -⟩ := hF
  have k64 := (WD_64 hV.1).2.1
  have h1 : Int32.ofNat i + 1 = Int32.ofNat (i + 1) := i_add (b := 1)
  have h2 : Int32.ofNat i + 2 = Int32.ofNat (i + 2) := i_add (b := 2)
  have h3 : Int32.ofNat i + 3 = Int32.ofNat (i + 3) := i_add (b := 3)
  have y1 : ∀ w, ald 0 x w 1 9 (Int32.ofNat (i + 1)) = some (x.2 (i + 1)) := fun w => scr_l hx (by omega)
  have y2 : ∀ w, ald 0 x w 1 9 (Int32.ofNat (i + 2)) = some (x.2 (i + 2)) := fun w => scr_l hx (by omega)
  have y3 : ∀ w, ald 0 x w 1 9 (Int32.ofNat (i + 3)) = some (x.2 (i + 3)) := fun w => scr_l hx (by omega)
  obtain ⟨e, r, w1, n1, w2, n2, B', E1, E2, k227, hn, hz, hl, hF⟩ := PR_of hS hO (p301 (x := x) (n := n) (u := (x.2 (i + 1))) (v := ((x.2 (i + 2)).toUInt32 % 65536).toInt32) hV)
  obtain ⟨k2, e192⟩ := thr (x := x) hF
  refine ⟨some (.int e), some (.int r), a8, a9, w2, n2, B', e, ?_, hn, hl, hF⟩
  by_cases he : e = 0
  · obtain ⟨f, f1, f2⟩ := hz he
    have l0 := lld_0 f1
    rw [f2] at l0
    subst he
    simp only [csN, csm_i, csm_r, Nat.reduceAdd, Nat.reduceLeDiff, wdI, wdR, wdN, clM_0, clC_0, clC_1, clC_6, clC_8, true_or, or_true, i10, i01, ob_some, ob_map, cal_v, rvs_some, rvs_none, XO_at, cal_x, lw338_520, lw338_521, lw338_522, lw338_524, lw338_525, lw338_526, lw338_527, lw338_528, lw338_530, lw338_531, lw338_532, lw338_533, lw338_534, lw338_535, lw338_538, lw338_540, lw338_541, lw338_542, lw338_544, lw338_545, lw338_546, lw338_547, lw338_548, lw338_550, lw338_551, lw338_552, lw338_553, lw338_554, lw338_557, lw338_559, lw338_560, lw338_563, lw338_565, lw338_568, lw338_569, lw338_570, lw338_572, lw338_575, lw338_576, lw338_577, lw338_578, lw338_580, lw338_581, lw338_582, lw338_585, lw338_586, lw338_587, h1, h2, h3, y1, y2, y3, if_true, if_false, E1, k227, E2, k2, e192, l0, lg_self]
  · skip
    simp only [csN, csm_i, csm_r, Nat.reduceAdd, Nat.reduceLeDiff, wdI, wdR, wdN, clM_0, clC_0, clC_1, clC_6, clC_8, true_or, or_true, i10, i01, ob_some, ob_map, cal_v, rvs_some, rvs_none, XO_at, cal_x, lw338_520, lw338_521, lw338_522, lw338_524, lw338_525, lw338_526, lw338_527, lw338_528, lw338_530, lw338_531, lw338_532, lw338_533, lw338_534, lw338_535, lw338_538, lw338_540, lw338_541, lw338_542, lw338_544, lw338_545, lw338_546, lw338_547, lw338_548, lw338_550, lw338_551, lw338_552, lw338_553, lw338_554, lw338_557, lw338_559, lw338_560, lw338_563, lw338_565, lw338_568, lw338_569, lw338_570, lw338_572, lw338_575, lw338_576, lw338_577, lw338_578, lw338_580, lw338_581, lw338_582, lw338_585, lw338_586, lw338_587, h1, h2, h3, y1, y2, y3, if_true, if_false, E1, k227, E2, k2, e192, he]
theorem lc_4 {a6 a7 a8 a9 : Option Value} (hx : x.1 ≤ 2048) (hi : i + 4 ≤ x.1) (hB : B < 2147483648) (hF : FVe B w n e0) : LC x 590 i a6 a7 a8 a9 w n B := by
  obtain ⟨m, s, t, y, hs, le, lf, F, K, sc, c, q, cs, hV, hS, hO, -⟩ := hF
  have k64 := (WD_64 hV.1).2.1
  have h1 : Int32.ofNat i + 1 = Int32.ofNat (i + 1) := i_add (b := 1)
  have h2 : Int32.ofNat i + 2 = Int32.ofNat (i + 2) := i_add (b := 2)
  have h3 : Int32.ofNat i + 3 = Int32.ofNat (i + 3) := i_add (b := 3)
  have y1 : ∀ w, ald 0 x w 1 9 (Int32.ofNat (i + 1)) = some (x.2 (i + 1)) := fun w => scr_l hx (by omega)
  have y2 : ∀ w, ald 0 x w 1 9 (Int32.ofNat (i + 2)) = some (x.2 (i + 2)) := fun w => scr_l hx (by omega)
  have y3 : ∀ w, ald 0 x w 1 9 (Int32.ofNat (i + 3)) = some (x.2 (i + 3)) := fun w => scr_l hx (by omega)
  obtain ⟨e, r, w1, n1, w2, n2, B', E1, E2, k227, hn, hz, hl, hF⟩ := PR_of hS hO (p302 (x := x) (n := n) (u := (x.2 (i + 1))) hV)
  obtain ⟨k2, e192⟩ := thr (x := x) hF
  refine ⟨some (.int e), some (.int r), a8, a9, w2, n2, B', e, ?_, hn, hl, hF⟩
  by_cases he : e = 0
  · obtain ⟨f, f1, f2⟩ := hz he
    have l0 := lld_0 f1
    rw [f2] at l0
    subst he
    simp only [csN, csm_i, csm_r, Nat.reduceAdd, Nat.reduceLeDiff, wdI, wdR, wdN, clM_0, clC_0, clC_1, clC_6, clC_8, true_or, or_true, i10, i01, ob_some, ob_map, cal_v, rvs_some, rvs_none, XO_at, cal_x, lw338_590, lw338_591, lw338_592, lw338_594, lw338_595, lw338_596, lw338_597, lw338_598, lw338_601, lw338_603, lw338_604, lw338_605, lw338_607, lw338_608, lw338_609, lw338_610, lw338_613, lw338_615, lw338_616, lw338_619, lw338_621, lw338_624, lw338_625, lw338_626, lw338_628, lw338_631, lw338_632, lw338_633, lw338_634, lw338_636, lw338_637, lw338_638, lw338_641, lw338_642, lw338_643, h1, h2, h3, y1, y2, y3, if_true, if_false, E1, k227, E2, k2, e192, l0, lg_self]
  · skip
    simp only [csN, csm_i, csm_r, Nat.reduceAdd, Nat.reduceLeDiff, wdI, wdR, wdN, clM_0, clC_0, clC_1, clC_6, clC_8, true_or, or_true, i10, i01, ob_some, ob_map, cal_v, rvs_some, rvs_none, XO_at, cal_x, lw338_590, lw338_591, lw338_592, lw338_594, lw338_595, lw338_596, lw338_597, lw338_598, lw338_601, lw338_603, lw338_604, lw338_605, lw338_607, lw338_608, lw338_609, lw338_610, lw338_613, lw338_615, lw338_616, lw338_619, lw338_621, lw338_624, lw338_625, lw338_626, lw338_628, lw338_631, lw338_632, lw338_633, lw338_634, lw338_636, lw338_637, lw338_638, lw338_641, lw338_642, lw338_643, h1, h2, h3, y1, y2, y3, if_true, if_false, E1, k227, E2, k2, e192, he]
theorem lc_5 {a6 a7 a8 a9 : Option Value} (hx : x.1 ≤ 2048) (hi : i + 4 ≤ x.1) (hB : B < 2147483648) (hF : FVe B w n e0) : LC x 646 i a6 a7 a8 a9 w n B := by
  obtain ⟨m, s, t, y, hs, le, lf, F, K, sc, c, q, cs, hV, hS, hO, -⟩ := hF
  have k64 := (WD_64 hV.1).2.1
  have h1 : Int32.ofNat i + 1 = Int32.ofNat (i + 1) := i_add (b := 1)
  have h2 : Int32.ofNat i + 2 = Int32.ofNat (i + 2) := i_add (b := 2)
  have h3 : Int32.ofNat i + 3 = Int32.ofNat (i + 3) := i_add (b := 3)
  have y1 : ∀ w, ald 0 x w 1 9 (Int32.ofNat (i + 1)) = some (x.2 (i + 1)) := fun w => scr_l hx (by omega)
  have y2 : ∀ w, ald 0 x w 1 9 (Int32.ofNat (i + 2)) = some (x.2 (i + 2)) := fun w => scr_l hx (by omega)
  have y3 : ∀ w, ald 0 x w 1 9 (Int32.ofNat (i + 3)) = some (x.2 (i + 3)) := fun w => scr_l hx (by omega)
  obtain ⟨e, r, w1, n1, w2, n2, B', E1, E2, k227, hn, hz, hl, hF⟩ := PR_of hS hO (p303 (x := x) (n := n) (u := (x.2 (i + 1))) (v := (x.2 (i + 2))) hV)
  obtain ⟨k2, e192⟩ := thr (x := x) hF
  refine ⟨some (.int e), some (.int r), a8, a9, w2, n2, B', e, ?_, hn, hl, hF⟩
  by_cases he : e = 0
  · obtain ⟨f, f1, f2⟩ := hz he
    have l0 := lld_0 f1
    rw [f2] at l0
    subst he
    simp only [csN, csm_i, csm_r, Nat.reduceAdd, Nat.reduceLeDiff, wdI, wdR, wdN, clM_0, clC_0, clC_1, clC_6, clC_8, true_or, or_true, i10, i01, ob_some, ob_map, cal_v, rvs_some, rvs_none, XO_at, cal_x, lw338_646, lw338_647, lw338_648, lw338_650, lw338_651, lw338_652, lw338_653, lw338_654, lw338_656, lw338_657, lw338_658, lw338_659, lw338_660, lw338_663, lw338_665, lw338_666, lw338_667, lw338_669, lw338_670, lw338_671, lw338_672, lw338_673, lw338_675, lw338_676, lw338_677, lw338_678, lw338_681, lw338_683, lw338_684, lw338_687, lw338_689, lw338_692, lw338_693, lw338_694, lw338_696, lw338_699, lw338_700, lw338_701, lw338_702, lw338_704, lw338_705, lw338_706, lw338_709, lw338_710, lw338_711, h1, h2, h3, y1, y2, y3, if_true, if_false, E1, k227, E2, k2, e192, l0, lg_self]
  · skip
    simp only [csN, csm_i, csm_r, Nat.reduceAdd, Nat.reduceLeDiff, wdI, wdR, wdN, clM_0, clC_0, clC_1, clC_6, clC_8, true_or, or_true, i10, i01, ob_some, ob_map, cal_v, rvs_some, rvs_none, XO_at, cal_x, lw338_646, lw338_647, lw338_648, lw338_650, lw338_651, lw338_652, lw338_653, lw338_654, lw338_656, lw338_657, lw338_658, lw338_659, lw338_660, lw338_663, lw338_665, lw338_666, lw338_667, lw338_669, lw338_670, lw338_671, lw338_672, lw338_673, lw338_675, lw338_676, lw338_677, lw338_678, lw338_681, lw338_683, lw338_684, lw338_687, lw338_689, lw338_692, lw338_693, lw338_694, lw338_696, lw338_699, lw338_700, lw338_701, lw338_702, lw338_704, lw338_705, lw338_706, lw338_709, lw338_710, lw338_711, h1, h2, h3, y1, y2, y3, if_true, if_false, E1, k227, E2, k2, e192, he]
theorem lc_6 {a6 a7 a8 a9 : Option Value} (hx : x.1 ≤ 2048) (hi : i + 4 ≤ x.1) (hB : B < 2147483648) (hF : FVe B w n e0) : LC x 714 i a6 a7 a8 a9 w n B := by
  obtain ⟨m, s, t, y, hs, le, lf, F, K, sc, c, q, cs, hV, hS, hO, -⟩ := hF
  have k64 := (WD_64 hV.1).2.1
  have h1 : Int32.ofNat i + 1 = Int32.ofNat (i + 1) := i_add (b := 1)
  have h2 : Int32.ofNat i + 2 = Int32.ofNat (i + 2) := i_add (b := 2)
  have h3 : Int32.ofNat i + 3 = Int32.ofNat (i + 3) := i_add (b := 3)
  have y1 : ∀ w, ald 0 x w 1 9 (Int32.ofNat (i + 1)) = some (x.2 (i + 1)) := fun w => scr_l hx (by omega)
  have y2 : ∀ w, ald 0 x w 1 9 (Int32.ofNat (i + 2)) = some (x.2 (i + 2)) := fun w => scr_l hx (by omega)
  have y3 : ∀ w, ald 0 x w 1 9 (Int32.ofNat (i + 3)) = some (x.2 (i + 3)) := fun w => scr_l hx (by omega)
  obtain ⟨e, r, w1, n1, w2, n2, B', E1, E2, k227, hn, hz, hl, hF⟩ := PR_of hS hO (p304 (x := x) (n := n) (u := (x.2 (i + 1))) hV)
  obtain ⟨k2, e192⟩ := thr (x := x) hF
  refine ⟨some (.int e), some (.int r), a8, a9, w2, n2, B', e, ?_, hn, hl, hF⟩
  by_cases he : e = 0
  · obtain ⟨f, f1, f2⟩ := hz he
    have l0 := lld_0 f1
    rw [f2] at l0
    subst he
    simp only [csN, csm_i, csm_r, Nat.reduceAdd, Nat.reduceLeDiff, wdI, wdR, wdN, clM_0, clC_0, clC_1, clC_6, clC_8, true_or, or_true, i10, i01, ob_some, ob_map, cal_v, rvs_some, rvs_none, XO_at, cal_x, lw338_714, lw338_715, lw338_716, lw338_718, lw338_719, lw338_720, lw338_721, lw338_722, lw338_725, lw338_727, lw338_728, lw338_729, lw338_731, lw338_732, lw338_733, lw338_734, lw338_737, lw338_739, lw338_740, lw338_743, lw338_745, lw338_748, lw338_749, lw338_750, lw338_752, lw338_755, lw338_756, lw338_757, lw338_758, lw338_760, lw338_761, lw338_762, lw338_765, lw338_766, lw338_767, h1, h2, h3, y1, y2, y3, if_true, if_false, E1, k227, E2, k2, e192, l0, lg_self]
  · skip
    simp only [csN, csm_i, csm_r, Nat.reduceAdd, Nat.reduceLeDiff, wdI, wdR, wdN, clM_0, clC_0, clC_1, clC_6, clC_8, true_or, or_true, i10, i01, ob_some, ob_map, cal_v, rvs_some, rvs_none, XO_at, cal_x, lw338_714, lw338_715, lw338_716, lw338_718, lw338_719, lw338_720, lw338_721, lw338_722, lw338_725, lw338_727, lw338_728, lw338_729, lw338_731, lw338_732, lw338_733, lw338_734, lw338_737, lw338_739, lw338_740, lw338_743, lw338_745, lw338_748, lw338_749, lw338_750, lw338_752, lw338_755, lw338_756, lw338_757, lw338_758, lw338_760, lw338_761, lw338_762, lw338_765, lw338_766, lw338_767, h1, h2, h3, y1, y2, y3, if_true, if_false, E1, k227, E2, k2, e192, he]
theorem lc_7 {a6 a7 a8 a9 : Option Value} (hx : x.1 ≤ 2048) (hi : i + 4 ≤ x.1) (hB : B < 2147483648) (hF : FVe B w n e0) : LC x 770 i a6 a7 a8 a9 w n B := by
  obtain ⟨m, s, t, y, hs, le, lf, F, K, sc, c, q, cs, hV, hS, hO, -⟩ := hF
  have k64 := (WD_64 hV.1).2.1
  have h1 : Int32.ofNat i + 1 = Int32.ofNat (i + 1) := i_add (b := 1)
  have h2 : Int32.ofNat i + 2 = Int32.ofNat (i + 2) := i_add (b := 2)
  have h3 : Int32.ofNat i + 3 = Int32.ofNat (i + 3) := i_add (b := 3)
  have y1 : ∀ w, ald 0 x w 1 9 (Int32.ofNat (i + 1)) = some (x.2 (i + 1)) := fun w => scr_l hx (by omega)
  have y2 : ∀ w, ald 0 x w 1 9 (Int32.ofNat (i + 2)) = some (x.2 (i + 2)) := fun w => scr_l hx (by omega)
  have y3 : ∀ w, ald 0 x w 1 9 (Int32.ofNat (i + 3)) = some (x.2 (i + 3)) := fun w => scr_l hx (by omega)
  obtain ⟨e, r, w1, n1, w2, n2, B', E1, E2, k227, hn, hz, hl, hF⟩ := PR_of hS hO (p305 (x := x) (n := n) (u := (x.2 (i + 1))) hV)
  obtain ⟨k2, e192⟩ := thr (x := x) hF
  refine ⟨some (.int e), some (.int r), a8, a9, w2, n2, B', e, ?_, hn, hl, hF⟩
  by_cases he : e = 0
  · obtain ⟨f, f1, f2⟩ := hz he
    have l0 := lld_0 f1
    rw [f2] at l0
    subst he
    simp only [csN, csm_i, csm_r, Nat.reduceAdd, Nat.reduceLeDiff, wdI, wdR, wdN, clM_0, clC_0, clC_1, clC_6, clC_8, true_or, or_true, i10, i01, ob_some, ob_map, cal_v, rvs_some, rvs_none, XO_at, cal_x, lw338_770, lw338_771, lw338_772, lw338_774, lw338_775, lw338_776, lw338_777, lw338_778, lw338_781, lw338_783, lw338_784, lw338_785, lw338_787, lw338_788, lw338_789, lw338_790, lw338_793, lw338_795, lw338_796, lw338_799, lw338_801, lw338_804, lw338_805, lw338_806, lw338_808, lw338_811, lw338_812, lw338_813, lw338_814, lw338_816, lw338_817, lw338_818, lw338_821, lw338_822, lw338_823, h1, h2, h3, y1, y2, y3, if_true, if_false, E1, k227, E2, k2, e192, l0, lg_self]
  · skip
    simp only [csN, csm_i, csm_r, Nat.reduceAdd, Nat.reduceLeDiff, wdI, wdR, wdN, clM_0, clC_0, clC_1, clC_6, clC_8, true_or, or_true, i10, i01, ob_some, ob_map, cal_v, rvs_some, rvs_none, XO_at, cal_x, lw338_770, lw338_771, lw338_772, lw338_774, lw338_775, lw338_776, lw338_777, lw338_778, lw338_781, lw338_783, lw338_784, lw338_785, lw338_787, lw338_788, lw338_789, lw338_790, lw338_793, lw338_795, lw338_796, lw338_799, lw338_801, lw338_804, lw338_805, lw338_806, lw338_808, lw338_811, lw338_812, lw338_813, lw338_814, lw338_816, lw338_817, lw338_818, lw338_821, lw338_822, lw338_823, h1, h2, h3, y1, y2, y3, if_true, if_false, E1, k227, E2, k2, e192, he]
theorem lc_8 {a6 a7 a8 a9 : Option Value} (hx : x.1 ≤ 2048) (hi : i + 4 ≤ x.1) (hB : B < 2147483648) (hF : FVe B w n e0) : LC x 826 i a6 a7 a8 a9 w n B := by
  obtain ⟨m, s, t, y, hs, le, lf, F, K, sc, c, q, cs, hV, hS, hO, -⟩ := hF
  have k64 := (WD_64 hV.1).2.1
  have h1 : Int32.ofNat i + 1 = Int32.ofNat (i + 1) := i_add (b := 1)
  have h2 : Int32.ofNat i + 2 = Int32.ofNat (i + 2) := i_add (b := 2)
  have h3 : Int32.ofNat i + 3 = Int32.ofNat (i + 3) := i_add (b := 3)
  have y1 : ∀ w, ald 0 x w 1 9 (Int32.ofNat (i + 1)) = some (x.2 (i + 1)) := fun w => scr_l hx (by omega)
  have y2 : ∀ w, ald 0 x w 1 9 (Int32.ofNat (i + 2)) = some (x.2 (i + 2)) := fun w => scr_l hx (by omega)
  have y3 : ∀ w, ald 0 x w 1 9 (Int32.ofNat (i + 3)) = some (x.2 (i + 3)) := fun w => scr_l hx (by omega)
  obtain ⟨e, r, w1, n1, w2, n2, B', E1, E2, k227, hn, hz, hl, hF⟩ := PR_of hS hO (p306 (x := x) (n := n) (u := (x.2 (i + 1))) hV)
  obtain ⟨k2, e192⟩ := thr (x := x) hF
  refine ⟨some (.int e), some (.int r), a8, a9, w2, n2, B', e, ?_, hn, hl, hF⟩
  by_cases he : e = 0
  · obtain ⟨f, f1, f2⟩ := hz he
    have l0 := lld_0 f1
    rw [f2] at l0
    subst he
    simp only [csN, csm_i, csm_r, Nat.reduceAdd, Nat.reduceLeDiff, wdI, wdR, wdN, clM_0, clC_0, clC_1, clC_6, clC_8, true_or, or_true, i10, i01, ob_some, ob_map, cal_v, rvs_some, rvs_none, XO_at, cal_x, lw338_826, lw338_827, lw338_828, lw338_830, lw338_831, lw338_832, lw338_833, lw338_834, lw338_837, lw338_839, lw338_840, lw338_841, lw338_843, lw338_844, lw338_845, lw338_846, lw338_849, lw338_851, lw338_852, lw338_855, lw338_857, lw338_860, lw338_861, lw338_862, lw338_864, lw338_867, lw338_868, lw338_869, lw338_870, lw338_872, lw338_873, lw338_874, lw338_877, lw338_878, lw338_879, h1, h2, h3, y1, y2, y3, if_true, if_false, E1, k227, E2, k2, e192, l0, lg_self]
  · skip
    simp only [csN, csm_i, csm_r, Nat.reduceAdd, Nat.reduceLeDiff, wdI, wdR, wdN, clM_0, clC_0, clC_1, clC_6, clC_8, true_or, or_true, i10, i01, ob_some, ob_map, cal_v, rvs_some, rvs_none, XO_at, cal_x, lw338_826, lw338_827, lw338_828, lw338_830, lw338_831, lw338_832, lw338_833, lw338_834, lw338_837, lw338_839, lw338_840, lw338_841, lw338_843, lw338_844, lw338_845, lw338_846, lw338_849, lw338_851, lw338_852, lw338_855, lw338_857, lw338_860, lw338_861, lw338_862, lw338_864, lw338_867, lw338_868, lw338_869, lw338_870, lw338_872, lw338_873, lw338_874, lw338_877, lw338_878, lw338_879, h1, h2, h3, y1, y2, y3, if_true, if_false, E1, k227, E2, k2, e192, he]
theorem lc_9 {a6 a7 a8 a9 : Option Value} (hx : x.1 ≤ 2048) (hi : i + 4 ≤ x.1) (hB : B < 2147483648) (hF : FVe B w n e0) : LC x 882 i a6 a7 a8 a9 w n B := by
  obtain ⟨m, s, t, y, hs, le, lf, F, K, sc, c, q, cs, hV, hS, hO, -⟩ := hF
  have k64 := (WD_64 hV.1).2.1
  have h1 : Int32.ofNat i + 1 = Int32.ofNat (i + 1) := i_add (b := 1)
  have h2 : Int32.ofNat i + 2 = Int32.ofNat (i + 2) := i_add (b := 2)
  have h3 : Int32.ofNat i + 3 = Int32.ofNat (i + 3) := i_add (b := 3)
  have y1 : ∀ w, ald 0 x w 1 9 (Int32.ofNat (i + 1)) = some (x.2 (i + 1)) := fun w => scr_l hx (by omega)
  have y2 : ∀ w, ald 0 x w 1 9 (Int32.ofNat (i + 2)) = some (x.2 (i + 2)) := fun w => scr_l hx (by omega)
  have y3 : ∀ w, ald 0 x w 1 9 (Int32.ofNat (i + 3)) = some (x.2 (i + 3)) := fun w => scr_l hx (by omega)
  obtain ⟨e, r, w1, n1, w2, n2, B', E1, E2, k227, hn, hz, hl, hF⟩ := PR_of hS hO (p307 (x := x) (n := n) (u := (x.2 (i + 1))) hV)
  obtain ⟨k2, e192⟩ := thr (x := x) hF
  refine ⟨some (.int e), some (.int r), a8, a9, w2, n2, B', e, ?_, hn, hl, hF⟩
  by_cases he : e = 0
  · obtain ⟨f, f1, f2⟩ := hz he
    have l0 := lld_0 f1
    rw [f2] at l0
    subst he
    simp only [csN, csm_i, csm_r, Nat.reduceAdd, Nat.reduceLeDiff, wdI, wdR, wdN, clM_0, clC_0, clC_1, clC_6, clC_8, true_or, or_true, i10, i01, ob_some, ob_map, cal_v, rvs_some, rvs_none, XO_at, cal_x, lw338_882, lw338_883, lw338_884, lw338_886, lw338_887, lw338_888, lw338_889, lw338_890, lw338_893, lw338_895, lw338_896, lw338_897, lw338_899, lw338_900, lw338_901, lw338_902, lw338_905, lw338_907, lw338_908, lw338_911, lw338_913, lw338_916, lw338_917, lw338_918, lw338_920, lw338_923, lw338_924, lw338_925, lw338_926, lw338_928, lw338_929, lw338_930, lw338_933, lw338_934, lw338_935, h1, h2, h3, y1, y2, y3, if_true, if_false, E1, k227, E2, k2, e192, l0, lg_self]
  · skip
    simp only [csN, csm_i, csm_r, Nat.reduceAdd, Nat.reduceLeDiff, wdI, wdR, wdN, clM_0, clC_0, clC_1, clC_6, clC_8, true_or, or_true, i10, i01, ob_some, ob_map, cal_v, rvs_some, rvs_none, XO_at, cal_x, lw338_882, lw338_883, lw338_884, lw338_886, lw338_887, lw338_888, lw338_889, lw338_890, lw338_893, lw338_895, lw338_896, lw338_897, lw338_899, lw338_900, lw338_901, lw338_902, lw338_905, lw338_907, lw338_908, lw338_911, lw338_913, lw338_916, lw338_917, lw338_918, lw338_920, lw338_923, lw338_924, lw338_925, lw338_926, lw338_928, lw338_929, lw338_930, lw338_933, lw338_934, lw338_935, h1, h2, h3, y1, y2, y3, if_true, if_false, E1, k227, E2, k2, e192, he]
theorem lc_10 {a6 a7 a8 a9 : Option Value} (hx : x.1 ≤ 2048) (hi : i + 4 ≤ x.1) (hB : B < 2147483648) (hF : FVe B w n e0) : LC x 938 i a6 a7 a8 a9 w n B := by
  obtain ⟨m, s, t, y, hs, le, lf, F, K, sc, c, q, cs, hV, hS, hO, -⟩ := hF
  have k64 := (WD_64 hV.1).2.1
  have h1 : Int32.ofNat i + 1 = Int32.ofNat (i + 1) := i_add (b := 1)
  have h2 : Int32.ofNat i + 2 = Int32.ofNat (i + 2) := i_add (b := 2)
  have h3 : Int32.ofNat i + 3 = Int32.ofNat (i + 3) := i_add (b := 3)
  have y1 : ∀ w, ald 0 x w 1 9 (Int32.ofNat (i + 1)) = some (x.2 (i + 1)) := fun w => scr_l hx (by omega)
  have y2 : ∀ w, ald 0 x w 1 9 (Int32.ofNat (i + 2)) = some (x.2 (i + 2)) := fun w => scr_l hx (by omega)
  have y3 : ∀ w, ald 0 x w 1 9 (Int32.ofNat (i + 3)) = some (x.2 (i + 3)) := fun w => scr_l hx (by omega)
  obtain ⟨e, r, w1, n1, w2, n2, B', E1, E2, k227, hn, hz, hl, hF⟩ := PR_of hS hO (p308 (x := x) (n := n) (u := (x.2 (i + 1))) hV)
  obtain ⟨k2, e192⟩ := thr (x := x) hF
  refine ⟨some (.int e), some (.int r), a8, a9, w2, n2, B', e, ?_, hn, hl, hF⟩
  by_cases he : e = 0
  · obtain ⟨f, f1, f2⟩ := hz he
    have l0 := lld_0 f1
    rw [f2] at l0
    subst he
    simp only [csN, csm_i, csm_r, Nat.reduceAdd, Nat.reduceLeDiff, wdI, wdR, wdN, clM_0, clC_0, clC_1, clC_6, clC_8, true_or, or_true, i10, i01, ob_some, ob_map, cal_v, rvs_some, rvs_none, XO_at, cal_x, lw338_938, lw338_939, lw338_940, lw338_942, lw338_943, lw338_944, lw338_945, lw338_946, lw338_949, lw338_951, lw338_952, lw338_953, lw338_955, lw338_956, lw338_957, lw338_958, lw338_961, lw338_963, lw338_964, lw338_967, lw338_969, lw338_972, lw338_973, lw338_974, lw338_976, lw338_979, lw338_980, lw338_981, lw338_982, lw338_984, lw338_985, lw338_986, lw338_989, lw338_990, lw338_991, h1, h2, h3, y1, y2, y3, if_true, if_false, E1, k227, E2, k2, e192, l0, lg_self]
  · skip
    simp only [csN, csm_i, csm_r, Nat.reduceAdd, Nat.reduceLeDiff, wdI, wdR, wdN, clM_0, clC_0, clC_1, clC_6, clC_8, true_or, or_true, i10, i01, ob_some, ob_map, cal_v, rvs_some, rvs_none, XO_at, cal_x, lw338_938, lw338_939, lw338_940, lw338_942, lw338_943, lw338_944, lw338_945, lw338_946, lw338_949, lw338_951, lw338_952, lw338_953, lw338_955, lw338_956, lw338_957, lw338_958, lw338_961, lw338_963, lw338_964, lw338_967, lw338_969, lw338_972, lw338_973, lw338_974, lw338_976, lw338_979, lw338_980, lw338_981, lw338_982, lw338_984, lw338_985, lw338_986, lw338_989, lw338_990, lw338_991, h1, h2, h3, y1, y2, y3, if_true, if_false, E1, k227, E2, k2, e192, he]
theorem lc_11 {a6 a7 a8 a9 : Option Value} (hx : x.1 ≤ 2048) (hi : i + 4 ≤ x.1) (hB : B < 2147483648) (hF : FVe B w n e0) : LC x 994 i a6 a7 a8 a9 w n B := by
  obtain ⟨m, s, t, y, hs, le, lf, F, K, sc, c, q, cs, hV, hS, hO, -⟩ := hF
  have k64 := (WD_64 hV.1).2.1
  have h1 : Int32.ofNat i + 1 = Int32.ofNat (i + 1) := i_add (b := 1)
  have h2 : Int32.ofNat i + 2 = Int32.ofNat (i + 2) := i_add (b := 2)
  have h3 : Int32.ofNat i + 3 = Int32.ofNat (i + 3) := i_add (b := 3)
  have y1 : ∀ w, ald 0 x w 1 9 (Int32.ofNat (i + 1)) = some (x.2 (i + 1)) := fun w => scr_l hx (by omega)
  have y2 : ∀ w, ald 0 x w 1 9 (Int32.ofNat (i + 2)) = some (x.2 (i + 2)) := fun w => scr_l hx (by omega)
  have y3 : ∀ w, ald 0 x w 1 9 (Int32.ofNat (i + 3)) = some (x.2 (i + 3)) := fun w => scr_l hx (by omega)
  obtain ⟨e, r, w1, n1, w2, n2, B', E1, E2, k227, hn, hz, hl, hF⟩ := PR_of hS hO (p309 (x := x) (n := n) (u := (x.2 (i + 1))) (v := (x.2 (i + 2))) hV)
  obtain ⟨k2, e192⟩ := thr (x := x) hF
  refine ⟨some (.int e), some (.int r), a8, a9, w2, n2, B', e, ?_, hn, hl, hF⟩
  by_cases he : e = 0
  · obtain ⟨f, f1, f2⟩ := hz he
    have l0 := lld_0 f1
    rw [f2] at l0
    subst he
    simp only [csN, csm_i, csm_r, Nat.reduceAdd, Nat.reduceLeDiff, wdI, wdR, wdN, clM_0, clC_0, clC_1, clC_6, clC_8, true_or, or_true, i10, i01, ob_some, ob_map, cal_v, rvs_some, rvs_none, XO_at, cal_x, lw338_994, lw338_995, lw338_996, lw338_998, lw338_999, lw338_1000, lw338_1001, lw338_1002, lw338_1004, lw338_1005, lw338_1006, lw338_1007, lw338_1008, lw338_1011, lw338_1013, lw338_1014, lw338_1015, lw338_1017, lw338_1018, lw338_1019, lw338_1020, lw338_1021, lw338_1023, lw338_1024, lw338_1025, lw338_1026, lw338_1029, lw338_1031, lw338_1032, lw338_1035, lw338_1037, lw338_1040, lw338_1041, lw338_1042, lw338_1044, lw338_1047, lw338_1048, lw338_1049, lw338_1050, lw338_1052, lw338_1053, lw338_1054, lw338_1057, lw338_1058, lw338_1059, h1, h2, h3, y1, y2, y3, if_true, if_false, E1, k227, E2, k2, e192, l0, lg_self]
  · skip
    simp only [csN, csm_i, csm_r, Nat.reduceAdd, Nat.reduceLeDiff, wdI, wdR, wdN, clM_0, clC_0, clC_1, clC_6, clC_8, true_or, or_true, i10, i01, ob_some, ob_map, cal_v, rvs_some, rvs_none, XO_at, cal_x, lw338_994, lw338_995, lw338_996, lw338_998, lw338_999, lw338_1000, lw338_1001, lw338_1002, lw338_1004, lw338_1005, lw338_1006, lw338_1007, lw338_1008, lw338_1011, lw338_1013, lw338_1014, lw338_1015, lw338_1017, lw338_1018, lw338_1019, lw338_1020, lw338_1021, lw338_1023, lw338_1024, lw338_1025, lw338_1026, lw338_1029, lw338_1031, lw338_1032, lw338_1035, lw338_1037, lw338_1040, lw338_1041, lw338_1042, lw338_1044, lw338_1047, lw338_1048, lw338_1049, lw338_1050, lw338_1052, lw338_1053, lw338_1054, lw338_1057, lw338_1058, lw338_1059, h1, h2, h3, y1, y2, y3, if_true, if_false, E1, k227, E2, k2, e192, he]
theorem lc_12 {a6 a7 a8 a9 : Option Value} (hx : x.1 ≤ 2048) (hi : i + 4 ≤ x.1) (hB : B < 2147483648) (hF : FVe B w n e0) : LC x 1062 i a6 a7 a8 a9 w n B := by
  obtain ⟨m, s, t, y, hs, le, lf, F, K, sc, c, q, cs, hV, hS, hO, -⟩ := hF
  have k64 := (WD_64 hV.1).2.1
  have h1 : Int32.ofNat i + 1 = Int32.ofNat (i + 1) := i_add (b := 1)
  have h2 : Int32.ofNat i + 2 = Int32.ofNat (i + 2) := i_add (b := 2)
  have h3 : Int32.ofNat i + 3 = Int32.ofNat (i + 3) := i_add (b := 3)
  have y1 : ∀ w, ald 0 x w 1 9 (Int32.ofNat (i + 1)) = some (x.2 (i + 1)) := fun w => scr_l hx (by omega)
  have y2 : ∀ w, ald 0 x w 1 9 (Int32.ofNat (i + 2)) = some (x.2 (i + 2)) := fun w => scr_l hx (by omega)
  have y3 : ∀ w, ald 0 x w 1 9 (Int32.ofNat (i + 3)) = some (x.2 (i + 3)) := fun w => scr_l hx (by omega)
  obtain ⟨e, r, w1, n1, w2, n2, B', E1, E2, k227, hn, hz, hl, hF⟩ := PR_of hS hO (p310 (x := x) (n := n) (u := (x.2 (i + 1))) hV)
  obtain ⟨k2, e192⟩ := thr (x := x) hF
  refine ⟨some (.int e), some (.int r), a8, a9, w2, n2, B', e, ?_, hn, hl, hF⟩
  by_cases he : e = 0
  · obtain ⟨f, f1, f2⟩ := hz he
    have l0 := lld_0 f1
    rw [f2] at l0
    subst he
    simp only [csN, csm_i, csm_r, Nat.reduceAdd, Nat.reduceLeDiff, wdI, wdR, wdN, clM_0, clC_0, clC_1, clC_6, clC_8, true_or, or_true, i10, i01, ob_some, ob_map, cal_v, rvs_some, rvs_none, XO_at, cal_x, lw338_1062, lw338_1063, lw338_1064, lw338_1066, lw338_1067, lw338_1068, lw338_1069, lw338_1070, lw338_1073, lw338_1075, lw338_1076, lw338_1077, lw338_1079, lw338_1080, lw338_1081, lw338_1082, lw338_1085, lw338_1087, lw338_1088, lw338_1091, lw338_1093, lw338_1096, lw338_1097, lw338_1098, lw338_1100, lw338_1103, lw338_1104, lw338_1105, lw338_1106, lw338_1108, lw338_1109, lw338_1110, lw338_1113, lw338_1114, lw338_1115, h1, h2, h3, y1, y2, y3, if_true, if_false, E1, k227, E2, k2, e192, l0, lg_self]
  · skip
    simp only [csN, csm_i, csm_r, Nat.reduceAdd, Nat.reduceLeDiff, wdI, wdR, wdN, clM_0, clC_0, clC_1, clC_6, clC_8, true_or, or_true, i10, i01, ob_some, ob_map, cal_v, rvs_some, rvs_none, XO_at, cal_x, lw338_1062, lw338_1063, lw338_1064, lw338_1066, lw338_1067, lw338_1068, lw338_1069, lw338_1070, lw338_1073, lw338_1075, lw338_1076, lw338_1077, lw338_1079, lw338_1080, lw338_1081, lw338_1082, lw338_1085, lw338_1087, lw338_1088, lw338_1091, lw338_1093, lw338_1096, lw338_1097, lw338_1098, lw338_1100, lw338_1103, lw338_1104, lw338_1105, lw338_1106, lw338_1108, lw338_1109, lw338_1110, lw338_1113, lw338_1114, lw338_1115, h1, h2, h3, y1, y2, y3, if_true, if_false, E1, k227, E2, k2, e192, he]
theorem lc_13 {a6 a7 a8 a9 : Option Value} (hx : x.1 ≤ 2048) (hi : i + 4 ≤ x.1) (hB : B < 2147483648) (hF : FVe B w n e0) : LC x 1118 i a6 a7 a8 a9 w n B := by
  obtain ⟨m, s, t, y, hs, le, lf, F, K, sc, c, q, cs, hV, hS, hO, -⟩ := hF
  have k64 := (WD_64 hV.1).2.1
  have h1 : Int32.ofNat i + 1 = Int32.ofNat (i + 1) := i_add (b := 1)
  have h2 : Int32.ofNat i + 2 = Int32.ofNat (i + 2) := i_add (b := 2)
  have h3 : Int32.ofNat i + 3 = Int32.ofNat (i + 3) := i_add (b := 3)
  have y1 : ∀ w, ald 0 x w 1 9 (Int32.ofNat (i + 1)) = some (x.2 (i + 1)) := fun w => scr_l hx (by omega)
  have y2 : ∀ w, ald 0 x w 1 9 (Int32.ofNat (i + 2)) = some (x.2 (i + 2)) := fun w => scr_l hx (by omega)
  have y3 : ∀ w, ald 0 x w 1 9 (Int32.ofNat (i + 3)) = some (x.2 (i + 3)) := fun w => scr_l hx (by omega)
  obtain ⟨e, r, w1, n1, w2, n2, B', E1, E2, k227, hn, hz, hl, hF⟩ := PR_of hS hO (p311 (x := x) (n := n) (u := (x.2 (i + 1))) hV)
  obtain ⟨k2, e192⟩ := thr (x := x) hF
  refine ⟨some (.int e), some (.int r), a8, a9, w2, n2, B', e, ?_, hn, hl, hF⟩
  by_cases he : e = 0
  · obtain ⟨f, f1, f2⟩ := hz he
    have l0 := lld_0 f1
    rw [f2] at l0
    subst he
    simp only [csN, csm_i, csm_r, Nat.reduceAdd, Nat.reduceLeDiff, wdI, wdR, wdN, clM_0, clC_0, clC_1, clC_6, clC_8, true_or, or_true, i10, i01, ob_some, ob_map, cal_v, rvs_some, rvs_none, XO_at, cal_x, lw338_1118, lw338_1119, lw338_1120, lw338_1122, lw338_1123, lw338_1124, lw338_1125, lw338_1126, lw338_1129, lw338_1131, lw338_1132, lw338_1133, lw338_1135, lw338_1136, lw338_1137, lw338_1138, lw338_1141, lw338_1143, lw338_1144, lw338_1147, lw338_1149, lw338_1152, lw338_1153, lw338_1154, lw338_1156, lw338_1159, lw338_1160, lw338_1161, lw338_1162, lw338_1164, lw338_1165, lw338_1166, lw338_1169, lw338_1170, lw338_1171, h1, h2, h3, y1, y2, y3, if_true, if_false, E1, k227, E2, k2, e192, l0, lg_self]
  · skip
    simp only [csN, csm_i, csm_r, Nat.reduceAdd, Nat.reduceLeDiff, wdI, wdR, wdN, clM_0, clC_0, clC_1, clC_6, clC_8, true_or, or_true, i10, i01, ob_some, ob_map, cal_v, rvs_some, rvs_none, XO_at, cal_x, lw338_1118, lw338_1119, lw338_1120, lw338_1122, lw338_1123, lw338_1124, lw338_1125, lw338_1126, lw338_1129, lw338_1131, lw338_1132, lw338_1133, lw338_1135, lw338_1136, lw338_1137, lw338_1138, lw338_1141, lw338_1143, lw338_1144, lw338_1147, lw338_1149, lw338_1152, lw338_1153, lw338_1154, lw338_1156, lw338_1159, lw338_1160, lw338_1161, lw338_1162, lw338_1164, lw338_1165, lw338_1166, lw338_1169, lw338_1170, lw338_1171, h1, h2, h3, y1, y2, y3, if_true, if_false, E1, k227, E2, k2, e192, he]
end LWC
