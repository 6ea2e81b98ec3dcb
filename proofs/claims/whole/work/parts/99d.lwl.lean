/-! THE LAW: its loop -/
section LWL
set_option maxRecDepth 20000
variable {x : SX}
theorem len4 {L i : Nat} (hL : L ≤ 2048) (hi : i ≤ 2060) : (Int32.ofNat L - 4 < Int32.ofNat i) = (L < i + 4) := by
  by_cases h : L < 4
  · have : ∀ L, L < 4 → Int32.ofNat L - 4 < 0 := by decide +kernel
    have h2 : (0 : Int32) ≤ Int32.ofNat i := by
      rw [show (0 : Int32) = Int32.ofNat 0 from rfl, i_le (by omega) (by omega)]
      omega
    exact propext ⟨fun _ => by omega, fun _ => Int32.lt_of_lt_of_le (this L h) h2⟩
  · rw [show (4 : Int32) = Int32.ofNat 4 from rfl, i_sub (by omega), i_lt (by omega) (by omega)]
    exact propext ⟨fun _ => by omega, fun _ => by omega⟩
theorem law_l (hx : x.1 ≤ 2048) (d : Nat) : ∀ i w n B e (a6 a7 a8 a9 : Option Value), x.1 < i + 4 * d + 4 → i ≤ x.1 + 4 → B + 64 * d < 2147483648 → FVe B w n e →
    ∃ w' n', RC x 338 28 [some (.ref 9), some (.ref 64), some (.ref 227), some (.ref 237), some (.ref 238), some (.int (Int32.ofNat i)), a6, a7, a8, a9] [] w n = some (.inl (some (.int 1)), w', n') ∧ n' ≤ n + 2 * d := by
  have g1 : ∀ w, aln x w 1 9 = some (Int32.ofNat x.1) := fun w => by
    unfold aln
    rw [if_pos rfl, show extA x 9 = some (0, x.1, x.2) from rfl]
    rfl
  induction d with
  | zero =>
    intro i w n B e a6 a7 a8 a9 hd hi hB hF
    have h0 : Int32.ofNat x.1 - 4 < Int32.ofNat i := by rw [len4 hx (by omega)]; omega
    refine ⟨w, n, ?_, by omega⟩
    rw [lw338_28]
    simp only [csN, csm_i, csm_r, Nat.reduceAdd, Nat.reduceLeDiff, wdI, wdR, wdN, clM_0, clC_0, clC_1, clC_6, clC_8, true_or, or_true, i10, i01, ob_some, ob_map, cal_v, rvs_some, rvs_none, XO_at, cal_x, lw338_30, lw338_31, lw338_32, lw338_33, lw338_34, lw338_37, lw338_38, lw338_40, lw338_41, lw338_43, lw338_2903, lw338_2904, g1, h0, if_true]
  | succ d ih =>
    intro i w n B e a6 a7 a8 a9 hd hi hB hF
    by_cases hl : x.1 < i + 4
    · have h0 : Int32.ofNat x.1 - 4 < Int32.ofNat i := by rw [len4 hx (by omega)]; exact hl
      refine ⟨w, n, ?_, by omega⟩
      rw [lw338_28]
      simp only [csN, csm_i, csm_r, Nat.reduceAdd, Nat.reduceLeDiff, wdI, wdR, wdN, clM_0, clC_0, clC_1, clC_6, clC_8, true_or, or_true, i10, i01, ob_some, ob_map, cal_v, rvs_some, rvs_none, XO_at, cal_x, lw338_30, lw338_31, lw338_32, lw338_33, lw338_34, lw338_37, lw338_38, lw338_40, lw338_41, lw338_43, lw338_2903, lw338_2904, g1, h0, if_true]
    · have h0 : ¬ Int32.ofNat x.1 - 4 < Int32.ofNat i := by rw [len4 hx (by omega)]; exact hl
      have y0 := scr_l (w := w) hx (show i < x.1 by omega)
      have st : ∀ pc, LC x pc i a6 a7 a8 a9 w n B → ∃ w' n', RC x 338 pc [some (.ref 9), some (.ref 64), some (.ref 227), some (.ref 237), some (.ref 238), some (.int (Int32.ofNat i)), a6, a7, a8, a9] [] w n = some (.inl (some (.int 1)), w', n') ∧ n' ≤ n + 2 * (d + 1) := fun pc hc => by
        obtain ⟨b6, b7, b8, b9, w1, n1, B1, e1, E, hn, hb, hF1⟩ := hc
        have h4 : Int32.ofNat i + 4 = Int32.ofNat (i + 4) := i_add (b := 4)
        obtain ⟨w2, n2, E2, hn2⟩ := ih (i + 4) w1 n1 B1 e1 b6 b7 b8 b9 (by omega) (by omega) (by omega) hF1
        refine ⟨w2, n2, ?_, by omega⟩
        rw [E, ← E2, lw338_2897 (a4 := some (.ref 238)) rfl, lw338_2900, h4]
      have hBB : B < 2147483648 := by omega
      rw [lw338_28]
      simp only [csN, csm_i, csm_r, Nat.reduceAdd, Nat.reduceLeDiff, wdI, wdR, wdN, clM_0, clC_0, clC_1, clC_6, clC_8, true_or, or_true, i10, i01, ob_some, ob_map, cal_v, rvs_some, rvs_none, XO_at, cal_x, lw338_30, lw338_31, lw338_32, lw338_33, lw338_34, lw338_37, lw338_38, lw338_40, lw338_41, lw338_43, g1, h0, if_false, y0]
      obtain ⟨v, hv⟩ : ∃ v, v = x.2 i &&& 63 := ⟨_, rfl⟩
      rw [← hv, lw338_44]
      by_cases q0 : v = 0
      · rw [if_pos q0]
        exact st 276 (lc_0 hx (by omega) hBB hF)
      rw [if_neg q0]
      by_cases q1 : v = 1
      · rw [if_pos q1]
        exact st 372 (lc_1 hx (by omega) hBB hF)
      rw [if_neg q1]
      by_cases q2 : v = 2
      · rw [if_pos q2]
        exact st 452 (lc_2 hx (by omega) hBB hF)
      rw [if_neg q2]
      by_cases q3 : v = 3
      · rw [if_pos q3]
        exact st 520 (lc_3 hx (by omega) hBB hF)
      rw [if_neg q3]
      by_cases q4 : v = 4
      · rw [if_pos q4]
        exact st 590 (lc_4 hx (by omega) hBB hF)
      rw [if_neg q4]
      by_cases q5 : v = 5
      · rw [if_pos q5]
        exact st 646 (lc_5 hx (by omega) hBB hF)
      rw [if_neg q5]
      by_cases q6 : v = 6
      · rw [if_pos q6]
        exact st 714 (lc_6 hx (by omega) hBB hF)
      rw [if_neg q6]
      by_cases q7 : v = 7
      · rw [if_pos q7]
        exact st 770 (lc_7 hx (by omega) hBB hF)
      rw [if_neg q7]
      by_cases q8 : v = 8
      · rw [if_pos q8]
        exact st 826 (lc_8 hx (by omega) hBB hF)
      rw [if_neg q8]
      by_cases q9 : v = 9
      · rw [if_pos q9]
        exact st 882 (lc_9 hx (by omega) hBB hF)
      rw [if_neg q9]
      by_cases q10 : v = 10
      · rw [if_pos q10]
        exact st 938 (lc_10 hx (by omega) hBB hF)
      rw [if_neg q10]
      by_cases q11 : v = 11
      · rw [if_pos q11]
        exact st 994 (lc_11 hx (by omega) hBB hF)
      rw [if_neg q11]
      by_cases q12 : v = 12
      · rw [if_pos q12]
        exact st 1062 (lc_12 hx (by omega) hBB hF)
      rw [if_neg q12]
      by_cases q13 : v = 13
      · rw [if_pos q13]
        exact st 1118 (lc_13 hx (by omega) hBB hF)
      rw [if_neg q13]
      by_cases q14 : v = 14
      · rw [if_pos q14]
        exact st 1174 (lc_14 hx (by omega) hBB hF)
      rw [if_neg q14]
      by_cases q15 : v = 15
      · rw [if_pos q15]
        exact st 1249 (lc_15 hx (by omega) hBB hF)
      rw [if_neg q15]
      by_cases q16 : v = 16
      · rw [if_pos q16]
        exact st 1317 (lc_16 hx (by omega) hBB hF)
      rw [if_neg q16]
      by_cases q17 : v = 17
      · rw [if_pos q17]
        exact st 1385 (lc_17 hx (by omega) hBB hF)
      rw [if_neg q17]
      by_cases q18 : v = 18
      · rw [if_pos q18]
        exact st 1441 (lc_18 hx (by omega) hBB hF)
      rw [if_neg q18]
      by_cases q19 : v = 19
      · rw [if_pos q19]
        exact st 1497 (lc_19 hx (by omega) hBB hF)
      rw [if_neg q19]
      by_cases q20 : v = 20
      · rw [if_pos q20]
        exact st 1553 (lc_20 hx (by omega) hBB hF)
      rw [if_neg q20]
      by_cases q21 : v = 21
      · rw [if_pos q21]
        exact st 1609 (lc_21 hx (by omega) hBB hF)
      rw [if_neg q21]
      by_cases q22 : v = 22
      · rw [if_pos q22]
        exact st 1665 (lc_22 hx (by omega) hBB hF)
      rw [if_neg q22]
      by_cases q23 : v = 23
      · rw [if_pos q23]
        exact st 1733 (lc_23 hx (by omega) hBB hF)
      rw [if_neg q23]
      by_cases q24 : v = 24
      · rw [if_pos q24]
        exact st 1746 (lc_24 hx (by omega) hBB hF)
      rw [if_neg q24]
      by_cases q25 : v = 25
      · rw [if_pos q25]
        exact st 1771 (lc_25 hx (by omega) hBB hF)
      rw [if_neg q25]
      by_cases q26 : v = 26
      · rw [if_pos q26]
        exact st 1827 (lc_26 hx (by omega) hBB hF)
      rw [if_neg q26]
      by_cases q27 : v = 27
      · rw [if_pos q27]
        exact st 1883 (lc_27 hx (by omega) hBB hF)
      rw [if_neg q27]
      by_cases q28 : v = 28
      · rw [if_pos q28]
        exact st 1946 (lc_28 hx (by omega) hBB hF)
      rw [if_neg q28]
      by_cases q29 : v = 29
      · rw [if_pos q29]
        exact st 2002 (lc_29 hx (by omega) hBB hF)
      rw [if_neg q29]
      by_cases q30 : v = 30
      · rw [if_pos q30]
        exact st 2065 (lc_30 hx (by omega) hBB hF)
      rw [if_neg q30]
      by_cases q31 : v = 31
      · rw [if_pos q31]
        exact st 2121 (lc_31 hx (by omega) hBB hF)
      rw [if_neg q31]
      by_cases q32 : v = 32
      · rw [if_pos q32]
        exact st 2177 (lc_32 hx (by omega) hBB hF)
      rw [if_neg q32]
      by_cases q33 : v = 33
      · rw [if_pos q33]
        exact st 2245 (lc_33 hx (by omega) hBB hF)
      rw [if_neg q33]
      by_cases q34 : v = 34
      · rw [if_pos q34]
        exact st 2258 (lc_34 hx (by omega) hBB hF)
      rw [if_neg q34]
      by_cases q35 : v = 35
      · rw [if_pos q35]
        exact st 2271 (lc_35 hx (by omega) hBB hF)
      rw [if_neg q35]
      by_cases q36 : v = 36
      · rw [if_pos q36]
        exact st 2284 (lc_36 hx (by omega) hBB hF)
      rw [if_neg q36]
      by_cases q37 : v = 37
      · rw [if_pos q37]
        exact st 2297 (lc_37 hx (by omega) hBB hF)
      rw [if_neg q37]
      by_cases q38 : v = 38
      · rw [if_pos q38]
        exact st 2310 (lc_38 hx (by omega) hBB hF)
      rw [if_neg q38]
      by_cases q39 : v = 39
      · rw [if_pos q39]
        exact st 2323 (lc_39 hx (by omega) hBB hF)
      rw [if_neg q39]
      by_cases q40 : v = 40
      · rw [if_pos q40]
        exact st 2336 (lc_40 hx (by omega) hBB hF)
      rw [if_neg q40]
      by_cases q41 : v = 41
      · rw [if_pos q41]
        exact st 2349 (lc_41 hx (by omega) hBB hF)
      rw [if_neg q41]
      by_cases q42 : v = 42
      · rw [if_pos q42]
        exact st 2390 (lc_42 hx (by omega) hBB hF)
      rw [if_neg q42]
      by_cases q43 : v = 43
      · rw [if_pos q43]
        exact st 2468 (lc_43 hx (by omega) hBB hF)
      rw [if_neg q43]
      by_cases q44 : v = 44
      · rw [if_pos q44]
        exact st 2481 (lc_44 hx (by omega) hBB hF)
      rw [if_neg q44]
      by_cases q45 : v = 45
      · rw [if_pos q45]
        exact st 2537 (lc_45 hx (by omega) hBB hF)
      rw [if_neg q45]
      by_cases q46 : v = 46
      · rw [if_pos q46]
        exact st 2550 (lc_46 hx (by omega) hBB hF)
      rw [if_neg q46]
      by_cases q47 : v = 47
      · rw [if_pos q47]
        exact st 2606 (lc_47 hx (by omega) hBB hF)
      rw [if_neg q47]
      by_cases q48 : v = 48
      · rw [if_pos q48]
        exact st 2664 (lc_48 hx (by omega) hBB hF)
      rw [if_neg q48]
      by_cases q49 : v = 49
      · rw [if_pos q49]
        exact st 2708 (lc_49 hx (by omega) hBB hF)
      rw [if_neg q49]
      by_cases q50 : v = 50
      · rw [if_pos q50]
        exact st 2752 (lc_50 hx (by omega) hBB hF)
      rw [if_neg q50]
      by_cases q51 : v = 51
      · rw [if_pos q51]
        exact st 2796 (lc_51 hx (by omega) hBB hF)
      rw [if_neg q51]
      by_cases q52 : v = 52
      · rw [if_pos q52]
        exact st 2840 (lc_52 hx (by omega) hBB hF)
      rw [if_neg q52]
      by_cases q53 : v = 53
      · rw [if_pos q53]
        exact st 2853 (lc_53 hx (by omega) hBB hF)
      rw [if_neg q53]
      exact st 2897 ⟨a6, a7, a8, a9, w, n, B, e, rfl, by omega, by omega, hF⟩
theorem law_ok (hx : x.1 ≤ 2048) : ∃ w' n', RM x 338 [.ref 9] (fun _ => none) 64 = some (.inl (some (.int 1)), w', n') ∧ n' ≤ 2000 := by
  obtain ⟨W, e1, hF⟩ := beg (x := x)
  obtain ⟨w', n', e2, hn⟩ := law_l (x := x) hx 513 0 W 239 0 0 none none none none (by omega) (by omega) (by omega) hF
  exact ⟨w', n', e1.trans e2, by omega⟩
end LWL
