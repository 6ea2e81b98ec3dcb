/-! QUESTIONS about barges -/
section QRB
set_option maxRecDepth 20000
variable {x : SX} {n b c q B : Nat} {w w' : PW} {m s t y : NS} {hs le lf hc : Int32} {F : Nat → Nat} {K : Nat → NS} {sc : NS} {cs : Nat → Nat} {u v : Int32}
theorem RelH_13 {e : Int32} (h : RelH s (m 1) c) : RelH s (us m 20 13 e 1) c := by rw [us_ne (by decide)]; exact h
theorem c256 (hR : RelH s (m 1) c) : RM x 256 [.ref b, .int u] (setM w b m) n = some (.inl (some (.int (bi (!decide (ixA (s 9) u c 0 = -1))))), setM w b (us m 20 13 0), n) := by
  have k := c211 (x := x) (n := n) (b := b) (w := w) (v := u) (RelH_13 (e := 0) hR)
  by_cases h : ixA (s 9) u c 0 = -1
  · rw [decide_eq_true h, Bool.not_true, bi_f]
    simp only [csN, csm_i, csm_r, Nat.reduceAdd, Nat.reduceLeDiff, wdI, wdR, wdN, clM_0, clC_0, clC_1, clC_6, clC_8, true_or, or_true, i10, i01, ob_some, ob_map, cal_v, rvs_some, rvs_none, XO_at, cal_x, m256, r256_0, r256_1, r256_2, r256_5, r256_6, r256_7, r256_10, r256_11, r256_14, r256_15, r256_18, pM_0_13, k, h, if_true]
    exact r256_19 (by decide)
  · rw [decide_eq_false h, Bool.not_false, bi_t]
    simp only [csN, csm_i, csm_r, Nat.reduceAdd, Nat.reduceLeDiff, wdI, wdR, wdN, clM_0, clC_0, clC_1, clC_6, clC_8, true_or, or_true, i10, i01, ob_some, ob_map, cal_v, rvs_some, rvs_none, XO_at, cal_x, m256, r256_0, r256_1, r256_2, r256_5, r256_6, r256_7, r256_10, r256_11, r256_14, r256_15, r256_18, pM_0_13, k, h, if_false]
    exact r256_19 (by decide)
theorem WD_ix (hW : WD w s t y hs le lf F K hc sc) (hC : OKC s c) (u : Int32) : RM x 122 [.ref 73, .int u] w n = some (.inl (some (.int (ixA (s 9) u c 0))), w, n) := by
  have k := c122 (x := x) (n := n) (b := 65) (w := w) (v := u) hC.1 hC.2.1
  rw [(WD_c hW).1] at k
  exact k
theorem p59 (hV : IV B w m s t y hs le lf F K sc c q cs) : SAME B x w n 59 [.ref 64, .int u] 256 [.ref 227, .int u] m le lf sc := by
  have hW := hV.1
  have hRH := hV.2.2.2.2.1.1.1
  obtain ⟨⟨g0, -⟩, c64, -⟩ := WD_64 hW
  obtain ⟨-, -, k2, -, -, -, -, -, -, -, -, l8⟩ := WD_r hW
  have k := WD_ix (x := x) (n := n) hW hRH.1.1 u
  have e3 : RM x 59 [.ref 64, .int u] w n = some (.inl (some (.int (bi (!decide (ixA (s 9) u c 0 = -1))))), w, n) := by
    by_cases h : ixA (s 9) u c 0 = -1
    · rw [decide_eq_true h, Bool.not_true, bi_f]
      simp only [csN, csm_i, csm_r, Nat.reduceAdd, Nat.reduceLeDiff, wdI, wdR, wdN, clM_0, clC_0, clC_1, clC_6, clC_8, true_or, or_true, i10, i01, ob_some, ob_map, cal_v, rvs_some, rvs_none, XO_at, cal_x, m59, r59_0, r59_1, r59_4, r59_7, r59_8, r59_11, r59_12, r59_15, r59_16, r59_19, g0, k2, l8, k, h, if_true]
      exact r59_20 (by decide)
    · rw [decide_eq_false h, Bool.not_false, bi_t]
      simp only [csN, csm_i, csm_r, Nat.reduceAdd, Nat.reduceLeDiff, wdI, wdR, wdN, clM_0, clC_0, clC_1, clC_6, clC_8, true_or, or_true, i10, i01, ob_some, ob_map, cal_v, rvs_some, rvs_none, XO_at, cal_x, m59, r59_0, r59_1, r59_4, r59_7, r59_8, r59_11, r59_12, r59_15, r59_16, r59_19, g0, k2, l8, k, h, if_false]
      exact r59_20 (by decide)
  exact q_same hV e3 (fun w' n' => c256 hRH)
theorem c257_f {z : Int32} (hR : RelH s (m 1) c) (h : ixA (s 9) u c 0 = -1) : RM x 257 [.ref b, .int z, .int u] (setM w b m) n = some (.inl (some (.int 0)), setM w b (us m 20 13 1), n) := by
  have k := c211 (x := x) (n := n) (b := b) (w := w) (v := u) hR
  simp only [csN, csm_i, csm_r, Nat.reduceAdd, Nat.reduceLeDiff, wdI, wdR, wdN, clM_0, clC_0, clC_1, clC_6, clC_8, true_or, or_true, i10, i01, ob_some, ob_map, cal_v, rvs_some, rvs_none, XO_at, cal_x, m257, r257_0, r257_1, r257_2, r257_5, r257_6, r257_7, r257_8, r257_11, r257_12, r257_13, r257_16, r257_19, r257_20, r257_21, r257_24, r257_25, r257_26, r257_27, r257_28, r257_31, k, h, if_true, c196]
theorem c257_t {Kk j : Nat} (hR : RelH s (m 1) c) (h : ixA (s 9) u c 0 = Int32.ofNat j) (hj : j < 8) (hK : Kk < 77) : RM x 257 [.ref b, .int (Int32.ofNat Kk), .int u] (setM w b m) n = some (.inl (some (.int (m 1 (Kk + j)))), setM w b (us m 20 13 0), n) := by
  have k := c211 (x := x) (n := n) (b := b) (w := w) (v := u) hR
  have h0 : ¬ Int32.ofNat j = -1 := ofN_m1 (by omega)
  have h3 : Int32.ofNat Kk + Int32.ofNat j = Int32.ofNat (Kk + j) := i_add
  have h4 : fin 84 (Int32.ofNat (Kk + j)) = some (Kk + j) := fin_nat (by omega) (by omega)
  simp only [csN, csm_i, csm_r, Nat.reduceAdd, Nat.reduceLeDiff, wdI, wdR, wdN, clM_0, clC_0, clC_1, clC_6, clC_8, true_or, or_true, i10, i01, ob_some, ob_map, cal_v, rvs_some, rvs_none, XO_at, cal_x, m257, r257_0, r257_1, r257_2, r257_5, r257_6, r257_7, r257_8, r257_11, r257_12, r257_13, r257_16, r257_19, r257_20, r257_21, r257_24, r257_25, r257_26, r257_27, r257_28, r257_31, k, h, h0, if_false, gM_0_0, lM_1, h3, h4, Option.map_some, c195]
theorem p321 (hV : IV B w m s t y hs le lf F K sc c q cs) : PAIR B x w n 321 [.ref 64, .int u, .ref 237] 258 [.ref 227, .int u] m le lf sc := by
  have hW := hV.1
  have hRH := hV.2.2.2.2.1.1.1
  obtain ⟨⟨g0, -⟩, c64, -⟩ := WD_64 hW
  obtain ⟨-, -, k2, -, -, -, -, -, -, -, -, l8⟩ := WD_r hW
  rcases ixA_cases (f := s 9) (v := u) c 0 (by have := hRH.1.1.2.1; omega) with h | ⟨j, -, hj, h, -⟩
  · have e1 := c95_f (x := x) (n := n) hW hRH.1.1 h
    have e3 : RM x 60 [.ref 64, .int u] w n = some (.inr "java/util/NoSuchElementException", w, n + 1) := by
      simp only [csN, csm_i, csm_r, Nat.reduceAdd, Nat.reduceLeDiff, wdI, wdR, wdN, clM_0, clC_0, clC_1, clC_6, clC_8, true_or, or_true, i10, i01, ob_some, ob_map, cal_v, rvs_some, rvs_none, XO_at, cal_x, m60, r60_0, r60_1, r60_4, r60_7, r60_8, r60_9, r60_12, r60_15, g0, k2, c64, e1]
    exact q_ex (r := 0) hV (by decide) (lx321_1 c64 e3) (fun w' n' => by
      have k := fun z => c257_f (x := x) (n := n') (b := 227) (w := w') (z := z) hRH h
      simp only [csN, csm_i, csm_r, Nat.reduceAdd, Nat.reduceLeDiff, wdI, wdR, wdN, clM_0, clC_0, clC_1, clC_6, clC_8, true_or, or_true, i10, i01, ob_some, ob_map, cal_v, rvs_some, rvs_none, XO_at, cal_x, m258, r258_0, r258_1, r258_3, r258_4, r258_7, k])
  · have h8 := hRH.1.1.2.1
    have e1 := c95_t (x := x) (n := n) hW hRH.1.1 (by rw [h]; exact ofN_m1 (by omega))
    rw [h] at e1
    have e2 : RM x 123 [.ref 73, .int (Int32.ofNat j)] w n = some (.inl (some (.int (m 1 (52 + j)))), w, n) := by
      have k := c123 (x := x) (n := n) (b := 65) (w := w) (s := s) (v := Int32.ofNat j)
      rw [(WD_c hW).1, atv_nat (by omega) (by omega), (hRH.2.2.2 j (by omega)).2.1] at k
      exact k
    have e3 : RM x 60 [.ref 64, .int u] w n = some (.inl (some (.int (m 1 (52 + j)))), w, n) := by
      simp only [csN, csm_i, csm_r, Nat.reduceAdd, Nat.reduceLeDiff, wdI, wdR, wdN, clM_0, clC_0, clC_1, clC_6, clC_8, true_or, or_true, i10, i01, ob_some, ob_map, cal_v, rvs_some, rvs_none, XO_at, cal_x, m60, r60_0, r60_1, r60_4, r60_7, r60_8, r60_9, r60_12, r60_15, g0, k2, c64, e1, l8, e2]
    exact q_ok hV (fun f hf => lw321 c64 e3 hf) (fun w' n' => by
      have k : RM x 257 [.ref 227, .int 52, .int u] (setM w' 227 m) n' = some (.inl (some (.int (m 1 (52 + j)))), setM w' 227 (us m 20 13 0), n') := c257_t (Kk := 52) hRH h (by omega) (by omega)
      simp only [csN, csm_i, csm_r, Nat.reduceAdd, Nat.reduceLeDiff, wdI, wdR, wdN, clM_0, clC_0, clC_1, clC_6, clC_8, true_or, or_true, i10, i01, ob_some, ob_map, cal_v, rvs_some, rvs_none, XO_at, cal_x, m258, r258_0, r258_1, r258_3, r258_4, r258_7, k])
theorem p322 (hV : IV B w m s t y hs le lf F K sc c q cs) : PAIR B x w n 322 [.ref 64, .int u, .ref 237] 259 [.ref 227, .int u] m le lf sc := by
  have hW := hV.1
  have hRH := hV.2.2.2.2.1.1.1
  obtain ⟨⟨g0, -⟩, c64, -⟩ := WD_64 hW
  obtain ⟨-, -, k2, -, -, -, -, -, -, -, -, l8⟩ := WD_r hW
  rcases ixA_cases (f := s 9) (v := u) c 0 (by have := hRH.1.1.2.1; omega) with h | ⟨j, -, hj, h, -⟩
  · have e1 := c95_f (x := x) (n := n) hW hRH.1.1 h
    have e3 : RM x 61 [.ref 64, .int u] w n = some (.inr "java/util/NoSuchElementException", w, n + 1) := by
      simp only [csN, csm_i, csm_r, Nat.reduceAdd, Nat.reduceLeDiff, wdI, wdR, wdN, clM_0, clC_0, clC_1, clC_6, clC_8, true_or, or_true, i10, i01, ob_some, ob_map, cal_v, rvs_some, rvs_none, XO_at, cal_x, m61, r61_0, r61_1, r61_4, r61_7, r61_8, r61_9, r61_12, r61_15, g0, k2, c64, e1]
    exact q_ex (r := 0) hV (by decide) (lx322_1 c64 e3) (fun w' n' => by
      have k := fun z => c257_f (x := x) (n := n') (b := 227) (w := w') (z := z) hRH h
      simp only [csN, csm_i, csm_r, Nat.reduceAdd, Nat.reduceLeDiff, wdI, wdR, wdN, clM_0, clC_0, clC_1, clC_6, clC_8, true_or, or_true, i10, i01, ob_some, ob_map, cal_v, rvs_some, rvs_none, XO_at, cal_x, m259, r259_0, r259_1, r259_3, r259_4, r259_7, k])
  · have h8 := hRH.1.1.2.1
    have e1 := c95_t (x := x) (n := n) hW hRH.1.1 (by rw [h]; exact ofN_m1 (by omega))
    rw [h] at e1
    have e2 : RM x 124 [.ref 73, .int (Int32.ofNat j)] w n = some (.inl (some (.int (m 1 (60 + j)))), w, n) := by
      have k := c124 (x := x) (n := n) (b := 65) (w := w) (s := s) (v := Int32.ofNat j)
      rw [(WD_c hW).1, atv_nat (by omega) (by omega), (hRH.2.2.2 j (by omega)).2.2.1] at k
      exact k
    have e3 : RM x 61 [.ref 64, .int u] w n = some (.inl (some (.int (m 1 (60 + j)))), w, n) := by
      simp only [csN, csm_i, csm_r, Nat.reduceAdd, Nat.reduceLeDiff, wdI, wdR, wdN, clM_0, clC_0, clC_1, clC_6, clC_8, true_or, or_true, i10, i01, ob_some, ob_map, cal_v, rvs_some, rvs_none, XO_at, cal_x, m61, r61_0, r61_1, r61_4, r61_7, r61_8, r61_9, r61_12, r61_15, g0, k2, c64, e1, l8, e2]
    exact q_ok hV (fun f hf => lw322 c64 e3 hf) (fun w' n' => by
      have k : RM x 257 [.ref 227, .int 60, .int u] (setM w' 227 m) n' = some (.inl (some (.int (m 1 (60 + j)))), setM w' 227 (us m 20 13 0), n') := c257_t (Kk := 60) hRH h (by omega) (by omega)
      simp only [csN, csm_i, csm_r, Nat.reduceAdd, Nat.reduceLeDiff, wdI, wdR, wdN, clM_0, clC_0, clC_1, clC_6, clC_8, true_or, or_true, i10, i01, ob_some, ob_map, cal_v, rvs_some, rvs_none, XO_at, cal_x, m259, r259_0, r259_1, r259_3, r259_4, r259_7, k])
theorem p324 (hV : IV B w m s t y hs le lf F K sc c q cs) : PAIR B x w n 324 [.ref 64, .int u, .ref 237] 261 [.ref 227, .int u] m le lf sc := by
  have hW := hV.1
  have hRH := hV.2.2.2.2.1.1.1
  obtain ⟨⟨g0, -⟩, c64, -⟩ := WD_64 hW
  obtain ⟨-, -, k2, -, -, -, -, -, -, -, -, l8⟩ := WD_r hW
  rcases ixA_cases (f := s 9) (v := u) c 0 (by have := hRH.1.1.2.1; omega) with h | ⟨j, -, hj, h, -⟩
  · have e1 := c95_f (x := x) (n := n) hW hRH.1.1 h
    have e3 : RM x 63 [.ref 64, .int u] w n = some (.inr "java/util/NoSuchElementException", w, n + 1) := by
      simp only [csN, csm_i, csm_r, Nat.reduceAdd, Nat.reduceLeDiff, wdI, wdR, wdN, clM_0, clC_0, clC_1, clC_6, clC_8, true_or, or_true, i10, i01, ob_some, ob_map, cal_v, rvs_some, rvs_none, XO_at, cal_x, m63, r63_0, r63_1, r63_4, r63_7, r63_8, r63_9, r63_12, r63_15, g0, k2, c64, e1]
    exact q_ex (r := 0) hV (by decide) (lx324_1 c64 e3) (fun w' n' => by
      have k := fun z => c257_f (x := x) (n := n') (b := 227) (w := w') (z := z) hRH h
      simp only [csN, csm_i, csm_r, Nat.reduceAdd, Nat.reduceLeDiff, wdI, wdR, wdN, clM_0, clC_0, clC_1, clC_6, clC_8, true_or, or_true, i10, i01, ob_some, ob_map, cal_v, rvs_some, rvs_none, XO_at, cal_x, m261, r261_0, r261_1, r261_3, r261_4, r261_7, k])
  · have h8 := hRH.1.1.2.1
    have e1 := c95_t (x := x) (n := n) hW hRH.1.1 (by rw [h]; exact ofN_m1 (by omega))
    rw [h] at e1
    have e2 : RM x 125 [.ref 73, .int (Int32.ofNat j)] w n = some (.inl (some (.int (m 1 (76 + j)))), w, n) := by
      have k := c125 (x := x) (n := n) (b := 65) (w := w) (s := s) (v := Int32.ofNat j)
      rw [(WD_c hW).1, atv_nat (by omega) (by omega), (hRH.2.2.2 j (by omega)).2.2.2.1] at k
      exact k
    have e3 : RM x 63 [.ref 64, .int u] w n = some (.inl (some (.int (m 1 (76 + j)))), w, n) := by
      simp only [csN, csm_i, csm_r, Nat.reduceAdd, Nat.reduceLeDiff, wdI, wdR, wdN, clM_0, clC_0, clC_1, clC_6, clC_8, true_or, or_true, i10, i01, ob_some, ob_map, cal_v, rvs_some, rvs_none, XO_at, cal_x, m63, r63_0, r63_1, r63_4, r63_7, r63_8, r63_9, r63_12, r63_15, g0, k2, c64, e1, l8, e2]
    exact q_ok hV (fun f hf => lw324 c64 e3 hf) (fun w' n' => by
      have k : RM x 257 [.ref 227, .int 76, .int u] (setM w' 227 m) n' = some (.inl (some (.int (m 1 (76 + j)))), setM w' 227 (us m 20 13 0), n') := c257_t (Kk := 76) hRH h (by omega) (by omega)
      simp only [csN, csm_i, csm_r, Nat.reduceAdd, Nat.reduceLeDiff, wdI, wdR, wdN, clM_0, clC_0, clC_1, clC_6, clC_8, true_or, or_true, i10, i01, ob_some, ob_map, cal_v, rvs_some, rvs_none, XO_at, cal_x, m261, r261_0, r261_1, r261_3, r261_4, r261_7, k])
theorem p323 (hV : IV B w m s t y hs le lf F K sc c q cs) : PAIRB B x w n 323 [.ref 64, .int u, .ref 237] 260 [.ref 227, .int u] m le lf sc := by
  have hW := hV.1
  have hRH := hV.2.2.2.2.1.1.1
  obtain ⟨⟨g0, -⟩, c64, -⟩ := WD_64 hW
  obtain ⟨-, -, k2, -, -, -, -, -, -, -, -, l8⟩ := WD_r hW
  rcases ixA_cases (f := s 9) (v := u) c 0 (by have := hRH.1.1.2.1; omega) with h | ⟨j, -, hj, h, -⟩
  · have e1 := c95_f (x := x) (n := n) hW hRH.1.1 h
    have e3 : RM x 62 [.ref 64, .int u] w n = some (.inr "java/util/NoSuchElementException", w, n + 1) := by
      simp only [csN, csm_i, csm_r, Nat.reduceAdd, Nat.reduceLeDiff, wdI, wdR, wdN, clM_0, clC_0, clC_1, clC_6, clC_8, true_or, or_true, i10, i01, ob_some, ob_map, cal_v, rvs_some, rvs_none, XO_at, cal_x, m62, r62_0, r62_1, r62_4, r62_7, r62_8, r62_9, r62_12, g0, k2, c64, e1]
    exact qb_ex hV (by decide) (lx323_1 c64 e3) (fun w' n' => by
      have k := fun z => c257_f (x := x) (n := n') (b := 227) (w := w') (z := z) hRH h
      simp only [csN, csm_i, csm_r, Nat.reduceAdd, Nat.reduceLeDiff, wdI, wdR, wdN, clM_0, clC_0, clC_1, clC_6, clC_8, true_or, or_true, i10, i01, ob_some, ob_map, cal_v, rvs_some, rvs_none, XO_at, cal_x, m260, r260_0, r260_1, r260_3, r260_4, r260_7, r260_8, r260_11, r260_12, r260_15, k, if_false]
      exact r260_16 (by decide))
  · have h8 := hRH.1.1.2.1
    have e1 := c95_t (x := x) (n := n) hW hRH.1.1 (by rw [h]; exact ofN_m1 (by omega))
    rw [h] at e1
    have hd : decide (0 < s 13 j) = decide (m 1 (68 + j) = 1) := by
      rcases (hRH.2.2.2 j (by omega)).2.2.2.2 with ⟨d1, d2⟩ | ⟨d1, d2⟩ <;> rw [d1, d2] <;> decide
    have e2 : RM x 126 [.ref 73, .int (Int32.ofNat j)] w n = some (.inl (some (.int (bi (decide (m 1 (68 + j) = 1))))), w, n) := by
      have k := c126 (x := x) (n := n) (b := 65) (w := w) (s := s) (v := Int32.ofNat j)
      rw [(WD_c hW).1, atv_nat (by omega) (by omega), hd] at k
      exact k
    have e3 : RM x 62 [.ref 64, .int u] w n = some (.inl (some (.int (bi (decide (m 1 (68 + j) = 1))))), w, n) := by
      simp only [csN, csm_i, csm_r, Nat.reduceAdd, Nat.reduceLeDiff, wdI, wdR, wdN, clM_0, clC_0, clC_1, clC_6, clC_8, true_or, or_true, i10, i01, ob_some, ob_map, cal_v, rvs_some, rvs_none, XO_at, cal_x, m62, r62_0, r62_1, r62_4, r62_7, r62_8, r62_9, r62_12, g0, k2, c64, e1, l8, e2]
      exact r62_15 (of_eq_true bi_01)
    exact qb_ok hV (fun f hf => lw323 c64 e3 hf) (fun w' n' => by
      have k : RM x 257 [.ref 227, .int 68, .int u] (setM w' 227 m) n' = some (.inl (some (.int (m 1 (68 + j)))), setM w' 227 (us m 20 13 0), n') := c257_t (Kk := 68) hRH h (by omega) (by omega)
      by_cases h1 : m 1 (68 + j) = 1
      · rw [decide_eq_true h1, bi_t]
        simp only [csN, csm_i, csm_r, Nat.reduceAdd, Nat.reduceLeDiff, wdI, wdR, wdN, clM_0, clC_0, clC_1, clC_6, clC_8, true_or, or_true, i10, i01, ob_some, ob_map, cal_v, rvs_some, rvs_none, XO_at, cal_x, m260, r260_0, r260_1, r260_3, r260_4, r260_7, r260_8, r260_11, r260_12, r260_15, k, h1, if_true]
        exact r260_16 (by decide)
      · rw [decide_eq_false h1, bi_f]
        simp only [csN, csm_i, csm_r, Nat.reduceAdd, Nat.reduceLeDiff, wdI, wdR, wdN, clM_0, clC_0, clC_1, clC_6, clC_8, true_or, or_true, i10, i01, ob_some, ob_map, cal_v, rvs_some, rvs_none, XO_at, cal_x, m260, r260_0, r260_1, r260_3, r260_4, r260_7, r260_8, r260_11, r260_12, r260_15, k, h1, if_false]
        exact r260_16 (by decide))
theorem c263_f (hR : RelH s (m 1) c) (h : ixA (s 9) u c 0 = -1) : RM x 263 [.ref b, .int u] (setM w b m) n = some (.inl (some (.int 0)), setM w b (us m 20 13 1), n) := by
  have k := c211 (x := x) (n := n) (b := b) (w := w) (v := u) hR
  simp only [csN, csm_i, csm_r, Nat.reduceAdd, Nat.reduceLeDiff, wdI, wdR, wdN, clM_0, clC_0, clC_1, clC_6, clC_8, true_or, or_true, i10, i01, ob_some, ob_map, cal_v, rvs_some, rvs_none, XO_at, cal_x, m263, r263_0, r263_1, r263_2, r263_5, r263_6, r263_7, r263_8, r263_11, r263_12, r263_13, r263_16, r263_17, r263_18, r263_19, r263_22, r263_24, r263_25, r263_26, r263_27, r263_28, r263_31, r263_32, r263_33, r263_36, r263_38, r263_39, r263_40, r263_41, r263_42, r263_45, r263_46, r263_49, r263_51, r263_52, r263_53, r263_54, r263_57, k, h, if_true, c196]
theorem c263_t {j : Nat} (hR : RelH s (m 1) c) (h : ixA (s 9) u c 0 = Int32.ofNat j) (hj : j < c) : RM x 263 [.ref b, .int u] (setM w b m) n = some (.inl (some (.int (gaS (s 12 j) (s 13 j)))), setM w b (us m 20 13 0), n) := by
  have h8 := hR.1.1.2.1
  have k := c211 (x := x) (n := n) (b := b) (w := w) (v := u) hR
  have h0 : ¬ Int32.ofNat j = -1 := ofN_m1 (by omega)
  have h1 : (68 : Int32) + Int32.ofNat j = Int32.ofNat (68 + j) := i_add (a := 68)
  have h2 : fin 84 (Int32.ofNat (68 + j)) = some (68 + j) := fin_nat (by omega) (by omega)
  have h3 : (76 : Int32) + Int32.ofNat j = Int32.ofNat (76 + j) := i_add (a := 76)
  have h4 : fin 84 (Int32.ofNat (76 + j)) = some (76 + j) := fin_nat (by omega) (by omega)
  obtain ⟨-, -, -, e12, hd⟩ := hR.2.2.2 j hj
  unfold gaS
  rcases hd with ⟨d1, d2⟩ | ⟨d1, d2⟩
  · rw [d1, if_pos (by decide), e12]
    simp only [csN, csm_i, csm_r, Nat.reduceAdd, Nat.reduceLeDiff, wdI, wdR, wdN, clM_0, clC_0, clC_1, clC_6, clC_8, true_or, or_true, i10, i01, ob_some, ob_map, cal_v, rvs_some, rvs_none, XO_at, cal_x, m263, r263_0, r263_1, r263_2, r263_5, r263_6, r263_7, r263_8, r263_11, r263_12, r263_13, r263_16, r263_17, r263_18, r263_19, r263_22, r263_24, r263_25, r263_26, r263_27, r263_28, r263_31, r263_32, r263_33, r263_36, r263_38, r263_39, r263_40, r263_41, r263_42, r263_45, r263_46, r263_49, r263_51, r263_52, r263_53, r263_54, r263_57, k, h, h0, if_false, gM_0_0, lM_1, h1, h2, h3, h4, Option.map_some, d2, if_true, c195]
  · rw [d1, if_neg (by decide), e12]
    simp only [csN, csm_i, csm_r, Nat.reduceAdd, Nat.reduceLeDiff, wdI, wdR, wdN, clM_0, clC_0, clC_1, clC_6, clC_8, true_or, or_true, i10, i01, ob_some, ob_map, cal_v, rvs_some, rvs_none, XO_at, cal_x, m263, r263_0, r263_1, r263_2, r263_5, r263_6, r263_7, r263_8, r263_11, r263_12, r263_13, r263_16, r263_17, r263_18, r263_19, r263_22, r263_24, r263_25, r263_26, r263_27, r263_28, r263_31, r263_32, r263_33, r263_36, r263_38, r263_39, r263_40, r263_41, r263_42, r263_45, r263_46, r263_49, r263_51, r263_52, r263_53, r263_54, r263_57, k, h, h0, if_false, gM_0_0, lM_1, h1, h2, h3, h4, Option.map_some, d2, c195]
theorem p326 (hV : IV B w m s t y hs le lf F K sc c q cs) : PAIR B x w n 326 [.ref 64, .int u, .ref 237] 263 [.ref 227, .int u] m le lf sc := by
  have hW := hV.1
  have hRH := hV.2.2.2.2.1.1.1
  obtain ⟨⟨g0, -⟩, c64, -⟩ := WD_64 hW
  obtain ⟨-, -, k2, -, -, -, -, -, -, -, -, l8⟩ := WD_r hW
  rcases ixA_cases (f := s 9) (v := u) c 0 (by have := hRH.1.1.2.1; omega) with h | ⟨j, -, hj, h, -⟩
  · have e1 := c95_f (x := x) (n := n) hW hRH.1.1 h
    have e3 : RM x 65 [.ref 64, .int u] w n = some (.inr "java/util/NoSuchElementException", w, n + 1) := by
      simp only [csN, csm_i, csm_r, Nat.reduceAdd, Nat.reduceLeDiff, wdI, wdR, wdN, clM_0, clC_0, clC_1, clC_6, clC_8, true_or, or_true, i10, i01, ob_some, ob_map, cal_v, rvs_some, rvs_none, XO_at, cal_x, m65, r65_0, r65_1, r65_4, r65_7, r65_8, r65_9, r65_12, r65_15, g0, k2, c64, e1]
    exact q_ex hV (by decide) (lx326_1 c64 e3) (fun w' n' => c263_f hRH h)
  · have h8 := hRH.1.1.2.1
    have e1 := c95_t (x := x) (n := n) hW hRH.1.1 (by rw [h]; exact ofN_m1 (by omega))
    rw [h] at e1
    have e2 : RM x 129 [.ref 73, .int (Int32.ofNat j)] w n = some (.inl (some (.int (gaS (s 12 j) (s 13 j)))), w, n) := by
      have k := c129 (x := x) (n := n) (b := 65) (w := w) (s := s) (v := Int32.ofNat j)
      rw [(WD_c hW).1, atv_nat (by omega) (by omega), atv_nat (by omega) (by omega)] at k
      exact k
    have e3 : RM x 65 [.ref 64, .int u] w n = some (.inl (some (.int (gaS (s 12 j) (s 13 j)))), w, n) := by
      simp only [csN, csm_i, csm_r, Nat.reduceAdd, Nat.reduceLeDiff, wdI, wdR, wdN, clM_0, clC_0, clC_1, clC_6, clC_8, true_or, or_true, i10, i01, ob_some, ob_map, cal_v, rvs_some, rvs_none, XO_at, cal_x, m65, r65_0, r65_1, r65_4, r65_7, r65_8, r65_9, r65_12, r65_15, g0, k2, c64, e1, l8, e2]
    exact q_ok hV (fun f hf => lw326 c64 e3 hf) (fun w' n' => c263_t hRH h (by omega))
/-! may pass -/
theorem c262_f (hR : RelH s (m 1) c) (h : ixA (s 9) u c 0 = -1) : RM x 262 [.ref b, .int u] (setM w b m) n = some (.inl (some (.int 0)), setM w b (us m 20 13 1), n) := by
  have k := c211 (x := x) (n := n) (b := b) (w := w) (v := u) hR
  have e0 : us m 20 13 1 20 13 = 1 := by rw [us_at, if_pos rfl, if_pos rfl]
  simp only [csN, csm_i, csm_r, Nat.reduceAdd, Nat.reduceLeDiff, wdI, wdR, wdN, clM_0, clC_0, clC_1, clC_6, clC_8, true_or, or_true, i10, i01, ob_some, ob_map, cal_v, rvs_some, rvs_none, XO_at, cal_x, m262, r262_0, r262_1, r262_2, r262_5, r262_6, r262_7, r262_8, r262_9, r262_12, r262_13, r262_16, r262_17, r262_20, r262_21, r262_24, r262_27, r262_28, r262_29, r262_32, r262_35, r262_36, r262_39, k, h, if_true, pM_0_13, gM_0_13, e0, if_false]
  exact r262_40 (by decide)
theorem c262_t {j : Nat} (hR : RelH s (m 1) c) (h : ixA (s 9) u c 0 = Int32.ofNat j) (hj : j < c) : RM x 262 [.ref b, .int u] (setM w b m) n = some (.inl (some (.int (bi (mpS s c j (gN s j) (rN s j))))), setM w b (us m 20 13 0), n) := by
  have h8 := hR.1.1.2.1
  have k := c211 (x := x) (n := n) (b := b) (w := w) (v := u) hR
  have h0 : ¬ Int32.ofNat j = -1 := ofN_m1 (by omega)
  have e0 : us m 20 13 0 20 13 = 0 := by rw [us_at, if_pos rfl, if_pos rfl]
  obtain ⟨g1, g2, g3, g4, -⟩ := WB_gr (hR.1.2 j hj)
  have hm : us m 20 13 0 1 = m 1 := us_ne (by decide)
  have E := c215 (x := x) (n := n) (b := b) (w := w) (m := us m 20 13 0) (i := j) (j := j) (c := c) (cg := c) (gt := gN s j) (r := rN s j) rfl (by omega) (by rw [hm]; exact hR.2.2.2 j hj) (by rw [hm]; exact hR.2.1) g2 g1 g3 g4 (by rw [hm]; exact hR.2.2.1) h8 (fun _ _ => by
    rw [hm]
    exact cnt_congr (fun i hi => by rw [(hR.2.2.2 i hi).2.2.2.1]))
  cases hp : mpS s c j (gN s j) (rN s j) with
  | true =>
    rw [hp, bi_t] at E
    simp only [csN, csm_i, csm_r, Nat.reduceAdd, Nat.reduceLeDiff, wdI, wdR, wdN, clM_0, clC_0, clC_1, clC_6, clC_8, true_or, or_true, i10, i01, ob_some, ob_map, cal_v, rvs_some, rvs_none, XO_at, cal_x, m262, r262_0, r262_1, r262_2, r262_5, r262_6, r262_7, r262_8, r262_9, r262_12, r262_13, r262_16, r262_17, r262_20, r262_21, r262_24, r262_27, r262_28, r262_29, r262_32, r262_35, r262_36, r262_39, k, h, h0, if_false, pM_0_13, gM_0_13, e0, if_true, E, bi_t]
    exact r262_40 (by decide)
  | false =>
    rw [hp, bi_f] at E
    simp only [csN, csm_i, csm_r, Nat.reduceAdd, Nat.reduceLeDiff, wdI, wdR, wdN, clM_0, clC_0, clC_1, clC_6, clC_8, true_or, or_true, i10, i01, ob_some, ob_map, cal_v, rvs_some, rvs_none, XO_at, cal_x, m262, r262_0, r262_1, r262_2, r262_5, r262_6, r262_7, r262_8, r262_9, r262_12, r262_13, r262_16, r262_17, r262_20, r262_21, r262_24, r262_27, r262_28, r262_29, r262_32, r262_35, r262_36, r262_39, k, h, h0, if_false, pM_0_13, gM_0_13, e0, if_true, E, bi_f]
    exact r262_40 (by decide)
theorem p325 (hV : IV B w m s t y hs le lf F K sc c q cs) : PAIRB B x w n 325 [.ref 64, .int u, .ref 237] 262 [.ref 227, .int u] m le lf sc := by
  have hW := hV.1
  have hRH := hV.2.2.2.2.1.1.1
  obtain ⟨⟨g0, -⟩, c64, c65, -⟩ := WD_64 hW
  rcases ixA_cases (f := s 9) (v := u) c 0 (by have := hRH.1.1.2.1; omega) with h | ⟨j, -, hj, h, -⟩
  · have e1 := c95_f (x := x) (n := n) hW hRH.1.1 h
    have e3 : RM x 64 [.ref 64, .int u] w n = some (.inr "java/util/NoSuchElementException", w, n + 1) := by
      simp only [csN, csm_i, csm_r, Nat.reduceAdd, Nat.reduceLeDiff, wdI, wdR, wdN, clM_0, clC_0, clC_1, clC_6, clC_8, true_or, or_true, i10, i01, ob_some, ob_map, cal_v, rvs_some, rvs_none, XO_at, cal_x, m64, r64_0, r64_1, r64_4, r64_5, r64_6, r64_9, g0, c64, e1]
    exact qb_ex hV (by decide) (lx325_1 c64 e3) (fun w' n' => c262_f hRH h)
  · have h8 := hRH.1.1.2.1
    have e1 := c95_t (x := x) (n := n) hW hRH.1.1 (by rw [h]; exact ofN_m1 (by omega))
    rw [h] at e1
    obtain ⟨g1, g2, g3, g4, -⟩ := WB_gr (hRH.1.2 j (by omega))
    have e2 : RM x 108 [.ref 65, .int (Int32.ofNat j)] w n = some (.inl (some (.int (bi (mpS s c j (gN s j) (rN s j))))), w, n) := by
      have k := c108 (x := x) (n := n) (b := 65) (w := w) (u := Int32.ofNat j) rfl hRH.1.1 (by omega) g2 g1 g3 g4
      rw [(WD_c hW).1] at k
      exact k
    have e3 : RM x 64 [.ref 64, .int u] w n = some (.inl (some (.int (bi (mpS s c j (gN s j) (rN s j))))), w, n) := by
      simp only [csN, csm_i, csm_r, Nat.reduceAdd, Nat.reduceLeDiff, wdI, wdR, wdN, clM_0, clC_0, clC_1, clC_6, clC_8, true_or, or_true, i10, i01, ob_some, ob_map, cal_v, rvs_some, rvs_none, XO_at, cal_x, m64, r64_0, r64_1, r64_4, r64_5, r64_6, r64_9, g0, c64, e1, c65, e2]
      exact r64_12 (of_eq_true bi_01)
    exact qb_ok hV (fun f hf => lw325 c64 e3 hf) (fun w' n' => c262_t hRH h (by omega))
end QRB
