/-! QUESTIONS about strings, reaches, barges -/
section QRS
set_option maxRecDepth 20000
variable {x : SX} {n b c q B : Nat} {w w' : PW} {m s t y : NS} {hs le lf hc : Int32} {F : Nat → Nat} {K : Nat → NS} {sc : NS} {cs : Nat → Nat} {u v : Int32}
theorem c244_t {Kk g r : Nat} (hg : g < 5) (hr : r < 2) (hK : Kk < 60) : RM x 244 [.ref b, .int (Int32.ofNat Kk), .int (Int32.ofNat g), .int (Int32.ofNat r)] (setM w b m) n = some (.inl (some (.int (m 1 (Kk + (g * 2 + r))))), setM w b (us m 20 13 0), n) := by
  have h1 : rg (Int32.ofNat g) 5 = true := nat_rg (N := 5) (by omega) hg
  have h2 : rg (Int32.ofNat r) 2 = true := nat_rg (N := 2) (by omega) hr
  have h3 := i_K2g (K := Kk) (g := g) (t := r)
  have h4 : fin 84 (Int32.ofNat (Kk + (g * 2 + r))) = some (Kk + (g * 2 + r)) := fin_nat (by omega) (by omega)
  simp only [csN, csm_i, csm_r, Nat.reduceAdd, Nat.reduceLeDiff, wdI, wdR, wdN, clM_0, clC_0, clC_1, clC_6, clC_8, true_or, or_true, i10, i01, ob_some, ob_map, cal_v, rvs_some, rvs_none, XO_at, cal_x, m244, r244_0, r244_1, r244_2, r244_5, r244_8, r244_9, r244_10, r244_13, r244_14, r244_15, r244_16, r244_17, r244_18, r244_19, r244_20, r244_21, r244_24, r244_27, r244_28, r244_29, r244_32, c201, h1, h2, Bool.and_self, bi_t, if_false, gM_0_0, lM_1, h3, h4, Option.map_some, c195]
theorem c244_f (h : (rg u 5 && rg v 2) = false) {z : Int32} : RM x 244 [.ref b, .int z, .int u, .int v] (setM w b m) n = some (.inl (some (.int 0)), setM w b (us m 20 13 1), n) := by
  simp only [csN, csm_i, csm_r, Nat.reduceAdd, Nat.reduceLeDiff, wdI, wdR, wdN, clM_0, clC_0, clC_1, clC_6, clC_8, true_or, or_true, i10, i01, ob_some, ob_map, cal_v, rvs_some, rvs_none, XO_at, cal_x, m244, r244_0, r244_1, r244_2, r244_5, r244_8, r244_9, r244_10, r244_13, r244_14, r244_15, r244_16, r244_17, r244_18, r244_19, r244_20, r244_21, r244_24, r244_27, r244_28, r244_29, r244_32, c201, h, bi_f, if_true, c196]
theorem c245_t {g r : Nat} (hg : g < 5) (hr : r < 2) : RM x 245 [.ref b, .int (Int32.ofNat g), .int (Int32.ofNat r)] (setM w b m) n = some (.inl (some (.int (m 1 (19 + (g * 2 + r))))), setM w b (us m 20 13 0), n) := by
  have k : RM x 244 [.ref b, .int 19, .int (Int32.ofNat g), .int (Int32.ofNat r)] (setM w b m) n = some (.inl (some (.int (m 1 (19 + (g * 2 + r))))), setM w b (us m 20 13 0), n) := c244_t (Kk := 19) hg hr (by omega)
  simp only [csN, csm_i, csm_r, Nat.reduceAdd, Nat.reduceLeDiff, wdI, wdR, wdN, clM_0, clC_0, clC_1, clC_6, clC_8, true_or, or_true, i10, i01, ob_some, ob_map, cal_v, rvs_some, rvs_none, XO_at, cal_x, m245, r245_0, r245_1, r245_3, r245_4, r245_5, r245_8, k]
theorem c245_f (h : (rg u 5 && rg v 2) = false) : RM x 245 [.ref b, .int u, .int v] (setM w b m) n = some (.inl (some (.int 0)), setM w b (us m 20 13 1), n) := by
  have k := fun z => c244_f (x := x) (n := n) (b := b) (w := w) (m := m) (z := z) h
  simp only [csN, csm_i, csm_r, Nat.reduceAdd, Nat.reduceLeDiff, wdI, wdR, wdN, clM_0, clC_0, clC_1, clC_6, clC_8, true_or, or_true, i10, i01, ob_some, ob_map, cal_v, rvs_some, rvs_none, XO_at, cal_x, m245, r245_0, r245_1, r245_3, r245_4, r245_5, r245_8, k]
theorem c246_t {g r : Nat} (hg : g < 5) (hr : r < 2) : RM x 246 [.ref b, .int (Int32.ofNat g), .int (Int32.ofNat r)] (setM w b m) n = some (.inl (some (.int (m 1 (29 + (g * 2 + r))))), setM w b (us m 20 13 0), n) := by
  have k : RM x 244 [.ref b, .int 29, .int (Int32.ofNat g), .int (Int32.ofNat r)] (setM w b m) n = some (.inl (some (.int (m 1 (29 + (g * 2 + r))))), setM w b (us m 20 13 0), n) := c244_t (Kk := 29) hg hr (by omega)
  simp only [csN, csm_i, csm_r, Nat.reduceAdd, Nat.reduceLeDiff, wdI, wdR, wdN, clM_0, clC_0, clC_1, clC_6, clC_8, true_or, or_true, i10, i01, ob_some, ob_map, cal_v, rvs_some, rvs_none, XO_at, cal_x, m246, r246_0, r246_1, r246_3, r246_4, r246_5, r246_8, k]
theorem c246_f (h : (rg u 5 && rg v 2) = false) : RM x 246 [.ref b, .int u, .int v] (setM w b m) n = some (.inl (some (.int 0)), setM w b (us m 20 13 1), n) := by
  have k := fun z => c244_f (x := x) (n := n) (b := b) (w := w) (m := m) (z := z) h
  simp only [csN, csm_i, csm_r, Nat.reduceAdd, Nat.reduceLeDiff, wdI, wdR, wdN, clM_0, clC_0, clC_1, clC_6, clC_8, true_or, or_true, i10, i01, ob_some, ob_map, cal_v, rvs_some, rvs_none, XO_at, cal_x, m246, r246_0, r246_1, r246_3, r246_4, r246_5, r246_8, k]
theorem i_g2r {g r : Nat} : Int32.ofNat g * 2 + Int32.ofNat r = Int32.ofNat (g * 2 + r) := by rw [show (2 : Int32) = Int32.ofNat 2 from rfl, i_mul, i_add]
theorem p313 (hV : IV B w m s t y hs le lf F K sc c q cs) : PAIR B x w n 313 [.ref 64, .int u, .int v, .ref 237] 245 [.ref 227, .int u, .int v] m le lf sc := by
  have hW := hV.1
  have hS := hV.2.2.2.2.1.1.1.2.1
  obtain ⟨⟨g0, -⟩, c64, -⟩ := WD_64 hW
  obtain ⟨k0, -, -, -, -, -, -, -, -, l1, -⟩ := WD_r hW
  cases h : rg u 5 && rg v 2 with
  | true =>
    have h' := h
    rw [Bool.and_eq_true] at h'
    obtain ⟨g, hg, rfl⟩ := rg_nat (N := 5) (by omega) h'.1
    obtain ⟨r, hr, rfl⟩ := rg_nat (N := 2) (by omega) h'.2
    have e1 := c93_t (x := x) (n := n) (w := w) h
    have e2 : RM x 143 [.ref 66, .int (Int32.ofNat g), .int (Int32.ofNat r)] w n = some (.inl (some (.int (m 1 (19 + (g * 2 + r))))), w, n) := by
      have k := c143 (x := x) (n := n) (b := 65) (w := w) (s := s) (u := Int32.ofNat g) (v := Int32.ofNat r)
      rw [(WD_c hW).1, i_g2r, atv_nat (by omega) (by omega), (hS.2.2.2.1 (g * 2 + r) (by omega)).1] at k
      exact k
    have e3 : RM x 50 [.ref 64, .int (Int32.ofNat g), .int (Int32.ofNat r)] w n = some (.inl (some (.int (m 1 (19 + (g * 2 + r))))), w, n) := by
      simp only [csN, csm_i, csm_r, Nat.reduceAdd, Nat.reduceLeDiff, wdI, wdR, wdN, clM_0, clC_0, clC_1, clC_6, clC_8, true_or, or_true, i10, i01, ob_some, ob_map, cal_v, rvs_some, rvs_none, XO_at, cal_x, m50, r50_0, r50_1, r50_2, r50_5, r50_6, r50_9, r50_12, r50_13, r50_14, r50_17, e1, g0, k0, l1, e2]
    exact q_ok hV (fun f hf => lw313 c64 e3 hf) (fun w' n' => c245_t hg hr)
  | false =>
    have e1 := c93_f (x := x) (n := n) (w := w) h
    have e3 : RM x 50 [.ref 64, .int u, .int v] w n = some (.inr "java/lang/IndexOutOfBoundsException", w, n + 1) := by
      simp only [csN, csm_i, csm_r, Nat.reduceAdd, Nat.reduceLeDiff, wdI, wdR, wdN, clM_0, clC_0, clC_1, clC_6, clC_8, true_or, or_true, i10, i01, ob_some, ob_map, cal_v, rvs_some, rvs_none, XO_at, cal_x, m50, r50_0, r50_1, r50_2, r50_5, r50_6, r50_9, r50_12, r50_13, r50_14, r50_17, e1]
    exact q_ex hV (by decide) (lx313_1 c64 e3) (fun w' n' => c245_f h)
theorem p314 (hV : IV B w m s t y hs le lf F K sc c q cs) : PAIR B x w n 314 [.ref 64, .int u, .int v, .ref 237] 246 [.ref 227, .int u, .int v] m le lf sc := by
  have hW := hV.1
  have hS := hV.2.2.2.2.1.1.1.2.1
  obtain ⟨⟨g0, -⟩, c64, -⟩ := WD_64 hW
  obtain ⟨k0, -, -, -, -, -, -, -, -, l1, -⟩ := WD_r hW
  cases h : rg u 5 && rg v 2 with
  | true =>
    have h' := h
    rw [Bool.and_eq_true] at h'
    obtain ⟨g, hg, rfl⟩ := rg_nat (N := 5) (by omega) h'.1
    obtain ⟨r, hr, rfl⟩ := rg_nat (N := 2) (by omega) h'.2
    have e1 := c93_t (x := x) (n := n) (w := w) h
    have e2 : RM x 144 [.ref 66, .int (Int32.ofNat g), .int (Int32.ofNat r)] w n = some (.inl (some (.int (m 1 (29 + (g * 2 + r))))), w, n) := by
      have k := c144 (x := x) (n := n) (b := 65) (w := w) (s := s) (u := Int32.ofNat g) (v := Int32.ofNat r)
      rw [(WD_c hW).1, i_g2r, atv_nat (by omega) (by omega), (hS.2.2.2.2.1 (g * 2 + r) (by omega)).1] at k
      exact k
    have e3 : RM x 51 [.ref 64, .int (Int32.ofNat g), .int (Int32.ofNat r)] w n = some (.inl (some (.int (m 1 (29 + (g * 2 + r))))), w, n) := by
      simp only [csN, csm_i, csm_r, Nat.reduceAdd, Nat.reduceLeDiff, wdI, wdR, wdN, clM_0, clC_0, clC_1, clC_6, clC_8, true_or, or_true, i10, i01, ob_some, ob_map, cal_v, rvs_some, rvs_none, XO_at, cal_x, m51, r51_0, r51_1, r51_2, r51_5, r51_6, r51_9, r51_12, r51_13, r51_14, r51_17, e1, g0, k0, l1, e2]
    exact q_ok hV (fun f hf => lw314 c64 e3 hf) (fun w' n' => c246_t hg hr)
  | false =>
    have e1 := c93_f (x := x) (n := n) (w := w) h
    have e3 : RM x 51 [.ref 64, .int u, .int v] w n = some (.inr "java/lang/IndexOutOfBoundsException", w, n + 1) := by
      simp only [csN, csm_i, csm_r, Nat.reduceAdd, Nat.reduceLeDiff, wdI, wdR, wdN, clM_0, clC_0, clC_1, clC_6, clC_8, true_or, or_true, i10, i01, ob_some, ob_map, cal_v, rvs_some, rvs_none, XO_at, cal_x, m51, r51_0, r51_1, r51_2, r51_5, r51_6, r51_9, r51_12, r51_13, r51_14, r51_17, e1]
    exact q_ex hV (by decide) (lx314_1 c64 e3) (fun w' n' => c246_f h)
theorem c247_t {g : Nat} (hR : RS s (m 1)) (hk : isKd (s 2 g)) (hg : g < 5) : RM x 247 [.ref b, .int (Int32.ofNat g)] (setM w b m) n = some (.inl (some (.int (s 2 g))), setM w b (us m 20 13 0), n) := by
  have h1 : rg (Int32.ofNat g) 5 = true := nat_rg (N := 5) (by omega) hg
  obtain ⟨k, hk4, k1, k2⟩ := hR.2.2.1 g hg
  have e0 : us m 20 13 0 20 13 = 0 := by rw [us_at, if_pos rfl, if_pos rfl]
  have e1 : us m 20 13 0 1 (14 + g) = Int32.ofNat k := by rw [us_ne (by decide)]; exact k1
  have h3 : (14 : Int32) + Int32.ofNat g = Int32.ofNat (14 + g) := i_add (a := 14)
  have h4 : fin 84 (Int32.ofNat (14 + g)) = some (14 + g) := fin_nat (by omega) (by omega)
  have z0 : ¬ (0 : Int32) < 0 := by decide
  rw [k2] at hk ⊢
  simp only [csN, csm_i, csm_r, Nat.reduceAdd, Nat.reduceLeDiff, wdI, wdR, wdN, clM_0, clC_0, clC_1, clC_6, clC_8, true_or, or_true, i10, i01, ob_some, ob_map, cal_v, rvs_some, rvs_none, XO_at, cal_x, m247, r247_0, r247_1, r247_2, r247_5, r247_8, r247_9, r247_12, r247_13, r247_16, r247_17, r247_20, r247_23, r247_24, r247_27, r247_28, r247_31, r247_33, r247_34, r247_35, r247_36, c200, h1, bi_t, if_false, pM_0_13, gM_0_13, e0, z0, gM_0_0, lM_1, h3, h4, Option.map_some, e1, c207]
  exact r247_39 (isKd_ch hk)
theorem c247_f (h : rg u 5 = false) : RM x 247 [.ref b, .int u] (setM w b m) n = some (.inl (some (.int 0)), setM w b (us m 20 13 1), n) := by
  have e0 : us m 20 13 1 20 13 = 1 := by rw [us_at, if_pos rfl, if_pos rfl]
  have z1 : (0 : Int32) < 1 := by decide
  simp only [csN, csm_i, csm_r, Nat.reduceAdd, Nat.reduceLeDiff, wdI, wdR, wdN, clM_0, clC_0, clC_1, clC_6, clC_8, true_or, or_true, i10, i01, ob_some, ob_map, cal_v, rvs_some, rvs_none, XO_at, cal_x, m247, r247_0, r247_1, r247_2, r247_5, r247_8, r247_9, r247_12, r247_13, r247_16, r247_17, r247_20, r247_23, r247_24, r247_27, r247_28, r247_31, r247_33, r247_34, r247_35, r247_36, c200, h, bi_f, if_true, pM_0_13, gM_0_13, e0, z1]
  exact r247_39 (by decide)
theorem p315 (hV : IV B w m s t y hs le lf F K sc c q cs) : PAIR B x w n 315 [.ref 64, .int u, .ref 237] 247 [.ref 227, .int u] m le lf sc := by
  have hW := hV.1
  have hS := hV.2.2.2.2.1.1.1.2.1
  have hk := hV.2.2.2.2.1.1.1.1.1.2.2
  obtain ⟨⟨g0, -⟩, c64, -⟩ := WD_64 hW
  obtain ⟨k0, -, -, -, -, -, -, -, -, l1, -⟩ := WD_r hW
  cases h : rg u 5 with
  | true =>
    obtain ⟨g, hg, rfl⟩ := rg_nat (N := 5) (by omega) h
    have e1 := c92_t (x := x) (n := n) (w := w) h
    have e2 : RM x 145 [.ref 66, .int (Int32.ofNat g)] w n = some (.inl (some (.int (s 2 g))), w, n) := by
      have k := c145 (x := x) (n := n) (b := 65) (w := w) (s := s) rfl hg (isKd_ch (hk g hg))
      rw [(WD_c hW).1] at k
      exact k
    have e3 : RM x 52 [.ref 64, .int (Int32.ofNat g)] w n = some (.inl (some (.int (s 2 g))), w, n) := by
      simp only [csN, csm_i, csm_r, Nat.reduceAdd, Nat.reduceLeDiff, wdI, wdR, wdN, clM_0, clC_0, clC_1, clC_6, clC_8, true_or, or_true, i10, i01, ob_some, ob_map, cal_v, rvs_some, rvs_none, XO_at, cal_x, m52, r52_0, r52_1, r52_4, r52_5, r52_8, r52_11, r52_12, e1, g0, k0, l1, e2]
      exact r52_15 (isKd_ch (hk g hg))
    exact q_ok hV (fun f hf => lw315 c64 e3 hf) (fun w' n' => c247_t hS (hk g hg) hg)
  | false =>
    have e1 := c92_f (x := x) (n := n) (w := w) h
    have e3 : RM x 52 [.ref 64, .int u] w n = some (.inr "java/lang/IndexOutOfBoundsException", w, n + 1) := by
      simp only [csN, csm_i, csm_r, Nat.reduceAdd, Nat.reduceLeDiff, wdI, wdR, wdN, clM_0, clC_0, clC_1, clC_6, clC_8, true_or, or_true, i10, i01, ob_some, ob_map, cal_v, rvs_some, rvs_none, XO_at, cal_x, m52, r52_0, r52_1, r52_4, r52_5, r52_8, r52_11, r52_12, e1]
    exact q_ex hV (by decide) (lx315_1 c64 e3) (fun w' n' => c247_f h)
theorem c248_t {g : Nat} (hg : g < 5) : RM x 248 [.ref b, .int (Int32.ofNat g)] (setM w b m) n = some (.inl (some (.int (m 1 (39 + g)))), setM w b (us m 20 13 0), n) := by
  have h1 : rg (Int32.ofNat g) 5 = true := nat_rg (N := 5) (by omega) hg
  have h3 : (39 : Int32) + Int32.ofNat g = Int32.ofNat (39 + g) := i_add (a := 39)
  have h4 : fin 84 (Int32.ofNat (39 + g)) = some (39 + g) := fin_nat (by omega) (by omega)
  simp only [csN, csm_i, csm_r, Nat.reduceAdd, Nat.reduceLeDiff, wdI, wdR, wdN, clM_0, clC_0, clC_1, clC_6, clC_8, true_or, or_true, i10, i01, ob_some, ob_map, cal_v, rvs_some, rvs_none, XO_at, cal_x, m248, r248_0, r248_1, r248_4, r248_7, r248_8, r248_9, r248_12, r248_14, r248_15, r248_16, r248_17, r248_20, r248_23, r248_24, r248_25, r248_28, c200, h1, bi_t, if_false, gM_0_0, lM_1, h3, h4, Option.map_some, c195]
theorem c248_f (h : rg u 5 = false) : RM x 248 [.ref b, .int u] (setM w b m) n = some (.inl (some (.int 0)), setM w b (us m 20 13 1), n) := by
  simp only [csN, csm_i, csm_r, Nat.reduceAdd, Nat.reduceLeDiff, wdI, wdR, wdN, clM_0, clC_0, clC_1, clC_6, clC_8, true_or, or_true, i10, i01, ob_some, ob_map, cal_v, rvs_some, rvs_none, XO_at, cal_x, m248, r248_0, r248_1, r248_4, r248_7, r248_8, r248_9, r248_12, r248_14, r248_15, r248_16, r248_17, r248_20, r248_23, r248_24, r248_25, r248_28, c200, h, bi_f, if_true, c196]
theorem p316 (hV : IV B w m s t y hs le lf F K sc c q cs) : PAIR B x w n 316 [.ref 64, .int u, .ref 237] 248 [.ref 227, .int u] m le lf sc := by
  have hW := hV.1
  have hS := hV.2.2.2.2.1.1.1.2.1
  obtain ⟨⟨g0, -⟩, c64, -⟩ := WD_64 hW
  obtain ⟨k0, -, -, -, -, -, -, -, -, l1, -⟩ := WD_r hW
  cases h : rg u 5 with
  | true =>
    obtain ⟨g, hg, rfl⟩ := rg_nat (N := 5) (by omega) h
    have e1 := c92_t (x := x) (n := n) (w := w) h
    have e2 : RM x 146 [.ref 66, .int (Int32.ofNat g)] w n = some (.inl (some (.int (m 1 (39 + g)))), w, n) := by
      have k := c146 (x := x) (n := n) (b := 65) (w := w) (s := s) (u := Int32.ofNat g)
      rw [(WD_c hW).1, atv_nat hg (by omega), hS.2.2.2.2.2 g hg] at k
      exact k
    have e3 : RM x 53 [.ref 64, .int (Int32.ofNat g)] w n = some (.inl (some (.int (m 1 (39 + g)))), w, n) := by
      simp only [csN, csm_i, csm_r, Nat.reduceAdd, Nat.reduceLeDiff, wdI, wdR, wdN, clM_0, clC_0, clC_1, clC_6, clC_8, true_or, or_true, i10, i01, ob_some, ob_map, cal_v, rvs_some, rvs_none, XO_at, cal_x, m53, r53_0, r53_1, r53_4, r53_5, r53_8, r53_11, r53_12, r53_15, e1, g0, k0, l1, e2]
    exact q_ok hV (fun f hf => lw316 c64 e3 hf) (fun w' n' => c248_t hg)
  | false =>
    have e1 := c92_f (x := x) (n := n) (w := w) h
    have e3 : RM x 53 [.ref 64, .int u] w n = some (.inr "java/lang/IndexOutOfBoundsException", w, n + 1) := by
      simp only [csN, csm_i, csm_r, Nat.reduceAdd, Nat.reduceLeDiff, wdI, wdR, wdN, clM_0, clC_0, clC_1, clC_6, clC_8, true_or, or_true, i10, i01, ob_some, ob_map, cal_v, rvs_some, rvs_none, XO_at, cal_x, m53, r53_0, r53_1, r53_4, r53_5, r53_8, r53_11, r53_12, r53_15, e1]
    exact q_ex hV (by decide) (lx316_1 c64 e3) (fun w' n' => c248_f h)
theorem c252_t {g : Nat} (hg : g < 6) : RM x 252 [.ref b, .int (Int32.ofNat g)] (setM w b m) n = some (.inl (some (.int (m 1 (8 + g)))), setM w b (us m 20 13 0), n) := by
  have h1 : rg (Int32.ofNat g) 6 = true := nat_rg (N := 6) (by omega) hg
  have h3 : (8 : Int32) + Int32.ofNat g = Int32.ofNat (8 + g) := i_add (a := 8)
  have h4 : fin 84 (Int32.ofNat (8 + g)) = some (8 + g) := fin_nat (by omega) (by omega)
  simp only [csN, csm_i, csm_r, Nat.reduceAdd, Nat.reduceLeDiff, wdI, wdR, wdN, clM_0, clC_0, clC_1, clC_6, clC_8, true_or, or_true, i10, i01, ob_some, ob_map, cal_v, rvs_some, rvs_none, XO_at, cal_x, m252, r252_0, r252_1, r252_4, r252_7, r252_8, r252_9, r252_12, r252_14, r252_15, r252_16, r252_17, r252_20, r252_23, r252_24, r252_25, r252_28, c202, h1, bi_t, if_false, gM_0_0, lM_1, h3, h4, Option.map_some, c195]
theorem c252_f (h : rg u 6 = false) : RM x 252 [.ref b, .int u] (setM w b m) n = some (.inl (some (.int 0)), setM w b (us m 20 13 1), n) := by
  simp only [csN, csm_i, csm_r, Nat.reduceAdd, Nat.reduceLeDiff, wdI, wdR, wdN, clM_0, clC_0, clC_1, clC_6, clC_8, true_or, or_true, i10, i01, ob_some, ob_map, cal_v, rvs_some, rvs_none, XO_at, cal_x, m252, r252_0, r252_1, r252_4, r252_7, r252_8, r252_9, r252_12, r252_14, r252_15, r252_16, r252_17, r252_20, r252_23, r252_24, r252_25, r252_28, c202, h, bi_f, if_true, c196]
theorem p318 (hV : IV B w m s t y hs le lf F K sc c q cs) : PAIR B x w n 318 [.ref 64, .int u, .ref 237] 252 [.ref 227, .int u] m le lf sc := by
  have hW := hV.1
  have hS := hV.2.2.2.2.1.1.1.2.1
  obtain ⟨⟨g0, -⟩, c64, -⟩ := WD_64 hW
  obtain ⟨-, k1, -, -, -, -, -, -, -, -, l4, -⟩ := WD_r hW
  cases h : rg u 6 with
  | true =>
    obtain ⟨g, hg, rfl⟩ := rg_nat (N := 6) (by omega) h
    have e1 := c94_t (x := x) (n := n) (w := w) h
    have e2 : RM x 167 [.ref 71, .int (Int32.ofNat g)] w n = some (.inl (some (.int (m 1 (8 + g)))), w, n) := by
      have k := c167 (x := x) (n := n) (b := 65) (w := w) (s := s) (u := Int32.ofNat g)
      rw [(WD_c hW).1, atv_nat hg (by omega), hS.2.1 g hg] at k
      exact k
    have e3 : RM x 55 [.ref 64, .int (Int32.ofNat g)] w n = some (.inl (some (.int (m 1 (8 + g)))), w, n) := by
      simp only [csN, csm_i, csm_r, Nat.reduceAdd, Nat.reduceLeDiff, wdI, wdR, wdN, clM_0, clC_0, clC_1, clC_6, clC_8, true_or, or_true, i10, i01, ob_some, ob_map, cal_v, rvs_some, rvs_none, XO_at, cal_x, m55, r55_0, r55_1, r55_4, r55_5, r55_8, r55_11, r55_12, r55_15, e1, g0, k1, l4, e2]
    exact q_ok hV (fun f hf => lw318 c64 e3 hf) (fun w' n' => c252_t hg)
  | false =>
    have e1 := c94_f (x := x) (n := n) (w := w) h
    have e3 : RM x 55 [.ref 64, .int u] w n = some (.inr "java/lang/IndexOutOfBoundsException", w, n + 1) := by
      simp only [csN, csm_i, csm_r, Nat.reduceAdd, Nat.reduceLeDiff, wdI, wdR, wdN, clM_0, clC_0, clC_1, clC_6, clC_8, true_or, or_true, i10, i01, ob_some, ob_map, cal_v, rvs_some, rvs_none, XO_at, cal_x, m55, r55_0, r55_1, r55_4, r55_5, r55_8, r55_11, r55_12, r55_15, e1]
    exact q_ex hV (by decide) (lx318_1 c64 e3) (fun w' n' => c252_f h)
theorem c253_t (h : rg u 6 = true) (hR : RelH s (m 1) c) : RM x 253 [.ref b, .int u] (setM w b m) n = some (.inl (some (.int (Int32.ofNat (ctS s c u)))), setM w b (us m 20 13 0), n) := by
  have k := c212 (x := x) (n := n) (b := b) (w := w) (v := u) hR.2.2.1 hR.1.1.2.1
  have e : cnt (fun j => decide (m 1 (76 + j) = u)) c = ctS s c u := cnt_congr (fun j hj => by rw [(hR.2.2.2 j hj).2.2.2.1])
  rw [e] at k
  simp only [csN, csm_i, csm_r, Nat.reduceAdd, Nat.reduceLeDiff, wdI, wdR, wdN, clM_0, clC_0, clC_1, clC_6, clC_8, true_or, or_true, i10, i01, ob_some, ob_map, cal_v, rvs_some, rvs_none, XO_at, cal_x, m253, r253_0, r253_1, r253_4, r253_7, r253_8, r253_9, r253_10, r253_13, r253_16, r253_19, r253_20, r253_21, r253_24, c202, h, bi_t, if_false, k, c195]
theorem c253_f (h : rg u 6 = false) : RM x 253 [.ref b, .int u] (setM w b m) n = some (.inl (some (.int 0)), setM w b (us m 20 13 1), n) := by
  simp only [csN, csm_i, csm_r, Nat.reduceAdd, Nat.reduceLeDiff, wdI, wdR, wdN, clM_0, clC_0, clC_1, clC_6, clC_8, true_or, or_true, i10, i01, ob_some, ob_map, cal_v, rvs_some, rvs_none, XO_at, cal_x, m253, r253_0, r253_1, r253_4, r253_7, r253_8, r253_9, r253_10, r253_13, r253_16, r253_19, r253_20, r253_21, r253_24, c202, h, bi_f, if_true, c196]
theorem p319 (hV : IV B w m s t y hs le lf F K sc c q cs) : PAIR B x w n 319 [.ref 64, .int u, .ref 237] 253 [.ref 227, .int u] m le lf sc := by
  have hW := hV.1
  have hRH := hV.2.2.2.2.1.1.1
  obtain ⟨⟨g0, -⟩, c64, -⟩ := WD_64 hW
  obtain ⟨-, -, k2, -, -, -, -, -, -, -, -, l8⟩ := WD_r hW
  cases h : rg u 6 with
  | true =>
    have e1 := c94_t (x := x) (n := n) (w := w) h
    have e2 : RM x 134 [.ref 73, .int u] w n = some (.inl (some (.int (Int32.ofNat (ctS s c u)))), w, n) := by
      have k := c134 (x := x) (n := n) (b := 65) (w := w) (v := u) hRH.1.1.1 hRH.1.1.2.1
      rw [(WD_c hW).1] at k
      exact k
    have e3 : RM x 56 [.ref 64, .int u] w n = some (.inl (some (.int (Int32.ofNat (ctS s c u)))), w, n) := by
      simp only [csN, csm_i, csm_r, Nat.reduceAdd, Nat.reduceLeDiff, wdI, wdR, wdN, clM_0, clC_0, clC_1, clC_6, clC_8, true_or, or_true, i10, i01, ob_some, ob_map, cal_v, rvs_some, rvs_none, XO_at, cal_x, m56, r56_0, r56_1, r56_4, r56_5, r56_8, r56_11, r56_12, r56_15, e1, g0, k2, l8, e2]
    exact q_ok hV (fun f hf => lw319 c64 e3 hf) (fun w' n' => c253_t h hRH)
  | false =>
    have e1 := c94_f (x := x) (n := n) (w := w) h
    have e3 : RM x 56 [.ref 64, .int u] w n = some (.inr "java/lang/IndexOutOfBoundsException", w, n + 1) := by
      simp only [csN, csm_i, csm_r, Nat.reduceAdd, Nat.reduceLeDiff, wdI, wdR, wdN, clM_0, clC_0, clC_1, clC_6, clC_8, true_or, or_true, i10, i01, ob_some, ob_map, cal_v, rvs_some, rvs_none, XO_at, cal_x, m56, r56_0, r56_1, r56_4, r56_5, r56_8, r56_11, r56_12, r56_15, e1]
    exact q_ex hV (by decide) (lx319_1 c64 e3) (fun w' n' => c253_f h)
end QRS
