/-! QUESTIONS on both sides: the frame, the simple ones -/
section QRY
set_option maxRecDepth 20000
variable {x : SX} {n b c q B : Nat} {w w' : PW} {m s t y : NS} {hs le lf hc : Int32} {F : Nat → Nat} {K : Nat → NS} {sc : NS} {cs : Nat → Nat} {u v : Int32}
theorem IVq {f : Nat → Int64} {e : Int32} (hV : IV B w m s t y hs le lf F K sc c q cs) (e1 : ∀ i, ¬ i = 237 → w' i = w i) (h37 : w' 237 = some (lcl f)) : IV B (setM w' 227 (us m 20 13 e)) (us m 20 13 e) s t y hs le lf F K sc c q cs := by
  obtain ⟨hW, hM, hf, ⟨g, hg⟩, hR, hH, h6, hy, hi, hiK⟩ := hV
  refine IV_2 (w1 := w) (g := g) hW (fun i hi => e1 i (by omega)) h37 (by rw [e1 _ (by omega)]; exact hg) ?_ ⟨hH.1, ?_, fun j hj => ?_⟩ ?_ ?_ hi hiK
  · rw [us_ne (by decide)]; exact hR
  · rw [us_at, if_pos rfl, if_neg (by decide)]; exact hH.2.1
  · rw [us_ne (by decide)]; exact hH.2.2 j hj
  · rw [us_at, if_pos rfl, if_neg (by decide)]; exact h6
  · rw [us_ne (by decide)]; exact hy
theorem Kp13 {e : Int32} : Kp m (us m 20 13 e) := ⟨fun a ha => us_ne (by omega), fun j _ _ h13 => by rw [us_at, if_pos rfl, if_neg h13]⟩
theorem q_ok {r : Int32} {j1 j2 : Nat} {A1 A2 : List Value} (hV : IV B w m s t y hs le lf F K sc c q cs) (E1 : ∀ f, w 237 = some (lcl f) → RM x j1 A1 w n = some (.inl (some (.int 0)), pupd w 237 (lcl (vp_updL f 0 r.toInt64)), n))
    (E2 : ∀ w' n', RM x j2 A2 (setM w' 227 m) n' = some (.inl (some (.int r)), setM w' 227 (us m 20 13 0), n')) : PAIR B x w n j1 A1 j2 A2 m le lf sc := by
  obtain ⟨f, hf⟩ := hV.2.2.1
  have E := E1 f hf
  obtain ⟨w2, hw2⟩ : ∃ w2, w2 = pupd w 237 (lcl (vp_updL f 0 r.toInt64)) := ⟨_, rfl⟩
  rw [← hw2] at E
  have o2 : ∀ i, ¬ i = 237 → w2 i = w i := fun i hi => by rw [hw2, pupd_ne hi]
  have h37 : w2 237 = some (lcl (vp_updL f 0 r.toInt64)) := by rw [hw2]; exact pupd_same _ _ _
  have M2 : setM w2 227 m = w2 := isM_c hV.2.1 (fun i h1 h2 => o2 i (by omega))
  have E' := E2 w2 n
  rw [M2] at E'
  exact ⟨0, r, w2, n, _, n, E, E', clM M2, by omega, by omega, by omega, fun i h1 h2 => by rw [setM_out (by omega), o2 i (by omega)], fun _ => ⟨_, by rw [setM_out (by omega)]; exact h37, updL_0⟩, _, s, t, y, hs, F, K, c, q, cs, B, by omega, IVq hV o2 h37, by rw [us_at, if_pos rfl, if_pos rfl], Kp13⟩
theorem q_ex {r e : Int32} {j1 j2 : Nat} {A1 A2 : List Value} (hV : IV B w m s t y hs le lf F K sc c q cs) (he : ¬ e = 0) (E1 : RM x j1 A1 w n = some (.inl (some (.int e)), w, n + 2))
    (E2 : ∀ w' n', RM x j2 A2 (setM w' 227 m) n' = some (.inl (some (.int r)), setM w' 227 (us m 20 13 e), n')) : PAIR B x w n j1 A1 j2 A2 m le lf sc := by
  obtain ⟨f, hf⟩ := hV.2.2.1
  have E' := E2 w (n + 2)
  rw [hV.2.1] at E'
  exact ⟨e, r, w, n + 2, _, n + 2, E1, E', clM hV.2.1, by omega, by omega, by omega, fun i h1 h2 => by rw [setM_out (by omega)], fun h => absurd h he, _, s, t, y, hs, F, K, c, q, cs, B, by omega, IVq hV (fun _ _ => rfl) hf, by rw [us_at, if_pos rfl, if_pos rfl], Kp13⟩
theorem q_same {r : Int32} {j1 j2 : Nat} {A1 A2 : List Value} (hV : IV B w m s t y hs le lf F K sc c q cs) (E1 : RM x j1 A1 w n = some (.inl (some (.int r)), w, n))
    (E2 : ∀ w' n', RM x j2 A2 (setM w' 227 m) n' = some (.inl (some (.int r)), setM w' 227 (us m 20 13 0), n')) : SAME B x w n j1 A1 j2 A2 m le lf sc := by
  obtain ⟨f, hf⟩ := hV.2.2.1
  have E' := E2 w n
  rw [hV.2.1] at E'
  exact ⟨r, w, n, _, n, E1, E', clM hV.2.1, by omega, by omega, by omega, fun i h1 h2 => by rw [setM_out (by omega)], _, s, t, y, hs, F, K, c, q, cs, B, by omega, IVq hV (fun _ _ => rfl) hf, Kp13⟩
theorem WD_r (h : WD w s t y hs le lf F K hc sc) : gfd w 0 0 65 = some (.ref 66) ∧ gfd w 0 1 65 = some (.ref 71) ∧ gfd w 0 2 65 = some (.ref 73) ∧ gfd w 0 3 65 = some (.int (s 20 3)) ∧ gfd w 0 4 65 = some (.int (s 20 4)) ∧ gfd w 0 5 65 = some (.int (s 20 5)) ∧
    gfd w 4 1 71 = some (.int (s 20 11)) ∧ gfd w 4 2 71 = some (.int (s 20 12)) ∧ gfd w 4 3 71 = some (.int (s 20 13)) ∧ clo w 66 = some 2 ∧ clo w 71 = some 4 ∧ clo w 73 = some 1 := by
  have k0 := gC_0_0 (w := w) (b := 65) (s := s)
  have k1 := gC_0_1 (w := w) (b := 65) (s := s)
  have k2 := gC_0_2 (w := w) (b := 65) (s := s)
  have k3 := gC_0_3 (w := w) (b := 65) (s := s)
  have k4 := gC_0_4 (w := w) (b := 65) (s := s)
  have k5 := gC_0_5 (w := w) (b := 65) (s := s)
  have k6 := gC_6_1 (w := w) (b := 65) (s := s)
  have k7 := gC_6_2 (w := w) (b := 65) (s := s)
  have k8 := gC_6_3 (w := w) (b := 65) (s := s)
  have l1 := clC_1 (w := w) (b := 65) (s := s)
  have l6 := clC_6 (w := w) (b := 65) (s := s)
  have l8 := clC_8 (w := w) (b := 65) (s := s)
  rw [(WD_c h).1] at k0 k1 k2 k3 k4 k5 k6 k7 k8 l1 l6 l8
  exact ⟨k0, k1, k2, k3, k4, k5, k6, k7, k8, l1, l6, l8⟩
/-! what is required -/
theorem c92_t (h : rg u 5 = true) : RM x 92 [.int u] w n = some (.inl none, w, n) := by
  simp only [csN, csm_i, csm_r, Nat.reduceAdd, Nat.reduceLeDiff, wdI, wdR, wdN, clM_0, clC_0, clC_1, clC_6, clC_8, true_or, or_true, i10, i01, ob_some, ob_map, cal_v, rvs_some, rvs_none, XO_at, cal_x, m92, r92_0, r92_1, r92_4, r92_7, r92_18, c140, h, bi_t, if_false]
theorem c92_f (h : rg u 5 = false) : RM x 92 [.int u] w n = some (.inr "java/lang/IndexOutOfBoundsException", w, n + 1) := by
  simp only [csN, csm_i, csm_r, Nat.reduceAdd, Nat.reduceLeDiff, wdI, wdR, wdN, clM_0, clC_0, clC_1, clC_6, clC_8, true_or, or_true, i10, i01, ob_some, ob_map, cal_v, rvs_some, rvs_none, XO_at, cal_x, m92, r92_0, r92_1, r92_4, r92_7, r92_18, c140, h, bi_f, if_true]
theorem c93_t (h : (rg u 5 && rg v 2) = true) : RM x 93 [.int u, .int v] w n = some (.inl none, w, n) := by
  simp only [csN, csm_i, csm_r, Nat.reduceAdd, Nat.reduceLeDiff, wdI, wdR, wdN, clM_0, clC_0, clC_1, clC_6, clC_8, true_or, or_true, i10, i01, ob_some, ob_map, cal_v, rvs_some, rvs_none, XO_at, cal_x, m93, r93_0, r93_1, r93_2, r93_5, r93_8, r93_19, c141, h, bi_t, if_false]
theorem c93_f (h : (rg u 5 && rg v 2) = false) : RM x 93 [.int u, .int v] w n = some (.inr "java/lang/IndexOutOfBoundsException", w, n + 1) := by
  simp only [csN, csm_i, csm_r, Nat.reduceAdd, Nat.reduceLeDiff, wdI, wdR, wdN, clM_0, clC_0, clC_1, clC_6, clC_8, true_or, or_true, i10, i01, ob_some, ob_map, cal_v, rvs_some, rvs_none, XO_at, cal_x, m93, r93_0, r93_1, r93_2, r93_5, r93_8, r93_19, c141, h, bi_f, if_true]
theorem c94_t (h : rg u 6 = true) : RM x 94 [.int u] w n = some (.inl none, w, n) := by
  simp only [csN, csm_i, csm_r, Nat.reduceAdd, Nat.reduceLeDiff, wdI, wdR, wdN, clM_0, clC_0, clC_1, clC_6, clC_8, true_or, or_true, i10, i01, ob_some, ob_map, cal_v, rvs_some, rvs_none, XO_at, cal_x, m94, r94_0, r94_1, r94_4, r94_7, r94_18, c166, h, bi_t, if_false]
theorem c94_f (h : rg u 6 = false) : RM x 94 [.int u] w n = some (.inr "java/lang/IndexOutOfBoundsException", w, n + 1) := by
  simp only [csN, csm_i, csm_r, Nat.reduceAdd, Nat.reduceLeDiff, wdI, wdR, wdN, clM_0, clC_0, clC_1, clC_6, clC_8, true_or, or_true, i10, i01, ob_some, ob_map, cal_v, rvs_some, rvs_none, XO_at, cal_x, m94, r94_0, r94_1, r94_4, r94_7, r94_18, c166, h, bi_f, if_true]
theorem c95_t (hW : WD w s t y hs le lf F K hc sc) (hC : OKC s c) (h : ¬ ixA (s 9) u c 0 = -1) : RM x 95 [.ref 64, .int u] w n = some (.inl (some (.int (ixA (s 9) u c 0))), w, n) := by
  obtain ⟨⟨g0, -⟩, -⟩ := WD_64 hW
  obtain ⟨-, -, g2, -, -, -, -, -, -, -, -, l8⟩ := WD_r hW
  have k : RM x 122 [.ref 73, .int u] w n = some (.inl (some (.int (ixA (s 9) u c 0))), w, n) := by
    have k := c122 (x := x) (n := n) (b := 65) (w := w) (v := u) hC.1 hC.2.1
    rw [(WD_c hW).1] at k
    exact k
  simp only [csN, csm_i, csm_r, Nat.reduceAdd, Nat.reduceLeDiff, wdI, wdR, wdN, clM_0, clC_0, clC_1, clC_6, clC_8, true_or, or_true, i10, i01, ob_some, ob_map, cal_v, rvs_some, rvs_none, XO_at, cal_x, m95, r95_0, r95_1, r95_4, r95_7, r95_8, r95_11, r95_12, r95_13, r95_14, r95_17, r95_28, r95_29, g0, g2, l8, k, h, if_false]
theorem c95_f (hW : WD w s t y hs le lf F K hc sc) (hC : OKC s c) (h : ixA (s 9) u c 0 = -1) : RM x 95 [.ref 64, .int u] w n = some (.inr "java/util/NoSuchElementException", w, n + 1) := by
  obtain ⟨⟨g0, -⟩, -⟩ := WD_64 hW
  obtain ⟨-, -, g2, -, -, -, -, -, -, -, -, l8⟩ := WD_r hW
  have k : RM x 122 [.ref 73, .int u] w n = some (.inl (some (.int (ixA (s 9) u c 0))), w, n) := by
    have k := c122 (x := x) (n := n) (b := 65) (w := w) (v := u) hC.1 hC.2.1
    rw [(WD_c hW).1] at k
    exact k
  simp only [csN, csm_i, csm_r, Nat.reduceAdd, Nat.reduceLeDiff, wdI, wdR, wdN, clM_0, clC_0, clC_1, clC_6, clC_8, true_or, or_true, i10, i01, ob_some, ob_map, cal_v, rvs_some, rvs_none, XO_at, cal_x, m95, r95_0, r95_1, r95_4, r95_7, r95_8, r95_11, r95_12, r95_13, r95_14, r95_17, r95_28, r95_29, g0, g2, l8, k, h, if_true]
/-! the model's numbers -/
theorem rd_m {k : Nat} (h : k < 84) : fin 84 (Int32.ofNat k) = some k := fin_nat h (by omega)
theorem c255 : RM x 255 [.ref b] (setM w b m) n = some (.inl (some (.int (m 1 3))), setM w b (us m 20 13 0), n) := by
  have k : fin 84 3 = some 3 := fin_lit (by decide) (by decide)
  simp only [csN, csm_i, csm_r, Nat.reduceAdd, Nat.reduceLeDiff, wdI, wdR, wdN, clM_0, clC_0, clC_1, clC_6, clC_8, true_or, or_true, i10, i01, ob_some, ob_map, cal_v, rvs_some, rvs_none, XO_at, cal_x, m255, r255_0, r255_1, r255_2, r255_5, r255_6, r255_7, r255_10, gM_0_0, lM_1, k, Option.map_some, c195]
theorem c266 : RM x 266 [.ref b] (setM w b m) n = some (.inl (some (.int (m 1 0))), setM w b (us m 20 13 0), n) := by
  have k : fin 84 0 = some 0 := fin_lit (by decide) (by decide)
  simp only [csN, csm_i, csm_r, Nat.reduceAdd, Nat.reduceLeDiff, wdI, wdR, wdN, clM_0, clC_0, clC_1, clC_6, clC_8, true_or, or_true, i10, i01, ob_some, ob_map, cal_v, rvs_some, rvs_none, XO_at, cal_x, m266, r266_0, r266_1, r266_2, r266_5, r266_6, r266_7, r266_10, gM_0_0, lM_1, k, Option.map_some, c195]
theorem c267 : RM x 267 [.ref b] (setM w b m) n = some (.inl (some (.int (m 1 1))), setM w b (us m 20 13 0), n) := by
  have k : fin 84 1 = some 1 := fin_lit (by decide) (by decide)
  simp only [csN, csm_i, csm_r, Nat.reduceAdd, Nat.reduceLeDiff, wdI, wdR, wdN, clM_0, clC_0, clC_1, clC_6, clC_8, true_or, or_true, i10, i01, ob_some, ob_map, cal_v, rvs_some, rvs_none, XO_at, cal_x, m267, r267_0, r267_1, r267_2, r267_5, r267_6, r267_7, r267_10, gM_0_0, lM_1, k, Option.map_some, c195]
theorem c270 : RM x 270 [.ref b] (setM w b m) n = some (.inl (some (.int (m 1 4))), setM w b (us m 20 13 0), n) := by
  have k : fin 84 4 = some 4 := fin_lit (by decide) (by decide)
  simp only [csN, csm_i, csm_r, Nat.reduceAdd, Nat.reduceLeDiff, wdI, wdR, wdN, clM_0, clC_0, clC_1, clC_6, clC_8, true_or, or_true, i10, i01, ob_some, ob_map, cal_v, rvs_some, rvs_none, XO_at, cal_x, m270, r270_0, r270_1, r270_2, r270_5, r270_6, r270_7, r270_10, gM_0_0, lM_1, k, Option.map_some, c195]
theorem c271 : RM x 271 [.ref b] (setM w b m) n = some (.inl (some (.int (m 1 5))), setM w b (us m 20 13 0), n) := by
  have k : fin 84 5 = some 5 := fin_lit (by decide) (by decide)
  simp only [csN, csm_i, csm_r, Nat.reduceAdd, Nat.reduceLeDiff, wdI, wdR, wdN, clM_0, clC_0, clC_1, clC_6, clC_8, true_or, or_true, i10, i01, ob_some, ob_map, cal_v, rvs_some, rvs_none, XO_at, cal_x, m271, r271_0, r271_1, r271_2, r271_5, r271_6, r271_7, r271_10, gM_0_0, lM_1, k, Option.map_some, c195]
theorem c272 : RM x 272 [.ref b] (setM w b m) n = some (.inl (some (.int (m 1 6))), setM w b (us m 20 13 0), n) := by
  have k : fin 84 6 = some 6 := fin_lit (by decide) (by decide)
  simp only [csN, csm_i, csm_r, Nat.reduceAdd, Nat.reduceLeDiff, wdI, wdR, wdN, clM_0, clC_0, clC_1, clC_6, clC_8, true_or, or_true, i10, i01, ob_some, ob_map, cal_v, rvs_some, rvs_none, XO_at, cal_x, m272, r272_0, r272_1, r272_2, r272_5, r272_7, r272_8, r272_11, gM_0_0, lM_1, k, Option.map_some, c195]
theorem c273 : RM x 273 [.ref b] (setM w b m) n = some (.inl (some (.int (m 1 7))), setM w b (us m 20 13 0), n) := by
  have k : fin 84 7 = some 7 := fin_lit (by decide) (by decide)
  simp only [csN, csm_i, csm_r, Nat.reduceAdd, Nat.reduceLeDiff, wdI, wdR, wdN, clM_0, clC_0, clC_1, clC_6, clC_8, true_or, or_true, i10, i01, ob_some, ob_map, cal_v, rvs_some, rvs_none, XO_at, cal_x, m273, r273_0, r273_1, r273_2, r273_5, r273_7, r273_8, r273_11, gM_0_0, lM_1, k, Option.map_some, c195]
theorem p58 (hV : IV B w m s t y hs le lf F K sc c q cs) : SAME B x w n 58 [.ref 64] 255 [.ref 227] m le lf sc := by
  obtain ⟨⟨g0, -⟩, -⟩ := WD_64 hV.1
  obtain ⟨q1, q2⟩ := WD_n hV.1
  have hR := hV.2.2.2.2.1
  have e : s 20 25 = m 1 3 := by rw [hR.1.1.2.2.1]; exact hR.1.1.1.1.1
  rw [e] at q2
  refine q_same hV ?_ (fun w' n' => c255)
  simp only [csN, csm_i, csm_r, Nat.reduceAdd, Nat.reduceLeDiff, wdI, wdR, wdN, clM_0, clC_0, clC_1, clC_6, clC_8, true_or, or_true, i10, i01, ob_some, ob_map, cal_v, rvs_some, rvs_none, XO_at, cal_x, m58, r58_0, r58_1, r58_4, r58_7, r58_10, g0, q1, q2]
theorem p68 (hV : IV B w m s t y hs le lf F K sc c q cs) : SAME B x w n 68 [.ref 64] 266 [.ref 227] m le lf sc := by
  obtain ⟨⟨g0, -⟩, -⟩ := WD_64 hV.1
  obtain ⟨-, -, -, k, -⟩ := WD_r hV.1
  rw [hV.2.2.2.2.1.1.1.2.1.1.1] at k
  refine q_same hV ?_ (fun w' n' => c266)
  simp only [csN, csm_i, csm_r, Nat.reduceAdd, Nat.reduceLeDiff, wdI, wdR, wdN, clM_0, clC_0, clC_1, clC_6, clC_8, true_or, or_true, i10, i01, ob_some, ob_map, cal_v, rvs_some, rvs_none, XO_at, cal_x, m68, r68_0, r68_1, r68_4, r68_7, g0, k]
theorem p69 (hV : IV B w m s t y hs le lf F K sc c q cs) : SAME B x w n 69 [.ref 64] 267 [.ref 227] m le lf sc := by
  obtain ⟨⟨g0, -⟩, -⟩ := WD_64 hV.1
  obtain ⟨-, -, -, -, k, -⟩ := WD_r hV.1
  rw [hV.2.2.2.2.1.1.1.2.1.1.2.1] at k
  refine q_same hV ?_ (fun w' n' => c267)
  simp only [csN, csm_i, csm_r, Nat.reduceAdd, Nat.reduceLeDiff, wdI, wdR, wdN, clM_0, clC_0, clC_1, clC_6, clC_8, true_or, or_true, i10, i01, ob_some, ob_map, cal_v, rvs_some, rvs_none, XO_at, cal_x, m69, r69_0, r69_1, r69_4, r69_7, g0, k]
theorem p72 (hV : IV B w m s t y hs le lf F K sc c q cs) : SAME B x w n 72 [.ref 64] 270 [.ref 227] m le lf sc := by
  obtain ⟨⟨g0, -⟩, -⟩ := WD_64 hV.1
  obtain ⟨-, g1, -, -, -, -, k, -⟩ := WD_r hV.1
  rw [hV.2.2.2.2.1.1.1.2.1.1.2.2.2.1] at k
  refine q_same hV ?_ (fun w' n' => c270)
  simp only [csN, csm_i, csm_r, Nat.reduceAdd, Nat.reduceLeDiff, wdI, wdR, wdN, clM_0, clC_0, clC_1, clC_6, clC_8, true_or, or_true, i10, i01, ob_some, ob_map, cal_v, rvs_some, rvs_none, XO_at, cal_x, m72, r72_0, r72_1, r72_4, r72_7, r72_10, g0, g1, k]
theorem p73 (hV : IV B w m s t y hs le lf F K sc c q cs) : SAME B x w n 73 [.ref 64] 271 [.ref 227] m le lf sc := by
  obtain ⟨⟨g0, -⟩, -⟩ := WD_64 hV.1
  obtain ⟨-, g1, -, -, -, -, -, k, -⟩ := WD_r hV.1
  rw [hV.2.2.2.2.1.1.1.2.1.1.2.2.2.2.1] at k
  refine q_same hV ?_ (fun w' n' => c271)
  simp only [csN, csm_i, csm_r, Nat.reduceAdd, Nat.reduceLeDiff, wdI, wdR, wdN, clM_0, clC_0, clC_1, clC_6, clC_8, true_or, or_true, i10, i01, ob_some, ob_map, cal_v, rvs_some, rvs_none, XO_at, cal_x, m73, r73_0, r73_1, r73_4, r73_7, r73_10, g0, g1, k]
theorem p74 (hV : IV B w m s t y hs le lf F K sc c q cs) : SAME B x w n 74 [.ref 64] 272 [.ref 227] m le lf sc := by
  obtain ⟨⟨g0, -⟩, -⟩ := WD_64 hV.1
  obtain ⟨-, g1, -, -, -, -, -, -, k, -⟩ := WD_r hV.1
  rw [hV.2.2.2.2.1.1.1.2.1.1.2.2.2.2.2] at k
  refine q_same hV ?_ (fun w' n' => c272)
  simp only [csN, csm_i, csm_r, Nat.reduceAdd, Nat.reduceLeDiff, wdI, wdR, wdN, clM_0, clC_0, clC_1, clC_6, clC_8, true_or, or_true, i10, i01, ob_some, ob_map, cal_v, rvs_some, rvs_none, XO_at, cal_x, m74, r74_0, r74_1, r74_4, r74_7, r74_10, g0, g1, k]
theorem p75 (hV : IV B w m s t y hs le lf F K sc c q cs) : SAME B x w n 75 [.ref 64] 273 [.ref 227] m le lf sc := by
  obtain ⟨⟨g0, -⟩, -⟩ := WD_64 hV.1
  obtain ⟨-, -, -, -, -, k, -⟩ := WD_r hV.1
  rw [hV.2.2.2.2.1.1.2] at k
  refine q_same hV ?_ (fun w' n' => c273)
  simp only [csN, csm_i, csm_r, Nat.reduceAdd, Nat.reduceLeDiff, wdI, wdR, wdN, clM_0, clC_0, clC_1, clC_6, clC_8, true_or, or_true, i10, i01, ob_some, ob_map, cal_v, rvs_some, rvs_none, XO_at, cal_x, m75, r75_0, r75_1, r75_4, r75_7, g0, k]
/-! strings, gates, reaches -/
theorem c240_t {g r : Nat} (hR : RS s (m 1)) (hg : g < 5) (hr : r < 2) : RM x 240 [.ref b, .int (Int32.ofNat g), .int (Int32.ofNat r)] (setM w b m) n = some (.inl (some (.int (snS s g r))), setM w b (us m 20 13 0), n) := by
  have h1 : rg (Int32.ofNat g) 5 = true := nat_rg (N := 5) (by omega) hg
  have h2 : rg (Int32.ofNat r) 2 = true := nat_rg (N := 2) (by omega) hr
  have h3 := c209 (x := x) (n := n) (b := b) (w := w) (gt := g) (t := r) hR rfl rfl hg hr
  simp only [csN, csm_i, csm_r, Nat.reduceAdd, Nat.reduceLeDiff, wdI, wdR, wdN, clM_0, clC_0, clC_1, clC_6, clC_8, true_or, or_true, i10, i01, ob_some, ob_map, cal_v, rvs_some, rvs_none, XO_at, cal_x, m240, r240_0, r240_1, r240_2, r240_5, r240_8, r240_9, r240_10, r240_11, r240_12, r240_15, r240_18, r240_21, r240_22, r240_23, r240_26, c201, h1, h2, Bool.and_self, bi_t, if_false, h3, c195]
theorem c240_f (h : (rg u 5 && rg v 2) = false) : RM x 240 [.ref b, .int u, .int v] (setM w b m) n = some (.inl (some (.int 0)), setM w b (us m 20 13 1), n) := by
  simp only [csN, csm_i, csm_r, Nat.reduceAdd, Nat.reduceLeDiff, wdI, wdR, wdN, clM_0, clC_0, clC_1, clC_6, clC_8, true_or, or_true, i10, i01, ob_some, ob_map, cal_v, rvs_some, rvs_none, XO_at, cal_x, m240, r240_0, r240_1, r240_2, r240_5, r240_8, r240_9, r240_10, r240_11, r240_12, r240_15, r240_18, r240_21, r240_22, r240_23, r240_26, c201, h, bi_f, if_true, c196]
theorem p309 (hV : IV B w m s t y hs le lf F K sc c q cs) : PAIR B x w n 309 [.ref 64, .int u, .int v, .ref 237] 240 [.ref 227, .int u, .int v] m le lf sc := by
  have hW := hV.1
  have hS := hV.2.2.2.2.1.1.1.2.1
  obtain ⟨⟨g0, -⟩, c64, -⟩ := WD_64 hW
  obtain ⟨k0, -, -, -, -, -, -, -, -, l1, -⟩ := WD_r hW
  cases h : rg u 5 && rg v 2 with
  | true =>
    have h' := h
    rw [Bool.and_eq_true] at h'
    obtain ⟨g, hg, rfl⟩ := rg_nat (N := 5) (by omega) h'.1
    obtain ⟨r, hr, rfl⟩ := rg_nat (N := 2) (by omega) h'.2
    have e1 := c93_t (x := x) (n := n) (w := w) h
    have e2 : RM x 148 [.ref 66, .int (Int32.ofNat g), .int (Int32.ofNat r)] w n = some (.inl (some (.int (snS s g r))), w, n) := by
      have k := c148 (x := x) (n := n) (b := 65) (w := w) (s := s) (g := g) (t := r) rfl rfl hg hr
      rw [(WD_c hW).1] at k
      exact k
    have e3 : RM x 46 [.ref 64, .int (Int32.ofNat g), .int (Int32.ofNat r)] w n = some (.inl (some (.int (snS s g r))), w, n) := by
      simp only [csN, csm_i, csm_r, Nat.reduceAdd, Nat.reduceLeDiff, wdI, wdR, wdN, clM_0, clC_0, clC_1, clC_6, clC_8, true_or, or_true, i10, i01, ob_some, ob_map, cal_v, rvs_some, rvs_none, XO_at, cal_x, m46, r46_0, r46_1, r46_2, r46_5, r46_6, r46_9, r46_12, r46_13, r46_14, r46_17, e1, g0, k0, l1, e2]
    exact q_ok hV (fun f hf => lw309 c64 e3 hf) (fun w' n' => c240_t hS hg hr)
  | false =>
    have e1 := c93_f (x := x) (n := n) (w := w) h
    have e3 : RM x 46 [.ref 64, .int u, .int v] w n = some (.inr "java/lang/IndexOutOfBoundsException", w, n + 1) := by
      simp only [csN, csm_i, csm_r, Nat.reduceAdd, Nat.reduceLeDiff, wdI, wdR, wdN, clM_0, clC_0, clC_1, clC_6, clC_8, true_or, or_true, i10, i01, ob_some, ob_map, cal_v, rvs_some, rvs_none, XO_at, cal_x, m46, r46_0, r46_1, r46_2, r46_5, r46_6, r46_9, r46_12, r46_13, r46_14, r46_17, e1]
    exact q_ex hV (by decide) (lx309_1 c64 e3) (fun w' n' => c240_f h)
end QRY
