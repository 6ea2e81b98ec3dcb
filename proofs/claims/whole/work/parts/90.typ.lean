/-! TYPING on both sides; the latest error and failure -/
section TYP
set_option maxRecDepth 20000
variable {x : SX} {n c q B : Nat} {w : PW} {m s t y : NS} {hs le lf hc : Int32} {F : Nat → Nat} {K : Nat → NS} {sc : NS} {cs : Nat → Nat} {v : Int32} {l b : Nat}
/-- the script and what is remembered of it, on both sides -/
def SR (m sc : NS) (le lf : Int32) : Prop := ∃ l, TX sc l ∧ TM m sc l ∧ le = m 20 9 ∧ lf = m 20 10
def PAIRS (B : Nat) (x : SX) (w : PW) (n : Nat) (j1 : Nat) (A1 : List Value) (j2 : Nat) (A2 : List Value) (m : NS) : Prop :=
  ∃ e r w1 n1 w2 n2, RM x j1 A1 w n = some (.inl (some (.int e)), w1, n1) ∧ RM x j2 A2 w1 n1 = some (.inl (some (.int r)), w2, n2) ∧ clo w1 227 = some 7 ∧ n ≤ n1 ∧ n1 ≤ n2 ∧ n2 ≤ n + 2 ∧ Fr w w2 ∧ (e = 0 → ∃ f, w2 237 = some (lcl f) ∧ f 0 = r.toInt64) ∧
    ∃ m' s t y hs le lf F K sc c q cs B', B' ≤ B + 64 ∧ IV B' w2 m' s t y hs le lf F K sc c q cs ∧ SR m' sc le lf ∧ m' 20 13 = e ∧ m' 7 = m 7 ∧ m' 20 12 = m 20 12
theorem SR_Kp {m' : NS} (h : SR m sc le lf) (k : Kp m m') : SR m' sc le lf := by
  obtain ⟨l, h1, h2, h3, h4⟩ := h
  exact ⟨l, h1, ⟨by rw [k.2 8 (by omega) (by omega) (by omega)]; exact h2.1, by rw [k.1 6 (by omega)]; exact h2.2⟩, by rw [k.2 9 (by omega) (by omega) (by omega)]; exact h3, by rw [k.2 10 (by omega) (by omega) (by omega)]; exact h4⟩
theorem PAIR_S {j1 j2 : Nat} {A1 A2 : List Value} (hS : SR m sc le lf) (h : PAIR B x w n j1 A1 j2 A2 m le lf sc) : PAIRS B x w n j1 A1 j2 A2 m := by
  obtain ⟨e, r, w1, n1, w2, n2, a1, a2, a8, a3, a4, a5, a6, a7, m', s, t, y, hs, F, K, c, q, cs, B', b1, b2, b3, b4⟩ := h
  exact ⟨e, r, w1, n1, w2, n2, a1, a2, a8, a3, a4, a5, a6, a7, m', s, t, y, hs, le, lf, F, K, sc, c, q, cs, B', b1, b2, SR_Kp hS b4, b3, b4.1 7 (by omega), b4.2 12 (by omega) (by omega) (by omega)⟩
theorem WD_sc (h : WD w s t y hs le lf F K hc sc) : setS w 221 sc = w := setW_self (fun k hk => h.2.2.2.2.2.2.2.2.2 k hk)
theorem WD_5 (h : WD w s t y hs le lf F K hc sc) : gfd w 6 5 64 = some (.ref 221) ∧ clo w 221 = some 5 := ⟨(WD_64 h).1.2.2.2.2.2.1, clo_of (h.2.2.2.2.2.2.2.2.2 0 (by omega))⟩
theorem nar_all : ∀ a, a < 128 → vp_nar .char (Int32.ofNat a) = Int32.ofNat a := by decide +kernel
theorem c176 (h : sc 20 1 = Int32.ofNat l) (hl : l ≤ 60) : RM x 176 [.ref b] (setS w b sc) n = some (.inl (some (.int (if l = 60 then 1 else 0))), setS w b sc, n) := by
  by_cases h6 : l = 60
  · subst h6
    have h0 : ¬ Int32.ofNat 60 < 60 := by decide
    rw [if_pos rfl]
    simp only [csN, csm_i, csm_r, Nat.reduceAdd, Nat.reduceLeDiff, wdI, wdR, wdN, clM_0, clC_0, clC_1, clC_6, clC_8, true_or, or_true, i10, i01, ob_some, ob_map, cal_v, rvs_some, rvs_none, XO_at, cal_x, m176, r176_0, r176_1, r176_4, r176_6, r176_9, r176_10, r176_13, r176_14, gS_0_1, h, h0, if_false]
  · have h0 : Int32.ofNat l < 60 := nlt (N := 60) (by omega) (by omega) (by omega)
    rw [if_neg h6]
    simp only [csN, csm_i, csm_r, Nat.reduceAdd, Nat.reduceLeDiff, wdI, wdR, wdN, clM_0, clC_0, clC_1, clC_6, clC_8, true_or, or_true, i10, i01, ob_some, ob_map, cal_v, rvs_some, rvs_none, XO_at, cal_x, m176, r176_0, r176_1, r176_4, r176_6, r176_9, r176_10, r176_13, r176_14, gS_0_1, h, h0, if_true]
theorem c177 (h : sc 20 1 = Int32.ofNat l) (hl : l < 60) (hv : CH v) : RM x 177 [.ref b, .int v] (setS w b sc) n = some (.inl (some (.int (Int32.ofNat (l + 1)))), setS w b (us (us sc 1 l v) 20 1 (Int32.ofNat (l + 1))), n) := by
  have hn : vp_nar .char v = v := by
    obtain ⟨a, ha, rfl⟩ := hv
    exact nar_all a ha
  have n0 : ¬ Int32.ofNat l < 0 := by
    have := i_lt (a := l) (b := 0) (by omega) (by omega)
    rw [show (0 : Int32) = Int32.ofNat 0 from rfl, this]
    omega
  have n1 : Int32.ofNat l < 60 := nlt (N := 60) (by omega) (by omega) (by omega)
  have k : fin 60 (Int32.ofNat l) = some l := fin_nat (by omega) (by omega)
  have e1 : us sc 1 l v 20 1 = Int32.ofNat l := by rw [us_ne (by decide)]; exact h
  have e2 : us (us sc 1 l v) 20 1 (Int32.ofNat (l + 1)) 20 1 = Int32.ofNat (l + 1) := by rw [us_at, if_pos rfl, if_pos rfl]
  simp only [csN, csm_i, csm_r, Nat.reduceAdd, Nat.reduceLeDiff, wdI, wdR, wdN, clM_0, clC_0, clC_1, clC_6, clC_8, true_or, or_true, i10, i01, ob_some, ob_map, cal_v, rvs_some, rvs_none, XO_at, cal_x, m177, r177_0, r177_1, r177_4, r177_7, r177_8, r177_11, r177_13, r177_16, r177_17, r177_20, r177_21, r177_24, r177_25, r177_26, r177_27, r177_28, r177_31, r177_32, r177_33, r177_36, r177_37, r177_40, gS_0_0, gS_0_1, pS_0_1, sS_1, h, n0, n1, k, hn, e1, e2, i_s, Option.map_some, if_true, if_false]
theorem c282_1 (h : rI v 32 126 = false) : RM x 282 [.ref b, .int v] (setM w b m) n = some (.inl (some (.int 0)), setM w b (us m 20 13 1), n) := by
  simp only [csN, csm_i, csm_r, Nat.reduceAdd, Nat.reduceLeDiff, wdI, wdR, wdN, clM_0, clC_0, clC_1, clC_6, clC_8, true_or, or_true, i10, i01, ob_some, ob_map, cal_v, rvs_some, rvs_none, XO_at, cal_x, m282, r282_0, r282_1, r282_3, r282_5, r282_8, r282_11, r282_12, r282_13, r282_16, r282_17, r282_18, r282_21, r282_23, r282_26, r282_27, r282_28, r282_31, r282_32, r282_33, r282_36, r282_37, r282_40, r282_41, r282_42, r282_43, r282_44, r282_47, r282_48, r282_49, r282_52, r282_53, r282_54, r282_57, r282_60, c193, h, bi_f, if_true, c196]
theorem c282_2 (h : rI v 32 126 = true) (h8 : m 20 8 = Int32.ofNat 60) : RM x 282 [.ref b, .int v] (setM w b m) n = some (.inl (some (.int 0)), setM w b (us m 20 13 2), n) := by
  have e : Int32.ofNat 60 = 60 := rfl
  simp only [csN, csm_i, csm_r, Nat.reduceAdd, Nat.reduceLeDiff, wdI, wdR, wdN, clM_0, clC_0, clC_1, clC_6, clC_8, true_or, or_true, i10, i01, ob_some, ob_map, cal_v, rvs_some, rvs_none, XO_at, cal_x, m282, r282_0, r282_1, r282_3, r282_5, r282_8, r282_11, r282_12, r282_13, r282_16, r282_17, r282_18, r282_21, r282_23, r282_26, r282_27, r282_28, r282_31, r282_32, r282_33, r282_36, r282_37, r282_40, r282_41, r282_42, r282_43, r282_44, r282_47, r282_48, r282_49, r282_52, r282_53, r282_54, r282_57, r282_60, c193, h, bi_t, if_true, if_false, gM_0_8, h8, e, c196]
theorem c282_0 (h : rI v 32 126 = true) (hv : CH v) (h8 : m 20 8 = Int32.ofNat l) (hl : l < 60) : RM x 282 [.ref b, .int v] (setM w b m) n = some (.inl (some (.int (Int32.ofNat (l + 1)))), setM w b (us (us (us m 6 l v) 20 8 (Int32.ofNat (l + 1))) 20 13 0), n) := by
  have hn : vp_nar .char v = v := by
    obtain ⟨a, ha, rfl⟩ := hv
    exact nar_all a ha
  have e : ¬ Int32.ofNat l = 60 := fun z => by
    have := i_inj (a := l) (b := 60) (by omega) (by omega) z
    omega
  have k : fin 60 (Int32.ofNat l) = some l := fin_nat (by omega) (by omega)
  have e1 : us m 6 l v 20 8 = Int32.ofNat l := by rw [us_ne (by decide)]; exact h8
  have e2 : us (us m 6 l v) 20 8 (Int32.ofNat (l + 1)) 20 8 = Int32.ofNat (l + 1) := by rw [us_at, if_pos rfl, if_pos rfl]
  simp only [csN, csm_i, csm_r, Nat.reduceAdd, Nat.reduceLeDiff, wdI, wdR, wdN, clM_0, clC_0, clC_1, clC_6, clC_8, true_or, or_true, i10, i01, ob_some, ob_map, cal_v, rvs_some, rvs_none, XO_at, cal_x, m282, r282_0, r282_1, r282_3, r282_5, r282_8, r282_11, r282_12, r282_13, r282_16, r282_17, r282_18, r282_21, r282_23, r282_26, r282_27, r282_28, r282_31, r282_32, r282_33, r282_36, r282_37, r282_40, r282_41, r282_42, r282_43, r282_44, r282_47, r282_48, r282_49, r282_52, r282_53, r282_54, r282_57, r282_60, c193, h, bi_t, if_true, if_false, gM_0_7, gM_0_8, pM_0_8, sM_6, h8, e, k, hn, e1, e2, i_s, Option.map_some, c195]
theorem p332 (hV : IV B w m s t y hs le lf F K sc c q cs) (hS : SR m sc le lf) : PAIRS B x w n 332 [.ref 64, .int v, .ref 237] 282 [.ref 227, .int v] m := by
  have hW := hV.1
  have c64 := (WD_64 hW).2.1
  obtain ⟨g5, c5⟩ := WD_5 hW
  obtain ⟨l, hX, hT, hle, hlf⟩ := id hS
  cases hr : rI v 32 126 with
  | false =>
    refine PAIR_S hS (q_ex (r := 0) hV (by decide) (lx332_1 c64 ?_) (fun w' n' => c282_1 hr))
    unfold rI at hr
    by_cases h1 : v < 32
    · simp only [csN, csm_i, csm_r, Nat.reduceAdd, Nat.reduceLeDiff, wdI, wdR, wdN, clM_0, clC_0, clC_1, clC_6, clC_8, true_or, or_true, i10, i01, ob_some, ob_map, cal_v, rvs_some, rvs_none, XO_at, cal_x, m82, r82_0, r82_1, r82_3, r82_6, r82_7, r82_9, r82_12, r82_23, r82_24, r82_27, r82_30, r82_33, r82_44, r82_45, r82_48, r82_49, r82_52, h1, if_true]
    · have h2 : 126 < v := by
        rw [decide_eq_false h1] at hr
        simpa using hr
      simp only [csN, csm_i, csm_r, Nat.reduceAdd, Nat.reduceLeDiff, wdI, wdR, wdN, clM_0, clC_0, clC_1, clC_6, clC_8, true_or, or_true, i10, i01, ob_some, ob_map, cal_v, rvs_some, rvs_none, XO_at, cal_x, m82, r82_0, r82_1, r82_3, r82_6, r82_7, r82_9, r82_12, r82_23, r82_24, r82_27, r82_30, r82_33, r82_44, r82_45, r82_48, r82_49, r82_52, h1, h2, if_true, if_false]
  | true =>
    have hr' : ¬ v < 32 ∧ ¬ 126 < v := by
      unfold rI at hr
      simpa using hr
    have hv : ∃ a : Nat, 32 ≤ a ∧ a < 127 ∧ v = Int32.ofNat a := by
      obtain ⟨a, h1, h2, e⟩ := in_nat (lo := 32) (hi := 126) (by omega) (by omega) (v := v) hr'.1 hr'.2
      exact ⟨a, h1, by omega, e⟩
    have hCH : CH v := by
      obtain ⟨a, h1, h2, e⟩ := hv
      exact ⟨a, by omega, e⟩
    have e176 := c176 (x := x) (n := n) (w := w) (b := 221) hX.2.1 hX.1
    rw [WD_sc hW] at e176
    by_cases h6 : l = 60
    · subst h6
      rw [if_pos rfl] at e176
      refine PAIR_S hS (q_ex (r := 0) hV (by decide) (lx332_2 c64 ?_) (fun w' n' => c282_2 hr hT.1))
      simp only [csN, csm_i, csm_r, Nat.reduceAdd, Nat.reduceLeDiff, wdI, wdR, wdN, clM_0, clC_0, clC_1, clC_6, clC_8, true_or, or_true, i10, i01, ob_some, ob_map, cal_v, rvs_some, rvs_none, XO_at, cal_x, m82, r82_0, r82_1, r82_3, r82_6, r82_7, r82_9, r82_12, r82_23, r82_24, r82_27, r82_30, r82_33, r82_44, r82_45, r82_48, r82_49, r82_52, hr'.1, hr'.2, if_true, if_false, g5, c5, e176]
    · rw [if_neg h6] at e176
      have hl : l < 60 := by have := hX.1; omega
      have e177 := c177 (x := x) (n := n) (w := w) (b := 221) hX.2.1 hl hCH
      rw [WD_sc hW] at e177
      obtain ⟨hW0, hM, ⟨f, hf⟩, ⟨g, hg⟩, hR, hH, h6', hy, hi, hiK⟩ := id hV
      have e82 : RM x 82 [.ref 64, .int v] w n = some (.inl (some (.int (Int32.ofNat (l + 1)))), setS w 221 (us (us sc 1 l v) 20 1 (Int32.ofNat (l + 1))), n) := by
        simp only [csN, csm_i, csm_r, Nat.reduceAdd, Nat.reduceLeDiff, wdI, wdR, wdN, clM_0, clC_0, clC_1, clC_6, clC_8, true_or, or_true, i10, i01, ob_some, ob_map, cal_v, rvs_some, rvs_none, XO_at, cal_x, m82, r82_0, r82_1, r82_3, r82_6, r82_7, r82_9, r82_12, r82_23, r82_24, r82_27, r82_30, r82_33, r82_44, r82_45, r82_48, r82_49, r82_52, hr'.1, hr'.2, if_true, if_false, g5, c5, e176, e177]
      obtain ⟨sc', hsc⟩ : ∃ sc', sc' = us (us sc 1 l v) 20 1 (Int32.ofNat (l + 1)) := ⟨_, rfl⟩
      rw [← hsc] at e82
      have hW1 := WD_S sc' hW
      have o1 : ∀ i, 225 ≤ i → setS w 221 sc' i = w i := fun i hi => setS_out (by omega)
      have E1 := lw332 c64 e82 (by rw [o1 _ (by omega)]; exact hf)
      obtain ⟨w2, hw2⟩ : ∃ w2, w2 = pupd (setS w 221 sc') 237 (lcl (vp_updL f 0 (Int32.ofNat (l + 1)).toInt64)) := ⟨_, rfl⟩
      rw [← hw2] at E1
      have o2 : ∀ i, ¬ i = 237 → w2 i = setS w 221 sc' i := fun i hi => by rw [hw2, pupd_ne hi]
      have M2 : setM w2 227 m = w2 := isM_c hM (fun i h1 h2 => by rw [o2 i (by omega), o1 i (by omega)])
      have E2 := c282_0 (x := x) (n := n) (b := 227) (w := w2) hr hCH hT.1 hl
      rw [M2] at E2
      have h37 : w2 237 = some (lcl (vp_updL f 0 (Int32.ofNat (l + 1)).toInt64)) := by rw [hw2]; exact pupd_same _ _ _
      have h38 : w2 238 = some (dcl g) := by rw [o2 _ (by omega), o1 _ (by omega)]; exact hg
      refine ⟨0, _, w2, n, _, n, E1, E2, clM M2, by omega, by omega, by omega, fun i h1 h2 => ?_, fun _ => ⟨_, by rw [setM_out (by omega)]; exact h37, updL_0⟩, _, s, t, y, hs, le, lf, F, K, sc', c, q, cs, B, by omega, IV_2 hW1 (fun i hi => o2 i (by omega)) h37 h38 ?_ ⟨hH.1, ?_, fun j hj => ?_⟩ ?_ ?_ hi hiK, ⟨l + 1, ⟨by omega, ?_, fun j hj => ?_⟩, ⟨?_, fun j hj => ?_⟩, ?_, ?_⟩, ?_, ?_, ?_⟩
      · rw [setM_out (by omega), o2 i (by omega), o1 i (by omega)]
      · rw [us_ne (by decide), us_ne (by decide), us_ne (by decide)]; exact hR
      · rw [us_at, if_pos rfl, if_neg (by decide), us_at, if_pos rfl, if_neg (by decide), us_ne (by decide)]; exact hH.2.1
      · rw [us_ne (by decide), us_ne (by decide), us_ne (by decide)]; exact hH.2.2 j hj
      · rw [us_at, if_pos rfl, if_neg (by decide), us_at, if_pos rfl, if_neg (by decide), us_ne (by decide)]; exact h6'
      · rw [us_ne (by decide), us_ne (by decide), us_ne (by decide)]; exact hy
      · rw [hsc, us_at, if_pos rfl, if_pos rfl]
      · rw [hsc, us_ne (by decide), us_at, if_pos rfl]
        by_cases hj2 : j = l
        · rw [if_pos hj2]; exact hv
        · rw [if_neg hj2]; exact hX.2.2 j (by omega)
      · rw [us_at, if_pos rfl, if_neg (by decide), us_at, if_pos rfl, if_pos rfl]
      · rw [hsc, us_ne (by decide), us_ne (by decide), us_at, if_pos rfl, us_ne (by decide), us_at, if_pos rfl]
        by_cases hj2 : j = l
        · rw [if_pos hj2, if_pos hj2]
        · rw [if_neg hj2, if_neg hj2]; exact hT.2 j (by omega)
      · rw [us_at, if_pos rfl, if_neg (by decide), us_at, if_pos rfl, if_neg (by decide), us_ne (by decide)]; exact hle
      · rw [us_at, if_pos rfl, if_neg (by decide), us_at, if_pos rfl, if_neg (by decide), us_ne (by decide)]; exact hlf
      · rw [us_at, if_pos rfl, if_pos rfl]
      · rw [us_ne (by decide), us_ne (by decide), us_ne (by decide)]
      · rw [us_at, if_pos rfl, if_neg (by decide), us_at, if_pos rfl, if_neg (by decide), us_ne (by decide)]
theorem c293_1 (h : m 20 9 = -1) : RM x 293 [.ref b] (setM w b m) n = some (.inl (some (.int 0)), setM w b (us m 20 13 1), n) := by
  simp only [csN, csm_i, csm_r, Nat.reduceAdd, Nat.reduceLeDiff, wdI, wdR, wdN, clM_0, clC_0, clC_1, clC_6, clC_8, true_or, or_true, i10, i01, ob_some, ob_map, cal_v, rvs_some, rvs_none, XO_at, cal_x, m293, r293_0, r293_1, r293_4, r293_5, r293_8, r293_9, r293_10, r293_13, r293_16, r293_17, r293_18, r293_21, r293_24, gM_0_9, h, if_true, c196]
theorem c293_0 (h : ¬ m 20 9 = -1) : RM x 293 [.ref b] (setM w b m) n = some (.inl (some (.int (m 20 9))), setM w b (us m 20 13 0), n) := by
  simp only [csN, csm_i, csm_r, Nat.reduceAdd, Nat.reduceLeDiff, wdI, wdR, wdN, clM_0, clC_0, clC_1, clC_6, clC_8, true_or, or_true, i10, i01, ob_some, ob_map, cal_v, rvs_some, rvs_none, XO_at, cal_x, m293, r293_0, r293_1, r293_4, r293_5, r293_8, r293_9, r293_10, r293_13, r293_16, r293_17, r293_18, r293_21, r293_24, gM_0_9, h, if_false, c195]
theorem c294_1 (h : m 20 10 = -1) : RM x 294 [.ref b] (setM w b m) n = some (.inl (some (.int 0)), setM w b (us m 20 13 1), n) := by
  simp only [csN, csm_i, csm_r, Nat.reduceAdd, Nat.reduceLeDiff, wdI, wdR, wdN, clM_0, clC_0, clC_1, clC_6, clC_8, true_or, or_true, i10, i01, ob_some, ob_map, cal_v, rvs_some, rvs_none, XO_at, cal_x, m294, r294_0, r294_1, r294_4, r294_5, r294_8, r294_9, r294_10, r294_13, r294_16, r294_17, r294_18, r294_21, r294_24, gM_0_10, h, if_true, c196]
theorem c294_0 (h : ¬ m 20 10 = -1) : RM x 294 [.ref b] (setM w b m) n = some (.inl (some (.int (m 20 10))), setM w b (us m 20 13 0), n) := by
  simp only [csN, csm_i, csm_r, Nat.reduceAdd, Nat.reduceLeDiff, wdI, wdR, wdN, clM_0, clC_0, clC_1, clC_6, clC_8, true_or, or_true, i10, i01, ob_some, ob_map, cal_v, rvs_some, rvs_none, XO_at, cal_x, m294, r294_0, r294_1, r294_4, r294_5, r294_8, r294_9, r294_10, r294_13, r294_16, r294_17, r294_18, r294_21, r294_24, gM_0_10, h, if_false, c195]
theorem p334 (hV : IV B w m s t y hs le lf F K sc c q cs) (hS : SR m sc le lf) : PAIR B x w n 334 [.ref 64, .ref 237] 293 [.ref 227] m le lf sc := by
  obtain ⟨⟨-, -, -, -, -, -, -, g7, g8⟩, c64, -⟩ := WD_64 hV.1
  obtain ⟨l, hX, hT, hle, hlf⟩ := hS
  by_cases h : le = -1
  · refine q_ex (r := 0) hV (by decide) (lx334_1 c64 ?_) (fun w' n' => c293_1 (by rw [← hle]; exact h))
    rw [h] at g7
    simp only [csN, csm_i, csm_r, Nat.reduceAdd, Nat.reduceLeDiff, wdI, wdR, wdN, clM_0, clC_0, clC_1, clC_6, clC_8, true_or, or_true, i10, i01, ob_some, ob_map, cal_v, rvs_some, rvs_none, XO_at, cal_x, m84, r84_0, r84_1, r84_4, r84_5, r84_8, r84_19, r84_20, r84_23, g7, if_true]
  · refine q_ok (r := m 20 9) hV (fun f hf => lw334 c64 ?_ hf) (fun w' n' => c293_0 (by rw [← hle]; exact h))
    rw [← hle]
    simp only [csN, csm_i, csm_r, Nat.reduceAdd, Nat.reduceLeDiff, wdI, wdR, wdN, clM_0, clC_0, clC_1, clC_6, clC_8, true_or, or_true, i10, i01, ob_some, ob_map, cal_v, rvs_some, rvs_none, XO_at, cal_x, m84, r84_0, r84_1, r84_4, r84_5, r84_8, r84_19, r84_20, r84_23, g7, h, if_false]
theorem p335 (hV : IV B w m s t y hs le lf F K sc c q cs) (hS : SR m sc le lf) : PAIR B x w n 335 [.ref 64, .ref 237] 294 [.ref 227] m le lf sc := by
  obtain ⟨⟨-, -, -, -, -, -, -, g7, g8⟩, c64, -⟩ := WD_64 hV.1
  obtain ⟨l, hX, hT, hle, hlf⟩ := hS
  by_cases h : lf = -1
  · refine q_ex (r := 0) hV (by decide) (lx335_1 c64 ?_) (fun w' n' => c294_1 (by rw [← hlf]; exact h))
    rw [h] at g8
    simp only [csN, csm_i, csm_r, Nat.reduceAdd, Nat.reduceLeDiff, wdI, wdR, wdN, clM_0, clC_0, clC_1, clC_6, clC_8, true_or, or_true, i10, i01, ob_some, ob_map, cal_v, rvs_some, rvs_none, XO_at, cal_x, m85, r85_0, r85_1, r85_4, r85_5, r85_8, r85_19, r85_20, r85_23, g8, if_true]
  · refine q_ok (r := m 20 10) hV (fun f hf => lw335 c64 ?_ hf) (fun w' n' => c294_0 (by rw [← hlf]; exact h))
    rw [← hlf]
    simp only [csN, csm_i, csm_r, Nat.reduceAdd, Nat.reduceLeDiff, wdI, wdR, wdN, clM_0, clC_0, clC_1, clC_6, clC_8, true_or, or_true, i10, i01, ob_some, ob_map, cal_v, rvs_some, rvs_none, XO_at, cal_x, m85, r85_0, r85_1, r85_4, r85_5, r85_8, r85_19, r85_20, r85_23, g8, h, if_false]
end TYP
