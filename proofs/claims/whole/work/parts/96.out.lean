/-! THE OUTPUT on both sides; all that holds between two calls -/
section OUTS
set_option maxRecDepth 20000
variable {x : SX} {n n' b c k q B bp cap : Nat} {w w0 w' : PW} {m m' s t y : NS} {hs le lf hc ml e : Int32} {F : Nat → Nat} {K : Nat → NS} {sc : NS} {cs : Nat → Nat} {u v : Int32} {T : Nat → Int32}
def OTP (w : PW) (n : Nat) (m : NS) : Prop := ∃ bp cap ml cnt, SBP w n bp cap cnt ml (m 7) ∧ m 20 12 = Int32.ofNat cnt
theorem OTP_F (h : OTP w n m) (hF : Fr w w') (hn : n ≤ n') (h7 : m' 7 = m 7) (h12 : m' 20 12 = m 20 12) : OTP w' n' m' := by
  obtain ⟨bp, cap, ml, cnt, ⟨h1, h2, ⟨f, h3, h4, h5⟩, h6, h7', h8, h9, h10⟩, h11⟩ := h
  refine ⟨bp, cap, ml, cnt, ⟨?_, h2, ⟨f, ?_, h4, by rw [h7]; exact h5⟩, h6, by omega, by omega, h9, h10⟩, by rw [h12]; exact h11⟩
  · rw [hF 225 (by omega) (by omega)]; exact h1
  · rw [hF bp (by omega) (by omega)]; exact h3
/-- all that holds between two calls; e: what the model says that was thrown -/
def FVe (B : Nat) (w : PW) (n : Nat) (e : Int32) : Prop := ∃ m s t y hs le lf F K sc c q cs, IV B w m s t y hs le lf F K sc c q cs ∧ SR m sc le lf ∧ OTP w n m ∧ m 20 13 = e
def PR (B : Nat) (x : SX) (w : PW) (n : Nat) (j1 : Nat) (A1 : List Value) (j2 : Nat) (A2 : List Value) : Prop :=
  ∃ e r w1 n1 w2 n2 B', RM x j1 A1 w n = some (.inl (some (.int e)), w1, n1) ∧ RM x j2 A2 w1 n1 = some (.inl (some (.int r)), w2, n2) ∧ clo w1 227 = some 7 ∧ n2 ≤ n + 2 ∧ (e = 0 → ∃ f, w2 237 = some (lcl f) ∧ f 0 = r.toInt64) ∧ B' ≤ B + 64 ∧ FVe B' w2 n2 e
def PRB (B : Nat) (x : SX) (w : PW) (n : Nat) (j1 : Nat) (A1 : List Value) (j2 : Nat) (A2 : List Value) : Prop :=
  ∃ e d w1 n1 w2 n2 B', RM x j1 A1 w n = some (.inl (some (.int e)), w1, n1) ∧ RM x j2 A2 w1 n1 = some (.inl (some (.int (bi d))), w2, n2) ∧ clo w1 227 = some 7 ∧ n2 ≤ n + 2 ∧ (e = 0 → ∃ f, w2 237 = some (lcl f) ∧ f 0 = cond d 1 0) ∧ B' ≤ B + 64 ∧ FVe B' w2 n2 e
def SM (B : Nat) (x : SX) (w : PW) (n : Nat) (j1 : Nat) (A1 : List Value) (j2 : Nat) (A2 : List Value) : Prop :=
  ∃ r w1 n1 w2 n2 B' e, RM x j1 A1 w n = some (.inl (some (.int r)), w1, n1) ∧ RM x j2 A2 w1 n1 = some (.inl (some (.int r)), w2, n2) ∧ clo w1 227 = some 7 ∧ n2 ≤ n + 2 ∧ B' ≤ B + 64 ∧ FVe B' w2 n2 e
def PRF (B : Nat) (x : SX) (w : PW) (n : Nat) (u : Int32) : Prop :=
  ∃ e fv w1 n1 w2 n2 B', RM x 329 [.ref 64, .int u, .ref 238] w n = some (.inl (some (.int e)), w1, n1) ∧ RM x 275 [.ref 227, .int u] w1 n1 = some (.inl (some (.float fv)), w2, n2) ∧ clo w1 227 = some 7 ∧ n2 ≤ n + 2 ∧ (e = 0 → FP.f2d fv &&& 0x7fffffffffffffff ≤ 0x7ff0000000000000 ∧ ∃ g, w2 238 = some (dcl g) ∧ g 0 = FP.f2d fv) ∧ B' ≤ B + 64 ∧ FVe B' w2 n2 e
def SMD (B : Nat) (x : SX) (w : PW) (n : Nat) : Prop :=
  clo w 227 = some 7 ∧ ∃ d w2 e, RM x 76 [.ref 64] w n = some (.inl (some (.double d)), w, n) ∧ RM x 274 [.ref 227] w n = some (.inl (some (.double d)), w2, n) ∧ d &&& 0x7fffffffffffffff ≤ 0x7ff0000000000000 ∧ FVe B w2 n e
variable {j1 j2 : Nat} {A1 A2 : List Value}
theorem PR_of (hS : SR m sc le lf) (hO : OTP w n m) (h : PAIR B x w n j1 A1 j2 A2 m le lf sc) : PR B x w n j1 A1 j2 A2 := by
  obtain ⟨e, r, w1, n1, w2, n2, a1, a2, a8, a3, a4, a5, a6, a7, m', s, t, y, hs, F, K, c, q, cs, B', b1, b2, b3, b4⟩ := h
  exact ⟨e, r, w1, n1, w2, n2, B', a1, a2, a8, a5, a7, b1, m', s, t, y, hs, le, lf, F, K, sc, c, q, cs, b2, SR_Kp hS b4, OTP_F hO a6 (by omega) (b4.1 7 (by omega)) (b4.2 12 (by omega) (by omega) (by omega)), b3⟩
theorem PRB_of (hS : SR m sc le lf) (hO : OTP w n m) (h : PAIRB B x w n j1 A1 j2 A2 m le lf sc) : PRB B x w n j1 A1 j2 A2 := by
  obtain ⟨e, r, w1, n1, w2, n2, a1, a2, a8, a3, a4, a5, a6, a7, m', s, t, y, hs, F, K, c, q, cs, B', b1, b2, b3, b4⟩ := h
  exact ⟨e, r, w1, n1, w2, n2, B', a1, a2, a8, a5, a7, b1, m', s, t, y, hs, le, lf, F, K, sc, c, q, cs, b2, SR_Kp hS b4, OTP_F hO a6 (by omega) (b4.1 7 (by omega)) (b4.2 12 (by omega) (by omega) (by omega)), b3⟩
theorem SM_of (hS : SR m sc le lf) (hO : OTP w n m) (h : SAME B x w n j1 A1 j2 A2 m le lf sc) : SM B x w n j1 A1 j2 A2 := by
  obtain ⟨r, w1, n1, w2, n2, a1, a2, a8, a3, a4, a5, a6, m', s, t, y, hs, F, K, c, q, cs, B', b1, b2, b4⟩ := h
  exact ⟨r, w1, n1, w2, n2, B', m' 20 13, a1, a2, a8, a5, b1, m', s, t, y, hs, le, lf, F, K, sc, c, q, cs, b2, SR_Kp hS b4, OTP_F hO a6 (by omega) (b4.1 7 (by omega)) (b4.2 12 (by omega) (by omega) (by omega)), rfl⟩
theorem PRS_of (hO : OTP w n m) (h : PAIRS B x w n j1 A1 j2 A2 m) : PR B x w n j1 A1 j2 A2 := by
  obtain ⟨e, r, w1, n1, w2, n2, a1, a2, a8, a3, a4, a5, a6, a7, m', s, t, y, hs, le, lf, F, K, sc, c, q, cs, B', b1, b2, b3, b4, b5, b6⟩ := h
  exact ⟨e, r, w1, n1, w2, n2, B', a1, a2, a8, a5, a7, b1, m', s, t, y, hs, le, lf, F, K, sc, c, q, cs, b2, b3, OTP_F hO a6 (by omega) b5 b6, b4⟩
theorem PRF_of (hS : SR m sc le lf) (hO : OTP w n m) (h : PAIRD B x w n u m le lf sc) : PRF B x w n u := by
  obtain ⟨e, fv, w1, n1, w2, n2, a1, a2, a8, a3, a4, a5, a6, a7, m', s, t, y, hs, F, K, c, q, cs, B', b1, b2, b3, b4⟩ := h
  exact ⟨e, fv, w1, n1, w2, n2, B', a1, a2, a8, a5, a7, b1, m', s, t, y, hs, le, lf, F, K, sc, c, q, cs, b2, SR_Kp hS b4, OTP_F hO a6 (by omega) (b4.1 7 (by omega)) (b4.2 12 (by omega) (by omega) (by omega)), b3⟩
theorem SMD_of (hV : IV B w m s t y hs le lf F K sc c q cs) (hS : SR m sc le lf) (hO : OTP w n m) : SMD B x w n := by
  have e1 := c76 (x := x) (n := n) hV
  have e2 := c274 (x := x) (n := n) (b := 227) (w := w) hV.2.2.2.2.1.1.1.2.1
  rw [hV.2.1] at e2
  obtain ⟨f, hf⟩ := hV.2.2.1
  exact ⟨clM hV.2.1, _, _, 0, e1, e2, mw_ok hV.2.2.2.2.1.1.1.2.1, _, s, t, y, hs, le, lf, F, K, sc, c, q, cs, IVq hV (fun _ _ => rfl) hf, SR_Kp hS Kp13, OTP_F hO (fun i h1 h2 => by rw [setM_out (by omega)]) (Nat.le_refl _) (us_ne (by decide)) (by rw [us_at, if_pos rfl, if_neg (by decide)]), by rw [us_at, if_pos rfl, if_pos rfl]⟩
/-- what writing letters leaves -/
theorem ren_end {f : Nat → Int64} {w1 w2 : PW} {n1 cap' : Nat} {ml' : Int32} {Q : TKX} (hV : IV B w m s t y hs le lf F K sc c q cs) (hS : SR m sc le lf) (hF : FB w w1) (o2 : ∀ i, ¬ i = 237 → w2 i = w1 i) (h37 : w2 237 = some (lcl f)) (hB : SBP w1 n1 bp cap' Q.2 ml' Q.1) : FVe B (setM w2 227 (us (MO m Q.1 Q.2) 20 13 0)) n1 0 := by
  obtain ⟨hW, hM, -, ⟨g38, hg⟩, hR, hH, h6, hy, hi, hiK⟩ := id hV
  obtain ⟨l, hX, hT, hle, hlf⟩ := hS
  have hW1 := WDF hW hF
  have mr : ∀ r, ¬ r = 7 → ¬ r = 20 → us (MO m Q.1 Q.2) 20 13 0 r = m r := fun r h7 h20 => by rw [us_ne h20, MO_o h7 h20]
  have mn : ∀ j, ¬ j = 12 → ¬ j = 13 → us (MO m Q.1 Q.2) 20 13 0 20 j = m 20 j := fun j h12 h13 => by rw [us_at, if_pos rfl, if_neg h13, MO_n h12]
  refine ⟨us (MO m Q.1 Q.2) 20 13 0, s, t, y, hs, le, lf, F, K, sc, c, q, cs, IV_2 hW1 (fun i hi => o2 i (by omega)) h37 (by rw [o2 _ (by omega), hF _ (by omega)]; exact hg) ?_ ⟨hH.1, ?_, fun j hj => ?_⟩ ?_ ?_ hi hiK, ⟨l, hX, ⟨?_, fun j hj => ?_⟩, ?_, ?_⟩, ⟨bp, cap', ml', Q.2, ?_, ?_⟩, by rw [us_at, if_pos rfl, if_pos rfl]⟩
  · rw [mr 1 (by decide) (by decide)]; exact hR
  · rw [mn 4 (by decide) (by decide)]; exact hH.2.1
  · rw [mr 4 (by decide) (by decide)]; exact hH.2.2 j hj
  · rw [mn 6 (by decide) (by decide)]; exact h6
  · rw [mr 5 (by decide) (by decide)]; exact hy
  · rw [mn 8 (by decide) (by decide)]; exact hT.1
  · rw [mr 6 (by decide) (by decide)]; exact hT.2 j hj
  · rw [mn 9 (by decide) (by decide)]; exact hle
  · rw [mn 10 (by decide) (by decide)]; exact hlf
  · obtain ⟨k1, k2, ⟨fb, k3, k4, k5⟩, k6, k7, k8, k9, k10⟩ := hB
    refine ⟨?_, k2, ⟨fb, ?_, k4, ?_⟩, k6, k7, k8, k9, k10⟩
    · rw [setM_out (by omega), o2 _ (by omega)]; exact k1
    · rw [setM_out (by omega), o2 _ (by omega)]; exact k3
    · rw [us_ne (by decide), MO_7]; exact k5
  · rw [us_at, if_pos rfl, if_neg (by decide), MO_12]
theorem GR_2 {n1 cap' : Nat} (h : GR n cap n1 cap') : n1 ≤ n + 1 := by
  unfold GR at h
  omega
theorem p330 (hV : IV B w m s t y hs le lf F K sc c q cs) (hS : SR m sc le lf) (hO : OTP w n m) : PR B x w n 330 [.ref 64, .int u, .ref 237] 279 [.ref 227, .int u] := by
  have hW := hV.1
  have hRS := hV.2.2.2.2.1.1.1.2.1
  have c64 := (WD_64 hW).2.1
  cases h : rg u 5 with
  | false => exact PR_of hS hO (q_ex (r := 0) hV (by decide) (lx330_1 c64 (c79_1 h)) (fun w' n' => c279_1 h))
  | true =>
    obtain ⟨g, hg, rfl⟩ := rg_nat (N := 5) (by omega) h
    obtain ⟨bp, cap, ml, cnt, hB, h12⟩ := hO
    obtain ⟨w1, n1, b1, k1, ml1, e79, hB1, hF1, hG1⟩ := c79_0 (x := x) hW hRS hg hB
    obtain ⟨f, hf⟩ := hV.2.2.1
    have f1 : w1 237 = some (lcl f) := by rw [hF1 _ (by omega)]; exact hf
    have E1 := lw330 c64 e79 f1
    obtain ⟨w2, hw2⟩ : ∃ w2, w2 = pupd w1 237 (lcl (vp_updL f 0 (Int32.ofNat (rgF s g (m 7)).2).toInt64)) := ⟨_, rfl⟩
    rw [← hw2] at E1
    have o2 : ∀ i, ¬ i = 237 → w2 i = w1 i := fun i hi => by rw [hw2, pupd_ne hi]
    have h37 : w2 237 = some (lcl (vp_updL f 0 (Int32.ofNat (rgF s g (m 7)).2).toInt64)) := by rw [hw2]; exact pupd_same _ _ _
    have M2 : setM w2 227 m = w2 := isM_c hV.2.1 (fun i h1 h2 => by rw [o2 i (by omega), hF1 i (by omega)])
    have E2 := c279_0 (x := x) (n := n1) (b := 227) (w := w2) hRS hg
    rw [M2] at E2
    have hn := GR_2 hG1
    exact ⟨0, _, w2, n1, _, n1, B, E1, E2, clM M2, by omega, fun _ => ⟨_, by rw [setM_out (by omega)]; exact h37, updL_0⟩, by omega, ren_end hV hS hF1 o2 h37 hB1⟩
theorem p80 (hV : IV B w m s t y hs le lf F K sc c q cs) (hS : SR m sc le lf) (hO : OTP w n m) : SM B x w n 80 [.ref 64] 280 [.ref 227] := by
  have hW := hV.1
  have hR := hV.2.2.2.2.1
  have hRS := hR.1.1.2.1
  have hC := hR.1.1.1.1
  obtain ⟨bp, cap, ml, cn, hB, h12⟩ := hO
  obtain ⟨w1, n1, b1, k1, ml1, e80, hB1, hF1, hG1⟩ := c80 (x := x) hW hC hR.2 hB
  obtain ⟨f, hf⟩ := hV.2.2.1
  have f1 : w1 237 = some (lcl f) := by rw [hF1 _ (by omega)]; exact hf
  have M2 : setM w1 227 m = w1 := isM_c hV.2.1 (fun i h1 h2 => hF1 i (by omega))
  have h3 : m 1 3 = Int32.ofNat c := hR.1.1.2.2.1
  have hct : ∀ r, r < 6 → cnt (fun j => decide (m 1 (76 + j) = Int32.ofNat r)) c = ctS s c (Int32.ofNat r) := fun r hr => cnt_congr (fun j hj => by
    have := hR.1.1.2.2.2 j hj
    unfold RB at this
    rw [this.2.2.2.1])
  have E2 : RM x 280 [.ref 227] w1 n1 = some (.inl (some (.int (Int32.ofNat (rcF (waF s) (fun r => ctS s c (Int32.ofNat r)) 6 0 (m 7, 0)).2))), setM w1 227 (us (MO m (rcF (waF s) (fun r => ctS s c (Int32.ofNat r)) 6 0 (m 7, 0)).1 (rcF (waF s) (fun r => ctS s c (Int32.ofNat r)) 6 0 (m 7, 0)).2) 20 13 0), n1) := by
    have hl := l280 (x := x) (n := n1) (b := 227) (w := w1) hRS hR.2 hC.2.1 h3 hct none rfl 6 0 (m 7, 0) none rfl (by omega) (by omega)
    have o0 : us m 20 12 0 = MO m (m 7) 0 := MO_0
    rw [← hl]
    conv => lhs; rw [← M2]
    simp only [csN, csm_i, csm_r, Nat.reduceAdd, Nat.reduceLeDiff, wdI, wdR, wdN, clM_0, clC_0, clC_1, clC_6, clC_8, true_or, or_true, i10, i01, ob_some, ob_map, cal_v, rvs_some, rvs_none, XO_at, cal_x, m280, r280_0, r280_1, r280_2, r280_5, r280_6, r280_8, r280_10, r280_13, r280_14, r280_17, r280_18, r280_20, r280_23, r280_24, r280_25, r280_28, r280_30, r280_31, r280_32, r280_33, r280_36, r280_37, r280_39, r280_40, r280_41, r280_44, r280_47, r280_48, r280_50, r280_53, r280_56, r280_62, r280_65, r280_66, r280_67, r280_70, r280_73, pM_0_12, o0]
    rfl
  have hn := GR_2 hG1
  exact ⟨_, w1, n1, _, n1, B, 0, e80, E2, clM M2, by omega, by omega, ren_end hV hS hF1 (fun _ _ => rfl) f1 hB1⟩
theorem c281_1 (h : rI u 0 (m 20 12 - 1) = false) : RM x 281 [.ref b, .int u] (setM w b m) n = some (.inl (some (.int 0)), setM w b (us m 20 13 1), n) := by
  have e13 : us m 20 13 1 20 13 = 1 := by rw [us_at, if_pos rfl, if_pos rfl]
  simp only [csN, csm_i, csm_r, Nat.reduceAdd, Nat.reduceLeDiff, wdI, wdR, wdN, clM_0, clC_0, clC_1, clC_6, clC_8, true_or, or_true, i10, i01, ob_some, ob_map, cal_v, rvs_some, rvs_none, XO_at, cal_x, m281, r281_0, r281_1, r281_2, r281_3, r281_4, r281_7, r281_8, r281_9, r281_12, r281_15, r281_16, r281_19, r281_20, r281_23, r281_24, r281_27, r281_30, r281_31, r281_34, r281_35, r281_36, r281_39, gM_0_12, gM_0_13, pM_0_13, c193, h, bi_f, if_true, if_false, e13]
  exact r281_40 (by decide)
theorem c281_0 {i : Nat} (h : rI (Int32.ofNat i) 0 (m 20 12 - 1) = true) (hi : i < 100) (hc : CH (m 7 i)) : RM x 281 [.ref b, .int (Int32.ofNat i)] (setM w b m) n = some (.inl (some (.int (m 7 i))), setM w b (us m 20 13 0), n) := by
  have e13 : us m 20 13 0 20 13 = 0 := by rw [us_at, if_pos rfl, if_pos rfl]
  have e7 : us m 20 13 0 7 = m 7 := us_ne (by decide)
  have k : fin 100 (Int32.ofNat i) = some i := fin_nat hi (by omega)
  simp only [csN, csm_i, csm_r, Nat.reduceAdd, Nat.reduceLeDiff, wdI, wdR, wdN, clM_0, clC_0, clC_1, clC_6, clC_8, true_or, or_true, i10, i01, ob_some, ob_map, cal_v, rvs_some, rvs_none, XO_at, cal_x, m281, r281_0, r281_1, r281_2, r281_3, r281_4, r281_7, r281_8, r281_9, r281_12, r281_15, r281_16, r281_19, r281_20, r281_23, r281_24, r281_27, r281_30, r281_31, r281_34, r281_35, r281_36, r281_39, gM_0_11, gM_0_12, gM_0_13, pM_0_13, c193, h, bi_t, if_true, if_false, e13, lM_7, k, Option.map_some, e7]
  exact r281_40 (ch_f hc).2.2.1
theorem p331 (hV : IV B w m s t y hs le lf F K sc c q cs) (hS : SR m sc le lf) (hO : OTP w n m) : PR B x w n 331 [.ref 64, .int u, .ref 237] 281 [.ref 227, .int u] := by
  have hW := hV.1
  have c64 := (WD_64 hW).2.1
  have g6 := WD_6 hW
  obtain ⟨bp, cap, ml, cnt, hB, h12⟩ := id hO
  have c225 := (SB_g (x := x) hB).2.2.2.1
  have e25 := c25 (x := x) hB
  have hcnt := hB.2.2.2.2.2.2.2
  have hcap := hB.2.2.2.2.2.2.1
  by_cases h0 : u < 0
  · have hr : rI u 0 (m 20 12 - 1) = false := by
      unfold rI
      rw [decide_eq_true h0]
      rfl
    refine PR_of hS hO (q_ex (r := 0) hV (by decide) (lx331_1 c64 ?_) (fun w' n' => c281_1 hr))
    simp only [csN, csm_i, csm_r, Nat.reduceAdd, Nat.reduceLeDiff, wdI, wdR, wdN, clM_0, clC_0, clC_1, clC_6, clC_8, true_or, or_true, i10, i01, ob_some, ob_map, cal_v, rvs_some, rvs_none, XO_at, cal_x, m81, r81_0, r81_1, r81_4, r81_5, r81_6, r81_9, r81_12, r81_15, r81_26, r81_27, r81_30, r81_31, h0, if_true]
  · obtain ⟨i, hi, rfl⟩ := i_of (Int32.not_lt.mp h0)
    by_cases hic : i < cnt
    · have hr : rI (Int32.ofNat i) 0 (m 20 12 - 1) = true := by
        unfold rI
        rw [h12, decide_eq_false h0, show (1 : Int32) = Int32.ofNat 1 from rfl, i_sub (by omega), decide_eq_false (by rw [i_lt (by omega) (by omega)]; omega)]
        rfl
      have n1 : Int32.ofNat i < Int32.ofNat cnt := nlt (by omega) (by omega) hic
      obtain ⟨k1, k2, ⟨fb, k3, k4, k5⟩, k6⟩ := id hB
      have hCH : CH (m 7 i) := by rw [← k5 i hic]; exact k4 i
      have e23 := c23 (x := x) hB hic
      refine PR_of hS hO (q_ok (r := m 7 i) hV (fun f hf => lw331 c64 ?_ hf) (fun w' n' => c281_0 hr (by omega) hCH))
      simp only [csN, csm_i, csm_r, Nat.reduceAdd, Nat.reduceLeDiff, wdI, wdR, wdN, clM_0, clC_0, clC_1, clC_6, clC_8, true_or, or_true, i10, i01, ob_some, ob_map, cal_v, rvs_some, rvs_none, XO_at, cal_x, m81, r81_0, r81_1, r81_4, r81_5, r81_6, r81_9, r81_12, r81_15, r81_26, r81_27, r81_30, r81_31, h0, if_false, g6, c225, e25, n1, if_true, e23]
      exact r81_34 (ch_f hCH).2.2.1
    · have hr : rI (Int32.ofNat i) 0 (m 20 12 - 1) = false := by
        unfold rI
        rw [h12]
        have : Int32.ofNat cnt - 1 < Int32.ofNat i := by
          by_cases hz : cnt = 0
          · rw [hz]
            have h1 : Int32.ofNat 0 - 1 < 0 := by decide
            exact Int32.lt_of_lt_of_le h1 (Int32.not_lt.mp h0)
          · rw [show (1 : Int32) = Int32.ofNat 1 from rfl, i_sub (by omega), i_lt (by omega) (by omega)]
            omega
        rw [decide_eq_true this, Bool.not_true, Bool.and_false]
      have n1 : ¬ Int32.ofNat i < Int32.ofNat cnt := by rw [i_lt (by omega) (by omega)]; exact hic
      refine PR_of hS hO (q_ex (r := 0) hV (by decide) (lx331_1 c64 ?_) (fun w' n' => c281_1 hr))
      simp only [csN, csm_i, csm_r, Nat.reduceAdd, Nat.reduceLeDiff, wdI, wdR, wdN, clM_0, clC_0, clC_1, clC_6, clC_8, true_or, or_true, i10, i01, ob_some, ob_map, cal_v, rvs_some, rvs_none, XO_at, cal_x, m81, r81_0, r81_1, r81_4, r81_5, r81_6, r81_9, r81_12, r81_15, r81_26, r81_27, r81_30, r81_31, h0, if_false, g6, c225, e25, n1]
end OUTS
