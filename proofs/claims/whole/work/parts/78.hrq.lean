/-! HOURS UNTIL a string is detuned: the pair -/
section HRQ
set_option maxRecDepth 20000
variable {x : SX} {n b c q B g r : Nat} {w w' : PW} {m s t y T : NS} {hs le lf hc : Int32} {F : Nat → Nat} {K : Nat → NS} {sc : NS} {cs : Nat → Nat} {u v : Int32}
theorem c265_f (h : (rg u 5 && rg v 2) = false) : RM x 265 [.ref b, .int u, .int v] (setM w b m) n = some (.inl (some (.int 0)), setM w b (us m 20 13 1), n) := by
  simp only [csN, csm_i, csm_r, Nat.reduceAdd, Nat.reduceLeDiff, wdI, wdR, wdN, clM_0, clC_0, clC_1, clC_6, clC_8, true_or, or_true, i10, i01, ob_some, ob_map, cal_v, rvs_some, rvs_none, XO_at, cal_x, m265, r265_0, r265_1, r265_2, r265_5, r265_8, r265_9, r265_10, r265_13, r265_14, r265_15, r265_18, r265_19, r265_20, r265_23, r265_24, r265_27, r265_28, r265_29, r265_30, r265_33, r265_36, r265_39, r265_40, r265_43, r265_45, r265_46, r265_47, r265_48, r265_49, r265_50, r265_51, r265_52, r265_54, r265_57, r265_59, r265_60, r265_63, r265_64, r265_66, r265_69, r265_73, r265_76, r265_77, r265_78, r265_81, r265_82, r265_85, r265_86, r265_89, r265_92, r265_93, r265_94, r265_97, r265_100, r265_101, r265_102, r265_105, c201, h, bi_f, if_true, c196]
theorem c265_t (hg : g < 5) (hr : r < 2) (hT : RelH T (m 1) c) : ∃ m'', (hdA (g * 2 + r) 201 T c 0 = 201 → RM x 265 [.ref b, .int (Int32.ofNat g), .int (Int32.ofNat r)] (setM w b m) n = some (.inl (some (.int 0)), setM w b m'', n) ∧ Tr m m'' 2) ∧
    (¬ hdA (g * 2 + r) 201 T c 0 = 201 → RM x 265 [.ref b, .int (Int32.ofNat g), .int (Int32.ofNat r)] (setM w b m) n = some (.inl (some (.int (Int32.ofNat (hdA (g * 2 + r) 201 T c 0)))), setM w b m'', n) ∧ Tr m m'' 0) := by
  have k1 : rg (Int32.ofNat g) 5 = true := nat_rg (N := 5) (by omega) hg
  have k2 : rg (Int32.ofNat r) 2 = true := nat_rg (N := 2) (by omega) hr
  obtain ⟨M0, hM0⟩ : ∃ M0, M0 = ua m 3 (cp84 (m 1) 0 (m 3) 0 84) := ⟨_, rfl⟩
  have h1 := c197 (x := x) (n := n) (w := setM w b m) (p := b + 1) (q := b + 3) (a := 0) (t := 0) (N0 := 84) (N1 := 84) (u := 0) (v := 0) rfl rfl setM_1 setM_3 (by omega) (by omega) (by omega) (by decide) (by decide)
  have e1 : pupd (setM w b m) (b + 3) (rowI' 84 (cp84 (m 1) 0 (m 3) 0 84)) = setM w b M0 := by rw [hM0]; exact fM_3
  rw [e1] at h1
  have r1 : M0 1 = m 1 := by rw [hM0, ua_ne (by decide)]
  have r2 : M0 3 = cp84 (m 1) 0 (m 3) 0 84 := by rw [hM0, ua_same]
  obtain ⟨g', f', L', hl⟩ := l265 (x := x) (n := n) (b := b) (w := w) hg hr 201 0 T M0 c 0 rfl (by rw [r1]; exact hT)
  obtain ⟨M1, hM1⟩ : ∃ M1, M1 = ua (ua M0 8 f') 1 g' := ⟨_, rfl⟩
  rw [← hM1] at hl
  have q1 : M1 1 = g' := by rw [hM1, ua_same]
  have q2 : M1 3 = cp84 (m 1) 0 (m 3) 0 84 := by rw [hM1, ua_ne (by decide), ua_ne (by decide), r2]
  have h2 := c197 (x := x) (n := n) (w := setM w b M1) (p := b + 3) (q := b + 1) (a := 0) (t := 0) (N0 := 84) (N1 := 84) (u := 0) (v := 0) rfl rfl setM_3 setM_1 (by omega) (by omega) (by omega) (by decide) (by decide)
  have e2 : pupd (setM w b M1) (b + 1) (rowI' 84 (cp84 (M1 3) 0 (M1 1) 0 84)) = setM w b (ua M1 1 (cp84 (M1 3) 0 (M1 1) 0 84)) := fM_1
  rw [e2] at h2
  have hle := hdA_le (j := g * 2 + r) 201 T c 0
  have hh : RM x 265 [.ref b, .int (Int32.ofNat g), .int (Int32.ofNat r)] (setM w b m) n = RC x 265 72 [some (.ref b), some (.int (Int32.ofNat g)), some (.int (Int32.ofNat r)), some (.int (Int32.ofNat (hdA (g * 2 + r) 201 T c 0))), some (.int L')] [] (setM w b M1) n := by
    simp only [csN, csm_i, csm_r, Nat.reduceAdd, Nat.reduceLeDiff, wdI, wdR, wdN, clM_0, clC_0, clC_1, clC_6, clC_8, true_or, or_true, i10, i01, ob_some, ob_map, cal_v, rvs_some, rvs_none, XO_at, cal_x, m265, r265_0, r265_1, r265_2, r265_5, r265_8, r265_9, r265_10, r265_13, r265_14, r265_15, r265_18, r265_19, r265_20, r265_23, r265_24, r265_27, r265_28, r265_29, r265_30, r265_33, r265_36, r265_39, r265_40, r265_43, r265_45, r265_46, r265_47, r265_48, r265_49, r265_50, r265_51, r265_52, r265_54, r265_57, r265_59, r265_60, r265_63, r265_64, r265_66, r265_69, r265_73, r265_76, r265_77, r265_78, r265_81, r265_82, r265_85, r265_86, r265_89, r265_92, r265_93, r265_94, r265_97, r265_100, r265_101, r265_102, r265_105, c201, k1, k2, Bool.and_self, bi_t, if_false, gM_0_0, gM_0_2, h1]
    exact hl
  have tr : ∀ e, Tr m (us (ua M1 1 (cp84 (M1 3) 0 (M1 1) 0 84)) 20 13 e) e := fun e => by
    rw [q1, q2, hM1, hM0]
    exact Tr_of
  by_cases gg : hdA (g * 2 + r) 201 T c 0 = 201
  · refine ⟨us (ua M1 1 (cp84 (M1 3) 0 (M1 1) 0 84)) 20 13 2, fun _ => ⟨?_, tr 2⟩, fun h => absurd gg h⟩
    have z : (200 : Int32) < Int32.ofNat 201 := by decide
    rw [hh, gg, r265_72]
    simp only [csN, csm_i, csm_r, Nat.reduceAdd, Nat.reduceLeDiff, wdI, wdR, wdN, clM_0, clC_0, clC_1, clC_6, clC_8, true_or, or_true, i10, i01, ob_some, ob_map, cal_v, rvs_some, rvs_none, XO_at, cal_x, m265, r265_0, r265_1, r265_2, r265_5, r265_8, r265_9, r265_10, r265_13, r265_14, r265_15, r265_18, r265_19, r265_20, r265_23, r265_24, r265_27, r265_28, r265_29, r265_30, r265_33, r265_36, r265_39, r265_40, r265_43, r265_45, r265_46, r265_47, r265_48, r265_49, r265_50, r265_51, r265_52, r265_54, r265_57, r265_59, r265_60, r265_63, r265_64, r265_66, r265_69, r265_73, r265_76, r265_77, r265_78, r265_81, r265_82, r265_85, r265_86, r265_89, r265_92, r265_93, r265_94, r265_97, r265_100, r265_101, r265_102, r265_105, gM_0_0, gM_0_2, h2, z, if_true, c196]
  · refine ⟨us (ua M1 1 (cp84 (M1 3) 0 (M1 1) 0 84)) 20 13 0, fun h => absurd h gg, fun _ => ⟨?_, tr 0⟩⟩
    have z : ¬ (200 : Int32) < Int32.ofNat (hdA (g * 2 + r) 201 T c 0) := fun z => by
      have z' : Int32.ofNat 200 < Int32.ofNat (hdA (g * 2 + r) 201 T c 0) := z
      rw [i_lt (by omega) (by omega)] at z'
      omega
    rw [hh, r265_72]
    simp only [csN, csm_i, csm_r, Nat.reduceAdd, Nat.reduceLeDiff, wdI, wdR, wdN, clM_0, clC_0, clC_1, clC_6, clC_8, true_or, or_true, i10, i01, ob_some, ob_map, cal_v, rvs_some, rvs_none, XO_at, cal_x, m265, r265_0, r265_1, r265_2, r265_5, r265_8, r265_9, r265_10, r265_13, r265_14, r265_15, r265_18, r265_19, r265_20, r265_23, r265_24, r265_27, r265_28, r265_29, r265_30, r265_33, r265_36, r265_39, r265_40, r265_43, r265_45, r265_46, r265_47, r265_48, r265_49, r265_50, r265_51, r265_52, r265_54, r265_57, r265_59, r265_60, r265_63, r265_64, r265_66, r265_69, r265_73, r265_76, r265_77, r265_78, r265_81, r265_82, r265_85, r265_86, r265_89, r265_92, r265_93, r265_94, r265_97, r265_100, r265_101, r265_102, r265_105, gM_0_0, gM_0_2, h2, z, if_false, c195]
theorem p328 (hV : IV B w m s t y hs le lf F K sc c q cs) : PAIR B x w n 328 [.ref 64, .int u, .int v, .ref 237] 265 [.ref 227, .int u, .int v] m le lf sc := by
  have hW := hV.1
  have hM := hV.2.1
  have hRJ := hV.2.2.2.2.1
  have hRH := hRJ.1.1
  obtain ⟨f, hf⟩ := hV.2.2.1
  obtain ⟨⟨g0, g1, -⟩, c64, c65, c79, -⟩ := WD_64 hW
  cases h : rg u 5 && rg v 2 with
  | false =>
    have e1 := c93_f (x := x) (n := n) (w := w) h
    have e3 : RM x 67 [.ref 64, .int u, .int v] w n = some (.inr "java/lang/IndexOutOfBoundsException", w, n + 1) := by
      simp only [csN, csm_i, csm_r, Nat.reduceAdd, Nat.reduceLeDiff, wdI, wdR, wdN, clM_0, clC_0, clC_1, clC_6, clC_8, true_or, or_true, i10, i01, ob_some, ob_map, cal_v, rvs_some, rvs_none, XO_at, cal_x, m67, r67_0, r67_1, r67_2, r67_5, r67_6, r67_9, r67_10, r67_13, r67_16, r67_17, r67_19, r67_22, r67_25, r67_26, r67_29, r67_32, r67_33, r67_34, r67_37, r67_40, r67_41, r67_42, r67_43, r67_46, r67_47, r67_50, r67_51, r67_54, r67_57, e1]
    exact q_ex (r := 0) hV (by decide) (lx328_1 c64 e3) (fun w' n' => c265_f h)
  | true =>
    have h' := h
    rw [Bool.and_eq_true] at h'
    obtain ⟨g, hg, rfl⟩ := rg_nat (N := 5) (by omega) h'.1
    obtain ⟨r, hr, rfl⟩ := rg_nat (N := 2) (by omega) h'.2
    have e1 := c93_t (x := x) (n := n) (w := w) h
    have hT : RelH (cpC t s) (m 1) c := (Rel_E hRJ.1 EC_cp).1
    have e2 : RM x 99 [.ref 79, .ref 65] w n = some (.inl none, setC w 79 (cpC t s), n) := by
      have k := c99 (x := x) (n := n) (w := w) (b := 79) (b2 := 65) (s := t) (t := s) (by omega) hW.2.1 hRH.1.1.2.2
      rw [(WD_c hW).2.1] at k
      exact k
    have g1' : ∀ T, gfd (setC w 79 T) 6 1 64 = some (.ref 79) := fun T => (WD_64 (WD_T T hW)).1.2.1
    obtain ⟨T', hl⟩ := l67 (x := x) (n := n) (w := w) hg hr g1' 201 0 (cpC t s) c rfl hT.1
    have e3 : RM x 67 [.ref 64, .int (Int32.ofNat g), .int (Int32.ofNat r)] w n = if hdA (g * 2 + r) 201 (cpC t s) c 0 = 201 then some (.inr "java/util/NoSuchElementException", setC w 79 T', n + 1) else some (.inl (some (.int (Int32.ofNat (hdA (g * 2 + r) 201 (cpC t s) c 0)))), setC w 79 T', n) := by
      simp only [csN, csm_i, csm_r, Nat.reduceAdd, Nat.reduceLeDiff, wdI, wdR, wdN, clM_0, clC_0, clC_1, clC_6, clC_8, true_or, or_true, i10, i01, ob_some, ob_map, cal_v, rvs_some, rvs_none, XO_at, cal_x, m67, r67_0, r67_1, r67_2, r67_5, r67_6, r67_9, r67_10, r67_13, r67_16, r67_17, r67_19, r67_22, r67_25, r67_26, r67_29, r67_32, r67_33, r67_34, r67_37, r67_40, r67_41, r67_42, r67_43, r67_46, r67_47, r67_50, r67_51, r67_54, r67_57, c64, e1, g0, g1, c79, e2]
      exact hl
    have o1 : ∀ i, ¬ i = 237 → (setC w 79 T') i = setC w 79 T' i := fun _ _ => rfl
    by_cases gg : hdA (g * 2 + r) 201 (cpC t s) c 0 = 201
    · rw [if_pos gg] at e3
      have E1 := lx328_2 c64 e3
      have M2 : setM (setC w 79 T') 227 m = setC w 79 T' := isM_c hM (fun i h1 h2 => setC_w (by omega))
      obtain ⟨m'', a1, -⟩ := c265_t (x := x) (n := n + 2) (b := 227) (w := setC w 79 T') hg hr hT
      obtain ⟨E2, tr⟩ := a1 gg
      rw [M2] at E2
      exact ⟨2, _, _, _, _, _, E1, E2, clM M2, by omega, by omega, by omega, fun i h1 h2 => by rw [setM_out (by omega), setC_w (by omega)], fun h => absurd h (by decide), m'', s, T', y, hs, F, K, c, q, cs, B, by omega, IV_tr hV tr o1 (by rw [setC_w (by omega)]; exact hf), tr.2.2.2, Kp_tr tr⟩
    · rw [if_neg gg] at e3
      have E1 := lw328 c64 e3 (by rw [setC_w (by omega)]; exact hf)
      obtain ⟨w2, hw2⟩ : ∃ w2, w2 = pupd (setC w 79 T') 237 (lcl (vp_updL f 0 (Int32.ofNat (hdA (g * 2 + r) 201 (cpC t s) c 0)).toInt64)) := ⟨_, rfl⟩
      rw [← hw2] at E1
      have o2 : ∀ i, ¬ i = 237 → w2 i = setC w 79 T' i := fun i hi => by rw [hw2, pupd_ne hi]
      have h37 : w2 237 = some (lcl (vp_updL f 0 (Int32.ofNat (hdA (g * 2 + r) 201 (cpC t s) c 0)).toInt64)) := by rw [hw2]; exact pupd_same _ _ _
      have M2 : setM w2 227 m = w2 := isM_c hM (fun i h1 h2 => by rw [o2 i (by omega), setC_w (by omega)])
      obtain ⟨m'', -, a2⟩ := c265_t (x := x) (n := n) (b := 227) (w := w2) hg hr hT
      obtain ⟨E2, tr⟩ := a2 gg
      rw [M2] at E2
      exact ⟨0, _, w2, n, _, n, E1, E2, clM M2, by omega, by omega, by omega, fun i h1 h2 => by rw [setM_out (by omega), o2 i (by omega), setC_w (by omega)], fun _ => ⟨_, by rw [setM_out (by omega)]; exact h37, updL_0⟩, m'', s, T', y, hs, F, K, c, q, cs, B, by omega, IV_tr hV tr o2 h37, tr.2.2.2, Kp_tr tr⟩
end HRQ
