/-! HOURS UNTIL a barge leaves: the pair -/
section HRP
set_option maxRecDepth 20000
variable {x : SX} {n b c q B : Nat} {w w' : PW} {m s t y T : NS} {hs le lf hc : Int32} {F : Nat → Nat} {K : Nat → NS} {sc : NS} {cs : Nat → Nat} {u v : Int32}
/-- what a question leaves that tries hours -/
def Tr (m m' : NS) (e : Int32) : Prop := (∀ k, k < 84 → m' 1 k = m 1 k) ∧ (∀ a, a = 4 ∨ a = 5 ∨ a = 6 ∨ a = 7 ∨ a = 9 → m' a = m a) ∧ (∀ j, ¬ j = 13 → m' 20 j = m 20 j) ∧ m' 20 13 = e
theorem Tr_of {e : Int32} {f' g' : Nat → Int32} : Tr m (us (ua (ua (ua (ua m 3 (cp84 (m 1) 0 (m 3) 0 84)) 8 f') 1 g') 1 (cp84 (cp84 (m 1) 0 (m 3) 0 84) 0 g' 0 84)) 20 13 e) e := by
  refine ⟨fun k hk => ?_, fun a ha => ?_, fun j hj => ?_, ?_⟩
  · rw [us_ne (by decide), ua_same, cp0 k hk, cp0 k hk]
  · rw [us_ne (by omega), ua_ne (by omega), ua_ne (by omega), ua_ne (by omega), ua_ne (by omega)]
  · rw [us_at, if_pos rfl, if_neg hj, ua_ne (by decide), ua_ne (by decide), ua_ne (by decide), ua_ne (by decide)]
  · rw [us_at, if_pos rfl, if_pos rfl]
theorem c264_f (hR : RelH s (m 1) c) (h : ixA (s 9) u c 0 = -1) : RM x 264 [.ref b, .int u] (setM w b m) n = some (.inl (some (.int 0)), setM w b (us m 20 13 1), n) := by
  have k := c211 (x := x) (n := n) (b := b) (w := w) (v := u) hR
  simp only [csN, csm_i, csm_r, Nat.reduceAdd, Nat.reduceLeDiff, wdI, wdR, wdN, clM_0, clC_0, clC_1, clC_6, clC_8, true_or, or_true, i10, i01, ob_some, ob_map, cal_v, rvs_some, rvs_none, XO_at, cal_x, m264, r264_0, r264_1, r264_2, r264_5, r264_6, r264_9, r264_10, r264_11, r264_14, r264_15, r264_16, r264_19, r264_20, r264_21, r264_24, r264_25, r264_28, r264_29, r264_30, r264_31, r264_33, r264_36, r264_39, r264_40, r264_41, r264_44, r264_45, r264_48, r264_49, r264_50, r264_53, r264_54, r264_55, r264_58, r264_62, r264_65, r264_66, r264_67, r264_70, r264_71, r264_74, r264_75, r264_78, r264_81, r264_82, r264_83, r264_86, r264_89, r264_90, r264_91, r264_94, k, h, if_true, c196]
theorem ix_T (x : SX) (hR : RelH s (m 1) c) (hT : RelH T (m 1) c) : ixA (T 9) u c 0 = ixA (s 9) u c 0 := by
  have k1 := c211 (x := x) (n := 0) (b := 0) (w := fun _ => none) (v := u) hR
  have k2 := c211 (x := x) (n := 0) (b := 0) (w := fun _ => none) (v := u) hT
  rw [k1] at k2
  injection k2 with k2
  injection k2 with k2
  injection k2 with k2
  injection k2 with k2
  injection k2 with k2
  exact k2.symm
theorem c264_t (hR : RelH s (m 1) c) (hT : RelH T (m 1) c) (hx : ¬ ixA (s 9) u c 0 = -1) : ∃ m'', (hoA u 200 T c 1 = 201 → RM x 264 [.ref b, .int u] (setM w b m) n = some (.inl (some (.int 0)), setM w b m'', n) ∧ Tr m m'' 2) ∧
    (¬ hoA u 200 T c 1 = 201 → RM x 264 [.ref b, .int u] (setM w b m) n = some (.inl (some (.int (Int32.ofNat (hoA u 200 T c 1)))), setM w b m'', n) ∧ Tr m m'' 0) := by
  have k := c211 (x := x) (n := n) (b := b) (w := w) (v := u) hR
  obtain ⟨M0, hM0⟩ : ∃ M0, M0 = ua m 3 (cp84 (m 1) 0 (m 3) 0 84) := ⟨_, rfl⟩
  have h1 := c197 (x := x) (n := n) (w := setM w b m) (p := b + 1) (q := b + 3) (a := 0) (t := 0) (N0 := 84) (N1 := 84) (u := 0) (v := 0) rfl rfl setM_1 setM_3 (by omega) (by omega) (by omega) (by decide) (by decide)
  have e1 : pupd (setM w b m) (b + 3) (rowI' 84 (cp84 (m 1) 0 (m 3) 0 84)) = setM w b M0 := by rw [hM0]; exact fM_3
  rw [e1] at h1
  have r1 : M0 1 = m 1 := by rw [hM0, ua_ne (by decide)]
  have r2 : M0 3 = cp84 (m 1) 0 (m 3) 0 84 := by rw [hM0, ua_same]
  have hx' : ¬ ixA (T 9) u c 0 = -1 := by rw [ix_T x hR hT]; exact hx
  obtain ⟨g', f', L', hl⟩ := l264 (x := x) (n := n) (b := b) (w := w) (u := u) 200 0 T M0 c 0 rfl (by rw [r1]; exact hT) hx'
  obtain ⟨M1, hM1⟩ : ∃ M1, M1 = ua (ua M0 8 f') 1 g' := ⟨_, rfl⟩
  rw [← hM1] at hl
  have q1 : M1 1 = g' := by rw [hM1, ua_same]
  have q2 : M1 3 = cp84 (m 1) 0 (m 3) 0 84 := by rw [hM1, ua_ne (by decide), ua_ne (by decide), r2]
  have h2 := c197 (x := x) (n := n) (w := setM w b M1) (p := b + 3) (q := b + 1) (a := 0) (t := 0) (N0 := 84) (N1 := 84) (u := 0) (v := 0) rfl rfl setM_3 setM_1 (by omega) (by omega) (by omega) (by decide) (by decide)
  have e2 : pupd (setM w b M1) (b + 1) (rowI' 84 (cp84 (M1 3) 0 (M1 1) 0 84)) = setM w b (ua M1 1 (cp84 (M1 3) 0 (M1 1) 0 84)) := fM_1
  rw [e2] at h2
  have hle := hoA_le (u := u) 200 T c 1
  have hh : RM x 264 [.ref b, .int u] (setM w b m) n = RC x 264 61 [some (.ref b), some (.int u), some (.int (Int32.ofNat (hoA u 200 T c (0 + 1)))), some (.int L')] [] (setM w b M1) n := by
    simp only [csN, csm_i, csm_r, Nat.reduceAdd, Nat.reduceLeDiff, wdI, wdR, wdN, clM_0, clC_0, clC_1, clC_6, clC_8, true_or, or_true, i10, i01, ob_some, ob_map, cal_v, rvs_some, rvs_none, XO_at, cal_x, m264, r264_0, r264_1, r264_2, r264_5, r264_6, r264_9, r264_10, r264_11, r264_14, r264_15, r264_16, r264_19, r264_20, r264_21, r264_24, r264_25, r264_28, r264_29, r264_30, r264_31, r264_33, r264_36, r264_39, r264_40, r264_41, r264_44, r264_45, r264_48, r264_49, r264_50, r264_53, r264_54, r264_55, r264_58, r264_62, r264_65, r264_66, r264_67, r264_70, r264_71, r264_74, r264_75, r264_78, r264_81, r264_82, r264_83, r264_86, r264_89, r264_90, r264_91, r264_94, k, hx, if_false, gM_0_0, gM_0_2, h1]
    exact hl
  rw [Nat.zero_add] at hh
  have tr : ∀ e, Tr m (us (ua M1 1 (cp84 (M1 3) 0 (M1 1) 0 84)) 20 13 e) e := fun e => by
    rw [q1, q2, hM1, hM0]
    exact Tr_of
  by_cases g : hoA u 200 T c 1 = 201
  · refine ⟨us (ua M1 1 (cp84 (M1 3) 0 (M1 1) 0 84)) 20 13 2, fun _ => ⟨?_, tr 2⟩, fun h => absurd g h⟩
    have z : (200 : Int32) < Int32.ofNat 201 := by decide
    rw [hh, g, r264_61]
    simp only [csN, csm_i, csm_r, Nat.reduceAdd, Nat.reduceLeDiff, wdI, wdR, wdN, clM_0, clC_0, clC_1, clC_6, clC_8, true_or, or_true, i10, i01, ob_some, ob_map, cal_v, rvs_some, rvs_none, XO_at, cal_x, m264, r264_0, r264_1, r264_2, r264_5, r264_6, r264_9, r264_10, r264_11, r264_14, r264_15, r264_16, r264_19, r264_20, r264_21, r264_24, r264_25, r264_28, r264_29, r264_30, r264_31, r264_33, r264_36, r264_39, r264_40, r264_41, r264_44, r264_45, r264_48, r264_49, r264_50, r264_53, r264_54, r264_55, r264_58, r264_62, r264_65, r264_66, r264_67, r264_70, r264_71, r264_74, r264_75, r264_78, r264_81, r264_82, r264_83, r264_86, r264_89, r264_90, r264_91, r264_94, gM_0_0, gM_0_2, h2, z, if_true, c196]
  · refine ⟨us (ua M1 1 (cp84 (M1 3) 0 (M1 1) 0 84)) 20 13 0, fun h => absurd h g, fun _ => ⟨?_, tr 0⟩⟩
    have z : ¬ (200 : Int32) < Int32.ofNat (hoA u 200 T c 1) := fun z => by
      have z' : Int32.ofNat 200 < Int32.ofNat (hoA u 200 T c 1) := z
      rw [i_lt (by omega) (by omega)] at z'
      omega
    rw [hh, r264_61]
    simp only [csN, csm_i, csm_r, Nat.reduceAdd, Nat.reduceLeDiff, wdI, wdR, wdN, clM_0, clC_0, clC_1, clC_6, clC_8, true_or, or_true, i10, i01, ob_some, ob_map, cal_v, rvs_some, rvs_none, XO_at, cal_x, m264, r264_0, r264_1, r264_2, r264_5, r264_6, r264_9, r264_10, r264_11, r264_14, r264_15, r264_16, r264_19, r264_20, r264_21, r264_24, r264_25, r264_28, r264_29, r264_30, r264_31, r264_33, r264_36, r264_39, r264_40, r264_41, r264_44, r264_45, r264_48, r264_49, r264_50, r264_53, r264_54, r264_55, r264_58, r264_62, r264_65, r264_66, r264_67, r264_70, r264_71, r264_74, r264_75, r264_78, r264_81, r264_82, r264_83, r264_86, r264_89, r264_90, r264_91, r264_94, gM_0_0, gM_0_2, h2, z, if_false, c195]
/-- both sides behind hours that were tried -/
theorem IV_tr {m' t' : NS} {w1 : PW} {e : Int32} {f : Nat → Int64} (hV : IV B w m s t y hs le lf F K sc c q cs) (hm : Tr m m' e) (h1 : ∀ i, ¬ i = 237 → w1 i = setC w 79 t' i) (h37 : w1 237 = some (lcl f)) : IV B (setM w1 227 m') m' s t' y hs le lf F K sc c q cs := by
  obtain ⟨hW, hM, hf, ⟨g, hg⟩, hR, hH, h6, hy, hi, hiK⟩ := hV
  refine IV_2 (w1 := setC w 79 t') (g := g) (WD_T t' hW) (fun i hi => h1 i (by omega)) h37 (by rw [h1 _ (by omega), setC_w (by omega)]; exact hg) (RJ_g hR hm.1) ⟨hH.1, by rw [hm.2.2.1 4 (by decide)]; exact hH.2.1, fun j hj => by rw [hm.2.1 4 (by simp)]; exact hH.2.2 j hj⟩ (by rw [hm.2.2.1 6 (by decide)]; exact h6) ?_ hi hiK
  rw [hm.2.1 5 (by simp)]
  exact hy
theorem Kp_tr {m' : NS} {e : Int32} (hm : Tr m m' e) : Kp m m' := ⟨fun a ha => hm.2.1 a (by omega), fun j _ _ h => hm.2.2.1 j h⟩
theorem p327 (hV : IV B w m s t y hs le lf F K sc c q cs) : PAIR B x w n 327 [.ref 64, .int u, .ref 237] 264 [.ref 227, .int u] m le lf sc := by
  have hW := hV.1
  have hM := hV.2.1
  have hRJ := hV.2.2.2.2.1
  have hRH := hRJ.1.1
  obtain ⟨f, hf⟩ := hV.2.2.1
  obtain ⟨⟨g0, g1, -⟩, c64, c65, c79, -⟩ := WD_64 hW
  rcases ixA_cases (f := s 9) (v := u) c 0 (by have := hRH.1.1.2.1; omega) with h | ⟨j, -, hj, h, -⟩
  · have e1 := c95_f (x := x) (n := n) hW hRH.1.1 h
    have e3 : RM x 66 [.ref 64, .int u] w n = some (.inr "java/util/NoSuchElementException", w, n + 1) := by
      simp only [csN, csm_i, csm_r, Nat.reduceAdd, Nat.reduceLeDiff, wdI, wdR, wdN, clM_0, clC_0, clC_1, clC_6, clC_8, true_or, or_true, i10, i01, ob_some, ob_map, cal_v, rvs_some, rvs_none, XO_at, cal_x, m66, r66_0, r66_1, r66_2, r66_5, r66_6, r66_7, r66_10, r66_11, r66_14, r66_17, r66_18, r66_20, r66_23, r66_26, r66_27, r66_30, r66_31, r66_34, r66_35, r66_36, r66_39, r66_42, r66_43, r66_46, r66_47, r66_50, r66_51, r66_52, r66_55, r66_58, c64, e1]
    exact q_ex (r := 0) hV (by decide) (lx327_1 c64 e3) (fun w' n' => c264_f hRH h)
  · have h8 := hRH.1.1.2.1
    have hx : ¬ ixA (s 9) u c 0 = -1 := by rw [h]; exact ofN_m1 (by omega)
    have e1 := c95_t (x := x) (n := n) hW hRH.1.1 hx
    have hT : RelH (cpC t s) (m 1) c := (Rel_E hRJ.1 EC_cp).1
    have e2 : RM x 99 [.ref 79, .ref 65] w n = some (.inl none, setC w 79 (cpC t s), n) := by
      have k := c99 (x := x) (n := n) (w := w) (b := 79) (b2 := 65) (s := t) (t := s) (by omega) hW.2.1 hRH.1.1.2.2
      rw [(WD_c hW).2.1] at k
      exact k
    have g1' : ∀ T, gfd (setC w 79 T) 6 1 64 = some (.ref 79) := fun T => (WD_64 (WD_T T hW)).1.2.1
    obtain ⟨T', hl⟩ := l66 (x := x) (n := n) (w := w) (u := u) g1' 200 1 (cpC t s) c rfl (by omega) hT.1
    have e3 : RM x 66 [.ref 64, .int u] w n = if hoA u 200 (cpC t s) c 1 = 201 then some (.inr "java/lang/IllegalStateException", setC w 79 T', n + 1) else some (.inl (some (.int (Int32.ofNat (hoA u 200 (cpC t s) c 1)))), setC w 79 T', n) := by
      simp only [csN, csm_i, csm_r, Nat.reduceAdd, Nat.reduceLeDiff, wdI, wdR, wdN, clM_0, clC_0, clC_1, clC_6, clC_8, true_or, or_true, i10, i01, ob_some, ob_map, cal_v, rvs_some, rvs_none, XO_at, cal_x, m66, r66_0, r66_1, r66_2, r66_5, r66_6, r66_7, r66_10, r66_11, r66_14, r66_17, r66_18, r66_20, r66_23, r66_26, r66_27, r66_30, r66_31, r66_34, r66_35, r66_36, r66_39, r66_42, r66_43, r66_46, r66_47, r66_50, r66_51, r66_52, r66_55, r66_58, c64, e1, g0, g1, c79, e2]
      exact hl
    have o1 : ∀ i, ¬ i = 237 → (setC w 79 T') i = setC w 79 T' i := fun _ _ => rfl
    by_cases g : hoA u 200 (cpC t s) c 1 = 201
    · rw [if_pos g] at e3
      have E1 := lx327_2 c64 e3
      have M2 : setM (setC w 79 T') 227 m = setC w 79 T' := isM_c hM (fun i h1 h2 => setC_w (by omega))
      obtain ⟨m'', a1, -⟩ := c264_t (x := x) (n := n + 2) (b := 227) (w := setC w 79 T') (u := u) hRH hT hx
      obtain ⟨E2, tr⟩ := a1 g
      rw [M2] at E2
      exact ⟨2, _, _, _, _, _, E1, E2, clM M2, by omega, by omega, by omega, fun i h1 h2 => by rw [setM_out (by omega), setC_w (by omega)], fun h => absurd h (by decide), m'', s, T', y, hs, F, K, c, q, cs, B, by omega, IV_tr hV tr o1 (by rw [setC_w (by omega)]; exact hf), tr.2.2.2, Kp_tr tr⟩
    · rw [if_neg g] at e3
      have E1 := lw327 c64 e3 (by rw [setC_w (by omega)]; exact hf)
      obtain ⟨w2, hw2⟩ : ∃ w2, w2 = pupd (setC w 79 T') 237 (lcl (vp_updL f 0 (Int32.ofNat (hoA u 200 (cpC t s) c 1)).toInt64)) := ⟨_, rfl⟩
      rw [← hw2] at E1
      have o2 : ∀ i, ¬ i = 237 → w2 i = setC w 79 T' i := fun i hi => by rw [hw2, pupd_ne hi]
      have h37 : w2 237 = some (lcl (vp_updL f 0 (Int32.ofNat (hoA u 200 (cpC t s) c 1)).toInt64)) := by rw [hw2]; exact pupd_same _ _ _
      have M2 : setM w2 227 m = w2 := isM_c hM (fun i h1 h2 => by rw [o2 i (by omega), setC_w (by omega)])
      obtain ⟨m'', -, a2⟩ := c264_t (x := x) (n := n) (b := 227) (w := w2) (u := u) hRH hT hx
      obtain ⟨E2, tr⟩ := a2 g
      rw [M2] at E2
      exact ⟨0, _, w2, n, _, n, E1, E2, clM M2, by omega, by omega, by omega, fun i h1 h2 => by rw [setM_out (by omega), o2 i (by omega), setC_w (by omega)], fun _ => ⟨_, by rw [setM_out (by omega)]; exact h37, updL_0⟩, m'', s, T', y, hs, F, K, c, q, cs, B, by omega, IV_tr hV tr o2 h37, tr.2.2.2, Kp_tr tr⟩
end HRP
