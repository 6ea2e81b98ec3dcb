/-! HOURS UNTIL a barge leaves, on both sides -/
section HRU
set_option maxRecDepth 20000
variable {x : SX} {n b c q B : Nat} {w w' : PW} {m s t y : NS} {hs le lf hc : Int32} {F : Nat → Nat} {K : Nat → NS} {sc : NS} {cs : Nat → Nat} {u v : Int32}
theorem RelH_5 {g : Nat → Int32} {z : Int32} (h : RelH s g c) : RelH (us s 20 5 z) g c := by
  obtain ⟨b1, b2, b3, b4⟩ := h
  exact ⟨IC_s b1 (by rw [us_at, if_pos rfl, if_neg (by decide)]) (by rw [us_ne (by decide)]) (by rw [us_ne (by decide)]) (by rw [us_ne (by decide)]), RS_s b2 (fun j h5 _ => by rw [us_at, if_pos rfl, if_neg h5]) (fun a ha => by rw [us_ne (by omega)]), b3, fun j hj => RB_s (b4 j hj) (fun a h1 h2 => by rw [us_ne (by omega)]) (fun _ _ => rfl)⟩
theorem RelH_pd {g : Nat → Int32} (h : RelH (hrS s c) g (hrC s c)) : RelH (pdS 1 s c) g (hrC s c) := RelH_5 h
theorem IC_pd (h : IC s c) : IC (pdS 1 s c) (hrC s c) := IC_s (IC_hr h) (us_at.trans (by rw [if_pos rfl, if_neg (by decide)]; rfl)) (us_ne (by decide)) (us_ne (by decide)) (us_ne (by decide))
/-- hour by hour: when the barge is gone, 201 if it isn't -/
def hoA (u : Int32) : Nat → NS → Nat → Nat → Nat
  | 0, _, _, k => k
  | d + 1, s, c, k => if ixA (pdS 1 s c 9) u (hrC s c) 0 = -1 then k else hoA u d (pdS 1 s c) (hrC s c) (k + 1)
theorem hoA_s {d k : Nat} : hoA u (d + 1) s c k = if ixA (pdS 1 s c 9) u (hrC s c) 0 = -1 then k else hoA u d (pdS 1 s c) (hrC s c) (k + 1) := rfl
theorem hoA_le (d : Nat) : ∀ (s : NS) (c k : Nat), hoA u d s c k ≤ k + d := by
  induction d with
  | zero => intro s c k; exact Nat.le_refl _
  | succ d ih =>
    intro s c k
    rw [hoA_s]
    have := ih (pdS 1 s c) (hrC s c) (k + 1)
    split <;> omega
theorem hours1 {b : Nat} (hI : IC s c) : RM x 107 [.ref b, .int 1] (setC w b s) n = some (.inl (some (.int (phS 1 s c 0).2.2)), setC w b (pdS 1 s c), n) := c107 (H := 1) rfl (by omega) hI
theorem l66 (g1 : ∀ T, gfd (setC w 79 T) 6 1 64 = some (.ref 79)) (d : Nat) : ∀ (k : Nat) (T : NS) (c : Nat), k + d = 201 → 0 < k → IC T c → ∃ T', RC x 66 19 [some (.ref 64), some (.int u), some (.int (Int32.ofNat k))] [] (setC w 79 T) n =
    if hoA u d T c k = 201 then some (.inr "java/lang/IllegalStateException", setC w 79 T', n + 1) else some (.inl (some (.int (Int32.ofNat (hoA u d T c k)))), setC w 79 T', n) := by
  induction d with
  | zero =>
    intro k T c hk k0 hI
    obtain rfl : k = 201 := by omega
    refine ⟨T, ?_⟩
    rw [r66_19]
    have h0 : (200 : Int32) < Int32.ofNat 201 := by decide
    have h1 : hoA u 0 T c 201 = 201 := rfl
    simp only [csN, csm_i, csm_r, Nat.reduceAdd, Nat.reduceLeDiff, wdI, wdR, wdN, clM_0, clC_0, clC_1, clC_6, clC_8, true_or, or_true, i10, i01, ob_some, ob_map, cal_v, rvs_some, rvs_none, XO_at, cal_x, m66, r66_0, r66_1, r66_2, r66_5, r66_6, r66_7, r66_10, r66_11, r66_14, r66_17, r66_18, r66_20, r66_23, r66_26, r66_27, r66_30, r66_31, r66_34, r66_35, r66_36, r66_39, r66_42, r66_43, r66_46, r66_47, r66_50, r66_51, r66_52, r66_55, r66_58, h0, if_true, h1]
  | succ d ih =>
    intro k T c hk k0 hI
    have h0 : ¬ (200 : Int32) < Int32.ofNat k := fun z => by
      have z' : Int32.ofNat 200 < Int32.ofNat k := z
      rw [i_lt (by omega) (by omega)] at z'
      omega
    have h2 : Int32.ofNat k + 1 = Int32.ofNat (k + 1) := i_add (b := 1)
    have hI' := IC_pd hI
    have e1 := hours1 (x := x) (n := n) (w := w) (b := 79) hI
    have c79 : ∀ T, clo (setC w 79 T) 79 = some 0 := fun T => clo_of setC_0
    have e2 : gfd (setC w 79 (pdS 1 T c)) 0 2 79 = some (.ref 87) := gC_0_2
    have c87 : clo (setC w 79 (pdS 1 T c)) 87 = some 1 := clC_8 (b := 79)
    have e3 : RM x 122 [.ref 87, .int u] (setC w 79 (pdS 1 T c)) n = some (.inl (some (.int (ixA (pdS 1 T c 9) u (hrC T c) 0))), setC w 79 (pdS 1 T c), n) := c122 (b := 79) hI'.1.1 hI'.1.2.1
    rw [hoA_s]
    by_cases g : ixA (pdS 1 T c 9) u (hrC T c) 0 = -1
    · refine ⟨pdS 1 T c, ?_⟩
      have hk1 : ¬ k = 201 := by omega
      rw [r66_19]
      simp only [csN, csm_i, csm_r, Nat.reduceAdd, Nat.reduceLeDiff, wdI, wdR, wdN, clM_0, clC_0, clC_1, clC_6, clC_8, true_or, or_true, i10, i01, ob_some, ob_map, cal_v, rvs_some, rvs_none, XO_at, cal_x, m66, r66_0, r66_1, r66_2, r66_5, r66_6, r66_7, r66_10, r66_11, r66_14, r66_17, r66_18, r66_20, r66_23, r66_26, r66_27, r66_30, r66_31, r66_34, r66_35, r66_36, r66_39, r66_42, r66_43, r66_46, r66_47, r66_50, r66_51, r66_52, r66_55, r66_58, h0, if_false, g1, c79, e1, e2, c87, e3, g, if_true, hk1]
    · obtain ⟨T', hh⟩ := ih (k + 1) (pdS 1 T c) (hrC T c) (by omega) (by omega) hI'
      refine ⟨T', ?_⟩
      rw [r66_19]
      simp only [csN, csm_i, csm_r, Nat.reduceAdd, Nat.reduceLeDiff, wdI, wdR, wdN, clM_0, clC_0, clC_1, clC_6, clC_8, true_or, or_true, i10, i01, ob_some, ob_map, cal_v, rvs_some, rvs_none, XO_at, cal_x, m66, r66_0, r66_1, r66_2, r66_5, r66_6, r66_7, r66_10, r66_11, r66_14, r66_17, r66_18, r66_20, r66_23, r66_26, r66_27, r66_30, r66_31, r66_34, r66_35, r66_36, r66_39, r66_42, r66_43, r66_46, r66_47, r66_50, r66_51, r66_52, r66_55, r66_58, h0, if_false, g1, c79, e1, e2, c87, e3, g, h2]
      exact hh
theorem l264 (d : Nat) : ∀ (k : Nat) (T m : NS) (c : Nat) (L : Int32), k + d = 200 → RelH T (m 1) c → ¬ ixA (T 9) u c 0 = -1 → ∃ g' f' L', RC x 264 32 [some (.ref b), some (.int u), some (.int (Int32.ofNat k)), some (.int L)] [] (setM w b m) n =
    RC x 264 61 [some (.ref b), some (.int u), some (.int (Int32.ofNat (hoA u d T c (k + 1)))), some (.int L')] [] (setM w b (ua (ua m 8 f') 1 g')) n := by
  induction d with
  | zero =>
    intro k T m c L hk hR hx
    obtain rfl : k = 200 := by omega
    obtain ⟨g', f', hR', -, e⟩ := c234 (x := x) (n := n) (b := b) (w := w) hR
    have k1 := c211 (x := x) (n := n) (b := b) (w := w) (v := u) hR
    have h0 : ¬ (200 : Int32) < Int32.ofNat 200 := by decide
    have h1 : (200 : Int32) < Int32.ofNat 200 + 1 := by decide
    refine ⟨g', f', L + (Int32.ofNat c - Int32.ofNat (hrC T c)), ?_⟩
    rw [r264_32]
    simp only [csN, csm_i, csm_r, Nat.reduceAdd, Nat.reduceLeDiff, wdI, wdR, wdN, clM_0, clC_0, clC_1, clC_6, clC_8, true_or, or_true, i10, i01, ob_some, ob_map, cal_v, rvs_some, rvs_none, XO_at, cal_x, m264, r264_0, r264_1, r264_2, r264_5, r264_6, r264_9, r264_10, r264_11, r264_14, r264_15, r264_16, r264_19, r264_20, r264_21, r264_24, r264_25, r264_28, r264_29, r264_30, r264_31, r264_33, r264_36, r264_39, r264_40, r264_41, r264_44, r264_45, r264_48, r264_49, r264_50, r264_53, r264_54, r264_55, r264_58, r264_62, r264_65, r264_66, r264_67, r264_70, r264_71, r264_74, r264_75, r264_78, r264_81, r264_82, r264_83, r264_86, r264_89, r264_90, r264_91, r264_94, h0, if_false, k1, hx, e]
    rw [r264_32]
    simp only [csN, csm_i, csm_r, Nat.reduceAdd, Nat.reduceLeDiff, wdI, wdR, wdN, clM_0, clC_0, clC_1, clC_6, clC_8, true_or, or_true, i10, i01, ob_some, ob_map, cal_v, rvs_some, rvs_none, XO_at, cal_x, m264, r264_0, r264_1, r264_2, r264_5, r264_6, r264_9, r264_10, r264_11, r264_14, r264_15, r264_16, r264_19, r264_20, r264_21, r264_24, r264_25, r264_28, r264_29, r264_30, r264_31, r264_33, r264_36, r264_39, r264_40, r264_41, r264_44, r264_45, r264_48, r264_49, r264_50, r264_53, r264_54, r264_55, r264_58, r264_62, r264_65, r264_66, r264_67, r264_70, r264_71, r264_74, r264_75, r264_78, r264_81, r264_82, r264_83, r264_86, r264_89, r264_90, r264_91, r264_94, h1, if_true]
    rfl
  | succ d ih =>
    intro k T m c L hk hR hx
    obtain ⟨g', f', hR', -, e⟩ := c234 (x := x) (n := n) (b := b) (w := w) hR
    have k1 := c211 (x := x) (n := n) (b := b) (w := w) (v := u) hR
    have h0 : ¬ (200 : Int32) < Int32.ofNat k := fun z => by
      have z' : Int32.ofNat 200 < Int32.ofNat k := z
      rw [i_lt (by omega) (by omega)] at z'
      omega
    have h1 : ¬ (200 : Int32) < Int32.ofNat (k + 1) := fun z => by
      have z' : Int32.ofNat 200 < Int32.ofNat (k + 1) := z
      rw [i_lt (by omega) (by omega)] at z'
      omega
    have h2 : Int32.ofNat k + 1 = Int32.ofNat (k + 1) := i_add (b := 1)
    have hR2 : RelH (pdS 1 T c) (ua (ua m 8 f') 1 g' 1) (hrC T c) := by rw [ua_same]; exact RelH_pd hR'
    have k2 := c211 (x := x) (n := n) (b := b) (w := w) (v := u) hR2
    rw [hoA_s]
    by_cases gx : ixA (pdS 1 T c 9) u (hrC T c) 0 = -1
    · refine ⟨g', f', L + (Int32.ofNat c - Int32.ofNat (hrC T c)), ?_⟩
      rw [r264_32]
      simp only [csN, csm_i, csm_r, Nat.reduceAdd, Nat.reduceLeDiff, wdI, wdR, wdN, clM_0, clC_0, clC_1, clC_6, clC_8, true_or, or_true, i10, i01, ob_some, ob_map, cal_v, rvs_some, rvs_none, XO_at, cal_x, m264, r264_0, r264_1, r264_2, r264_5, r264_6, r264_9, r264_10, r264_11, r264_14, r264_15, r264_16, r264_19, r264_20, r264_21, r264_24, r264_25, r264_28, r264_29, r264_30, r264_31, r264_33, r264_36, r264_39, r264_40, r264_41, r264_44, r264_45, r264_48, r264_49, r264_50, r264_53, r264_54, r264_55, r264_58, r264_62, r264_65, r264_66, r264_67, r264_70, r264_71, r264_74, r264_75, r264_78, r264_81, r264_82, r264_83, r264_86, r264_89, r264_90, r264_91, r264_94, h0, if_false, k1, hx, e, h2]
      rw [r264_32]
      simp only [csN, csm_i, csm_r, Nat.reduceAdd, Nat.reduceLeDiff, wdI, wdR, wdN, clM_0, clC_0, clC_1, clC_6, clC_8, true_or, or_true, i10, i01, ob_some, ob_map, cal_v, rvs_some, rvs_none, XO_at, cal_x, m264, r264_0, r264_1, r264_2, r264_5, r264_6, r264_9, r264_10, r264_11, r264_14, r264_15, r264_16, r264_19, r264_20, r264_21, r264_24, r264_25, r264_28, r264_29, r264_30, r264_31, r264_33, r264_36, r264_39, r264_40, r264_41, r264_44, r264_45, r264_48, r264_49, r264_50, r264_53, r264_54, r264_55, r264_58, r264_62, r264_65, r264_66, r264_67, r264_70, r264_71, r264_74, r264_75, r264_78, r264_81, r264_82, r264_83, r264_86, r264_89, r264_90, r264_91, r264_94, h1, if_false, k2, gx, if_true]
    · obtain ⟨g2, f2, L', hh⟩ := ih (k + 1) (pdS 1 T c) (ua (ua m 8 f') 1 g') (hrC T c) (L + (Int32.ofNat c - Int32.ofNat (hrC T c))) (by omega) hR2 gx
      refine ⟨g2, f2, L', ?_⟩
      have e8 : ua (ua (ua (ua m 8 f') 1 g') 8 f2) 1 g2 = ua (ua m 8 f2) 1 g2 := by
        funext a
        unfold ua
        by_cases a1 : a = 1
        · rw [if_pos a1, if_pos a1]
        · rw [if_neg a1, if_neg a1]
          by_cases a8 : a = 8
          · rw [if_pos a8, if_pos a8, if_neg a1]
          · rw [if_neg a8, if_neg a8, if_neg a1, if_neg a8]
      rw [e8] at hh
      rw [r264_32]
      simp only [csN, csm_i, csm_r, Nat.reduceAdd, Nat.reduceLeDiff, wdI, wdR, wdN, clM_0, clC_0, clC_1, clC_6, clC_8, true_or, or_true, i10, i01, ob_some, ob_map, cal_v, rvs_some, rvs_none, XO_at, cal_x, m264, r264_0, r264_1, r264_2, r264_5, r264_6, r264_9, r264_10, r264_11, r264_14, r264_15, r264_16, r264_19, r264_20, r264_21, r264_24, r264_25, r264_28, r264_29, r264_30, r264_31, r264_33, r264_36, r264_39, r264_40, r264_41, r264_44, r264_45, r264_48, r264_49, r264_50, r264_53, r264_54, r264_55, r264_58, r264_62, r264_65, r264_66, r264_67, r264_70, r264_71, r264_74, r264_75, r264_78, r264_81, r264_82, r264_83, r264_86, r264_89, r264_90, r264_91, r264_94, h0, if_false, k1, hx, e, h2, gx]
      exact hh
end HRU
