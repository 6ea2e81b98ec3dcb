/-! HOURS UNTIL a string is detuned, on both sides -/
section HRD
set_option maxRecDepth 20000
variable {x : SX} {n b c q B g r : Nat} {w w' : PW} {m s t y T : NS} {hs le lf hc : Int32} {F : Nat → Nat} {K : Nat → NS} {sc : NS} {cs : Nat → Nat} {u v : Int32}
def hdA (j : Nat) : Nat → NS → Nat → Nat → Nat
  | 0, _, _, k => k
  | d + 1, s, c, k => if s 5 j < 10 then hdA j d (pdS 1 s c) (hrC s c) (k + 1) else k
theorem hdA_s {j d k : Nat} : hdA j (d + 1) s c k = if s 5 j < 10 then hdA j d (pdS 1 s c) (hrC s c) (k + 1) else k := rfl
theorem hdA_le {j : Nat} (d : Nat) : ∀ (s : NS) (c k : Nat), hdA j d s c k ≤ k + d := by
  induction d with
  | zero => intro s c k; exact Nat.le_refl _
  | succ d ih =>
    intro s c k
    rw [hdA_s]
    have := ih (pdS 1 s c) (hrC s c) (k + 1)
    split <;> omega
theorem l67 (hg : g < 5) (hr : r < 2) (g1 : ∀ T, gfd (setC w 79 T) 6 1 64 = some (.ref 79)) (d : Nat) : ∀ (k : Nat) (T : NS) (c : Nat), k + d = 201 → IC T c → ∃ T', RC x 67 18 [some (.ref 64), some (.int (Int32.ofNat g)), some (.int (Int32.ofNat r)), some (.int (Int32.ofNat k))] [] (setC w 79 T) n =
    if hdA (g * 2 + r) d T c k = 201 then some (.inr "java/util/NoSuchElementException", setC w 79 T', n + 1) else some (.inl (some (.int (Int32.ofNat (hdA (g * 2 + r) d T c k)))), setC w 79 T', n) := by
  induction d with
  | zero =>
    intro k T c hk hI
    obtain rfl : k = 201 := by omega
    refine ⟨T, ?_⟩
    rw [r67_18]
    have h0 : (200 : Int32) < Int32.ofNat 201 := by decide
    have h1 : hdA (g * 2 + r) 0 T c 201 = 201 := rfl
    simp only [csN, csm_i, csm_r, Nat.reduceAdd, Nat.reduceLeDiff, wdI, wdR, wdN, clM_0, clC_0, clC_1, clC_6, clC_8, true_or, or_true, i10, i01, ob_some, ob_map, cal_v, rvs_some, rvs_none, XO_at, cal_x, m67, r67_0, r67_1, r67_2, r67_5, r67_6, r67_9, r67_10, r67_13, r67_16, r67_17, r67_19, r67_22, r67_25, r67_26, r67_29, r67_32, r67_33, r67_34, r67_37, r67_40, r67_41, r67_42, r67_43, r67_46, r67_47, r67_50, r67_51, r67_54, r67_57, h0, if_true, h1]
  | succ d ih =>
    intro k T c hk hI
    have h0 : ¬ (200 : Int32) < Int32.ofNat k := fun z => by
      have z' : Int32.ofNat 200 < Int32.ofNat k := z
      rw [i_lt (by omega) (by omega)] at z'
      omega
    have h2 : Int32.ofNat k + 1 = Int32.ofNat (k + 1) := i_add (b := 1)
    have hI' := IC_pd hI
    have e1 := hours1 (x := x) (n := n) (w := w) (b := 79) hI
    have c79 : clo (setC w 79 T) 79 = some 0 := clo_of setC_0
    have e2 : gfd (setC w 79 T) 0 0 79 = some (.ref 80) := gC_0_0
    have c80 : clo (setC w 79 T) 80 = some 2 := clC_1 (b := 79)
    have e3 : RM x 147 [.ref 80, .int (Int32.ofNat g), .int (Int32.ofNat r)] (setC w 79 T) n = some (.inl (some (.int (bi (decide (¬ T 5 (g * 2 + r) < 10))))), setC w 79 T, n) := by
      have k := c147 (x := x) (n := n) (b := 79) (w := w) (s := T) (u := Int32.ofNat g) (v := Int32.ofNat r)
      rw [i_g2r, atv_nat (by omega) (by omega)] at k
      exact k
    rw [hdA_s]
    by_cases gx : T 5 (g * 2 + r) < 10
    · rw [decide_eq_false (fun h => h gx), bi_f] at e3
      obtain ⟨T', hh⟩ := ih (k + 1) (pdS 1 T c) (hrC T c) (by omega) hI'
      refine ⟨T', ?_⟩
      rw [r67_18]
      simp only [csN, csm_i, csm_r, Nat.reduceAdd, Nat.reduceLeDiff, wdI, wdR, wdN, clM_0, clC_0, clC_1, clC_6, clC_8, true_or, or_true, i10, i01, ob_some, ob_map, cal_v, rvs_some, rvs_none, XO_at, cal_x, m67, r67_0, r67_1, r67_2, r67_5, r67_6, r67_9, r67_10, r67_13, r67_16, r67_17, r67_19, r67_22, r67_25, r67_26, r67_29, r67_32, r67_33, r67_34, r67_37, r67_40, r67_41, r67_42, r67_43, r67_46, r67_47, r67_50, r67_51, r67_54, r67_57, h0, if_false, g1, c79, e1, e2, c80, e3, gx, if_true, h2]
      exact hh
    · rw [decide_eq_true gx, bi_t] at e3
      refine ⟨T, ?_⟩
      have hk1 : ¬ k = 201 := by omega
      rw [r67_18]
      simp only [csN, csm_i, csm_r, Nat.reduceAdd, Nat.reduceLeDiff, wdI, wdR, wdN, clM_0, clC_0, clC_1, clC_6, clC_8, true_or, or_true, i10, i01, ob_some, ob_map, cal_v, rvs_some, rvs_none, XO_at, cal_x, m67, r67_0, r67_1, r67_2, r67_5, r67_6, r67_9, r67_10, r67_13, r67_16, r67_17, r67_19, r67_22, r67_25, r67_26, r67_29, r67_32, r67_33, r67_34, r67_37, r67_40, r67_41, r67_42, r67_43, r67_46, r67_47, r67_50, r67_51, r67_54, r67_57, h0, if_false, g1, e2, c80, e3, gx, hk1]
theorem l265 (hg : g < 5) (hr : r < 2) (d : Nat) : ∀ (k : Nat) (T m : NS) (c : Nat) (L : Int32), k + d = 201 → RelH T (m 1) c → ∃ g' f' L', RC x 265 32 [some (.ref b), some (.int (Int32.ofNat g)), some (.int (Int32.ofNat r)), some (.int (Int32.ofNat k)), some (.int L)] [] (setM w b m) n =
    RC x 265 72 [some (.ref b), some (.int (Int32.ofNat g)), some (.int (Int32.ofNat r)), some (.int (Int32.ofNat (hdA (g * 2 + r) d T c k))), some (.int L')] [] (setM w b (ua (ua m 8 f') 1 g')) n := by
  induction d with
  | zero =>
    intro k T m c L hk hR
    obtain rfl : k = 201 := by omega
    have h0 : (200 : Int32) < Int32.ofNat 201 := by decide
    refine ⟨m 1, m 8, L, ?_⟩
    have e8 : ua (ua m 8 (m 8)) 1 (m 1) = m := by
      funext a
      unfold ua
      by_cases a1 : a = 1
      · rw [if_pos a1, a1]
      · rw [if_neg a1]
        by_cases a8 : a = 8
        · rw [if_pos a8, a8]
        · rw [if_neg a8]
    rw [r265_32, e8]
    simp only [csN, csm_i, csm_r, Nat.reduceAdd, Nat.reduceLeDiff, wdI, wdR, wdN, clM_0, clC_0, clC_1, clC_6, clC_8, true_or, or_true, i10, i01, ob_some, ob_map, cal_v, rvs_some, rvs_none, XO_at, cal_x, m265, r265_0, r265_1, r265_2, r265_5, r265_8, r265_9, r265_10, r265_13, r265_14, r265_15, r265_18, r265_19, r265_20, r265_23, r265_24, r265_27, r265_28, r265_29, r265_30, r265_33, r265_36, r265_39, r265_40, r265_43, r265_45, r265_46, r265_47, r265_48, r265_49, r265_50, r265_51, r265_52, r265_54, r265_57, r265_59, r265_60, r265_63, r265_64, r265_66, r265_69, r265_73, r265_76, r265_77, r265_78, r265_81, r265_82, r265_85, r265_86, r265_89, r265_92, r265_93, r265_94, r265_97, r265_100, r265_101, r265_102, r265_105, h0, if_true]
    rfl
  | succ d ih =>
    intro k T m c L hk hR
    have h0 : ¬ (200 : Int32) < Int32.ofNat k := fun z => by
      have z' : Int32.ofNat 200 < Int32.ofNat k := z
      rw [i_lt (by omega) (by omega)] at z'
      omega
    have h2 : Int32.ofNat k + 1 = Int32.ofNat (k + 1) := i_add (b := 1)
    have h3 : (29 : Int32) + 2 * Int32.ofNat g + Int32.ofNat r = Int32.ofNat (29 + (g * 2 + r)) := i_K2g (K := 29) (g := g) (t := r)
    have h4 : fin 84 (Int32.ofNat (29 + (g * 2 + r))) = some (29 + (g * 2 + r)) := fin_nat (by omega) (by omega)
    have h5 : m 1 (29 + (g * 2 + r)) = T 5 (g * 2 + r) := (hR.2.1.2.2.2.2.1 (g * 2 + r) (by omega)).1.symm
    rw [hdA_s]
    by_cases gx : T 5 (g * 2 + r) < 10
    · obtain ⟨g', f', hR', -, e⟩ := c234 (x := x) (n := n) (b := b) (w := w) hR
      have hR2 : RelH (pdS 1 T c) (ua (ua m 8 f') 1 g' 1) (hrC T c) := by rw [ua_same]; exact RelH_pd hR'
      obtain ⟨g2, f2, L', hh⟩ := ih (k + 1) (pdS 1 T c) (ua (ua m 8 f') 1 g') (hrC T c) (L + (Int32.ofNat c - Int32.ofNat (hrC T c))) (by omega) hR2
      refine ⟨g2, f2, L', ?_⟩
      have e8 : ua (ua (ua (ua m 8 f') 1 g') 8 f2) 1 g2 = ua (ua m 8 f2) 1 g2 := by
        funext a
        unfold ua
        by_cases a1 : a = 1
        · rw [if_pos a1, if_pos a1]
        · rw [if_neg a1, if_neg a1]
          by_cases a8 : a = 8
          · rw [if_pos a8, if_pos a8, if_neg a1]
          · rw [if_neg a8, if_neg a8, if_neg a1, if_neg a8]
      rw [e8] at hh
      rw [r265_32]
      simp only [csN, csm_i, csm_r, Nat.reduceAdd, Nat.reduceLeDiff, wdI, wdR, wdN, clM_0, clC_0, clC_1, clC_6, clC_8, true_or, or_true, i10, i01, ob_some, ob_map, cal_v, rvs_some, rvs_none, XO_at, cal_x, m265, r265_0, r265_1, r265_2, r265_5, r265_8, r265_9, r265_10, r265_13, r265_14, r265_15, r265_18, r265_19, r265_20, r265_23, r265_24, r265_27, r265_28, r265_29, r265_30, r265_33, r265_36, r265_39, r265_40, r265_43, r265_45, r265_46, r265_47, r265_48, r265_49, r265_50, r265_51, r265_52, r265_54, r265_57, r265_59, r265_60, r265_63, r265_64, r265_66, r265_69, r265_73, r265_76, r265_77, r265_78, r265_81, r265_82, r265_85, r265_86, r265_89, r265_92, r265_93, r265_94, r265_97, r265_100, r265_101, r265_102, r265_105, h0, if_false, gM_0_0, lM_1, h3, h4, Option.map_some, h5, gx, if_true, e, h2]
      exact hh
    · refine ⟨m 1, m 8, L, ?_⟩
      have e8 : ua (ua m 8 (m 8)) 1 (m 1) = m := by
        funext a
        unfold ua
        by_cases a1 : a = 1
        · rw [if_pos a1, a1]
        · rw [if_neg a1]
          by_cases a8 : a = 8
          · rw [if_pos a8, a8]
          · rw [if_neg a8]
      rw [r265_32, e8]
      simp only [csN, csm_i, csm_r, Nat.reduceAdd, Nat.reduceLeDiff, wdI, wdR, wdN, clM_0, clC_0, clC_1, clC_6, clC_8, true_or, or_true, i10, i01, ob_some, ob_map, cal_v, rvs_some, rvs_none, XO_at, cal_x, m265, r265_0, r265_1, r265_2, r265_5, r265_8, r265_9, r265_10, r265_13, r265_14, r265_15, r265_18, r265_19, r265_20, r265_23, r265_24, r265_27, r265_28, r265_29, r265_30, r265_33, r265_36, r265_39, r265_40, r265_43, r265_45, r265_46, r265_47, r265_48, r265_49, r265_50, r265_51, r265_52, r265_54, r265_57, r265_59, r265_60, r265_63, r265_64, r265_66, r265_69, r265_73, r265_76, r265_77, r265_78, r265_81, r265_82, r265_85, r265_86, r265_89, r265_92, r265_93, r265_94, r265_97, r265_100, r265_101, r265_102, r265_105, h0, if_false, gM_0_0, lM_1, h3, h4, Option.map_some, h5, gx]
end HRD
