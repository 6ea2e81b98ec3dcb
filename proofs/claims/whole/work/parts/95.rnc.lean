/-! RENDERING on both sides -/
section RNC
set_option maxRecDepth 20000
variable {x : SX} {n b c k q B bp cap cnt' : Nat} {w w0 w' : PW} {m s t y : NS} {hs le lf hc ml : Int32} {F : Nat → Nat} {K : Nat → NS} {sc : NS} {cs : Nat → Nat} {u v : Int32} {T : Nat → Int32}
theorem WDF (hW : WD w0 s t y hs le lf F K hc sc) (hF : FB w0 w) : WD w s t y hs le lf F K hc sc := WD_ge hW (fun i hi => hF i (Or.inl hi))
theorem WD_6 (h : WD w s t y hs le lf F K hc sc) : gfd w 6 6 64 = some (.ref 225) := (WD_64 h).1.2.2.2.2.2.2.1
/-- a builder's step: what it gives -/
def BST (w : PW) (n cap : Nat) (ml : Int32) (Q : TKX) (w' : PW) (n' bp' cap' : Nat) : Prop := SBP w' n' bp' cap' Q.2 ml Q.1 ∧ FB w w' ∧ GR n cap n' cap'
theorem bC {Q : TKX} (h : SBP w n bp cap Q.2 ml Q.1) (hk : Q.2 < 27) (hv : CH v) : ∃ w' n' bp' cap', RM x 21 [.ref 225, .int v] w n = some (.inl (some (.ref 225)), w', n') ∧ BST w n cap ml (aC v Q) w' n' bp' cap' := by
  obtain ⟨w', n', b', c', e, h1, h2, h3⟩ := c21 (x := x) h hk hv
  exact ⟨w', n', b', c', e, h1, h2, h3⟩
theorem bI {Q : TKX} {a : Nat} (h : SBP w n bp cap Q.2 ml Q.1) (ha : a < 100) (hk : Q.2 + 2 ≤ 27) : ∃ w' n' bp' cap', RM x 22 [.ref 225, .int (Int32.ofNat a)] w n = some (.inl (some (.ref 225)), w', n') ∧ BST w n cap ml (aI a Q) w' n' bp' cap' := by
  have hz := szI_2 (a := a)
  obtain ⟨w', n', b', c', e, h1, h2, h3⟩ := c22 (x := x) h ha (by omega)
  exact ⟨w', n', b', c', e, h1, h2, h3⟩
theorem BST_t {w1 w2 w3 : PW} {n1 n2 n3 b2 b3 c1 c2 c3 : Nat} {Q R : TKX} (h1 : BST w1 n1 c1 ml Q w2 n2 b2 c2) (h2 : BST w2 n2 c2 ml R w3 n3 b3 c3) : BST w1 n1 c1 ml R w3 n3 b3 c3 := ⟨h2.1, FB_t h1.2.1 h2.2.1, GR_t h1.2.2 h2.2.2⟩
theorem l80s (hW : WD w0 s t y hs le lf F K hc sc) {r : Int32} {N : Nat} (hN : N ≤ 8) (d : Nat) : ∀ j (Q : TKX) w n bp cap, j + d = N → FB w0 w → SBP w n bp cap Q.2 ml Q.1 → Q.2 + d ≤ 26 →
    ∃ w' n' bp' cap', RC x 80 63 [some (.ref 64), some (.int r), some (.int (Int32.ofNat N)), some (.int (Int32.ofNat j))] [] w n = RC x 80 84 [some (.ref 64), some (.int r), some (.int (Int32.ofNat N)), some (.int (Int32.ofNat N))] [] w' n' ∧ BST w n cap ml (strs d Q) w' n' bp' cap' := by
  induction d with
  | zero =>
    intro j Q w n bp cap hj hF hS hQ
    obtain rfl : j = N := by omega
    have h0 : ¬ Int32.ofNat j < Int32.ofNat j := Int32.lt_irrefl
    refine ⟨w, n, bp, cap, ?_, hS, FB_r, Or.inl ⟨rfl, rfl⟩⟩
    conv => lhs; rw [r80_63]
    simp only [csN, csm_i, csm_r, Nat.reduceAdd, Nat.reduceLeDiff, wdI, wdR, wdN, clM_0, clC_0, clC_1, clC_6, clC_8, true_or, or_true, i10, i01, ob_some, ob_map, cal_v, rvs_some, rvs_none, XO_at, cal_x, m80, r80_0, r80_1, r80_4, r80_5, r80_8, r80_9, r80_10, r80_11, r80_13, r80_16, r80_17, r80_20, r80_21, r80_24, r80_26, r80_29, r80_30, r80_31, r80_34, r80_35, r80_38, r80_41, r80_42, r80_45, r80_48, r80_49, r80_50, r80_53, r80_56, r80_57, r80_60, r80_61, r80_62, r80_64, r80_65, r80_68, r80_69, r80_72, r80_74, r80_77, r80_78, r80_81, r80_87, r80_90, r80_91, r80_94, r80_97, h0, if_false]
  | succ d ih =>
    intro j Q w n bp cap hj hF hS hQ
    have h1 : Int32.ofNat j < Int32.ofNat N := nlt (by omega) (by omega) (by omega)
    have g6 := WD_6 (WDF hW hF)
    have c225 := (SB_g (x := x) hS).2.2.2.1
    obtain ⟨w1, n1, b1, k1, e1, hB⟩ := bC (x := x) hS (by omega) CH42
    obtain ⟨w2, n2, b2, k2, e2, hB2⟩ := ih (j + 1) (aC 42 Q) w1 n1 b1 k1 (by omega) (FB_t hF hB.2.1) hB.1 (by unfold aC; dsimp only; omega)
    refine ⟨w2, n2, b2, k2, ?_, BST_t hB hB2⟩
    rw [← e2]
    conv => lhs; rw [r80_63]
    simp only [csN, csm_i, csm_r, Nat.reduceAdd, Nat.reduceLeDiff, wdI, wdR, wdN, clM_0, clC_0, clC_1, clC_6, clC_8, true_or, or_true, i10, i01, ob_some, ob_map, cal_v, rvs_some, rvs_none, XO_at, cal_x, m80, r80_0, r80_1, r80_4, r80_5, r80_8, r80_9, r80_10, r80_11, r80_13, r80_16, r80_17, r80_20, r80_21, r80_24, r80_26, r80_29, r80_30, r80_31, r80_34, r80_35, r80_38, r80_41, r80_42, r80_45, r80_48, r80_49, r80_50, r80_53, r80_56, r80_57, r80_60, r80_61, r80_62, r80_64, r80_65, r80_68, r80_69, r80_72, r80_74, r80_77, r80_78, r80_81, r80_87, r80_90, r80_91, r80_94, r80_97, h1, if_true, g6, c225, e1, i_s]
theorem l80 (hW : WD w0 s t y hs le lf F K hc sc) (hC : OKC s c) (hJ : JC s c) (d : Nat) : ∀ r (Q : TKX) w n bp cap (a2 a3 : Option Value), wd a2 = true → wd a3 = true → r + d = 6 → FB w0 w → SBP w n bp cap Q.2 ml Q.1 → Q.2 ≤ 3 * r + sumc (fun r => ctS s c (Int32.ofNat r)) r →
    ∃ w' n' bp' cap', RC x 80 10 [some (.ref 64), some (.int (Int32.ofNat r)), a2, a3] [] w n = some (.inl (some (.int (Int32.ofNat (rcF (waF s) (fun r => ctS s c (Int32.ofNat r)) d r Q).2))), w', n') ∧ BST w n cap ml (rcF (waF s) (fun r => ctS s c (Int32.ofNat r)) d r Q) w' n' bp' cap' := by
  induction d with
  | zero =>
    intro r Q w n bp cap a2 a3 h2 h3 hr hF hS hQ
    obtain rfl : r = 6 := by omega
    have h0 : ¬ Int32.ofNat 6 < (6 : Int32) := by decide
    have g6 := WD_6 (WDF hW hF)
    have c225 := (SB_g (x := x) hS).2.2.2.1
    have e25 := c25 (x := x) hS
    refine ⟨w, n, bp, cap, ?_, hS, FB_r, Or.inl ⟨rfl, rfl⟩⟩
    rw [r80_10]
    simp only [csN, csm_i, csm_r, Nat.reduceAdd, Nat.reduceLeDiff, wdI, wdR, wdN, clM_0, clC_0, clC_1, clC_6, clC_8, true_or, or_true, i10, i01, ob_some, ob_map, cal_v, rvs_some, rvs_none, XO_at, cal_x, m80, r80_0, r80_1, r80_4, r80_5, r80_8, r80_9, r80_11, r80_13, r80_16, r80_17, r80_20, r80_21, r80_24, r80_26, r80_29, r80_30, r80_31, r80_34, r80_35, r80_38, r80_41, r80_42, r80_45, r80_48, r80_49, r80_50, r80_53, r80_56, r80_57, r80_60, r80_61, r80_62, r80_64, r80_65, r80_68, r80_69, r80_72, r80_74, r80_77, r80_78, r80_81, r80_87, r80_90, r80_91, r80_94, r80_97, h0, if_false, g6, c225, e25]
    rfl
  | succ d ih =>
    intro r Q w n bp cap a2 a3 h2 h3 hr hF hS hQ
    have h8 := hC.2.1
    have h1 : Int32.ofNat r < (6 : Int32) := nlt (N := 6) (by omega) (by omega) (by omega)
    have hs := sum_ct (s := s) c (r + 1) (by omega)
    unfold sumc at hs
    obtain ⟨w1, w2⟩ := waF_ok hJ (r := r) (by omega)
    have hsz := szI_2 (a := waF s r)
    -- behind the sign
    have tail : ∀ (Q1 : TKX) w n bp cap, Q1.2 ≤ Q.2 + 1 → FB w0 w → SBP w n bp cap Q1.2 ml Q1.1 → ∃ w' n' bp' cap', RC x 80 30 [some (.ref 64), some (.int (Int32.ofNat r)), a2, a3] [] w n = some (.inl (some (.int (Int32.ofNat (rcF (waF s) (fun r => ctS s c (Int32.ofNat r)) d (r + 1) (strs (ctS s c (Int32.ofNat r)) (aI (waF s r) Q1))).2))), w', n') ∧ BST w n cap ml (rcF (waF s) (fun r => ctS s c (Int32.ofNat r)) d (r + 1) (strs (ctS s c (Int32.ofNat r)) (aI (waF s r) Q1))) w' n' bp' cap' := by
      intro Q1 w n bp cap hq1 hF hS
      have hWw := WDF hW hF
      have g6 := WD_6 hWw
      have c225 := (SB_g (x := x) hS).2.2.2.1
      obtain ⟨⟨g0, -⟩, -⟩ := WD_64 hWw
      obtain ⟨-, m1, -, -, -, -, -, -, -, -, q4, -⟩ := WD_r hWw
      have e167 : RM x 167 [.ref 71, .int (Int32.ofNat r)] w n = some (.inl (some (.int (Int32.ofNat (waF s r)))), w, n) := by
        have k := c167 (x := x) (n := n) (b := 65) (w := w) (s := s) (u := Int32.ofNat r)
        rw [(WD_c hWw).1, atv_nat (show r < 6 by omega) (by omega), w2] at k
        exact k
      obtain ⟨v1, n1, b1, k1, e1, hB⟩ := bI (x := x) (a := waF s r) hS (by omega) (by omega)
      have hF1 := FB_t hF hB.2.1
      have hW1 := WDF hW hF1
      obtain ⟨⟨g0b, -⟩, -⟩ := WD_64 hW1
      obtain ⟨-, -, m2, -, -, -, -, -, -, -, -, q1⟩ := WD_r hW1
      have e134 : RM x 134 [.ref 73, .int (Int32.ofNat r)] v1 n1 = some (.inl (some (.int (Int32.ofNat (ctS s c (Int32.ofNat r))))), v1, n1) := by
        have k := c134 (x := x) (n := n1) (b := 65) (w := v1) (s := s) (v := Int32.ofNat r) hC.1 hC.2.1
        rw [(WD_c hW1).1] at k
        exact k
      obtain ⟨v2, n2, b2, k2, e2, hB2⟩ := l80s (x := x) (ml := ml) (r := Int32.ofNat r) hW (show ctS s c (Int32.ofNat r) ≤ 8 by omega) (ctS s c (Int32.ofNat r)) 0 (aI (waF s r) Q1) v1 n1 b1 k1 (by omega) hF1 hB.1 (by unfold aI; dsimp only; omega)
      obtain ⟨v3, n3, b3, k3, e3, hB3⟩ := ih (r + 1) (strs (ctS s c (Int32.ofNat r)) (aI (waF s r) Q1)) v2 n2 b2 k2 (some (.int (Int32.ofNat (ctS s c (Int32.ofNat r))))) (some (.int (Int32.ofNat (ctS s c (Int32.ofNat r))))) rfl rfl (by omega) (FB_t hF1 hB2.2.1) hB2.1 (by
        rw [strs_2]
        unfold sumc aI
        dsimp only
        omega)
      refine ⟨v3, n3, b3, k3, ?_, BST_t hB (BST_t hB2 hB3)⟩
      rw [← e3, r80_30]
      simp only [csN, csm_i, csm_r, Nat.reduceAdd, Nat.reduceLeDiff, wdI, wdR, wdN, clM_0, clC_0, clC_1, clC_6, clC_8, true_or, or_true, i10, i01, ob_some, ob_map, cal_v, rvs_some, rvs_none, XO_at, cal_x, m80, r80_0, r80_1, r80_4, r80_5, r80_8, r80_9, r80_11, r80_13, r80_16, r80_17, r80_20, r80_21, r80_24, r80_26, r80_29, r80_31, r80_34, r80_35, r80_38, r80_41, r80_42, r80_45, r80_48, r80_49, r80_50, r80_53, r80_56, r80_57, r80_60, r80_61, r80_62, r80_64, r80_65, r80_68, r80_69, r80_72, r80_74, r80_77, r80_78, r80_81, r80_87, r80_90, r80_91, r80_94, r80_97, g6, g0, m1, q4, e167, c225, e1, g0b, m2, q1, e134, h2, h3]
      refine Eq.trans e2 ?_
      rw [r80_84 (a0 := some (.ref 64)) rfl]
      simp only [csN, csm_i, csm_r, Nat.reduceAdd, Nat.reduceLeDiff, wdI, wdR, wdN, clM_0, clC_0, clC_1, clC_6, clC_8, true_or, or_true, i10, i01, ob_some, ob_map, cal_v, rvs_some, rvs_none, XO_at, cal_x, m80, r80_0, r80_1, r80_4, r80_5, r80_8, r80_9, r80_11, r80_13, r80_16, r80_17, r80_20, r80_21, r80_24, r80_26, r80_29, r80_31, r80_34, r80_35, r80_38, r80_41, r80_42, r80_45, r80_48, r80_49, r80_50, r80_53, r80_56, r80_57, r80_60, r80_61, r80_62, r80_64, r80_65, r80_68, r80_69, r80_72, r80_74, r80_77, r80_78, r80_81, r80_87, r80_90, r80_91, r80_94, r80_97, i_s]
    have g6 := WD_6 (WDF hW hF)
    have c225 := (SB_g (x := x) hS).2.2.2.1
    unfold rcF
    by_cases hr0 : 0 < r
    · have g0 : (0 : Int32) < Int32.ofNat r := nlt (a := 0) (by omega) (by omega) hr0
      rw [if_pos hr0]
      obtain ⟨v1, n1, b1, k1, e1, hB⟩ := bC (x := x) hS (by omega) CH124
      obtain ⟨v2, n2, b2, k2, e2, hB2⟩ := tail (aC 124 Q) v1 n1 b1 k1 (Nat.le_refl _) (FB_t hF hB.2.1) hB.1
      refine ⟨v2, n2, b2, k2, ?_, BST_t hB hB2⟩
      rw [← e2]
      conv => lhs; rw [r80_10]
      simp only [csN, csm_i, csm_r, Nat.reduceAdd, Nat.reduceLeDiff, wdI, wdR, wdN, clM_0, clC_0, clC_1, clC_6, clC_8, true_or, or_true, i10, i01, ob_some, ob_map, cal_v, rvs_some, rvs_none, XO_at, cal_x, m80, r80_0, r80_1, r80_4, r80_5, r80_8, r80_9, r80_11, r80_13, r80_16, r80_17, r80_20, r80_21, r80_24, r80_26, r80_29, r80_31, r80_34, r80_35, r80_38, r80_41, r80_42, r80_45, r80_48, r80_49, r80_50, r80_53, r80_56, r80_57, r80_60, r80_61, r80_62, r80_64, r80_65, r80_68, r80_69, r80_72, r80_74, r80_77, r80_78, r80_81, r80_87, r80_90, r80_91, r80_94, r80_97, h1, if_true, g0, g6, c225, e1]
    · have g0 : ¬ (0 : Int32) < Int32.ofNat r := by
        rw [show (0 : Int32) = Int32.ofNat 0 from rfl, i_lt (by omega) (by omega)]
        exact hr0
      rw [if_neg hr0]
      obtain ⟨v2, n2, b2, k2, e2, hB2⟩ := tail Q w n bp cap (by omega) hF hS
      refine ⟨v2, n2, b2, k2, ?_, hB2⟩
      rw [← e2]
      conv => lhs; rw [r80_10]
      simp only [csN, csm_i, csm_r, Nat.reduceAdd, Nat.reduceLeDiff, wdI, wdR, wdN, clM_0, clC_0, clC_1, clC_6, clC_8, true_or, or_true, i10, i01, ob_some, ob_map, cal_v, rvs_some, rvs_none, XO_at, cal_x, m80, r80_0, r80_1, r80_4, r80_5, r80_8, r80_9, r80_11, r80_13, r80_16, r80_17, r80_20, r80_21, r80_24, r80_26, r80_29, r80_31, r80_34, r80_35, r80_38, r80_41, r80_42, r80_45, r80_48, r80_49, r80_50, r80_53, r80_56, r80_57, r80_60, r80_61, r80_62, r80_64, r80_65, r80_68, r80_69, r80_72, r80_74, r80_77, r80_78, r80_81, r80_87, r80_90, r80_91, r80_94, r80_97, h1, if_true, g0, if_false]
theorem c80 (hW : WD w s t y hs le lf F K hc sc) (hC : OKC s c) (hJ : JC s c) (hS : SBP w n bp cap cnt' ml T) : ∃ w' n' bp' cap' ml', RM x 80 [.ref 64] w n = some (.inl (some (.int (Int32.ofNat (rcF (waF s) (fun r => ctS s c (Int32.ofNat r)) 6 0 (T, 0)).2))), w', n') ∧ BST w n cap ml' (rcF (waF s) (fun r => ctS s c (Int32.ofNat r)) 6 0 (T, 0)) w' n' bp' cap' := by
  have g6 := WD_6 hW
  have c225 := (SB_g (x := x) hS).2.2.2.1
  obtain ⟨w1, ml1, e24, hS1, hF1⟩ := c24 (x := x) hS
  obtain ⟨w2, n2, b2, k2, e2, hB2⟩ := l80 (x := x) (c := c) (ml := ml1) hW hC hJ 6 0 (T, 0) w1 n bp cap none none rfl rfl (by omega) hF1 hS1 (by omega)
  refine ⟨w2, n2, b2, k2, ml1, ?_, hB2.1, FB_t hF1 hB2.2.1, hB2.2.2⟩
  rw [← e2]
  simp only [csN, csm_i, csm_r, Nat.reduceAdd, Nat.reduceLeDiff, wdI, wdR, wdN, clM_0, clC_0, clC_1, clC_6, clC_8, true_or, or_true, i10, i01, ob_some, ob_map, cal_v, rvs_some, rvs_none, XO_at, cal_x, m80, r80_0, r80_1, r80_4, r80_5, r80_8, r80_9, r80_11, r80_13, r80_16, r80_17, r80_20, r80_21, r80_24, r80_26, r80_29, r80_30, r80_31, r80_34, r80_35, r80_38, r80_41, r80_42, r80_45, r80_48, r80_49, r80_50, r80_53, r80_56, r80_57, r80_60, r80_61, r80_62, r80_64, r80_65, r80_68, r80_69, r80_72, r80_74, r80_77, r80_78, r80_81, r80_87, r80_90, r80_91, r80_94, r80_97, g6, c225, e24]
  rfl
theorem c79_1 (h : rg u 5 = false) : RM x 79 [.ref 64, .int u] w n = some (.inr "java/lang/IndexOutOfBoundsException", w, n + 1) := by
  have e1 := c92_f (x := x) (n := n) (w := w) h
  simp only [csN, csm_i, csm_r, Nat.reduceAdd, Nat.reduceLeDiff, wdI, wdR, wdN, clM_0, clC_0, clC_1, clC_6, clC_8, true_or, or_true, i10, i01, ob_some, ob_map, cal_v, rvs_some, rvs_none, XO_at, cal_x, m79, r79_0, r79_1, r79_4, r79_5, r79_8, r79_9, r79_12, r79_13, r79_16, r79_17, r79_20, r79_22, r79_25, r79_26, r79_29, r79_32, r79_33, r79_36, r79_39, r79_40, r79_41, r79_43, r79_44, r79_47, r79_48, r79_51, r79_52, r79_55, r79_57, r79_60, r79_61, r79_62, r79_65, r79_66, r79_69, r79_72, r79_73, r79_74, r79_77, r79_80, r79_82, r79_85, r79_86, r79_89, r79_92, r79_93, r79_94, r79_97, r79_100, r79_101, r79_104, r79_107, r79_108, r79_111, r79_114, e1]
theorem WD_g {g : Nat} {e : Nat} (hW : WD w s t y hs le lf F K hc sc) (hR : RS s (m 1)) (hg : g < 5) (he : e < 2) : RM x 143 [.ref 66, .int (Int32.ofNat g), .int (Int32.ofNat e)] w n = some (.inl (some (.int (Int32.ofNat (s 4 (g * 2 + e)).toNatClampNeg))), w, n) ∧ RM x 144 [.ref 66, .int (Int32.ofNat g), .int (Int32.ofNat e)] w n = some (.inl (some (.int (Int32.ofNat (s 5 (g * 2 + e)).toNatClampNeg))), w, n) := by
  obtain ⟨a1, a2, a3, a4, a5, a6⟩ := RS_45 hR (j := g * 2 + e) (by omega)
  have k1 := c143 (x := x) (n := n) (b := 65) (w := w) (s := s) (u := Int32.ofNat g) (v := Int32.ofNat e)
  have k2 := c144 (x := x) (n := n) (b := 65) (w := w) (s := s) (u := Int32.ofNat g) (v := Int32.ofNat e)
  rw [(WD_c hW).1, i_g2, atv_nat (by omega) (by omega)] at k1 k2
  rw [← a3, ← a6]
  exact ⟨k1, k2⟩
theorem c79_0 {g : Nat} (hW : WD w s t y hs le lf F K hc sc) (hR : RS s (m 1)) (hg : g < 5) (hS : SBP w n bp cap cnt' ml T) : ∃ w' n' bp' cap' ml', RM x 79 [.ref 64, .int (Int32.ofNat g)] w n = some (.inl (some (.int (Int32.ofNat (rgF s g T).2))), w', n') ∧ BST w n cap ml' (rgF s g T) w' n' bp' cap' := by
  have h : rg (Int32.ofNat g) 5 = true := nat_rg (N := 5) (by omega) hg
  have e92 := c92_t (x := x) (n := n) (w := w) h
  have g6 := WD_6 hW
  have c225 := (SB_g (x := x) hS).2.2.2.1
  obtain ⟨kk, hkk, kd1, kd2⟩ := hR.2.2.1 g hg
  obtain ⟨a1, a2, a3, a4, a5, a6⟩ := RS_45 hR (j := g * 2) (by omega)
  obtain ⟨b1, b2, b3, b4, b5, b6⟩ := RS_45 hR (j := g * 2 + 1) (by omega)
  have hks : CH (s 2 g) := by rw [kd2]; exact CHlt
  have hkch : isCh (s 2 g) := by rw [kd2]; exact isKd_ch (ltO_kd _)
  obtain ⟨w0, ml1, e24, hS0, hF0⟩ := c24 (x := x) hS
  have W0 := WDF hW hF0
  have x0 := WD_6 W0
  have y0 := (SB_g (x := x) hS0).2.2.2.1
  obtain ⟨w1, n1, p1, k1, s1, B1⟩ := bI (x := x) (Q := (T, 0)) (a := g) hS0 (by omega) (by dsimp only; omega)
  obtain ⟨q1, hq1⟩ : ∃ q, q = aI g (T, 0) := ⟨_, rfl⟩
  rw [← hq1] at B1
  have l1 : q1.2 ≤ 2 := by rw [hq1]; exact aI_2
  have y1 := (SB_g (x := x) B1.1).2.2.2.1
  obtain ⟨w2, n2, p2, k2, s2, B2⟩ := bC (x := x) B1.1 (by omega) CH58
  obtain ⟨q2, hq2⟩ : ∃ q, q = aC 58 q1 := ⟨_, rfl⟩
  rw [← hq2] at B2
  have l2 : q2.2 ≤ 3 := by rw [hq2]; unfold aC; dsimp only; omega
  have F2 := FB_t hF0 (FB_t B1.2.1 B2.2.1)
  have W2 := WDF hW F2
  have y2 := (SB_g (x := x) B2.1).2.2.2.1
  obtain ⟨⟨g02, -⟩, -⟩ := WD_64 W2
  obtain ⟨h02, -, -, -, -, -, -, -, -, cl2, -⟩ := WD_r W2
  have e145 : RM x 145 [.ref 66, .int (Int32.ofNat g)] w2 n2 = some (.inl (some (.int (s 2 g))), w2, n2) := by
    have k := c145 (x := x) (n := n2) (b := 65) (w := w2) (s := s) rfl hg hkch
    rw [(WD_c W2).1] at k
    exact k
  obtain ⟨w3, n3, p3, k3, s3, B3⟩ := bC (x := x) B2.1 (by omega) hks
  obtain ⟨q3, hq3⟩ : ∃ q, q = aC (s 2 g) q2 := ⟨_, rfl⟩
  rw [← hq3] at B3
  have l3 : q3.2 ≤ 4 := by rw [hq3]; unfold aC; dsimp only; omega
  have F3 := FB_t F2 B3.2.1
  have W3 := WDF hW F3
  have x3 := WD_6 W3
  have y3 := (SB_g (x := x) B3.1).2.2.2.1
  obtain ⟨⟨g03, -⟩, -⟩ := WD_64 W3
  obtain ⟨h03, -, -, -, -, -, -, -, -, cl3, -⟩ := WD_r W3
  have t3 := (WD_g (x := x) (n := n3) (e := 0) W3 hR hg (by omega)).1
  obtain ⟨w4, n4, p4, k4, s4, B4⟩ := bI (x := x) (a := (s 4 (g * 2)).toNatClampNeg) B3.1 (by omega) (by omega)
  obtain ⟨q4, hq4⟩ : ∃ q, q = aI (s 4 (g * 2)).toNatClampNeg q3 := ⟨_, rfl⟩
  rw [← hq4] at B4
  have l4 : q4.2 ≤ 6 := by rw [hq4]; exact Nat.le_trans aI_2 (by omega)
  have y4 := (SB_g (x := x) B4.1).2.2.2.1
  obtain ⟨w5, n5, p5, k5, s5, B5⟩ := bC (x := x) B4.1 (by omega) CH126
  obtain ⟨q5, hq5⟩ : ∃ q, q = aC 126 q4 := ⟨_, rfl⟩
  rw [← hq5] at B5
  have l5 : q5.2 ≤ 7 := by rw [hq5]; unfold aC; dsimp only; omega
  have F5 := FB_t F3 (FB_t B4.2.1 B5.2.1)
  have W5 := WDF hW F5
  have y5 := (SB_g (x := x) B5.1).2.2.2.1
  obtain ⟨⟨g05, -⟩, -⟩ := WD_64 W5
  obtain ⟨h05, -, -, -, -, -, -, -, -, cl5, -⟩ := WD_r W5
  have t5 := (WD_g (x := x) (n := n5) (e := 0) W5 hR hg (by omega)).2
  obtain ⟨w6, n6, p6, k6, s6, B6⟩ := bI (x := x) (a := (s 5 (g * 2)).toNatClampNeg) B5.1 (by omega) (by omega)
  obtain ⟨q6, hq6⟩ : ∃ q, q = aI (s 5 (g * 2)).toNatClampNeg q5 := ⟨_, rfl⟩
  rw [← hq6] at B6
  have l6 : q6.2 ≤ 9 := by rw [hq6]; exact Nat.le_trans aI_2 (by omega)
  have F6 := FB_t F5 B6.2.1
  have W6 := WDF hW F6
  have x6 := WD_6 W6
  have y6 := (SB_g (x := x) B6.1).2.2.2.1
  obtain ⟨w7, n7, p7, k7, s7, B7⟩ := bC (x := x) B6.1 (by omega) CH44
  obtain ⟨q7, hq7⟩ : ∃ q, q = aC 44 q6 := ⟨_, rfl⟩
  rw [← hq7] at B7
  have l7 : q7.2 ≤ 10 := by rw [hq7]; unfold aC; dsimp only; omega
  have F7 := FB_t F6 B7.2.1
  have W7 := WDF hW F7
  have x7 := WD_6 W7
  have y7 := (SB_g (x := x) B7.1).2.2.2.1
  obtain ⟨⟨g07, -⟩, -⟩ := WD_64 W7
  obtain ⟨h07, -, -, -, -, -, -, -, -, cl7, -⟩ := WD_r W7
  have t7 := (WD_g (x := x) (n := n7) (e := 1) W7 hR hg (by omega)).1
  obtain ⟨w8, n8, p8, k8, s8, B8⟩ := bI (x := x) (a := (s 4 (g * 2 + 1)).toNatClampNeg) B7.1 (by omega) (by omega)
  obtain ⟨q8, hq8⟩ : ∃ q, q = aI (s 4 (g * 2 + 1)).toNatClampNeg q7 := ⟨_, rfl⟩
  rw [← hq8] at B8
  have l8 : q8.2 ≤ 12 := by rw [hq8]; exact Nat.le_trans aI_2 (by omega)
  have y8 := (SB_g (x := x) B8.1).2.2.2.1
  obtain ⟨w9, n9, p9, k9, s9, B9⟩ := bC (x := x) B8.1 (by omega) CH126
  obtain ⟨q9, hq9⟩ : ∃ q, q = aC 126 q8 := ⟨_, rfl⟩
  rw [← hq9] at B9
  have l9 : q9.2 ≤ 13 := by rw [hq9]; unfold aC; dsimp only; omega
  have F9 := FB_t F7 (FB_t B8.2.1 B9.2.1)
  have W9 := WDF hW F9
  have y9 := (SB_g (x := x) B9.1).2.2.2.1
  obtain ⟨⟨g09, -⟩, -⟩ := WD_64 W9
  obtain ⟨h09, -, -, -, -, -, -, -, -, cl9, -⟩ := WD_r W9
  have t9 := (WD_g (x := x) (n := n9) (e := 1) W9 hR hg (by omega)).2
  obtain ⟨wa, na, pa, ka, sa, BA⟩ := bI (x := x) (a := (s 5 (g * 2 + 1)).toNatClampNeg) B9.1 (by omega) (by omega)
  have FA := FB_t F9 BA.2.1
  have WA := WDF hW FA
  have xa := WD_6 WA
  have ya := (SB_g (x := x) BA.1).2.2.2.1
  have er : rgF s g T = aI (s 5 (g * 2 + 1)).toNatClampNeg q9 := by rw [hq9, hq8, hq7, hq6, hq5, hq4, hq3, hq2, hq1]; rfl
  have e25 := c25 (x := x) BA.1
  rw [er]
  refine ⟨wa, na, pa, ka, ml1, ?_, BA.1, FA, GR_t B1.2.2 (GR_t B2.2.2 (GR_t B3.2.2 (GR_t B4.2.2 (GR_t B5.2.2 (GR_t B6.2.2 (GR_t B7.2.2 (GR_t B8.2.2 (GR_t B9.2.2 BA.2.2))))))))⟩
  rw [show Int32.ofNat 0 = 0 from rfl, Nat.add_zero] at t3 t5
  rw [show Int32.ofNat 1 = 1 from rfl] at t7 t9
  have z1 : (0 : Int32) < 2 := by decide
  have z2 : ¬ (0 : Int32) < 0 := by decide
  have z3 : (0 : Int32) + 1 = 1 := by decide
  have z4 : (1 : Int32) < 2 := by decide
  have z5 : (0 : Int32) < 1 := by decide
  have z6 : (1 : Int32) + 1 = 2 := by decide
  have z7 : ¬ (2 : Int32) < 2 := by decide
  simp only [csN, csm_i, csm_r, Nat.reduceAdd, Nat.reduceLeDiff, wdI, wdR, wdN, clM_0, clC_0, clC_1, clC_6, clC_8, true_or, or_true, i10, i01, ob_some, ob_map, cal_v, rvs_some, rvs_none, XO_at, cal_x, m79, r79_0, r79_1, r79_4, r79_5, r79_8, r79_9, r79_12, r79_13, r79_16, r79_17, r79_20, r79_22, r79_25, r79_26, r79_29, r79_32, r79_33, r79_36, r79_39, r79_40, r79_41, r79_42, r79_43, r79_44, r79_47, r79_48, r79_51, r79_52, r79_55, r79_57, r79_60, r79_61, r79_62, r79_65, r79_66, r79_69, r79_72, r79_73, r79_74, r79_77, r79_80, r79_82, r79_85, r79_86, r79_89, r79_92, r79_93, r79_94, r79_97, r79_100, r79_101, r79_104, r79_107, r79_108, r79_111, r79_114, e92, g6, c225, e24, x0, y0, s1, y1, s2, y2, g02, h02, cl2, e145, s3, z1, z2, z3, z4, z5, z6, z7, ↓reduceIte, x3, y3, g03, h03, cl3, t3, s4, y4, s5, y5, g05, h05, cl5, t5, s6, x6, y6, s7, x7, y7, g07, h07, cl7, t7, s8, y8, s9, y9, g09, h09, cl9, t9, sa, xa, ya, e25]
end RNC
