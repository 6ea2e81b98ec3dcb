/-! THE EIGHT CHANGES on both sides -/
section CHP
set_option maxRecDepth 20000
variable {x : SX} {n c q B : Nat} {w : PW} {m s t y : NS} {hs le lf : Int32} {F : Nat → Nat} {K : Nat → NS} {sc : NS} {cs : Nat → Nat} {u v z : Int32}
theorem ft0 : ftS s c 0 u v z = 0 ∨ ftS s c 0 u v z = 2 ∨ ftS s c 0 u v z = 3 := by
  unfold ftS
  rw [if_pos rfl]
  generalize (rg u 12 && (!decide (v < 1) && !decide (9 < v))) = B
  cases B with
  | false => exact Or.inr (Or.inl rfl)
  | true =>
    by_cases h : c < 8
    · exact Or.inl (by rw [cond_true, if_pos h])
    · exact Or.inr (Or.inr (by rw [cond_true, if_neg h]))
theorem ft1 : ftS s c 1 u v z = 0 ∨ ftS s c 1 u v z = 1 ∨ ftS s c 1 u v z = 2 := by
  unfold ftS
  rw [if_neg (by decide), if_pos rfl]
  generalize (rg u 5 && rg v 2) = B
  generalize rg z 12 = C
  cases B <;> cases C <;> simp
theorem ft2 : ftS s c 2 u v z = 0 ∨ ftS s c 2 u v z = 1 := by
  unfold ftS
  rw [if_neg (by decide), if_neg (by decide), if_pos rfl]
  generalize (rg u 5 && rg v 2) = B
  cases B <;> simp
theorem ft3 : ftS s c 3 u v z = 0 ∨ ftS s c 3 u v z = 1 ∨ ftS s c 3 u v z = 2 := by
  unfold ftS
  rw [if_neg (by decide), if_neg (by decide), if_neg (by decide), if_pos rfl]
  generalize rg u 5 = B
  generalize decide (¬ patO v = 0) = C
  cases B <;> cases C <;> simp
theorem ft4 : ftS s c 4 u v z = 0 ∨ ftS s c 4 u v z = 2 := by
  unfold ftS
  rw [if_neg (by decide), if_neg (by decide), if_neg (by decide), if_neg (by decide), if_pos rfl]
  generalize (!decide (u < 0) && !decide (9 < u)) = B
  cases B <;> simp
theorem ft5 : ftS s c 5 u v z = 0 ∨ ftS s c 5 u v z = 1 ∨ ftS s c 5 u v z = 2 ∨ ftS s c 5 u v z = 4 := by
  unfold ftS
  rw [if_neg (by decide), if_neg (by decide), if_neg (by decide), if_neg (by decide), if_neg (by decide), if_pos rfl]
  generalize rg u 6 = B
  generalize (!decide (v < 1) && !decide (90 < v)) = C
  by_cases h : 90 < atv 6 (s 7) u + v
  · rw [if_pos h]
    cases B <;> cases C <;> simp
  · rw [if_neg h]
    cases B <;> cases C <;> simp
theorem ft6 : ftS s c 6 u v z = 0 ∨ ftS s c 6 u v z = 5 := by
  unfold ftS
  rw [if_neg (by decide), if_neg (by decide), if_neg (by decide), if_neg (by decide), if_neg (by decide), if_neg (by decide), if_pos rfl]
  by_cases h : ixA (s 9) u c 0 = -1
  · exact Or.inr (if_pos h)
  · exact Or.inl (if_neg h)
theorem ft7 : ftS s c 7 u v z = 0 ∨ ftS s c 7 u v z = 2 := by
  unfold ftS
  rw [if_neg (by decide), if_neg (by decide), if_neg (by decide), if_neg (by decide), if_neg (by decide), if_neg (by decide), if_neg (by decide)]
  generalize (!decide (u < 1) && !decide (100 < u)) = B
  cases B <;> simp
theorem pf3_ch (hk : ∀ g, g < 5 → isKd (s 2 g)) (hf : ftS s c 3 u v z = 0) : ((pfS s c 3 u v z).1.toUInt32 % 65536).toInt32 = (pfS s c 3 u v z).1 ∧ (pfS s c 3 u v z).1.toUInt32.toUInt16.toUInt32.toInt32 = (pfS s c 3 u v z).1 := by
  have ck : ∀ y : Int32, isKd y → (y.toUInt32 % 65536).toInt32 = y ∧ y.toUInt32.toUInt16.toUInt32.toInt32 = y := fun y hy => by
    rcases hy with rfl | rfl | rfl | rfl <;> decide
  have hu : rg u 5 = true := by
    unfold ftS at hf
    rw [if_neg (by decide), if_neg (by decide), if_neg (by decide), if_pos rfl] at hf
    cases h : rg u 5 with
    | true => rfl
    | false => rw [h] at hf; cases hf
  obtain ⟨g, hg, rfl⟩ := rg_nat (N := 5) (by omega) hu
  have : (pfS s c 3 (Int32.ofNat g) v z).1 = s 2 g := by
    unfold pfS
    rw [if_neg (by decide), if_neg (by decide), if_neg (by decide), if_pos rfl, i32_cl (by omega)]
  rw [this]
  exact ck _ (hk g hg)
theorem p298 {d : Bool} (hV : IV B w m s t y hs le lf F K sc c q cs) : PAIR B x w n 298 [.ref 64, .int u, .int v, .int (bi d), .ref 237] 218 [.ref 227, .int u, .int v, .int (bi d)] m le lf sc := by
  have c64 := (WD_64 hV.1).2.1
  have hR := hV.2.2.2.2.1
  have hH := hV.2.2.2.2.2.1
  refine chg_pair (k := 0) (u := u) (v := v) (z := cond d 100 117) (code := codeB) hV (by simp) (fun w' n' r f h0 hr e hf => ?_) (fun h0 e => ?_) codeB_n (fun w' n' z7 hz => ?_)
  · have e2 : RM x 35 [.ref 64, .int u, .int v, .int (bi d)] w n = some (.inl (some (.int r)), w', n') := by
      cases d with
      | true =>
        rw [bi_t]
        rw [cond_true] at e
        simp only [csN, csm_i, csm_r, Nat.reduceAdd, Nat.reduceLeDiff, wdI, wdR, wdN, clM_0, clC_0, clC_1, clC_6, clC_8, true_or, or_true, i10, i01, ob_some, ob_map, cal_v, rvs_some, rvs_none, XO_at, cal_x, m35, r35_0, r35_1, r35_2, r35_3, r35_4, r35_5, r35_8, r35_10, r35_13, r35_15, r35_18, c64, e, if_false]
      | false =>
        rw [bi_f]
        rw [cond_false] at e
        simp only [csN, csm_i, csm_r, Nat.reduceAdd, Nat.reduceLeDiff, wdI, wdR, wdN, clM_0, clC_0, clC_1, clC_6, clC_8, true_or, or_true, i10, i01, ob_some, ob_map, cal_v, rvs_some, rvs_none, XO_at, cal_x, m35, r35_0, r35_1, r35_2, r35_3, r35_4, r35_5, r35_8, r35_10, r35_13, r35_15, r35_18, c64, e, if_true]
    exact lw298 c64 e2 hf
  · rcases ft0 (s := s) (c := c) (u := u) (v := v) (z := cond d 100 117) with h | h | h
    · exact absurd h h0
    · rw [h] at e ⊢
      have e' : RM x 89 [.ref 64, .int 0, .int u, .int v, .int (cond d 100 117)] w n = some (.inr "java/lang/IllegalArgumentException", w, n + 1) := e
      have e2 : RM x 35 [.ref 64, .int u, .int v, .int (bi d)] w n = some (.inr "java/lang/IllegalArgumentException", w, n + 1) := by
        cases d with
        | true =>
          rw [bi_t]
          rw [cond_true] at e'
          simp only [csN, csm_i, csm_r, Nat.reduceAdd, Nat.reduceLeDiff, wdI, wdR, wdN, clM_0, clC_0, clC_1, clC_6, clC_8, true_or, or_true, i10, i01, ob_some, ob_map, cal_v, rvs_some, rvs_none, XO_at, cal_x, m35, r35_0, r35_1, r35_2, r35_3, r35_4, r35_5, r35_8, r35_10, r35_13, r35_15, r35_18, c64, e', if_false]
        | false =>
          rw [bi_f]
          rw [cond_false] at e'
          simp only [csN, csm_i, csm_r, Nat.reduceAdd, Nat.reduceLeDiff, wdI, wdR, wdN, clM_0, clC_0, clC_1, clC_6, clC_8, true_or, or_true, i10, i01, ob_some, ob_map, cal_v, rvs_some, rvs_none, XO_at, cal_x, m35, r35_0, r35_1, r35_2, r35_3, r35_4, r35_5, r35_8, r35_10, r35_13, r35_15, r35_18, c64, e', if_true]
      exact lx298_1 c64 e2
    · rw [h] at e ⊢
      have e' : RM x 89 [.ref 64, .int 0, .int u, .int v, .int (cond d 100 117)] w n = some (.inr "java/lang/IllegalStateException", w, n + 1) := e
      have e2 : RM x 35 [.ref 64, .int u, .int v, .int (bi d)] w n = some (.inr "java/lang/IllegalStateException", w, n + 1) := by
        cases d with
        | true =>
          rw [bi_t]
          rw [cond_true] at e'
          simp only [csN, csm_i, csm_r, Nat.reduceAdd, Nat.reduceLeDiff, wdI, wdR, wdN, clM_0, clC_0, clC_1, clC_6, clC_8, true_or, or_true, i10, i01, ob_some, ob_map, cal_v, rvs_some, rvs_none, XO_at, cal_x, m35, r35_0, r35_1, r35_2, r35_3, r35_4, r35_5, r35_8, r35_10, r35_13, r35_15, r35_18, c64, e', if_false]
        | false =>
          rw [bi_f]
          rw [cond_false] at e'
          simp only [csN, csm_i, csm_r, Nat.reduceAdd, Nat.reduceLeDiff, wdI, wdR, wdN, clM_0, clC_0, clC_1, clC_6, clC_8, true_or, or_true, i10, i01, ob_some, ob_map, cal_v, rvs_some, rvs_none, XO_at, cal_x, m35, r35_0, r35_1, r35_2, r35_3, r35_4, r35_5, r35_8, r35_10, r35_13, r35_15, r35_18, c64, e', if_true]
      exact lx298_2 c64 e2
  · exact c218 hR hH hz (fun hf => JC_pf (by simp) hR.1.1.1 hR.2 hf)
theorem p299 (hV : IV B w m s t y hs le lf F K sc c q cs) : PAIR B x w n 299 [.ref 64, .int u, .int v, .int z, .ref 237] 222 [.ref 227, .int u, .int v, .int z] m le lf sc := by
  have c64 := (WD_64 hV.1).2.1
  have hR := hV.2.2.2.2.1
  have hH := hV.2.2.2.2.2.1
  refine chg_pair (k := 1) (u := u) (v := v) (z := z) (code := code1) hV (by simp) (fun w' n' r f h0 hr e hf => ?_) (fun h0 e => ?_) code1_n (fun w' n' z7 hz => ?_)
  · have e2 : RM x 36 [.ref 64, .int u, .int v, .int z] w n = some (.inl (some (.int r)), w', n') := by
      simp only [csN, csm_i, csm_r, Nat.reduceAdd, Nat.reduceLeDiff, wdI, wdR, wdN, clM_0, clC_0, clC_1, clC_6, clC_8, true_or, or_true, i10, i01, ob_some, ob_map, cal_v, rvs_some, rvs_none, XO_at, cal_x, m36, r36_0, r36_1, r36_2, r36_3, r36_4, r36_5, r36_8, c64, e]
    exact lw299 c64 e2 hf
  · rcases ft1 (s := s) (c := c) (u := u) (v := v) (z := z) with h | h | h
    · exact absurd h h0
    · rw [h] at e ⊢
      have e' : RM x 89 [.ref 64, .int 1, .int u, .int v, .int (z)] w n = some (.inr "java/lang/IndexOutOfBoundsException", w, n + 1) := e
      have e2 : RM x 36 [.ref 64, .int u, .int v, .int z] w n = some (.inr "java/lang/IndexOutOfBoundsException", w, n + 1) := by
        simp only [csN, csm_i, csm_r, Nat.reduceAdd, Nat.reduceLeDiff, wdI, wdR, wdN, clM_0, clC_0, clC_1, clC_6, clC_8, true_or, or_true, i10, i01, ob_some, ob_map, cal_v, rvs_some, rvs_none, XO_at, cal_x, m36, r36_0, r36_1, r36_2, r36_3, r36_4, r36_5, r36_8, c64, e']
      exact lx299_1 c64 e2
    · rw [h] at e ⊢
      have e' : RM x 89 [.ref 64, .int 1, .int u, .int v, .int (z)] w n = some (.inr "java/lang/IllegalArgumentException", w, n + 1) := e
      have e2 : RM x 36 [.ref 64, .int u, .int v, .int z] w n = some (.inr "java/lang/IllegalArgumentException", w, n + 1) := by
        simp only [csN, csm_i, csm_r, Nat.reduceAdd, Nat.reduceLeDiff, wdI, wdR, wdN, clM_0, clC_0, clC_1, clC_6, clC_8, true_or, or_true, i10, i01, ob_some, ob_map, cal_v, rvs_some, rvs_none, XO_at, cal_x, m36, r36_0, r36_1, r36_2, r36_3, r36_4, r36_5, r36_8, c64, e']
      exact lx299_2 c64 e2
  · exact c222 hR hH hz (fun hf => JC_pf (by simp) hR.1.1.1 hR.2 hf)
theorem p300 (hV : IV B w m s t y hs le lf F K sc c q cs) : PAIR B x w n 300 [.ref 64, .int u, .int v, .ref 237] 224 [.ref 227, .int u, .int v] m le lf sc := by
  have c64 := (WD_64 hV.1).2.1
  have hR := hV.2.2.2.2.1
  have hH := hV.2.2.2.2.2.1
  refine chg_pair (k := 2) (u := u) (v := v) (z := 0) (code := code1) hV (by simp) (fun w' n' r f h0 hr e hf => ?_) (fun h0 e => ?_) code1_n (fun w' n' z7 hz => ?_)
  · have e2 : RM x 37 [.ref 64, .int u, .int v] w n = some (.inl (some (.int r)), w', n') := by
      simp only [csN, csm_i, csm_r, Nat.reduceAdd, Nat.reduceLeDiff, wdI, wdR, wdN, clM_0, clC_0, clC_1, clC_6, clC_8, true_or, or_true, i10, i01, ob_some, ob_map, cal_v, rvs_some, rvs_none, XO_at, cal_x, m37, r37_0, r37_1, r37_2, r37_3, r37_4, r37_5, r37_8, c64, e]
    exact lw300 c64 e2 hf
  · rcases ft2 (s := s) (c := c) (u := u) (v := v) (z := 0) with h | h
    · exact absurd h h0
    · rw [h] at e ⊢
      have e' : RM x 89 [.ref 64, .int 2, .int u, .int v, .int (0)] w n = some (.inr "java/lang/IndexOutOfBoundsException", w, n + 1) := e
      have e2 : RM x 37 [.ref 64, .int u, .int v] w n = some (.inr "java/lang/IndexOutOfBoundsException", w, n + 1) := by
        simp only [csN, csm_i, csm_r, Nat.reduceAdd, Nat.reduceLeDiff, wdI, wdR, wdN, clM_0, clC_0, clC_1, clC_6, clC_8, true_or, or_true, i10, i01, ob_some, ob_map, cal_v, rvs_some, rvs_none, XO_at, cal_x, m37, r37_0, r37_1, r37_2, r37_3, r37_4, r37_5, r37_8, c64, e']
      exact lx300_1 c64 e2
  · exact c224 hR hH hz (fun hf => JC_pf (by simp) hR.1.1.1 hR.2 hf)
theorem p301 (hV : IV B w m s t y hs le lf F K sc c q cs) : PAIR B x w n 301 [.ref 64, .int u, .int v, .ref 237] 226 [.ref 227, .int u, .int v] m le lf sc := by
  have c64 := (WD_64 hV.1).2.1
  have hR := hV.2.2.2.2.1
  have hH := hV.2.2.2.2.2.1
  refine chg_pair (k := 3) (u := u) (v := v) (z := 0) (code := code1) hV (by simp) (fun w' n' r f h0 hr e hf => ?_) (fun h0 e => ?_) code1_n (fun w' n' z7 hz => ?_)
  · have hr2 := pf3_ch hR.1.1.1.1.2.2 h0
    rw [← hr] at hr2
    have e2 : RM x 38 [.ref 64, .int u, .int v] w n = some (.inl (some (.int r)), w', n') := by
      simp only [csN, csm_i, csm_r, Nat.reduceAdd, Nat.reduceLeDiff, wdI, wdR, wdN, clM_0, clC_0, clC_1, clC_6, clC_8, true_or, or_true, i10, i01, ob_some, ob_map, cal_v, rvs_some, rvs_none, XO_at, cal_x, m38, r38_0, r38_1, r38_2, r38_3, r38_4, r38_5, r38_8, r38_9, c64, e, hr2.1, hr2.2]
    exact lw301 c64 e2 hf
  · rcases ft3 (s := s) (c := c) (u := u) (v := v) (z := 0) with h | h | h
    · exact absurd h h0
    · rw [h] at e ⊢
      have e' : RM x 89 [.ref 64, .int 3, .int u, .int v, .int (0)] w n = some (.inr "java/lang/IndexOutOfBoundsException", w, n + 1) := e
      have e2 : RM x 38 [.ref 64, .int u, .int v] w n = some (.inr "java/lang/IndexOutOfBoundsException", w, n + 1) := by
        simp only [csN, csm_i, csm_r, Nat.reduceAdd, Nat.reduceLeDiff, wdI, wdR, wdN, clM_0, clC_0, clC_1, clC_6, clC_8, true_or, or_true, i10, i01, ob_some, ob_map, cal_v, rvs_some, rvs_none, XO_at, cal_x, m38, r38_0, r38_1, r38_2, r38_3, r38_4, r38_5, r38_8, r38_9, c64, e']
      exact lx301_1 c64 e2
    · rw [h] at e ⊢
      have e' : RM x 89 [.ref 64, .int 3, .int u, .int v, .int (0)] w n = some (.inr "java/lang/IllegalArgumentException", w, n + 1) := e
      have e2 : RM x 38 [.ref 64, .int u, .int v] w n = some (.inr "java/lang/IllegalArgumentException", w, n + 1) := by
        simp only [csN, csm_i, csm_r, Nat.reduceAdd, Nat.reduceLeDiff, wdI, wdR, wdN, clM_0, clC_0, clC_1, clC_6, clC_8, true_or, or_true, i10, i01, ob_some, ob_map, cal_v, rvs_some, rvs_none, XO_at, cal_x, m38, r38_0, r38_1, r38_2, r38_3, r38_4, r38_5, r38_8, r38_9, c64, e']
      exact lx301_2 c64 e2
  · exact c226 hR hH hz (fun hf => JC_pf (by simp) hR.1.1.1 hR.2 hf)
theorem p302 (hV : IV B w m s t y hs le lf F K sc c q cs) : PAIR B x w n 302 [.ref 64, .int u, .ref 237] 228 [.ref 227, .int u] m le lf sc := by
  have c64 := (WD_64 hV.1).2.1
  have hR := hV.2.2.2.2.1
  have hH := hV.2.2.2.2.2.1
  refine chg_pair (k := 4) (u := u) (v := 0) (z := 0) (code := code0) hV (by simp) (fun w' n' r f h0 hr e hf => ?_) (fun h0 e => ?_) code0_n (fun w' n' z7 hz => ?_)
  · have e2 : RM x 39 [.ref 64, .int u] w n = some (.inl (some (.int r)), w', n') := by
      simp only [csN, csm_i, csm_r, Nat.reduceAdd, Nat.reduceLeDiff, wdI, wdR, wdN, clM_0, clC_0, clC_1, clC_6, clC_8, true_or, or_true, i10, i01, ob_some, ob_map, cal_v, rvs_some, rvs_none, XO_at, cal_x, m39, r39_0, r39_1, r39_2, r39_3, r39_4, r39_5, r39_8, c64, e]
    exact lw302 c64 e2 hf
  · rcases ft4 (s := s) (c := c) (u := u) (v := 0) (z := 0) with h | h
    · exact absurd h h0
    · rw [h] at e ⊢
      have e' : RM x 89 [.ref 64, .int 4, .int u, .int 0, .int (0)] w n = some (.inr "java/lang/IllegalArgumentException", w, n + 1) := e
      have e2 : RM x 39 [.ref 64, .int u] w n = some (.inr "java/lang/IllegalArgumentException", w, n + 1) := by
        simp only [csN, csm_i, csm_r, Nat.reduceAdd, Nat.reduceLeDiff, wdI, wdR, wdN, clM_0, clC_0, clC_1, clC_6, clC_8, true_or, or_true, i10, i01, ob_some, ob_map, cal_v, rvs_some, rvs_none, XO_at, cal_x, m39, r39_0, r39_1, r39_2, r39_3, r39_4, r39_5, r39_8, c64, e']
      exact lx302_1 c64 e2
  · exact c228 hR hH hz (fun hf => JC_pf (by simp) hR.1.1.1 hR.2 hf)
theorem p303 (hV : IV B w m s t y hs le lf F K sc c q cs) : PAIR B x w n 303 [.ref 64, .int u, .int v, .ref 237] 230 [.ref 227, .int u, .int v] m le lf sc := by
  have c64 := (WD_64 hV.1).2.1
  have hR := hV.2.2.2.2.1
  have hH := hV.2.2.2.2.2.1
  refine chg_pair (k := 5) (u := u) (v := v) (z := 0) (code := code5) hV (by simp) (fun w' n' r f h0 hr e hf => ?_) (fun h0 e => ?_) code5_n (fun w' n' z7 hz => ?_)
  · have e2 : RM x 40 [.ref 64, .int u, .int v] w n = some (.inl (some (.int r)), w', n') := by
      simp only [csN, csm_i, csm_r, Nat.reduceAdd, Nat.reduceLeDiff, wdI, wdR, wdN, clM_0, clC_0, clC_1, clC_6, clC_8, true_or, or_true, i10, i01, ob_some, ob_map, cal_v, rvs_some, rvs_none, XO_at, cal_x, m40, r40_0, r40_1, r40_2, r40_3, r40_4, r40_5, r40_8, c64, e]
    exact lw303 c64 e2 hf
  · rcases ft5 (s := s) (c := c) (u := u) (v := v) (z := 0) with h | h | h | h
    · exact absurd h h0
    · rw [h] at e ⊢
      have e' : RM x 89 [.ref 64, .int 5, .int u, .int v, .int (0)] w n = some (.inr "java/lang/IndexOutOfBoundsException", w, n + 1) := e
      have e2 : RM x 40 [.ref 64, .int u, .int v] w n = some (.inr "java/lang/IndexOutOfBoundsException", w, n + 1) := by
        simp only [csN, csm_i, csm_r, Nat.reduceAdd, Nat.reduceLeDiff, wdI, wdR, wdN, clM_0, clC_0, clC_1, clC_6, clC_8, true_or, or_true, i10, i01, ob_some, ob_map, cal_v, rvs_some, rvs_none, XO_at, cal_x, m40, r40_0, r40_1, r40_2, r40_3, r40_4, r40_5, r40_8, c64, e']
      exact lx303_1 c64 e2
    · rw [h] at e ⊢
      have e' : RM x 89 [.ref 64, .int 5, .int u, .int v, .int (0)] w n = some (.inr "java/lang/IllegalArgumentException", w, n + 1) := e
      have e2 : RM x 40 [.ref 64, .int u, .int v] w n = some (.inr "java/lang/IllegalArgumentException", w, n + 1) := by
        simp only [csN, csm_i, csm_r, Nat.reduceAdd, Nat.reduceLeDiff, wdI, wdR, wdN, clM_0, clC_0, clC_1, clC_6, clC_8, true_or, or_true, i10, i01, ob_some, ob_map, cal_v, rvs_some, rvs_none, XO_at, cal_x, m40, r40_0, r40_1, r40_2, r40_3, r40_4, r40_5, r40_8, c64, e']
      exact lx303_2 c64 e2
    · rw [h] at e ⊢
      have e' : RM x 89 [.ref 64, .int 5, .int u, .int v, .int (0)] w n = some (.inr "java/lang/UnsupportedOperationException", w, n + 1) := e
      have e2 : RM x 40 [.ref 64, .int u, .int v] w n = some (.inr "java/lang/UnsupportedOperationException", w, n + 1) := by
        simp only [csN, csm_i, csm_r, Nat.reduceAdd, Nat.reduceLeDiff, wdI, wdR, wdN, clM_0, clC_0, clC_1, clC_6, clC_8, true_or, or_true, i10, i01, ob_some, ob_map, cal_v, rvs_some, rvs_none, XO_at, cal_x, m40, r40_0, r40_1, r40_2, r40_3, r40_4, r40_5, r40_8, c64, e']
      exact lx303_3 c64 e2
  · exact c230 hR hH hz (fun hf => JC_pf (by simp) hR.1.1.1 hR.2 hf)
theorem p304 (hV : IV B w m s t y hs le lf F K sc c q cs) : PAIR B x w n 304 [.ref 64, .int u, .ref 237] 220 [.ref 227, .int u] m le lf sc := by
  have c64 := (WD_64 hV.1).2.1
  have hR := hV.2.2.2.2.1
  have hH := hV.2.2.2.2.2.1
  refine chg_pair (k := 6) (u := u) (v := 0) (z := 0) (code := code0) hV (by simp) (fun w' n' r f h0 hr e hf => ?_) (fun h0 e => ?_) code0_n (fun w' n' z7 hz => ?_)
  · have e2 : RM x 41 [.ref 64, .int u] w n = some (.inl (some (.int r)), w', n') := by
      simp only [csN, csm_i, csm_r, Nat.reduceAdd, Nat.reduceLeDiff, wdI, wdR, wdN, clM_0, clC_0, clC_1, clC_6, clC_8, true_or, or_true, i10, i01, ob_some, ob_map, cal_v, rvs_some, rvs_none, XO_at, cal_x, m41, r41_0, r41_1, r41_3, r41_4, r41_5, r41_6, r41_9, c64, e]
    exact lw304 c64 e2 hf
  · rcases ft6 (s := s) (c := c) (u := u) (v := 0) (z := 0) with h | h
    · exact absurd h h0
    · rw [h] at e ⊢
      have e' : RM x 89 [.ref 64, .int 6, .int u, .int 0, .int (0)] w n = some (.inr "java/util/NoSuchElementException", w, n + 1) := e
      have e2 : RM x 41 [.ref 64, .int u] w n = some (.inr "java/util/NoSuchElementException", w, n + 1) := by
        simp only [csN, csm_i, csm_r, Nat.reduceAdd, Nat.reduceLeDiff, wdI, wdR, wdN, clM_0, clC_0, clC_1, clC_6, clC_8, true_or, or_true, i10, i01, ob_some, ob_map, cal_v, rvs_some, rvs_none, XO_at, cal_x, m41, r41_0, r41_1, r41_3, r41_4, r41_5, r41_6, r41_9, c64, e']
      exact lx304_1 c64 e2
  · exact c220 hR hH hz (fun hf => JC_pf (by simp) hR.1.1.1 hR.2 hf)
theorem p305 (hV : IV B w m s t y hs le lf F K sc c q cs) : PAIR B x w n 305 [.ref 64, .int u, .ref 237] 236 [.ref 227, .int u] m le lf sc := by
  have c64 := (WD_64 hV.1).2.1
  have hR := hV.2.2.2.2.1
  have hH := hV.2.2.2.2.2.1
  refine chg_pair (k := 7) (u := u) (v := 0) (z := 0) (code := code0) hV (by simp) (fun w' n' r f h0 hr e hf => ?_) (fun h0 e => ?_) code0_n (fun w' n' z7 hz => ?_)
  · have e2 : RM x 42 [.ref 64, .int u] w n = some (.inl (some (.int r)), w', n') := by
      simp only [csN, csm_i, csm_r, Nat.reduceAdd, Nat.reduceLeDiff, wdI, wdR, wdN, clM_0, clC_0, clC_1, clC_6, clC_8, true_or, or_true, i10, i01, ob_some, ob_map, cal_v, rvs_some, rvs_none, XO_at, cal_x, m42, r42_0, r42_1, r42_3, r42_4, r42_5, r42_6, r42_9, c64, e]
    exact lw305 c64 e2 hf
  · rcases ft7 (s := s) (c := c) (u := u) (v := 0) (z := 0) with h | h
    · exact absurd h h0
    · rw [h] at e ⊢
      have e' : RM x 89 [.ref 64, .int 7, .int u, .int 0, .int (0)] w n = some (.inr "java/lang/IllegalArgumentException", w, n + 1) := e
      have e2 : RM x 42 [.ref 64, .int u] w n = some (.inr "java/lang/IllegalArgumentException", w, n + 1) := by
        simp only [csN, csm_i, csm_r, Nat.reduceAdd, Nat.reduceLeDiff, wdI, wdR, wdN, clM_0, clC_0, clC_1, clC_6, clC_8, true_or, or_true, i10, i01, ob_some, ob_map, cal_v, rvs_some, rvs_none, XO_at, cal_x, m42, r42_0, r42_1, r42_3, r42_4, r42_5, r42_6, r42_9, c64, e']
      exact lx305_1 c64 e2
  · exact c236 hR hH hz (fun hf => JC_pf (by simp) hR.1.1.1 hR.2 hf)
end CHP
