/-! QUESTIONS about chords, the barge in a reach, the water in all -/
section QRC
set_option maxRecDepth 20000
variable {x : SX} {n b c q B : Nat} {w w' : PW} {m s t y : NS} {hs le lf hc : Int32} {F : Nat → Nat} {K : Nat → NS} {sc : NS} {cs : Nat → Nat} {u v N : Int32}
theorem kj_all : ∀ k, k < 4 → ∀ j, j < 12 → (12 * Int32.ofNat k + Int32.ofNat j) / 12 = Int32.ofNat k ∧ (12 * Int32.ofNat k + Int32.ofNat j) - (12 * Int32.ofNat k + Int32.ofNat j) / 12 * 12 = Int32.ofNat j ∧ ¬ 12 * Int32.ofNat k + Int32.ofNat j = -1 := by decide +kernel
theorem nt_all : ntO (Int32.ofNat 0) = 145 ∧ ntO (Int32.ofNat 1) = 137 ∧ ntO (Int32.ofNat 2) = 73 ∧ ntO (Int32.ofNat 3) = 273 := by decide
theorem lt_all : ltO (Int32.ofNat 0) = 77 ∧ ltO (Int32.ofNat 1) = 109 ∧ ltO (Int32.ofNat 2) = 100 ∧ ltO (Int32.ofNat 3) = 97 := by decide
theorem rt_ex {pat N : Int32} (h : ¬ rt pat N = -1) : ∃ j, j < 12 ∧ rt pat N = Int32.ofNat j := by
  rcases rt_lt (pat := pat) (N := N) with h1 | ⟨j, h1, h2, -⟩
  · exact absurd h1 h
  · exact ⟨j, h1, h2⟩
theorem ch_cases (N : Int32) : (chK N 4 0 = -1 ∧ kdC N = 45) ∨ ∃ k j, k < 4 ∧ j < 12 ∧ chK N 4 0 = 12 * Int32.ofNat k + Int32.ofNat j ∧ kdC N = ltO (Int32.ofNat k) ∧ rt (ntO (Int32.ofNat k)) N = Int32.ofNat j := by
  obtain ⟨n0, n1, n2, n3⟩ := nt_all
  obtain ⟨t0, t1, t2, t3⟩ := lt_all
  rw [chK_s, n0]
  unfold kdC
  by_cases h0 : rt 145 N = -1
  · rw [if_pos h0, if_neg (fun h => h h0), chK_s, n1]
    by_cases h1 : rt 137 N = -1
    · rw [if_pos h1, if_neg (fun h => h h1), chK_s, n2]
      by_cases h2 : rt 73 N = -1
      · rw [if_pos h2, if_neg (fun h => h h2), chK_s, n3]
        by_cases h3 : rt 273 N = -1
        · rw [if_pos h3, if_neg (fun h => h h3)]
          exact Or.inl ⟨rfl, rfl⟩
        · obtain ⟨j, hj, e⟩ := rt_ex h3
          rw [if_neg h3, if_pos h3, e]
          exact Or.inr ⟨3, j, by omega, hj, rfl, t3.symm, by rw [n3]; exact e⟩
      · obtain ⟨j, hj, e⟩ := rt_ex h2
        rw [if_neg h2, if_pos h2, e]
        exact Or.inr ⟨2, j, by omega, hj, rfl, t2.symm, by rw [n2]; exact e⟩
    · obtain ⟨j, hj, e⟩ := rt_ex h1
      rw [if_neg h1, if_pos h1, e]
      exact Or.inr ⟨1, j, by omega, hj, rfl, t1.symm, by rw [n1]; exact e⟩
  · obtain ⟨j, hj, e⟩ := rt_ex h0
    rw [if_neg h0, if_pos h0, e]
    exact Or.inr ⟨0, j, by omega, hj, rfl, t0.symm, by rw [n0]; exact e⟩
theorem kdC_ch : isCh (kdC N) := by
  unfold kdC isCh
  repeat' split
  all_goals decide
theorem c91_t (h : rI u 0 4095 = true) : RM x 91 [.int u] w n = some (.inl none, w, n) := by
  unfold rI at h
  rw [Bool.and_eq_true] at h
  have h1 : ¬ u < 0 := by simpa using h.1
  have h2 : ¬ 4095 < u := by simpa using h.2
  simp only [csN, csm_i, csm_r, Nat.reduceAdd, Nat.reduceLeDiff, wdI, wdR, wdN, clM_0, clC_0, clC_1, clC_6, clC_8, true_or, or_true, i10, i01, ob_some, ob_map, cal_v, rvs_some, rvs_none, XO_at, cal_x, m91, r91_0, r91_1, r91_4, r91_5, r91_8, r91_11, r91_22, h1, h2, if_false]
theorem c91_f (h : rI u 0 4095 = false) : RM x 91 [.int u] w n = some (.inr "java/lang/IllegalArgumentException", w, n + 1) := by
  unfold rI at h
  by_cases h1 : u < 0
  · simp only [csN, csm_i, csm_r, Nat.reduceAdd, Nat.reduceLeDiff, wdI, wdR, wdN, clM_0, clC_0, clC_1, clC_6, clC_8, true_or, or_true, i10, i01, ob_some, ob_map, cal_v, rvs_some, rvs_none, XO_at, cal_x, m91, r91_0, r91_1, r91_4, r91_5, r91_8, r91_11, r91_22, h1, if_true]
  · rw [decide_eq_false h1, Bool.not_false, Bool.true_and] at h
    have h2 : 4095 < u := by simpa using h
    simp only [csN, csm_i, csm_r, Nat.reduceAdd, Nat.reduceLeDiff, wdI, wdR, wdN, clM_0, clC_0, clC_1, clC_6, clC_8, true_or, or_true, i10, i01, ob_some, ob_map, cal_v, rvs_some, rvs_none, XO_at, cal_x, m91, r91_0, r91_1, r91_4, r91_5, r91_8, r91_11, r91_22, h1, h2, if_true, if_false]
theorem c237_t (h : rI u 0 4095 = true) : RM x 237 [.ref b, .int u] (setM w b m) n = some (.inl (some (.int (kdC u))), setM w b (us m 20 13 0), n) := by
  have e0 : us m 20 13 0 20 13 = 0 := by rw [us_at, if_pos rfl, if_pos rfl]
  have z0 : ¬ (0 : Int32) < 0 := by decide
  have z12 : ¬ (12 : Int32) = 0 := by decide
  have hch := kdC_ch (N := u)
  rcases ch_cases u with ⟨h1, h2⟩ | ⟨k, j, hk, hj, h1, h2, -⟩
  · rw [h2] at hch ⊢
    simp only [csN, csm_i, csm_r, Nat.reduceAdd, Nat.reduceLeDiff, wdI, wdR, wdN, clM_0, clC_0, clC_1, clC_6, clC_8, true_or, or_true, i10, i01, ob_some, ob_map, cal_v, rvs_some, rvs_none, XO_at, cal_x, m237, r237_0, r237_1, r237_2, r237_3, r237_6, r237_9, r237_12, r237_13, r237_16, r237_17, r237_20, r237_21, r237_24, r237_25, r237_26, r237_29, r237_32, r237_33, r237_36, r237_37, r237_38, r237_41, r237_43, r237_46, r237_47, r237_49, r237_50, c193, h, bi_t, if_false, pM_0_13, gM_0_13, e0, z0, c206, h1, if_true]
    exact r237_53 hch
  · obtain ⟨a1, -, a3⟩ := kj_all k hk j hj
    rw [h2] at hch ⊢
    simp only [csN, csm_i, csm_r, Nat.reduceAdd, Nat.reduceLeDiff, wdI, wdR, wdN, clM_0, clC_0, clC_1, clC_6, clC_8, true_or, or_true, i10, i01, ob_some, ob_map, cal_v, rvs_some, rvs_none, XO_at, cal_x, m237, r237_0, r237_1, r237_2, r237_3, r237_6, r237_9, r237_12, r237_13, r237_16, r237_17, r237_20, r237_21, r237_24, r237_25, r237_26, r237_29, r237_32, r237_33, r237_36, r237_37, r237_38, r237_41, r237_43, r237_46, r237_47, r237_49, r237_50, c193, h, bi_t, if_false, pM_0_13, gM_0_13, e0, z0, z12, c206, h1, a1, a3, c207, not_false_eq_true]
    exact r237_53 hch
theorem c237_f (h : rI u 0 4095 = false) : RM x 237 [.ref b, .int u] (setM w b m) n = some (.inl (some (.int 0)), setM w b (us m 20 13 1), n) := by
  have e0 : us m 20 13 1 20 13 = 1 := by rw [us_at, if_pos rfl, if_pos rfl]
  have z1 : (0 : Int32) < 1 := by decide
  simp only [csN, csm_i, csm_r, Nat.reduceAdd, Nat.reduceLeDiff, wdI, wdR, wdN, clM_0, clC_0, clC_1, clC_6, clC_8, true_or, or_true, i10, i01, ob_some, ob_map, cal_v, rvs_some, rvs_none, XO_at, cal_x, m237, r237_0, r237_1, r237_2, r237_3, r237_6, r237_9, r237_12, r237_13, r237_16, r237_17, r237_20, r237_21, r237_24, r237_25, r237_26, r237_29, r237_32, r237_33, r237_36, r237_37, r237_38, r237_41, r237_43, r237_46, r237_47, r237_49, r237_50, c193, h, bi_f, if_true, pM_0_13, gM_0_13, e0, z1, c206]
  exact r237_53 (by decide)
theorem p306 (hV : IV B w m s t y hs le lf F K sc c q cs) : PAIR B x w n 306 [.ref 64, .int u, .ref 237] 237 [.ref 227, .int u] m le lf sc := by
  obtain ⟨-, c64, -⟩ := WD_64 hV.1
  cases h : rI u 0 4095 with
  | true =>
    have e1 := c91_t (x := x) (n := n) (w := w) h
    have e3 : RM x 43 [.ref 64, .int u] w n = some (.inl (some (.int (kdC u))), w, n) := by
      simp only [csN, csm_i, csm_r, Nat.reduceAdd, Nat.reduceLeDiff, wdI, wdR, wdN, clM_0, clC_0, clC_1, clC_6, clC_8, true_or, or_true, i10, i01, ob_some, ob_map, cal_v, rvs_some, rvs_none, XO_at, cal_x, m43, r43_0, r43_1, r43_4, r43_5, e1, c114]
      exact r43_8 kdC_ch
    exact q_ok hV (fun f hf => lw306 c64 e3 hf) (fun w' n' => c237_t h)
  | false =>
    have e1 := c91_f (x := x) (n := n) (w := w) h
    have e3 : RM x 43 [.ref 64, .int u] w n = some (.inr "java/lang/IllegalArgumentException", w, n + 1) := by
      simp only [csN, csm_i, csm_r, Nat.reduceAdd, Nat.reduceLeDiff, wdI, wdR, wdN, clM_0, clC_0, clC_1, clC_6, clC_8, true_or, or_true, i10, i01, ob_some, ob_map, cal_v, rvs_some, rvs_none, XO_at, cal_x, m43, r43_0, r43_1, r43_4, r43_5, e1]
    exact q_ex hV (by decide) (lx306_1 c64 e3) (fun w' n' => c237_f h)
theorem p308 (hV : IV B w m s t y hs le lf F K sc c q cs) : PAIR B x w n 308 [.ref 64, .int u, .ref 237] 239 [.ref 227, .int u] m le lf sc := by
  obtain ⟨-, c64, -⟩ := WD_64 hV.1
  cases h : rI u 0 4095 with
  | true =>
    have e1 := c91_t (x := x) (n := n) (w := w) h
    have z12 : ¬ (12 : Int32) = 0 := by decide
    rcases ch_cases u with ⟨h1, h2⟩ | ⟨k, j, hk, hj, h1, h2, h3⟩
    · have e3 : RM x 45 [.ref 64, .int u] w n = some (.inr "java/util/NoSuchElementException", w, n + 1) := by
        simp only [csN, csm_i, csm_r, Nat.reduceAdd, Nat.reduceLeDiff, wdI, wdR, wdN, clM_0, clC_0, clC_1, clC_6, clC_8, true_or, or_true, i10, i01, ob_some, ob_map, cal_v, rvs_some, rvs_none, XO_at, cal_x, m45, r45_0, r45_1, r45_4, r45_5, r45_8, r45_9, r45_10, r45_12, r45_15, r45_25, r45_26, r45_29, r45_30, r45_33, e1, c114, h2, if_true]
      exact q_ex (r := 0) hV (by decide) (lx308_2 c64 e3) (fun w' n' => by
        simp only [csN, csm_i, csm_r, Nat.reduceAdd, Nat.reduceLeDiff, wdI, wdR, wdN, clM_0, clC_0, clC_1, clC_6, clC_8, true_or, or_true, i10, i01, ob_some, ob_map, cal_v, rvs_some, rvs_none, XO_at, cal_x, m239, r239_0, r239_1, r239_2, r239_5, r239_8, r239_11, r239_12, r239_13, r239_16, r239_17, r239_18, r239_21, r239_22, r239_23, r239_24, r239_27, r239_28, r239_29, r239_32, r239_35, r239_36, r239_37, r239_39, r239_40, r239_43, c193, h, bi_t, if_false, c206, h1, if_true, c196])
    · obtain ⟨-, a2, a3⟩ := kj_all k hk j hj
      have h4 : ¬ kdC u = 45 := by
        rw [h2]
        have : k = 0 ∨ k = 1 ∨ k = 2 ∨ k = 3 := by omega
        rcases this with rfl | rfl | rfl | rfl <;> decide
      have h5 : patO (kdC u) = ntO (Int32.ofNat k) := by rw [h2]; exact pat_lt k hk
      have e3 : RM x 45 [.ref 64, .int u] w n = some (.inl (some (.int (Int32.ofNat j))), w, n) := by
        simp only [csN, csm_i, csm_r, Nat.reduceAdd, Nat.reduceLeDiff, wdI, wdR, wdN, clM_0, clC_0, clC_1, clC_6, clC_8, true_or, or_true, i10, i01, ob_some, ob_map, cal_v, rvs_some, rvs_none, XO_at, cal_x, m45, r45_0, r45_1, r45_4, r45_5, r45_8, r45_9, r45_10, r45_12, r45_15, r45_25, r45_26, r45_29, r45_30, r45_33, e1, c114, h4, if_false, c112, h5, c113, h3]
      exact q_ok hV (fun f hf => lw308 c64 e3 hf) (fun w' n' => by
        simp only [csN, csm_i, csm_r, Nat.reduceAdd, Nat.reduceLeDiff, wdI, wdR, wdN, clM_0, clC_0, clC_1, clC_6, clC_8, true_or, or_true, i10, i01, ob_some, ob_map, cal_v, rvs_some, rvs_none, XO_at, cal_x, m239, r239_0, r239_1, r239_2, r239_5, r239_8, r239_11, r239_12, r239_13, r239_16, r239_17, r239_18, r239_21, r239_22, r239_23, r239_24, r239_27, r239_28, r239_29, r239_32, r239_35, r239_36, r239_37, r239_39, r239_40, r239_43, c193, h, bi_t, if_false, c206, h1, a2, a3, z12, c195, not_false_eq_true])
  | false =>
    have e1 := c91_f (x := x) (n := n) (w := w) h
    have e3 : RM x 45 [.ref 64, .int u] w n = some (.inr "java/lang/IllegalArgumentException", w, n + 1) := by
      simp only [csN, csm_i, csm_r, Nat.reduceAdd, Nat.reduceLeDiff, wdI, wdR, wdN, clM_0, clC_0, clC_1, clC_6, clC_8, true_or, or_true, i10, i01, ob_some, ob_map, cal_v, rvs_some, rvs_none, XO_at, cal_x, m45, r45_0, r45_1, r45_4, r45_5, r45_8, r45_9, r45_10, r45_12, r45_15, r45_25, r45_26, r45_29, r45_30, r45_33, e1]
    exact q_ex (r := 0) hV (by decide) (lx308_1 c64 e3) (fun w' n' => by
      simp only [csN, csm_i, csm_r, Nat.reduceAdd, Nat.reduceLeDiff, wdI, wdR, wdN, clM_0, clC_0, clC_1, clC_6, clC_8, true_or, or_true, i10, i01, ob_some, ob_map, cal_v, rvs_some, rvs_none, XO_at, cal_x, m239, r239_0, r239_1, r239_2, r239_5, r239_8, r239_11, r239_12, r239_13, r239_16, r239_17, r239_18, r239_21, r239_22, r239_23, r239_24, r239_27, r239_28, r239_29, r239_32, r239_35, r239_36, r239_37, r239_39, r239_40, r239_43, c193, h, bi_f, if_true, c196])
/-! the barge in a reach -/
theorem idA_s {f g : Nat → Int32} {v pos k : Int32} {d i : Nat} : idA f g v pos (d + 1) i k = if f i = v then (if k = pos then g i else idA f g v pos d (i + 1) (k + 1)) else idA f g v pos d (i + 1) k := rfl
theorem l254 (hR : RelH s (m 1) c) (hid : ∀ j, j < c → ¬ s 9 j = -1) (d : Nat) : ∀ (i : Nat) (k : Int32), i + d = c → RC x 254 18 [some (.ref b), some (.int u), some (.int v), some (.int k), some (.int (Int32.ofNat i))] [] (setM w b m) n =
    if idA (s 12) (s 9) u v d i k = -1 then some (.inl (some (.int 0)), setM w b (us m 20 13 2), n) else some (.inl (some (.int (idA (s 12) (s 9) u v d i k))), setM w b (us m 20 13 0), n) := by
  have h8 := hR.1.1.2.1
  have k3 : fin 84 3 = some 3 := fin_lit (by decide) (by decide)
  have e3 := hR.2.2.1
  induction d with
  | zero =>
    intro i k hi
    obtain rfl : i = c := by omega
    rw [r254_18]
    have h1 : ¬ Int32.ofNat i < Int32.ofNat i := by rw [i_lt (by omega) (by omega)]; omega
    have h2 : idA (s 12) (s 9) u v 0 i k = -1 := rfl
    simp only [csN, csm_i, csm_r, Nat.reduceAdd, Nat.reduceLeDiff, wdI, wdR, wdN, clM_0, clC_0, clC_1, clC_6, clC_8, true_or, or_true, i10, i01, ob_some, ob_map, cal_v, rvs_some, rvs_none, XO_at, cal_x, m254, r254_0, r254_1, r254_4, r254_7, r254_8, r254_9, r254_12, r254_13, r254_14, r254_15, r254_16, r254_20, r254_21, r254_24, r254_25, r254_26, r254_29, r254_30, r254_33, r254_35, r254_37, r254_38, r254_39, r254_40, r254_43, r254_44, r254_45, r254_48, r254_49, r254_50, r254_53, r254_55, r254_57, r254_58, r254_59, r254_62, r254_63, r254_66, r254_69, r254_72, r254_73, r254_74, r254_77, gM_0_0, lM_1, k3, Option.map_some, e3, h1, if_false, h2, if_true, c196]
  | succ d ih =>
    intro i k hi
    rw [r254_18]
    have h1 : Int32.ofNat i < Int32.ofNat c := nlt (by omega) (by omega) (by omega)
    have h2 : Int32.ofNat i + 1 = Int32.ofNat (i + 1) := i_add (b := 1)
    have h3 : (76 : Int32) + Int32.ofNat i = Int32.ofNat (76 + i) := i_add (a := 76)
    have h4 : fin 84 (Int32.ofNat (76 + i)) = some (76 + i) := fin_nat (by omega) (by omega)
    have h5 : (44 : Int32) + Int32.ofNat i = Int32.ofNat (44 + i) := i_add (a := 44)
    have h6 : fin 84 (Int32.ofNat (44 + i)) = some (44 + i) := fin_nat (by omega) (by omega)
    have hB := hR.2.2.2 i (by omega)
    have e12 := hB.2.2.2.1.symm
    have e9 := hB.1.symm
    have a1 := ih (i + 1) k (by omega)
    have a2 := ih (i + 1) (k + 1) (by omega)
    rw [idA_s]
    by_cases g1 : s 12 i = u
    · by_cases g2 : k = v
      · subst g2
        have hidi := hid i (by omega)
        simp only [csN, csm_i, csm_r, Nat.reduceAdd, Nat.reduceLeDiff, wdI, wdR, wdN, clM_0, clC_0, clC_1, clC_6, clC_8, true_or, or_true, i10, i01, ob_some, ob_map, cal_v, rvs_some, rvs_none, XO_at, cal_x, m254, r254_0, r254_1, r254_4, r254_7, r254_8, r254_9, r254_12, r254_13, r254_14, r254_15, r254_16, r254_20, r254_21, r254_24, r254_25, r254_26, r254_29, r254_30, r254_33, r254_35, r254_37, r254_38, r254_39, r254_40, r254_43, r254_44, r254_45, r254_48, r254_49, r254_50, r254_53, r254_55, r254_57, r254_58, r254_59, r254_62, r254_63, r254_66, r254_69, r254_72, r254_73, r254_74, r254_77, gM_0_0, lM_1, k3, Option.map_some, e3, h1, h3, h4, h5, h6, e12, e9, g1, if_true, hidi, if_false, c195]
      · simp only [csN, csm_i, csm_r, Nat.reduceAdd, Nat.reduceLeDiff, wdI, wdR, wdN, clM_0, clC_0, clC_1, clC_6, clC_8, true_or, or_true, i10, i01, ob_some, ob_map, cal_v, rvs_some, rvs_none, XO_at, cal_x, m254, r254_0, r254_1, r254_4, r254_7, r254_8, r254_9, r254_12, r254_13, r254_14, r254_15, r254_16, r254_20, r254_21, r254_24, r254_25, r254_26, r254_29, r254_30, r254_33, r254_35, r254_37, r254_38, r254_39, r254_40, r254_43, r254_44, r254_45, r254_48, r254_49, r254_50, r254_53, r254_55, r254_57, r254_58, r254_59, r254_62, r254_63, r254_66, r254_69, r254_72, r254_73, r254_74, r254_77, gM_0_0, lM_1, k3, Option.map_some, e3, h1, h2, h3, h4, h5, h6, e12, e9, g1, g2, if_true, if_false]
        exact a2
    · simp only [csN, csm_i, csm_r, Nat.reduceAdd, Nat.reduceLeDiff, wdI, wdR, wdN, clM_0, clC_0, clC_1, clC_6, clC_8, true_or, or_true, i10, i01, ob_some, ob_map, cal_v, rvs_some, rvs_none, XO_at, cal_x, m254, r254_0, r254_1, r254_4, r254_7, r254_8, r254_9, r254_12, r254_13, r254_14, r254_15, r254_16, r254_20, r254_21, r254_24, r254_25, r254_26, r254_29, r254_30, r254_33, r254_35, r254_37, r254_38, r254_39, r254_40, r254_43, r254_44, r254_45, r254_48, r254_49, r254_50, r254_53, r254_55, r254_57, r254_58, r254_59, r254_62, r254_63, r254_66, r254_69, r254_72, r254_73, r254_74, r254_77, gM_0_0, lM_1, k3, Option.map_some, e3, h1, h2, h3, h4, h5, h6, e12, e9, g1, if_true, if_false]
      exact a1
theorem IDV_m1 (h : IDV B s c) (hB : B < 2147483648) : ∀ j, j < c → ¬ s 9 j = -1 := by
  obtain ⟨N, h1, -, h3⟩ := h
  intro j hj
  obtain ⟨a, ha, e⟩ := h3 j hj
  rw [e]
  exact ofN_m1 (by omega)
theorem p320 (hV : IV B w m s t y hs le lf F K sc c q cs) (hB : B < 2147483648) : PAIR B x w n 320 [.ref 64, .int u, .int v, .ref 237] 254 [.ref 227, .int u, .int v] m le lf sc := by
  have hW := hV.1
  have hRH := hV.2.2.2.2.1.1.1
  have hid := IDV_m1 hV.2.2.2.2.2.2.2.2.1 hB
  obtain ⟨⟨g0, -⟩, c64, -⟩ := WD_64 hW
  obtain ⟨-, -, k2, -, -, -, -, -, -, -, -, l8⟩ := WD_r hW
  cases h : rg u 6 with
  | true =>
    have e1 := c94_t (x := x) (n := n) (w := w) h
    have e2 : RM x 135 [.ref 73, .int u, .int v] w n = some (.inl (some (.int (idA (s 12) (s 9) u v c 0 0))), w, n) := by
      have k := c135 (x := x) (n := n) (b := 65) (w := w) (u := u) (v := v) hRH.1.1.1 hRH.1.1.2.1
      rw [(WD_c hW).1] at k
      exact k
    have hm := fun (w' : PW) (n' : Nat) => l254 (x := x) (n := n') (b := 227) (w := w') (u := u) (v := v) hRH hid c 0 0 (by omega)
    by_cases g : idA (s 12) (s 9) u v c 0 0 = -1
    · have e3 : RM x 57 [.ref 64, .int u, .int v] w n = some (.inr "java/util/NoSuchElementException", w, n + 1) := by
        simp only [csN, csm_i, csm_r, Nat.reduceAdd, Nat.reduceLeDiff, wdI, wdR, wdN, clM_0, clC_0, clC_1, clC_6, clC_8, true_or, or_true, i10, i01, ob_some, ob_map, cal_v, rvs_some, rvs_none, XO_at, cal_x, m57, r57_0, r57_1, r57_4, r57_5, r57_8, r57_11, r57_12, r57_13, r57_16, r57_17, r57_18, r57_19, r57_22, r57_32, r57_33, e1, g0, k2, l8, e2, g, if_true]
      exact q_ex (r := 0) hV (by decide) (lx320_2 c64 e3) (fun w' n' => by
        have hm := hm w' n'
        rw [if_pos g] at hm
        simp only [csN, csm_i, csm_r, Nat.reduceAdd, Nat.reduceLeDiff, wdI, wdR, wdN, clM_0, clC_0, clC_1, clC_6, clC_8, true_or, or_true, i10, i01, ob_some, ob_map, cal_v, rvs_some, rvs_none, XO_at, cal_x, m254, r254_0, r254_1, r254_4, r254_7, r254_8, r254_9, r254_12, r254_13, r254_14, r254_15, r254_16, r254_20, r254_21, r254_24, r254_25, r254_26, r254_29, r254_30, r254_33, r254_35, r254_37, r254_38, r254_39, r254_40, r254_43, r254_44, r254_45, r254_48, r254_49, r254_50, r254_53, r254_55, r254_57, r254_58, r254_59, r254_62, r254_63, r254_66, r254_69, r254_72, r254_73, r254_74, r254_77, c202, h, bi_t, if_false]
        exact hm)
    · have e3 : RM x 57 [.ref 64, .int u, .int v] w n = some (.inl (some (.int (idA (s 12) (s 9) u v c 0 0))), w, n) := by
        simp only [csN, csm_i, csm_r, Nat.reduceAdd, Nat.reduceLeDiff, wdI, wdR, wdN, clM_0, clC_0, clC_1, clC_6, clC_8, true_or, or_true, i10, i01, ob_some, ob_map, cal_v, rvs_some, rvs_none, XO_at, cal_x, m57, r57_0, r57_1, r57_4, r57_5, r57_8, r57_11, r57_12, r57_13, r57_16, r57_17, r57_18, r57_19, r57_22, r57_32, r57_33, e1, g0, k2, l8, e2, g, if_false]
      exact q_ok hV (fun f hf => lw320 c64 e3 hf) (fun w' n' => by
        have hm := hm w' n'
        rw [if_neg g] at hm
        simp only [csN, csm_i, csm_r, Nat.reduceAdd, Nat.reduceLeDiff, wdI, wdR, wdN, clM_0, clC_0, clC_1, clC_6, clC_8, true_or, or_true, i10, i01, ob_some, ob_map, cal_v, rvs_some, rvs_none, XO_at, cal_x, m254, r254_0, r254_1, r254_4, r254_7, r254_8, r254_9, r254_12, r254_13, r254_14, r254_15, r254_16, r254_20, r254_21, r254_24, r254_25, r254_26, r254_29, r254_30, r254_33, r254_35, r254_37, r254_38, r254_39, r254_40, r254_43, r254_44, r254_45, r254_48, r254_49, r254_50, r254_53, r254_55, r254_57, r254_58, r254_59, r254_62, r254_63, r254_66, r254_69, r254_72, r254_73, r254_74, r254_77, c202, h, bi_t, if_false]
        exact hm)
  | false =>
    have e1 := c94_f (x := x) (n := n) (w := w) h
    have e3 : RM x 57 [.ref 64, .int u, .int v] w n = some (.inr "java/lang/IndexOutOfBoundsException", w, n + 1) := by
      simp only [csN, csm_i, csm_r, Nat.reduceAdd, Nat.reduceLeDiff, wdI, wdR, wdN, clM_0, clC_0, clC_1, clC_6, clC_8, true_or, or_true, i10, i01, ob_some, ob_map, cal_v, rvs_some, rvs_none, XO_at, cal_x, m57, r57_0, r57_1, r57_4, r57_5, r57_8, r57_11, r57_12, r57_13, r57_16, r57_17, r57_18, r57_19, r57_22, r57_32, r57_33, e1]
    exact q_ex (r := 0) hV (by decide) (lx320_1 c64 e3) (fun w' n' => by
      simp only [csN, csm_i, csm_r, Nat.reduceAdd, Nat.reduceLeDiff, wdI, wdR, wdN, clM_0, clC_0, clC_1, clC_6, clC_8, true_or, or_true, i10, i01, ob_some, ob_map, cal_v, rvs_some, rvs_none, XO_at, cal_x, m254, r254_0, r254_1, r254_4, r254_7, r254_8, r254_9, r254_12, r254_13, r254_14, r254_15, r254_16, r254_20, r254_21, r254_24, r254_25, r254_26, r254_29, r254_30, r254_33, r254_35, r254_37, r254_38, r254_39, r254_40, r254_43, r254_44, r254_45, r254_48, r254_49, r254_50, r254_53, r254_55, r254_57, r254_58, r254_59, r254_62, r254_63, r254_66, r254_69, r254_72, r254_73, r254_74, r254_77, c202, h, bi_f, if_true, c196])
/-! the water in all -/
theorem l268 (hR : RS s (m 1)) (d : Nat) : ∀ i, i + d = 6 → RC x 268 4 [some (.ref b), some (.int (sumTo (s 7) i)), some (.int (Int32.ofNat i))] [] (setM w b m) n = some (.inl (some (.int (sumTo (s 7) 6))), setM w b (us m 20 13 0), n) := by
  induction d with
  | zero =>
    intro i hi
    obtain rfl : i = 6 := by omega
    rw [r268_4]
    have h1 : ¬ Int32.ofNat 6 < (6 : Int32) := by decide
    simp only [csN, csm_i, csm_r, Nat.reduceAdd, Nat.reduceLeDiff, wdI, wdR, wdN, clM_0, clC_0, clC_1, clC_6, clC_8, true_or, or_true, i10, i01, ob_some, ob_map, cal_v, rvs_some, rvs_none, XO_at, cal_x, m268, r268_0, r268_1, r268_2, r268_3, r268_5, r268_7, r268_10, r268_11, r268_12, r268_15, r268_17, r268_18, r268_19, r268_20, r268_21, r268_22, r268_25, r268_28, r268_29, r268_30, r268_33, h1, if_false, c195]
  | succ d ih =>
    intro i hi
    rw [r268_4]
    have h1 : Int32.ofNat i < (6 : Int32) := nlt (N := 6) (by omega) (by omega) (by omega)
    have h2 : Int32.ofNat i + 1 = Int32.ofNat (i + 1) := i_add (b := 1)
    have h3 : (8 : Int32) + Int32.ofNat i = Int32.ofNat (8 + i) := i_add (a := 8)
    have h4 : fin 84 (Int32.ofNat (8 + i)) = some (8 + i) := fin_nat (by omega) (by omega)
    have e := (hR.2.1 i (by omega)).symm
    have hh := ih (i + 1) (by omega)
    simp only [csN, csm_i, csm_r, Nat.reduceAdd, Nat.reduceLeDiff, wdI, wdR, wdN, clM_0, clC_0, clC_1, clC_6, clC_8, true_or, or_true, i10, i01, ob_some, ob_map, cal_v, rvs_some, rvs_none, XO_at, cal_x, m268, r268_0, r268_1, r268_2, r268_3, r268_5, r268_7, r268_10, r268_11, r268_12, r268_15, r268_17, r268_18, r268_19, r268_20, r268_21, r268_22, r268_25, r268_28, r268_29, r268_30, r268_33, h1, if_true, gM_0_0, lM_1, h2, h3, h4, Option.map_some, e]
    exact hh
theorem c268 (hR : RS s (m 1)) : RM x 268 [.ref b] (setM w b m) n = some (.inl (some (.int (sumTo (s 7) 6))), setM w b (us m 20 13 0), n) := by
  simp only [csN, csm_i, csm_r, Nat.reduceAdd, Nat.reduceLeDiff, wdI, wdR, wdN, clM_0, clC_0, clC_1, clC_6, clC_8, true_or, or_true, i10, i01, ob_some, ob_map, cal_v, rvs_some, rvs_none, XO_at, cal_x, m268, r268_0, r268_1, r268_2, r268_3, r268_5, r268_7, r268_10, r268_11, r268_12, r268_15, r268_17, r268_18, r268_19, r268_20, r268_21, r268_22, r268_25, r268_28, r268_29, r268_30, r268_33]
  exact l268 hR 6 0 rfl
theorem p70 (hV : IV B w m s t y hs le lf F K sc c q cs) : SAME B x w n 70 [.ref 64] 268 [.ref 227] m le lf sc := by
  have hW := hV.1
  obtain ⟨⟨g0, -⟩, -⟩ := WD_64 hW
  obtain ⟨-, k1, -, -, -, -, -, -, -, -, l4, -⟩ := WD_r hW
  have e : RM x 172 [.ref 71] w n = some (.inl (some (.int (sumTo (s 7) 6))), w, n) := by
    have k := c172 (x := x) (n := n) (b := 65) (w := w) (s := s)
    rw [(WD_c hW).1] at k
    exact k
  refine q_same hV ?_ (fun w' n' => c268 hV.2.2.2.2.1.1.1.2.1)
  simp only [csN, csm_i, csm_r, Nat.reduceAdd, Nat.reduceLeDiff, wdI, wdR, wdN, clM_0, clC_0, clC_1, clC_6, clC_8, true_or, or_true, i10, i01, ob_some, ob_map, cal_v, rvs_some, rvs_none, XO_at, cal_x, m70, r70_0, r70_1, r70_4, r70_7, r70_10, g0, k1, l4, e]
theorem acc_eq (h : JC s c) : 360 + s 20 11 + s 20 12 - s 20 13 = sumTo (s 7) 6 := by
  rw [← h.2.1, Int32.add_sub_cancel]
theorem p71 (hV : IV B w m s t y hs le lf F K sc c q cs) : SAME B x w n 71 [.ref 64] 269 [.ref 227] m le lf sc := by
  have hW := hV.1
  obtain ⟨⟨g0, -⟩, -⟩ := WD_64 hW
  obtain ⟨-, k1, -, -, -, -, -, -, -, -, l4, -⟩ := WD_r hW
  have e : RM x 173 [.ref 71] w n = some (.inl (some (.int (sumTo (s 7) 6))), w, n) := by
    have k := c173 (x := x) (n := n) (b := 65) (w := w) (s := s)
    rw [(WD_c hW).1, acc_eq hV.2.2.2.2.1.2] at k
    exact k
  refine q_same (r := sumTo (s 7) 6) hV ?_ (fun w' n' => ?_)
  · simp only [csN, csm_i, csm_r, Nat.reduceAdd, Nat.reduceLeDiff, wdI, wdR, wdN, clM_0, clC_0, clC_1, clC_6, clC_8, true_or, or_true, i10, i01, ob_some, ob_map, cal_v, rvs_some, rvs_none, XO_at, cal_x, m71, r71_0, r71_1, r71_4, r71_7, r71_10, g0, k1, l4, e]
  · have k := c268 (x := x) (n := n') (b := 227) (w := w') (m := m) (s := s) hV.2.2.2.2.1.1.1.2.1
    simp only [csN, csm_i, csm_r, Nat.reduceAdd, Nat.reduceLeDiff, wdI, wdR, wdN, clM_0, clC_0, clC_1, clC_6, clC_8, true_or, or_true, i10, i01, ob_some, ob_map, cal_v, rvs_some, rvs_none, XO_at, cal_x, m269, r269_0, r269_1, r269_4, k]
end QRC
