/-! THE MODEL undoes, saves, restores -/
section MUS
set_option maxRecDepth 20000
variable {x : SX} {n b c q : Nat} {w : PW} {m s : NS} {K : Nat → NS} {cs : Nat → Nat}
theorem c295_0 (h0 : m 20 4 = 0) : RM x 295 [.ref b] (setM w b m) n = some (.inl (some (.int 0)), setM w b (us m 20 13 1), n) := by
  simp only [csN, csm_i, csm_r, Nat.reduceAdd, Nat.reduceLeDiff, wdI, wdR, wdN, clM_0, clC_0, clC_1, clC_6, clC_8, true_or, or_true, i10, i01, ob_some, ob_map, cal_v, rvs_some, rvs_none, XO_at, cal_x, m295, r295_0, r295_1, r295_4, r295_7, r295_8, r295_9, r295_12, r295_13, r295_14, r295_15, r295_18, r295_19, r295_20, r295_23, r295_24, r295_27, r295_28, r295_31, r295_33, r295_34, r295_35, r295_38, r295_39, r295_42, r295_43, r295_44, r295_47, r295_50, gM_0_4, h0, if_true, c196]
theorem c295_1 (hH : HM m q K cs) (hq : 0 < q) : ∃ m', RM x 295 [.ref b] (setM w b m) n = some (.inl (some (.int (Int32.ofNat (q - 1)))), setM w b m', n) ∧ RJ (K 0) (m' 1) (cs 0) ∧ HM m' (q - 1) (K2 K) (fun j => cs (j + 1)) ∧ m' 20 13 = 0 ∧ Keep m m' := by
  obtain ⟨h8, h4, hK⟩ := hH
  obtain ⟨z, hz⟩ : ∃ z, z = Int32.ofNat (q - 1) := ⟨_, rfl⟩
  obtain ⟨m1, hm1⟩ : ∃ m1, m1 = us m 20 4 z := ⟨_, rfl⟩
  have hms := hm1.symm
  have a1 : ∀ j, ¬ j = 20 → m1 j = m j := fun j hj => by rw [hm1, us_ne hj]
  have h0 : ¬ m 20 4 = 0 := fun e => by rw [h4] at e; have := i_inj (a := q) (b := 0) (by omega) (by omega) e; omega
  have e1 : m 20 4 - 1 = z := by rw [h4, hz]; exact i_subR (k := 1) (by omega)
  have e2 : z * 84 = Int32.ofNat ((q - 1) * 84) := by rw [hz]; exact i_mul (b := 84)
  have z1 : m1 20 4 = z := by rw [hm1, us_at, if_pos rfl, if_pos rfl]
  have hc := c197 (x := x) (n := n) (w := setM w b m1) (p := b + 4) (q := b + 1) (a := (q - 1) * 84) (t := 0) (N0 := 672) (N1 := 84) (u := z * 84) (v := 0) e2 rfl setM_4 setM_1 (by omega) (by omega) (by omega) (by decide) (by decide)
  have e : pupd (setM w b m1) (b + 1) (rowI' 84 (cp84 (m1 4) ((q - 1) * 84) (m1 1) 0 84)) = setM w b (ua m1 1 (cp84 (m1 4) ((q - 1) * 84) (m1 1) 0 84)) := fM_1
  rw [e] at hc
  have z2 : ∀ f, ua m1 1 f 20 4 = z := fun f => by rw [ua_ne (by decide), z1]
  refine ⟨us (ua m1 1 (cp84 (m1 4) ((q - 1) * 84) (m1 1) 0 84)) 20 13 0, ?_, ?_, ?_, ?_, ?_, ?_⟩
  · rw [← hz]
    simp only [csN, csm_i, csm_r, Nat.reduceAdd, Nat.reduceLeDiff, wdI, wdR, wdN, clM_0, clC_0, clC_1, clC_6, clC_8, true_or, or_true, i10, i01, ob_some, ob_map, cal_v, rvs_some, rvs_none, XO_at, cal_x, m295, r295_0, r295_1, r295_4, r295_7, r295_8, r295_9, r295_12, r295_13, r295_14, r295_15, r295_18, r295_19, r295_20, r295_23, r295_24, r295_27, r295_28, r295_31, r295_33, r295_34, r295_35, r295_38, r295_39, r295_42, r295_43, r295_44, r295_47, r295_50, gM_0_0, gM_0_3, gM_0_4, pM_0_4, h0, if_false, e1, hms, z1, hc, z2, c195]
  · rw [us_ne (by decide), ua_same]
    have := hK 0 hq
    refine ⟨Rel_g this.1 (fun i hi => ?_), this.2⟩
    have h := cp84_in (f := m1 4) (g := m1 1) (a := (q - 1) * 84) (t := 0) hi
    rw [Nat.zero_add] at h
    rw [h, a1 4 (by decide), Nat.sub_zero]
  · refine ⟨by omega, ?_, fun j hj => ?_⟩
    · rw [us_at, if_pos rfl, if_neg (by decide), z2, hz]
    · have := hK (j + 1) (by omega)
      have k : K2 K j = K (j + 1) := if_neg (by omega)
      rw [k]
      refine ⟨Rel_g this.1 (fun i hi => ?_), this.2⟩
      rw [us_ne (by decide), ua_ne (by decide), a1 4 (by decide), show q - 1 - 1 - j = q - 1 - (j + 1) by omega]
  · rw [us_at, if_pos rfl, if_pos rfl]
  · intro a ha
    rw [us_ne (by omega), ua_ne (by omega), a1 a (by omega)]
  · intro j j4 j13
    rw [us_at, if_pos rfl, if_neg j13, ua_ne (by decide), hm1, us_at, if_pos rfl, if_neg j4]
theorem c296 : RM x 296 [.ref b] (setM w b m) n = some (.inl (some (.int (m 1 3))), setM w b (us (us (ua m 5 (cp84 (m 1) 0 (m 5) 0 84)) 20 6 1) 20 13 0), n) := by
  have hc := c197 (x := x) (n := n) (w := setM w b m) (p := b + 1) (q := b + 5) (a := 0) (t := 0) (N0 := 84) (N1 := 84) (u := 0) (v := 0) rfl rfl setM_1 setM_5 (by omega) (by omega) (by omega) (by decide) (by decide)
  have e : pupd (setM w b m) (b + 5) (rowI' 84 (cp84 (m 1) 0 (m 5) 0 84)) = setM w b (ua m 5 (cp84 (m 1) 0 (m 5) 0 84)) := fM_5
  rw [e] at hc
  have p6 := fun m => pM_0_6 (w := w) (b := b) (s := m) (v := 1) (Or.inr rfl)
  have k3 : fin 84 3 = some 3 := fin_lit (by decide) (by decide)
  have v1 : ∀ f, us (ua m 5 f) 20 6 1 1 3 = m 1 3 := fun f => by rw [us_ne (by decide), ua_ne (by decide)]
  simp only [csN, csm_i, csm_r, Nat.reduceAdd, Nat.reduceLeDiff, wdI, wdR, wdN, clM_0, clC_0, clC_1, clC_6, clC_8, true_or, or_true, i10, i01, ob_some, ob_map, cal_v, rvs_some, rvs_none, XO_at, cal_x, m296, r296_0, r296_1, r296_4, r296_5, r296_6, r296_9, r296_10, r296_13, r296_14, r296_15, r296_18, r296_19, r296_20, r296_23, r296_24, r296_25, r296_28, gM_0_0, gM_0_5, hc, p6, lM_1, k3, Option.map_some, v1, c195]
theorem c297_0 (h0 : m 20 6 = 0) : RM x 297 [.ref b] (setM w b m) n = some (.inl (some (.int 0)), setM w b (us m 20 13 1), n) := by
  simp only [csN, csm_i, csm_r, Nat.reduceAdd, Nat.reduceLeDiff, wdI, wdR, wdN, clM_0, clC_0, clC_1, clC_6, clC_8, true_or, or_true, i10, i01, ob_some, ob_map, cal_v, rvs_some, rvs_none, XO_at, cal_x, m297, r297_0, r297_1, r297_4, r297_7, r297_8, r297_9, r297_12, r297_13, r297_14, r297_17, r297_18, r297_19, r297_22, r297_23, r297_26, r297_27, r297_28, r297_31, r297_32, r297_33, r297_36, r297_37, r297_38, r297_41, gM_0_6, h0, if_true, c196]
theorem c297_1 (h0 : ¬ m 20 6 = 0) : RM x 297 [.ref b] (setM w b m) n = some (.inl (some (.int (m 5 3))), setM w b (us (us (ua m 1 (cp84 (m 5) 0 (m 1) 0 84)) 20 4 0) 20 13 0), n) := by
  have hc := c197 (x := x) (n := n) (w := setM w b m) (p := b + 5) (q := b + 1) (a := 0) (t := 0) (N0 := 84) (N1 := 84) (u := 0) (v := 0) rfl rfl setM_5 setM_1 (by omega) (by omega) (by omega) (by decide) (by decide)
  have e : pupd (setM w b m) (b + 1) (rowI' 84 (cp84 (m 5) 0 (m 1) 0 84)) = setM w b (ua m 1 (cp84 (m 5) 0 (m 1) 0 84)) := fM_1
  rw [e] at hc
  have k3 : fin 84 3 = some 3 := fin_lit (by decide) (by decide)
  have v1 : us (ua m 1 (cp84 (m 5) 0 (m 1) 0 84)) 20 4 0 1 3 = m 5 3 := by
    rw [us_ne (by decide), ua_same]
    exact cp84_in (f := m 5) (g := m 1) (a := 0) (t := 0) (i := 3) (by omega)
  simp only [csN, csm_i, csm_r, Nat.reduceAdd, Nat.reduceLeDiff, wdI, wdR, wdN, clM_0, clC_0, clC_1, clC_6, clC_8, true_or, or_true, i10, i01, ob_some, ob_map, cal_v, rvs_some, rvs_none, XO_at, cal_x, m297, r297_0, r297_1, r297_4, r297_7, r297_8, r297_9, r297_12, r297_13, r297_14, r297_17, r297_18, r297_19, r297_22, r297_23, r297_26, r297_27, r297_28, r297_31, r297_32, r297_33, r297_36, r297_37, r297_38, r297_41, gM_0_0, gM_0_5, gM_0_6, h0, if_false, hc, pM_0_4, lM_1, k3, Option.map_some, v1, c195]
end MUS
