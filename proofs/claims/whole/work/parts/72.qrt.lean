/-! THE GATE BY ITS TRAFFIC on both sides -/
section QRT
set_option maxRecDepth 20000
variable {x : SX} {n b c q B : Nat} {w w' : PW} {m s t y : NS} {hs le lf hc : Int32} {F : Nat → Nat} {K : Nat → NS} {sc : NS} {cs : Nat → Nat} {u v : Int32}
theorem mx_eq {a e : Int32} : (if e < a then a else e) = mx a e := by
  unfold mx
  by_cases h : a < e
  · rw [if_pos h, if_neg (fun z => Int32.lt_irrefl (Int32.lt_trans h z))]
  · rw [if_neg h]
    by_cases h2 : e < a
    · rw [if_pos h2]
    · rw [if_neg h2]
      exact Int32.le_antisymm (Int32.not_lt.mp h2) (Int32.not_lt.mp h) |>.symm
theorem c249 {g : Nat} (hR : RS s (m 1)) (hg : g < 5) : RM x 249 [.ref b, .int (Int32.ofNat g)] (setM w b m) n = some (.inl (some (.int (gwS s g))), setM w b m, n) := by
  have e1 : (29 : Int32) + 2 * Int32.ofNat g = Int32.ofNat (29 + g * 2) := by
    rw [show (29 : Int32) = Int32.ofNat 29 from rfl, show (2 : Int32) = Int32.ofNat 2 from rfl, i_mul, i_add, Nat.mul_comm]
  have e2 : Int32.ofNat (29 + g * 2) + 1 = Int32.ofNat (29 + g * 2 + 1) := i_add (b := 1)
  have h1 : fin 84 (Int32.ofNat (29 + g * 2)) = some (29 + g * 2) := fin_nat (by omega) (by omega)
  have h2 : fin 84 (Int32.ofNat (29 + g * 2 + 1)) = some (29 + g * 2 + 1) := fin_nat (by omega) (by omega)
  have k1 := (hR.2.2.2.2.1 (g * 2) (by omega)).1.symm
  have k2 : m 1 (29 + g * 2 + 1) = s 5 (g * 2 + 1) := (hR.2.2.2.2.1 (g * 2 + 1) (by omega)).1.symm
  have hm := mx_eq (a := s 5 (g * 2)) (e := s 5 (g * 2 + 1))
  unfold gwS
  rw [← hm]
  simp only [csN, csm_i, csm_r, Nat.reduceAdd, Nat.reduceLeDiff, wdI, wdR, wdN, clM_0, clC_0, clC_1, clC_6, clC_8, true_or, or_true, i10, i01, ob_some, ob_map, cal_v, rvs_some, rvs_none, XO_at, cal_x, m249, r249_0, r249_1, r249_4, r249_6, r249_7, r249_8, r249_9, r249_10, r249_11, r249_12, r249_13, r249_16, r249_18, r249_19, r249_20, r249_21, r249_22, r249_23, r249_24, r249_25, r249_26, r249_27, r249_28, r249_31, r249_32, r249_35, r249_36, gM_0_0, lM_1, e1, e2, h1, h2, Option.map_some, k1, k2]
  split <;> rfl
theorem c250 {g o : Nat} (hR : RS s (m 1)) (hg : g < 5) (ho : o < 5) : RM x 250 [.ref b, .int (Int32.ofNat g), .int (Int32.ofNat o)] (setM w b m) n = some (.inl (some (.int (bi (cbS s g o)))), setM w b m, n) := by
  have e1 : (39 : Int32) + Int32.ofNat g = Int32.ofNat (39 + g) := i_add (a := 39)
  have e2 : (39 : Int32) + Int32.ofNat o = Int32.ofNat (39 + o) := i_add (a := 39)
  have h1 : fin 84 (Int32.ofNat (39 + g)) = some (39 + g) := fin_nat (by omega) (by omega)
  have h2 : fin 84 (Int32.ofNat (39 + o)) = some (39 + o) := fin_nat (by omega) (by omega)
  have k1 := (hR.2.2.2.2.2 g hg).symm
  have k2 := (hR.2.2.2.2.2 o ho).symm
  have q1 := c249 (x := x) (n := n) (b := b) (w := w) hR hg
  have q2 := c249 (x := x) (n := n) (b := b) (w := w) hR ho
  have hlt : (Int32.ofNat g < Int32.ofNat o) = (g < o) := i_lt (by omega) (by omega)
  have zz : ¬ (0 : Int32) < 0 := by decide
  unfold cbS
  by_cases a0 : s 3 g - s 3 o = 0
  · rw [if_pos a0]
    by_cases b0 : gwS s g - gwS s o = 0
    · rw [if_pos b0]
      by_cases g0 : g < o
      · rw [decide_eq_true g0, bi_t]
        simp only [csN, csm_i, csm_r, Nat.reduceAdd, Nat.reduceLeDiff, wdI, wdR, wdN, clM_0, clC_0, clC_1, clC_6, clC_8, true_or, or_true, i10, i01, ob_some, ob_map, cal_v, rvs_some, rvs_none, XO_at, cal_x, m250, r250_0, r250_1, r250_4, r250_6, r250_7, r250_8, r250_9, r250_10, r250_13, r250_15, r250_16, r250_17, r250_18, r250_19, r250_20, r250_21, r250_22, r250_25, r250_26, r250_27, r250_30, r250_31, r250_33, r250_34, r250_37, r250_38, r250_41, r250_43, r250_46, r250_48, r250_51, r250_52, r250_53, r250_56, r250_57, r250_60, gM_0_0, lM_1, e1, e2, h1, h2, Option.map_some, k1, k2, q1, q2, a0, b0, zz, hlt, g0, if_true, if_false]
        exact r250_61 (by decide)
      · rw [decide_eq_false g0, bi_f]
        simp only [csN, csm_i, csm_r, Nat.reduceAdd, Nat.reduceLeDiff, wdI, wdR, wdN, clM_0, clC_0, clC_1, clC_6, clC_8, true_or, or_true, i10, i01, ob_some, ob_map, cal_v, rvs_some, rvs_none, XO_at, cal_x, m250, r250_0, r250_1, r250_4, r250_6, r250_7, r250_8, r250_9, r250_10, r250_13, r250_15, r250_16, r250_17, r250_18, r250_19, r250_20, r250_21, r250_22, r250_25, r250_26, r250_27, r250_30, r250_31, r250_33, r250_34, r250_37, r250_38, r250_41, r250_43, r250_46, r250_48, r250_51, r250_52, r250_53, r250_56, r250_57, r250_60, gM_0_0, lM_1, e1, e2, h1, h2, Option.map_some, k1, k2, q1, q2, a0, b0, zz, hlt, g0, if_true, if_false]
        exact r250_61 (by decide)
    · rw [if_neg b0]
      by_cases b1 : 0 < gwS s g - gwS s o
      · rw [decide_eq_true b1, bi_t]
        simp only [csN, csm_i, csm_r, Nat.reduceAdd, Nat.reduceLeDiff, wdI, wdR, wdN, clM_0, clC_0, clC_1, clC_6, clC_8, true_or, or_true, i10, i01, ob_some, ob_map, cal_v, rvs_some, rvs_none, XO_at, cal_x, m250, r250_0, r250_1, r250_4, r250_6, r250_7, r250_8, r250_9, r250_10, r250_13, r250_15, r250_16, r250_17, r250_18, r250_19, r250_20, r250_21, r250_22, r250_25, r250_26, r250_27, r250_30, r250_31, r250_33, r250_34, r250_37, r250_38, r250_41, r250_43, r250_46, r250_48, r250_51, r250_52, r250_53, r250_56, r250_57, r250_60, gM_0_0, lM_1, e1, e2, h1, h2, Option.map_some, k1, k2, q1, q2, a0, b1, zz, if_true, if_false]
        exact r250_61 (by decide)
      · rw [decide_eq_false b1, bi_f]
        simp only [csN, csm_i, csm_r, Nat.reduceAdd, Nat.reduceLeDiff, wdI, wdR, wdN, clM_0, clC_0, clC_1, clC_6, clC_8, true_or, or_true, i10, i01, ob_some, ob_map, cal_v, rvs_some, rvs_none, XO_at, cal_x, m250, r250_0, r250_1, r250_4, r250_6, r250_7, r250_8, r250_9, r250_10, r250_13, r250_15, r250_16, r250_17, r250_18, r250_19, r250_20, r250_21, r250_22, r250_25, r250_26, r250_27, r250_30, r250_31, r250_33, r250_34, r250_37, r250_38, r250_41, r250_43, r250_46, r250_48, r250_51, r250_52, r250_53, r250_56, r250_57, r250_60, gM_0_0, lM_1, e1, e2, h1, h2, Option.map_some, k1, k2, q1, q2, a0, b0, b1, zz, if_true, if_false]
        exact r250_61 (by decide)
  · rw [if_neg a0]
    by_cases a1 : 0 < s 3 g - s 3 o
    · rw [decide_eq_true a1, bi_t]
      simp only [csN, csm_i, csm_r, Nat.reduceAdd, Nat.reduceLeDiff, wdI, wdR, wdN, clM_0, clC_0, clC_1, clC_6, clC_8, true_or, or_true, i10, i01, ob_some, ob_map, cal_v, rvs_some, rvs_none, XO_at, cal_x, m250, r250_0, r250_1, r250_4, r250_6, r250_7, r250_8, r250_9, r250_10, r250_13, r250_15, r250_16, r250_17, r250_18, r250_19, r250_20, r250_21, r250_22, r250_25, r250_26, r250_27, r250_30, r250_31, r250_33, r250_34, r250_37, r250_38, r250_41, r250_43, r250_46, r250_48, r250_51, r250_52, r250_53, r250_56, r250_57, r250_60, gM_0_0, lM_1, e1, e2, h1, h2, Option.map_some, k1, k2, q1, q2, a1, if_true, if_false]
      exact r250_61 (by decide)
    · rw [decide_eq_false a1, bi_f]
      simp only [csN, csm_i, csm_r, Nat.reduceAdd, Nat.reduceLeDiff, wdI, wdR, wdN, clM_0, clC_0, clC_1, clC_6, clC_8, true_or, or_true, i10, i01, ob_some, ob_map, cal_v, rvs_some, rvs_none, XO_at, cal_x, m250, r250_0, r250_1, r250_4, r250_6, r250_7, r250_8, r250_9, r250_10, r250_13, r250_15, r250_16, r250_17, r250_18, r250_19, r250_20, r250_21, r250_22, r250_25, r250_26, r250_27, r250_30, r250_31, r250_33, r250_34, r250_37, r250_38, r250_41, r250_43, r250_46, r250_48, r250_51, r250_52, r250_53, r250_56, r250_57, r250_60, gM_0_0, lM_1, e1, e2, h1, h2, Option.map_some, k1, k2, q1, q2, a0, a1, if_true, if_false]
      exact r250_61 (by decide)
def rkA (s : NS) (u : Int32) : Nat → Nat → Int32
  | 0, _ => -1
  | d + 1, i => if Int32.ofNat (cnt (fun o => cbS s o i) 5) = u then Int32.ofNat i else rkA s u d (i + 1)
theorem rkA_s {d i : Nat} : rkA s u (d + 1) i = if Int32.ofNat (cnt (fun o => cbS s o i) 5) = u then Int32.ofNat i else rkA s u d (i + 1) := rfl
theorem l157i {i : Nat} (E : ∀ g o, g < 5 → o < 5 → RM x 158 [.ref 66, .int (Int32.ofNat g), .int (Int32.ofNat o)] w n = some (.inl (some (.int (bi (cbS s g o)))), w, n)) (l1 : clo w 66 = some 2) (hi : i < 5) (d : Nat) : ∀ k, k + d = 5 →
    RC x 157 12 [some (.ref 66), some (.int u), some (.int (Int32.ofNat i)), some (.int (Int32.ofNat (cnt (fun o => cbS s o i) k))), some (.int (Int32.ofNat k))] [] w n = RC x 157 37 [some (.ref 66), some (.int u), some (.int (Int32.ofNat i)), some (.int (Int32.ofNat (cnt (fun o => cbS s o i) 5))), some (.int 5)] [] w n := by
  induction d with
  | zero =>
    intro k hk
    obtain rfl : k = 5 := by omega
    rw [r157_12]
    have h0 : ¬ Int32.ofNat 5 < (5 : Int32) := by decide
    simp only [csN, csm_i, csm_r, Nat.reduceAdd, Nat.reduceLeDiff, wdI, wdR, wdN, clM_0, clC_0, clC_1, clC_6, clC_8, true_or, or_true, i10, i01, ob_some, ob_map, cal_v, rvs_some, rvs_none, XO_at, cal_x, m157, r157_0, r157_1, r157_2, r157_3, r157_4, r157_7, r157_8, r157_9, r157_10, r157_14, r157_15, r157_18, r157_19, r157_21, r157_22, r157_25, r157_28, r157_31, r157_34, r157_38, r157_39, r157_42, r157_43, r157_44, r157_47, r157_50, r157_51, h0, if_false]
    rfl
  | succ d ih =>
    intro k hk
    rw [r157_12]
    have h1 : Int32.ofNat k < (5 : Int32) := nlt (N := 5) (by omega) (by omega) (by omega)
    have h3 : ∀ a, Int32.ofNat a + 1 = Int32.ofNat (a + 1) := fun a => i_add (b := 1)
    have e := E k i (by omega) hi
    have hh := ih (k + 1) (by omega)
    cases hp : cbS s k i with
    | true =>
      have hs : cnt (fun o => cbS s o i) (k + 1) = cnt (fun o => cbS s o i) k + 1 := by rw [cnt_s, hp, cond_true]
      rw [hs] at hh
      rw [hp, bi_t] at e
      simp only [csN, csm_i, csm_r, Nat.reduceAdd, Nat.reduceLeDiff, wdI, wdR, wdN, clM_0, clC_0, clC_1, clC_6, clC_8, true_or, or_true, i10, i01, ob_some, ob_map, cal_v, rvs_some, rvs_none, XO_at, cal_x, m157, r157_0, r157_1, r157_2, r157_3, r157_4, r157_7, r157_8, r157_9, r157_10, r157_14, r157_15, r157_18, r157_19, r157_21, r157_22, r157_25, r157_28, r157_31, r157_34, r157_38, r157_39, r157_42, r157_43, r157_44, r157_47, r157_50, r157_51, h1, if_true, l1, e, if_false, h3]
      exact hh
    | false =>
      have hs : cnt (fun o => cbS s o i) (k + 1) = cnt (fun o => cbS s o i) k := by rw [cnt_s, hp, cond_false]
      rw [hs] at hh
      rw [hp, bi_f] at e
      simp only [csN, csm_i, csm_r, Nat.reduceAdd, Nat.reduceLeDiff, wdI, wdR, wdN, clM_0, clC_0, clC_1, clC_6, clC_8, true_or, or_true, i10, i01, ob_some, ob_map, cal_v, rvs_some, rvs_none, XO_at, cal_x, m157, r157_0, r157_1, r157_2, r157_3, r157_4, r157_7, r157_8, r157_9, r157_10, r157_14, r157_15, r157_18, r157_19, r157_21, r157_22, r157_25, r157_28, r157_31, r157_34, r157_38, r157_39, r157_42, r157_43, r157_44, r157_47, r157_50, r157_51, h1, if_true, l1, e, h3]
      exact hh
theorem l157 (E : ∀ g o, g < 5 → o < 5 → RM x 158 [.ref 66, .int (Int32.ofNat g), .int (Int32.ofNat o)] w n = some (.inl (some (.int (bi (cbS s g o)))), w, n)) (l1 : clo w 66 = some 2) (d : Nat) : ∀ (i : Nat) (e1 e2 : Option Value), i + d = 5 → wd e1 = true → wd e2 = true →
    RC x 157 2 [some (.ref 66), some (.int u), some (.int (Int32.ofNat i)), e1, e2] [] w n = some (.inl (some (.int (rkA s u d i))), w, n) := by
  induction d with
  | zero =>
    intro i e1 e2 hi w1 w2
    obtain rfl : i = 5 := by omega
    rw [r157_2]
    have h0 : ¬ Int32.ofNat 5 < (5 : Int32) := by decide
    simp only [csN, csm_i, csm_r, Nat.reduceAdd, Nat.reduceLeDiff, wdI, wdR, wdN, clM_0, clC_0, clC_1, clC_6, clC_8, true_or, or_true, i10, i01, ob_some, ob_map, cal_v, rvs_some, rvs_none, XO_at, cal_x, m157, r157_0, r157_1, r157_3, r157_4, r157_7, r157_8, r157_9, r157_10, r157_14, r157_15, r157_18, r157_19, r157_21, r157_22, r157_25, r157_28, r157_31, r157_34, r157_38, r157_39, r157_42, r157_43, r157_44, r157_47, r157_50, r157_51, h0, if_false, rkA]
  | succ d ih =>
    intro i e1 e2 hi w1 w2
    rw [r157_2]
    have h1 : Int32.ofNat i < (5 : Int32) := nlt (N := 5) (by omega) (by omega) (by omega)
    have h3 : ∀ a, Int32.ofNat a + 1 = Int32.ofNat (a + 1) := fun a => i_add (b := 1)
    have hl := l157i (u := u) (i := i) E l1 (by omega) 5 0 rfl
    have hh := ih (i + 1) (some (.int (Int32.ofNat (cnt (fun o => cbS s o i) 5)))) (some (.int 5)) (by omega) rfl rfl
    simp only [csN, csm_i, csm_r, Nat.reduceAdd, Nat.reduceLeDiff, wdI, wdR, wdN, clM_0, clC_0, clC_1, clC_6, clC_8, true_or, or_true, i10, i01, ob_some, ob_map, cal_v, rvs_some, rvs_none, XO_at, cal_x, m157, r157_0, r157_1, r157_3, r157_4, r157_7, r157_8, r157_9, r157_10, r157_14, r157_15, r157_18, r157_19, r157_21, r157_22, r157_25, r157_28, r157_31, r157_34, r157_38, r157_39, r157_42, r157_43, r157_44, r157_47, r157_50, r157_51, h1, if_true, w1, w2]
    refine Eq.trans hl ?_
    rw [r157_37, rkA_s]
    by_cases g : Int32.ofNat (cnt (fun o => cbS s o i) 5) = u
    · simp only [csN, csm_i, csm_r, Nat.reduceAdd, Nat.reduceLeDiff, wdI, wdR, wdN, clM_0, clC_0, clC_1, clC_6, clC_8, true_or, or_true, i10, i01, ob_some, ob_map, cal_v, rvs_some, rvs_none, XO_at, cal_x, m157, r157_0, r157_1, r157_3, r157_4, r157_7, r157_8, r157_9, r157_10, r157_14, r157_15, r157_18, r157_19, r157_21, r157_22, r157_25, r157_28, r157_31, r157_34, r157_38, r157_39, r157_42, r157_43, r157_44, r157_47, r157_50, r157_51, g, if_true]
    · simp only [csN, csm_i, csm_r, Nat.reduceAdd, Nat.reduceLeDiff, wdI, wdR, wdN, clM_0, clC_0, clC_1, clC_6, clC_8, true_or, or_true, i10, i01, ob_some, ob_map, cal_v, rvs_some, rvs_none, XO_at, cal_x, m157, r157_0, r157_1, r157_3, r157_4, r157_7, r157_8, r157_9, r157_10, r157_14, r157_15, r157_18, r157_19, r157_21, r157_22, r157_25, r157_28, r157_31, r157_34, r157_38, r157_39, r157_42, r157_43, r157_44, r157_47, r157_50, r157_51, g, if_false, h3]
      exact hh
theorem l251i {i : Nat} (hR : RS s (m 1)) (hi : i < 5) (d : Nat) : ∀ k, k + d = 5 →
    RC x 251 12 [some (.ref b), some (.int u), some (.int (Int32.ofNat i)), some (.int (Int32.ofNat (cnt (fun o => cbS s o i) k))), some (.int (Int32.ofNat k))] [] (setM w b m) n = RC x 251 42 [some (.ref b), some (.int u), some (.int (Int32.ofNat i)), some (.int (Int32.ofNat (cnt (fun o => cbS s o i) 5))), some (.int 5)] [] (setM w b m) n := by
  induction d with
  | zero =>
    intro k hk
    obtain rfl : k = 5 := by omega
    rw [r251_12]
    have h0 : ¬ Int32.ofNat 5 < (5 : Int32) := by decide
    simp only [csN, csm_i, csm_r, Nat.reduceAdd, Nat.reduceLeDiff, wdI, wdR, wdN, clM_0, clC_0, clC_1, clC_6, clC_8, true_or, or_true, i10, i01, ob_some, ob_map, cal_v, rvs_some, rvs_none, XO_at, cal_x, m251, r251_0, r251_1, r251_2, r251_3, r251_4, r251_7, r251_8, r251_9, r251_10, r251_14, r251_15, r251_18, r251_19, r251_20, r251_22, r251_23, r251_26, r251_29, r251_30, r251_33, r251_34, r251_35, r251_36, r251_39, r251_43, r251_44, r251_47, r251_48, r251_49, r251_52, r251_53, r251_56, r251_59, r251_60, r251_61, r251_64, h0, if_false]
    rfl
  | succ d ih =>
    intro k hk
    rw [r251_12]
    have h1 : Int32.ofNat k < (5 : Int32) := nlt (N := 5) (by omega) (by omega) (by omega)
    have h3 : ∀ a, Int32.ofNat a + 1 = Int32.ofNat (a + 1) := fun a => i_add (b := 1)
    have e := c250 (x := x) (n := n) (b := b) (w := w) (g := k) (o := i) hR (by omega) hi
    have hh := ih (k + 1) (by omega)
    cases hp : cbS s k i with
    | true =>
      have hs : cnt (fun o => cbS s o i) (k + 1) = cnt (fun o => cbS s o i) k + 1 := by rw [cnt_s, hp, cond_true]
      rw [hs] at hh
      rw [hp, bi_t] at e
      simp only [csN, csm_i, csm_r, Nat.reduceAdd, Nat.reduceLeDiff, wdI, wdR, wdN, clM_0, clC_0, clC_1, clC_6, clC_8, true_or, or_true, i10, i01, ob_some, ob_map, cal_v, rvs_some, rvs_none, XO_at, cal_x, m251, r251_0, r251_1, r251_2, r251_3, r251_4, r251_7, r251_8, r251_9, r251_10, r251_14, r251_15, r251_18, r251_19, r251_20, r251_22, r251_23, r251_26, r251_29, r251_30, r251_33, r251_34, r251_35, r251_36, r251_39, r251_43, r251_44, r251_47, r251_48, r251_49, r251_52, r251_53, r251_56, r251_59, r251_60, r251_61, r251_64, h1, if_true, e, if_false, h3]
      exact hh
    | false =>
      have hs : cnt (fun o => cbS s o i) (k + 1) = cnt (fun o => cbS s o i) k := by rw [cnt_s, hp, cond_false]
      rw [hs] at hh
      rw [hp, bi_f] at e
      simp only [csN, csm_i, csm_r, Nat.reduceAdd, Nat.reduceLeDiff, wdI, wdR, wdN, clM_0, clC_0, clC_1, clC_6, clC_8, true_or, or_true, i10, i01, ob_some, ob_map, cal_v, rvs_some, rvs_none, XO_at, cal_x, m251, r251_0, r251_1, r251_2, r251_3, r251_4, r251_7, r251_8, r251_9, r251_10, r251_14, r251_15, r251_18, r251_19, r251_20, r251_22, r251_23, r251_26, r251_29, r251_30, r251_33, r251_34, r251_35, r251_36, r251_39, r251_43, r251_44, r251_47, r251_48, r251_49, r251_52, r251_53, r251_56, r251_59, r251_60, r251_61, r251_64, h1, if_true, e, Int32.add_zero, h3]
      exact hh
theorem l251 (hR : RS s (m 1)) (d : Nat) : ∀ (i : Nat) (e1 e2 : Option Value), i + d = 5 → wd e1 = true → wd e2 = true →
    RC x 251 2 [some (.ref b), some (.int u), some (.int (Int32.ofNat i)), e1, e2] [] (setM w b m) n = if rkA s u d i = -1 then some (.inl (some (.int 0)), setM w b (us m 20 13 1), n) else some (.inl (some (.int (rkA s u d i))), setM w b (us m 20 13 0), n) := by
  induction d with
  | zero =>
    intro i e1 e2 hi w1 w2
    obtain rfl : i = 5 := by omega
    rw [r251_2]
    have h0 : ¬ Int32.ofNat 5 < (5 : Int32) := by decide
    simp only [csN, csm_i, csm_r, Nat.reduceAdd, Nat.reduceLeDiff, wdI, wdR, wdN, clM_0, clC_0, clC_1, clC_6, clC_8, true_or, or_true, i10, i01, ob_some, ob_map, cal_v, rvs_some, rvs_none, XO_at, cal_x, m251, r251_0, r251_1, r251_3, r251_4, r251_7, r251_8, r251_9, r251_10, r251_14, r251_15, r251_18, r251_19, r251_20, r251_22, r251_23, r251_26, r251_29, r251_30, r251_33, r251_34, r251_35, r251_36, r251_39, r251_43, r251_44, r251_47, r251_48, r251_49, r251_52, r251_53, r251_56, r251_59, r251_60, r251_61, r251_64, h0, if_false, rkA, if_true, c196]
  | succ d ih =>
    intro i e1 e2 hi w1 w2
    rw [r251_2]
    have h1 : Int32.ofNat i < (5 : Int32) := nlt (N := 5) (by omega) (by omega) (by omega)
    have h3 : ∀ a, Int32.ofNat a + 1 = Int32.ofNat (a + 1) := fun a => i_add (b := 1)
    have hl := l251i (x := x) (n := n) (b := b) (w := w) (u := u) (i := i) hR (by omega) 5 0 rfl
    have hh := ih (i + 1) (some (.int (Int32.ofNat (cnt (fun o => cbS s o i) 5)))) (some (.int 5)) (by omega) rfl rfl
    have hi1 : ¬ Int32.ofNat i = -1 := ofN_m1 (by omega)
    simp only [csN, csm_i, csm_r, Nat.reduceAdd, Nat.reduceLeDiff, wdI, wdR, wdN, clM_0, clC_0, clC_1, clC_6, clC_8, true_or, or_true, i10, i01, ob_some, ob_map, cal_v, rvs_some, rvs_none, XO_at, cal_x, m251, r251_0, r251_1, r251_3, r251_4, r251_7, r251_8, r251_9, r251_10, r251_14, r251_15, r251_18, r251_19, r251_20, r251_22, r251_23, r251_26, r251_29, r251_30, r251_33, r251_34, r251_35, r251_36, r251_39, r251_43, r251_44, r251_47, r251_48, r251_49, r251_52, r251_53, r251_56, r251_59, r251_60, r251_61, r251_64, h1, if_true, w1, w2]
    refine Eq.trans hl ?_
    rw [r251_42, rkA_s]
    by_cases g : Int32.ofNat (cnt (fun o => cbS s o i) 5) = u
    · simp only [csN, csm_i, csm_r, Nat.reduceAdd, Nat.reduceLeDiff, wdI, wdR, wdN, clM_0, clC_0, clC_1, clC_6, clC_8, true_or, or_true, i10, i01, ob_some, ob_map, cal_v, rvs_some, rvs_none, XO_at, cal_x, m251, r251_0, r251_1, r251_3, r251_4, r251_7, r251_8, r251_9, r251_10, r251_14, r251_15, r251_18, r251_19, r251_20, r251_22, r251_23, r251_26, r251_29, r251_30, r251_33, r251_34, r251_35, r251_36, r251_39, r251_43, r251_44, r251_47, r251_48, r251_49, r251_52, r251_53, r251_56, r251_59, r251_60, r251_61, r251_64, g, if_true, hi1, if_false, c195]
    · simp only [csN, csm_i, csm_r, Nat.reduceAdd, Nat.reduceLeDiff, wdI, wdR, wdN, clM_0, clC_0, clC_1, clC_6, clC_8, true_or, or_true, i10, i01, ob_some, ob_map, cal_v, rvs_some, rvs_none, XO_at, cal_x, m251, r251_0, r251_1, r251_3, r251_4, r251_7, r251_8, r251_9, r251_10, r251_14, r251_15, r251_18, r251_19, r251_20, r251_22, r251_23, r251_26, r251_29, r251_30, r251_33, r251_34, r251_35, r251_36, r251_39, r251_43, r251_44, r251_47, r251_48, r251_49, r251_52, r251_53, r251_56, r251_59, r251_60, r251_61, r251_64, g, if_false, h3]
      exact hh
theorem p317 (hV : IV B w m s t y hs le lf F K sc c q cs) : PAIR B x w n 317 [.ref 64, .int u, .ref 237] 251 [.ref 227, .int u] m le lf sc := by
  have hW := hV.1
  have hS := hV.2.2.2.2.1.1.1.2.1
  obtain ⟨⟨g0, -⟩, c64, -⟩ := WD_64 hW
  obtain ⟨k0, -, -, -, -, -, -, -, -, l1, -⟩ := WD_r hW
  have E : ∀ g o, g < 5 → o < 5 → RM x 158 [.ref 66, .int (Int32.ofNat g), .int (Int32.ofNat o)] w n = some (.inl (some (.int (bi (cbS s g o)))), w, n) := fun g o hg ho => by
    have k := c158 (x := x) (n := n) (b := 65) (w := w) (s := s) (g := g) (o := o) rfl rfl hg ho
    rw [(WD_c hW).1] at k
    exact k
  have e1 : RM x 157 [.ref 66, .int u] w n = some (.inl (some (.int (rkA s u 5 0))), w, n) := by
    simp only [csN, csm_i, csm_r, Nat.reduceAdd, Nat.reduceLeDiff, wdI, wdR, wdN, clM_0, clC_0, clC_1, clC_6, clC_8, true_or, or_true, i10, i01, ob_some, ob_map, cal_v, rvs_some, rvs_none, XO_at, cal_x, m157, r157_0, r157_1, r157_3, r157_4, r157_7, r157_8, r157_9, r157_10, r157_14, r157_15, r157_18, r157_19, r157_21, r157_22, r157_25, r157_28, r157_31, r157_34, r157_38, r157_39, r157_42, r157_43, r157_44, r157_47, r157_50, r157_51]
    exact l157 E l1 5 0 none none rfl rfl rfl
  have hm : ∀ w' n', RM x 251 [.ref 227, .int u] (setM w' 227 m) n' = if rkA s u 5 0 = -1 then some (.inl (some (.int 0)), setM w' 227 (us m 20 13 1), n') else some (.inl (some (.int (rkA s u 5 0))), setM w' 227 (us m 20 13 0), n') := fun w' n' => by
    simp only [csN, csm_i, csm_r, Nat.reduceAdd, Nat.reduceLeDiff, wdI, wdR, wdN, clM_0, clC_0, clC_1, clC_6, clC_8, true_or, or_true, i10, i01, ob_some, ob_map, cal_v, rvs_some, rvs_none, XO_at, cal_x, m251, r251_0, r251_1, r251_3, r251_4, r251_7, r251_8, r251_9, r251_10, r251_14, r251_15, r251_18, r251_19, r251_20, r251_22, r251_23, r251_26, r251_29, r251_30, r251_33, r251_34, r251_35, r251_36, r251_39, r251_43, r251_44, r251_47, r251_48, r251_49, r251_52, r251_53, r251_56, r251_59, r251_60, r251_61, r251_64]
    exact l251 hS 5 0 none none rfl rfl rfl
  by_cases g : rkA s u 5 0 = -1
  · have e3 : RM x 54 [.ref 64, .int u] w n = some (.inr "java/util/NoSuchElementException", w, n + 1) := by
      simp only [csN, csm_i, csm_r, Nat.reduceAdd, Nat.reduceLeDiff, wdI, wdR, wdN, clM_0, clC_0, clC_1, clC_6, clC_8, true_or, or_true, i10, i01, ob_some, ob_map, cal_v, rvs_some, rvs_none, XO_at, cal_x, m54, r54_0, r54_1, r54_4, r54_7, r54_8, r54_11, r54_12, r54_13, r54_14, r54_17, r54_27, r54_28, g0, k0, l1, e1, g, if_true]
    exact q_ex (r := 0) hV (by decide) (lx317_1 c64 e3) (fun w' n' => by rw [hm, if_pos g])
  · have e3 : RM x 54 [.ref 64, .int u] w n = some (.inl (some (.int (rkA s u 5 0))), w, n) := by
      simp only [csN, csm_i, csm_r, Nat.reduceAdd, Nat.reduceLeDiff, wdI, wdR, wdN, clM_0, clC_0, clC_1, clC_6, clC_8, true_or, or_true, i10, i01, ob_some, ob_map, cal_v, rvs_some, rvs_none, XO_at, cal_x, m54, r54_0, r54_1, r54_4, r54_7, r54_8, r54_11, r54_12, r54_13, r54_14, r54_17, r54_27, r54_28, g0, k0, l1, e1, g, if_false]
    exact q_ok hV (fun f hf => lw317 c64 e3 hf) (fun w' n' => by rw [hm, if_neg g])
end QRT
