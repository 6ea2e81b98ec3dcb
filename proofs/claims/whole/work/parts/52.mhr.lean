/-! AN HOUR of the model: its parts -/
section MHR
set_option maxRecDepth 20000
variable {x : SX} {n b c : Nat} {w : PW} {m s : NS} {g : Nat → Int32}
theorem us_ua {j : Nat} {v : Int32} : us (ua m 1 g) 1 j v = ua m 1 (upd g j v) := by
  funext a
  unfold us ua
  split
  · next h => simp
  · rfl
theorem us_ua8 {j : Nat} {v : Int32} : us (ua m 1 g) 8 j v = ua (us m 8 j v) 1 g := by
  funext a
  unfold us ua
  by_cases h : a = 8
  · subst h; simp
  · by_cases h1 : a = 1
    · subst h1; simp
    · simp [h, h1]
theorem us_ua20 {j : Nat} {v : Int32} : us (ua m 1 g) 20 j v = ua (us m 20 j v) 1 g := by
  funext a
  unfold us ua
  by_cases h : a = 20
  · subst h; simp
  · by_cases h1 : a = 1
    · subst h1; simp
    · simp [h, h1]
theorem ua_self1 : ua m 1 (m 1) = m := by
  funext a
  unfold ua
  split
  · next h => rw [h]
  · rfl
theorem ua_ua {f : Nat → Int32} : ua (ua m 1 f) 1 g = ua m 1 g := by
  funext a
  unfold ua
  split <;> rfl
theorem less_mn {u v : Int32} : (if u < v then u else v) = mn u v := by
  unfold mn
  by_cases h : u < v
  · rw [if_pos h, if_neg (Int32.not_lt.mpr (Int32.le_of_lt h))]
  · rw [if_neg h]
    by_cases h1 : v < u
    · rw [if_pos h1]
    · rw [if_neg h1]; exact Int32.le_antisymm (Int32.not_lt.mp h) (Int32.not_lt.mp h1)
def pourG (g : Nat → Int32) (r : Nat) (u : Int32) : Nat → Int32 := upd (upd g (8 + r) (g (8 + r) + mn u (90 - g (8 + r)))) 6 (g 6 + (u - mn u (90 - g (8 + r))))
theorem c231 {r : Nat} {u v : Int32} (hu : u = Int32.ofNat r) (hr : r < 6) : RM x 231 [.ref b, .int u, .int v] (setM w b (ua m 1 g)) n = some (.inl none, setM w b (ua m 1 (pourG g r v)), n) := by
  subst hu
  have h1 : (8 : Int32) + Int32.ofNat r = Int32.ofNat (8 + r) := i_add (a := 8)
  have h2 : fin 84 (Int32.ofNat (8 + r)) = some (8 + r) := fin_nat (by omega) (by omega)
  have h3 : fin 84 6 = some 6 := fin_lit (by decide) (by decide)
  have h4 : ¬ 6 = 8 + r := by omega
  simp only [csN, csm_i, csm_r, Nat.reduceAdd, Nat.reduceLeDiff, wdI, wdR, wdN, clM_0, clC_0, clC_1, clC_6, clC_8, true_or, or_true, i10, i01, ob_some, ob_map, cal_v, rvs_some, rvs_none, XO_at, cal_x, m231, r231_0, r231_1, r231_3, r231_4, r231_7, r231_9, r231_10, r231_11, r231_12, r231_13, r231_16, r231_17, r231_18, r231_21, r231_23, r231_24, r231_25, r231_26, r231_27, r231_28, r231_29, r231_30, r231_31, r231_34, r231_36, r231_37, r231_38, r231_39, r231_40, r231_41, r231_42, r231_43, gM_0_0, lM_1, sM_1, h1, h2, h3, Option.map_some, c194, less_mn, ua_same, us_ua]
  rw [upd_at, if_neg h4]
  rfl
def w20 (v : Int32) : Int32 := v + (if v < 20 then 1 else 0)
theorem w20_eq : ∀ a, a < 21 → w20 (Int32.ofNat a) = mn20 (Int32.ofNat a) ∧ ∃ k, k < 21 ∧ mn20 (Int32.ofNat a) = Int32.ofNat k := by decide +kernel
theorem c232 {r : Nat} {u : Int32} (hu : u = Int32.ofNat r) (hr : r < 84) : RM x 232 [.ref b, .int u] (setM w b (ua m 1 g)) n = some (.inl none, setM w b (ua m 1 (upd g r (w20 (g r)))), n) := by
  subst hu
  have h2 : fin 84 (Int32.ofNat r) = some r := fin_nat (by omega) (by omega)
  simp only [csN, csm_i, csm_r, Nat.reduceAdd, Nat.reduceLeDiff, wdI, wdR, wdN, clM_0, clC_0, clC_1, clC_6, clC_8, true_or, or_true, i10, i01, ob_some, ob_map, cal_v, rvs_some, rvs_none, XO_at, cal_x, m232, r232_0, r232_1, r232_4, r232_5, r232_6, r232_7, r232_8, r232_11, r232_12, r232_13, r232_15, r232_18, r232_19, r232_22, r232_23, r232_24, r232_25, gM_0_0, lM_1, sM_1, h2, Option.map_some, ua_same, us_ua]
  unfold w20
  split <;> rfl
/-- the model's canal when the barge in row j passes the gate gt, to the reach r -/
def psG (g : Nat → Int32) (gt : Nat) : Nat → Int32 :=
  let g1 := upd g (8 + gt) (g (8 + gt) - mn 6 (g (8 + gt)))
  let g2 := pourG g1 (gt + 1) (mn 6 (g (8 + gt)))
  let g3 := upd g2 (29 + gt * 2) (w20 (g2 (29 + gt * 2)))
  let g4 := upd g3 (29 + gt * 2 + 1) (w20 (g3 (29 + gt * 2 + 1)))
  upd g4 (39 + gt) (g4 (39 + gt) + 1)
theorem pourG_out {r j : Nat} {u : Int32} (h1 : ¬ j = 6) (h2 : ¬ j = 8 + r) : pourG g r u j = g j := by
  unfold pourG
  rw [upd_at, if_neg h1, upd_at, if_neg h2]
theorem psG_out {gt j : Nat} (h0 : ¬ j = 6) (h1 : ¬ j = 8 + gt) (h2 : ¬ j = 8 + (gt + 1)) (h3 : ¬ j = 29 + gt * 2) (h4 : ¬ j = 29 + gt * 2 + 1) (h5 : ¬ j = 39 + gt) : psG g gt j = g j := by
  unfold psG
  rw [upd_at, if_neg h5, upd_at, if_neg h4, upd_at, if_neg h3, pourG_out h0 h2, upd_at, if_neg h1]
theorem RB_congr {g' : Nat → Int32} {i j : Nat} (h : RB s g i j) (h44 : g' (44 + j) = g (44 + j)) (h52 : g' (52 + j) = g (52 + j)) (h60 : g' (60 + j) = g (60 + j)) (h68 : g' (68 + j) = g (68 + j)) (h76 : g' (76 + j) = g (76 + j)) : RB s g' i j := by
  unfold RB
  rw [h44, h52, h60, h68, h76]
  exact h
theorem RB_ps {gt i j : Nat} (hg : gt < 5) (h : RB s g i j) : RB s (psG g gt) i j :=
  RB_congr h (psG_out (by omega) (by omega) (by omega) (by omega) (by omega) (by omega)) (psG_out (by omega) (by omega) (by omega) (by omega) (by omega) (by omega)) (psG_out (by omega) (by omega) (by omega) (by omega) (by omega) (by omega)) (psG_out (by omega) (by omega) (by omega) (by omega) (by omega) (by omega)) (psG_out (by omega) (by omega) (by omega) (by omega) (by omega) (by omega))
theorem c233 {i j gt r : Nat} {u : Int32} (hu : u = Int32.ofNat j) (hj : j < 8) (hB : RB s g i j) (hg : gt < 5) (hr : r < 6) (h1 : s 12 i + s 13 i = Int32.ofNat r) (h2 : s 12 i + mn (s 13 i) 0 = Int32.ofNat gt) :
    RM x 233 [.ref b, .int u] (setM w b (ua m 1 g)) n = some (.inl (some (.int (bi (decide (r = if s 13 i = 1 then 5 else 0))))), setM w b (ua (us m 8 gt 1) 1 (upd (psG g gt) (76 + j) (Int32.ofNat r))), n) := by
  subst hu
  have q1 : ua m 1 g 1 = g := ua_same
  have e2 := c213 (x := x) (n := n) (b := b) (w := w) (m := ua m 1 g) (u := Int32.ofNat j) rfl hj (by rw [q1]; exact hB)
  have e1 := fun m' => c214 (x := x) (n := n) (b := b) (w := w) (s := s) (m := ua m' 1 (psG g gt)) (i := i) (u := Int32.ofNat j) rfl hj (by rw [ua_same]; exact RB_ps hg hB)
  have a1 : (8 : Int32) + Int32.ofNat gt = Int32.ofNat (8 + gt) := i_add (a := 8)
  have a2 : fin 84 (Int32.ofNat (8 + gt)) = some (8 + gt) := fin_nat (by omega) (by omega)
  have a3 : Int32.ofNat gt + 1 = Int32.ofNat (gt + 1) := i_add (b := 1)
  have a4 := fun g v => c231 (x := x) (n := n) (b := b) (w := w) (m := m) (g := g) (u := Int32.ofNat (gt + 1)) (v := v) rfl (by omega)
  have a5 : (29 : Int32) + 2 * Int32.ofNat gt = Int32.ofNat (29 + gt * 2) := by rw [show (2 : Int32) = Int32.ofNat 2 from rfl, i_mul, Nat.mul_comm]; exact i_add (a := 29)
  have a6 : Int32.ofNat (29 + gt * 2) + 1 = Int32.ofNat (29 + gt * 2 + 1) := i_add (b := 1)
  have a7 := fun g => c232 (x := x) (n := n) (b := b) (w := w) (m := m) (g := g) (u := Int32.ofNat (29 + gt * 2)) rfl (by omega)
  have a8 := fun g => c232 (x := x) (n := n) (b := b) (w := w) (m := m) (g := g) (u := Int32.ofNat (29 + gt * 2 + 1)) rfl (by omega)
  have a9 : (39 : Int32) + Int32.ofNat gt = Int32.ofNat (39 + gt) := i_add (a := 39)
  have b1 : fin 84 (Int32.ofNat (39 + gt)) = some (39 + gt) := fin_nat (by omega) (by omega)
  have b2 : fin 5 (Int32.ofNat gt) = some gt := fin_nat (by omega) (by omega)
  have b3 : (76 : Int32) + Int32.ofNat j = Int32.ofNat (76 + j) := i_add (a := 76)
  have b4 : fin 84 (Int32.ofNat (76 + j)) = some (76 + j) := fin_nat (by omega) (by omega)
  have b5 : (68 : Int32) + Int32.ofNat j = Int32.ofNat (68 + j) := i_add (a := 68)
  have b6 : fin 84 (Int32.ofNat (68 + j)) = some (68 + j) := fin_nat (by omega) (by omega)
  have hps : upd (upd (upd (pourG (upd g (8 + gt) (g (8 + gt) - mn 6 (g (8 + gt)))) (gt + 1) (mn 6 (g (8 + gt)))) (29 + gt * 2) (w20 (pourG (upd g (8 + gt) (g (8 + gt) - mn 6 (g (8 + gt)))) (gt + 1) (mn 6 (g (8 + gt))) (29 + gt * 2)))) (29 + gt * 2 + 1)
      (w20 (upd (pourG (upd g (8 + gt) (g (8 + gt) - mn 6 (g (8 + gt)))) (gt + 1) (mn 6 (g (8 + gt)))) (29 + gt * 2) (w20 (pourG (upd g (8 + gt) (g (8 + gt) - mn 6 (g (8 + gt)))) (gt + 1) (mn 6 (g (8 + gt))) (29 + gt * 2))) (29 + gt * 2 + 1)))) (39 + gt)
      (upd (upd (pourG (upd g (8 + gt) (g (8 + gt) - mn 6 (g (8 + gt)))) (gt + 1) (mn 6 (g (8 + gt)))) (29 + gt * 2) (w20 (pourG (upd g (8 + gt) (g (8 + gt) - mn 6 (g (8 + gt)))) (gt + 1) (mn 6 (g (8 + gt))) (29 + gt * 2)))) (29 + gt * 2 + 1)
      (w20 (upd (pourG (upd g (8 + gt) (g (8 + gt) - mn 6 (g (8 + gt)))) (gt + 1) (mn 6 (g (8 + gt)))) (29 + gt * 2) (w20 (pourG (upd g (8 + gt) (g (8 + gt) - mn 6 (g (8 + gt)))) (gt + 1) (mn 6 (g (8 + gt))) (29 + gt * 2))) (29 + gt * 2 + 1))) (39 + gt) + 1) = psG g gt := rfl
  have q2 : psG g gt (68 + j) = g (68 + j) := psG_out (by omega) (by omega) (by omega) (by omega) (by omega) (by omega)
  have q3 : ¬ 68 + j = 76 + j := by omega
  simp only [csN, csm_i, csm_r, Nat.reduceAdd, Nat.reduceLeDiff, wdI, wdR, wdN, clM_0, clC_0, clC_1, clC_6, clC_8, true_or, or_true, i10, i01, ob_some, ob_map, cal_v, rvs_some, rvs_none, XO_at, cal_x, m233, r233_0, r233_1, r233_2, r233_5, r233_6, r233_8, r233_9, r233_12, r233_14, r233_15, r233_16, r233_17, r233_20, r233_21, r233_22, r233_25, r233_27, r233_28, r233_29, r233_30, r233_31, r233_32, r233_33, r233_34, r233_35, r233_36, r233_37, r233_38, r233_39, r233_42, r233_43, r233_45, r233_46, r233_47, r233_48, r233_49, r233_52, r233_53, r233_55, r233_56, r233_57, r233_58, r233_59, r233_60, r233_61, r233_64, r233_65, r233_68, r233_70, r233_71, r233_72, r233_73, r233_74, r233_75, r233_76, r233_77, r233_78, r233_81, r233_82, r233_83, r233_84, r233_85, r233_88, r233_90, r233_91, r233_92, r233_93, r233_97, r233_98, r233_99, r233_102, r233_104, r233_105, r233_106, r233_107, r233_108, r233_111, r233_113, r233_114, r233_115, r233_116, r233_117, r233_120, r233_121, r233_124, r233_125, r233_128, r233_129, r233_132, gM_0_0, gM_0_14, lM_1, sM_1, sM_8, e2, h2, a1, a2, a3, a4, a5, a6, a7, a8, a9, b1, b2, b3, b4, b5, b6, Option.map_some, c194, less_mn, ua_same, us_ua, us_ua8]
  rw [hps]
  simp only [csN, csm_i, csm_r, Nat.reduceAdd, Nat.reduceLeDiff, wdI, wdR, wdN, clM_0, clC_0, clC_1, clC_6, clC_8, true_or, or_true, i10, i01, ob_some, ob_map, cal_v, rvs_some, rvs_none, XO_at, cal_x, m233, r233_0, r233_1, r233_2, r233_5, r233_6, r233_8, r233_9, r233_12, r233_14, r233_15, r233_16, r233_17, r233_20, r233_21, r233_22, r233_25, r233_27, r233_28, r233_29, r233_30, r233_31, r233_32, r233_33, r233_34, r233_35, r233_36, r233_37, r233_38, r233_39, r233_42, r233_43, r233_45, r233_46, r233_47, r233_48, r233_49, r233_52, r233_53, r233_55, r233_56, r233_57, r233_58, r233_59, r233_60, r233_61, r233_64, r233_65, r233_68, r233_70, r233_71, r233_72, r233_73, r233_74, r233_75, r233_76, r233_77, r233_78, r233_81, r233_82, r233_83, r233_84, r233_85, r233_88, r233_90, r233_91, r233_92, r233_93, r233_94, r233_97, r233_98, r233_99, r233_102, r233_104, r233_105, r233_106, r233_107, r233_108, r233_111, r233_113, r233_114, r233_115, r233_116, r233_117, r233_120, r233_121, r233_124, r233_125, r233_128, r233_129, r233_132, gM_0_0, lM_1, sM_1, b3, b4, b5, b6, Option.map_some, ua_same, us_ua, e1, h1, upd_at, q2, q3, if_true, if_false]
  obtain ⟨d1, d2⟩ := RB_dir hB
  have f5 : (Int32.ofNat r = 5) = (r = 5) := i_eq (b := 5) (by omega) (by omega)
  have f6 : (Int32.ofNat r = 0) = (r = 0) := i_eq (b := 0) (by omega) (by omega)
  by_cases k1 : g (68 + j) = 1
  · rw [d1 k1]
    by_cases k2 : r = 5
    · simp only [k1, k2, f5, if_true, decide_true, bi_t, show (Int32.ofNat 5 = 5) = True from eq_true rfl]; exact r233_133 (v := 1) (by decide)
    · simp only [k1, k2, f5, if_true, if_false, decide_false, bi_f]; exact r233_133 (v := 0) (by decide)
  · rw [d2 k1]
    by_cases k2 : r = 0
    · simp only [k1, k2, f6, if_true, if_false, decide_true, bi_t, show ((-1 : Int32) = 1) = False from eq_false (by decide), show (Int32.ofNat 0 = 0) = True from eq_true rfl]; exact r233_133 (v := 1) (by decide)
    · simp only [k1, k2, f6, if_false, decide_false, bi_f, show ((-1 : Int32) = 1) = False from eq_false (by decide)]; exact r233_133 (v := 0) (by decide)
/-! a barge is taken out -/
def sh1 (g : Nat → Int32) (a p k : Nat) : Nat → Int32 := fun i => if a + p ≤ i ∧ i < a + k then g (i + 1) else g i
theorem sh1_s {a p k : Nat} (h : p ≤ k) : upd (sh1 g a p k) (a + k) (g (a + k + 1)) = sh1 g a p (k + 1) := by
  funext i
  rw [upd_at]
  unfold sh1
  by_cases hi : i = a + k
  · subst hi
    rw [if_pos rfl, if_pos (by omega)]
  · rw [if_neg hi]
    by_cases h2 : a + p ≤ i ∧ i < a + k
    · rw [if_pos h2, if_pos (by omega)]
    · rw [if_neg h2, if_neg (by omega)]
theorem l216i {a p : Nat} (ha : a ≤ 76) (hp : p ≤ 7) (d : Nat) : ∀ k, p ≤ k → k + d = 7 →
    RC x 216 11 [some (.ref b), some (.int (Int32.ofNat p)), some (.int (Int32.ofNat a)), some (.int (Int32.ofNat k))] [] (setM w b (ua m 1 (sh1 g a p k))) n = RC x 216 3 [some (.ref b), some (.int (Int32.ofNat p)), some (.int (Int32.ofNat (a + 8))), some (.int 7)] [] (setM w b (ua m 1 (sh1 g a p 7))) n := by
  induction d with
  | zero =>
    intro k hk h
    obtain rfl : k = 7 := by omega
    rw [r216_11]
    have h2 : Int32.ofNat a + 8 = Int32.ofNat (a + 8) := i_add (b := 8)
    simp only [csN, csm_i, csm_r, Nat.reduceAdd, Nat.reduceLeDiff, wdI, wdR, wdN, clM_0, clC_0, clC_1, clC_6, clC_8, true_or, or_true, i10, i01, ob_some, ob_map, cal_v, rvs_some, rvs_none, XO_at, cal_x, m216, r216_0, r216_2, r216_4, r216_6, r216_9, r216_10, r216_12, r216_14, r216_17, r216_18, r216_21, r216_22, r216_23, r216_24, r216_25, r216_28, r216_29, r216_30, r216_31, r216_32, r216_33, r216_34, r216_35, r216_38, r216_41, r216_44, r216_47, r216_48, r216_51, r216_52, r216_53, r216_54, r216_55, r216_56, r216_57, Int32.reduceOfNat, Int32.reduceLT, if_false, h2]
  | succ d ih =>
    intro k hk h
    rw [r216_11]
    have h1 : Int32.ofNat k < 7 := nlt (N := 7) (by omega) (by omega) (by omega)
    have h2 : Int32.ofNat k + 1 = Int32.ofNat (k + 1) := i_add (b := 1)
    have h3 : Int32.ofNat a + Int32.ofNat k = Int32.ofNat (a + k) := i_add
    have h4 : Int32.ofNat (a + k) + 1 = Int32.ofNat (a + k + 1) := i_add (b := 1)
    have h5 : fin 84 (Int32.ofNat (a + k)) = some (a + k) := fin_nat (by omega) (by omega)
    have h6 : fin 84 (Int32.ofNat (a + k + 1)) = some (a + k + 1) := fin_nat (by omega) (by omega)
    have h7 : sh1 g a p k (a + k + 1) = g (a + k + 1) := by unfold sh1; rw [if_neg (by omega)]
    simp only [csN, csm_i, csm_r, Nat.reduceAdd, Nat.reduceLeDiff, wdI, wdR, wdN, clM_0, clC_0, clC_1, clC_6, clC_8, true_or, or_true, i10, i01, ob_some, ob_map, cal_v, rvs_some, rvs_none, XO_at, cal_x, m216, r216_0, r216_2, r216_4, r216_6, r216_9, r216_10, r216_12, r216_14, r216_17, r216_18, r216_21, r216_22, r216_23, r216_24, r216_25, r216_28, r216_29, r216_30, r216_31, r216_32, r216_33, r216_34, r216_35, r216_38, r216_41, r216_44, r216_47, r216_48, r216_51, r216_52, r216_53, r216_54, r216_55, r216_56, r216_57, gM_0_0, lM_1, sM_1, h1, h2, h3, h4, h5, h6, h7, Option.map_some, ua_same, us_ua, if_true, sh1_s, hk]
    exact ih (k + 1) (by omega) (by omega)
theorem sh1_0 {a p : Nat} : sh1 g a p p = g := by
  funext i
  unfold sh1
  rw [if_neg (by omega)]
theorem l216o {a p : Nat} {e : Option Value} (ha : a ≤ 76) (hp : p ≤ 7) : RC x 216 3 [some (.ref b), some (.int (Int32.ofNat p)), some (.int (Int32.ofNat a)), e] [] (setM w b (ua m 1 g)) n = RC x 216 3 [some (.ref b), some (.int (Int32.ofNat p)), some (.int (Int32.ofNat (a + 8))), some (.int 7)] [] (setM w b (ua m 1 (sh1 g a p 7))) n := by
  rw [r216_3]
  have h1 : Int32.ofNat a < 84 := nlt (N := 84) (by omega) (by omega) (by omega)
  have hh := l216i (x := x) (n := n) (b := b) (w := w) (m := m) (g := g) (a := a) (p := p) ha hp (7 - p) p (Nat.le_refl _) (by omega)
  rw [sh1_0] at hh
  simp only [csN, csm_i, csm_r, Nat.reduceAdd, Nat.reduceLeDiff, wdI, wdR, wdN, clM_0, clC_0, clC_1, clC_6, clC_8, true_or, or_true, i10, i01, ob_some, ob_map, cal_v, rvs_some, rvs_none, XO_at, cal_x, m216, r216_0, r216_2, r216_4, r216_6, r216_9, r216_10, r216_12, r216_14, r216_17, r216_18, r216_21, r216_22, r216_23, r216_24, r216_25, r216_28, r216_29, r216_30, r216_31, r216_32, r216_33, r216_34, r216_35, r216_38, r216_41, r216_44, r216_47, r216_48, r216_51, r216_52, r216_53, r216_54, r216_55, r216_56, r216_57, h1, if_true]
  exact hh
def dpG (g : Nat → Int32) (p : Nat) : Nat → Int32 := let g5 := sh1 (sh1 (sh1 (sh1 (sh1 g 44 p 7) 52 p 7) 60 p 7) 68 p 7) 76 p 7
  upd g5 3 (g5 3 - 1)
theorem c216 {p : Nat} {u : Int32} (hu : u = Int32.ofNat p) (hp : p ≤ 7) : RM x 216 [.ref b, .int u] (setM w b (ua m 1 g)) n = some (.inl none, setM w b (ua m 1 (dpG g p)), n) := by
  subst hu
  have h3 : fin 84 3 = some 3 := fin_lit (by decide) (by decide)
  simp only [csN, csm_i, csm_r, Nat.reduceAdd, Nat.reduceLeDiff, wdI, wdR, wdN, clM_0, clC_0, clC_1, clC_6, clC_8, true_or, or_true, i10, i01, ob_some, ob_map, cal_v, rvs_some, rvs_none, XO_at, cal_x, m216, r216_0, r216_2, r216_4, r216_6, r216_9, r216_10, r216_12, r216_14, r216_17, r216_18, r216_21, r216_22, r216_23, r216_24, r216_25, r216_28, r216_29, r216_30, r216_31, r216_32, r216_33, r216_34, r216_35, r216_38, r216_41, r216_44, r216_47, r216_48, r216_51, r216_52, r216_53, r216_54, r216_55, r216_56, r216_57]
  have k1 := fun g e => l216o (x := x) (n := n) (b := b) (w := w) (m := m) (g := g) (a := 44) (p := p) (e := e) (by omega) hp
  have k2 := fun g e => l216o (x := x) (n := n) (b := b) (w := w) (m := m) (g := g) (a := 52) (p := p) (e := e) (by omega) hp
  have k3 := fun g e => l216o (x := x) (n := n) (b := b) (w := w) (m := m) (g := g) (a := 60) (p := p) (e := e) (by omega) hp
  have k4 := fun g e => l216o (x := x) (n := n) (b := b) (w := w) (m := m) (g := g) (a := 68) (p := p) (e := e) (by omega) hp
  have k5 := fun g e => l216o (x := x) (n := n) (b := b) (w := w) (m := m) (g := g) (a := 76) (p := p) (e := e) (by omega) hp
  rw [show (44 : Int32) = Int32.ofNat 44 from rfl, k1, k2, k3, k4, k5, r216_3]
  simp only [csN, csm_i, csm_r, Nat.reduceAdd, Nat.reduceLeDiff, wdI, wdR, wdN, clM_0, clC_0, clC_1, clC_6, clC_8, true_or, or_true, i10, i01, ob_some, ob_map, cal_v, rvs_some, rvs_none, XO_at, cal_x, m216, r216_0, r216_2, r216_4, r216_6, r216_9, r216_10, r216_12, r216_14, r216_17, r216_18, r216_21, r216_22, r216_23, r216_24, r216_25, r216_28, r216_29, r216_30, r216_31, r216_32, r216_33, r216_34, r216_35, r216_38, r216_41, r216_44, r216_47, r216_48, r216_51, r216_52, r216_53, r216_54, r216_55, r216_56, r216_57, Int32.reduceOfNat, Int32.reduceLT, if_false, gM_0_0, lM_1, sM_1, h3, Option.map_some, ua_same, us_ua]
  rfl
theorem sh1_at {a p i : Nat} : sh1 g a p 7 i = if a + p ≤ i ∧ i < a + 7 then g (i + 1) else g i := rfl
theorem dpG_lo {p i : Nat} (h : i < 44) (h3 : ¬ i = 3) : dpG g p i = g i := by
  unfold dpG
  rw [upd_at, if_neg h3, sh1_at, if_neg (by omega), sh1_at, if_neg (by omega), sh1_at, if_neg (by omega), sh1_at, if_neg (by omega), sh1_at, if_neg (by omega)]
theorem dpG_3 {p : Nat} : dpG g p 3 = g 3 - 1 := by
  unfold dpG
  rw [upd_at, if_pos rfl, sh1_at, if_neg (by omega), sh1_at, if_neg (by omega), sh1_at, if_neg (by omega), sh1_at, if_neg (by omega), sh1_at, if_neg (by omega)]
theorem dpG_row {p a j : Nat} (ha : a = 44 ∨ a = 52 ∨ a = 60 ∨ a = 68 ∨ a = 76) (hj : j < 7) : dpG g p (a + j) = if p ≤ j then g (a + j + 1) else g (a + j) := by
  unfold dpG
  rw [upd_at, if_neg (by omega)]
  simp only [sh1_at]
  rcases ha with rfl | rfl | rfl | rfl | rfl
  all_goals
    by_cases h : p ≤ j
    · rw [if_pos h]
      repeat (first | rw [if_neg (by omega)] | rw [if_pos (by omega)])
    · rw [if_neg h]
      repeat (first | rw [if_neg (by omega)] | rw [if_pos (by omega)])
end MHR
