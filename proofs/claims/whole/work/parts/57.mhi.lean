/-! THE MODEL'S MEMORY: copies of its canal -/
section MHI
set_option maxRecDepth 20000
variable {x : SX} {n b c : Nat} {w : PW} {m s : NS} {g : Nat → Int32}
def cp84 (f : Nat → Int32) (a : Nat) (g : Nat → Int32) (t k : Nat) : Nat → Int32 := fun i => if t ≤ i ∧ i < t + k then f (a + (i - t)) else g i
theorem cp84_0 {f g : Nat → Int32} {a t : Nat} : cp84 f a g t 0 = g := by
  funext i
  unfold cp84
  rw [if_neg (by omega)]
theorem cp84_s {f g : Nat → Int32} {a t k : Nat} : upd (cp84 f a g t k) (t + k) (f (a + k)) = cp84 f a g t (k + 1) := by
  funext i
  rw [upd_at]
  unfold cp84
  by_cases h : i = t + k
  · rw [if_pos h, if_pos (by omega), show i - t = k by omega]
  · rw [if_neg h]
    by_cases h2 : t ≤ i ∧ i < t + k
    · rw [if_pos h2, if_pos (by omega)]
    · rw [if_neg h2, if_neg (by omega)]
theorem cp84_in {f g : Nat → Int32} {a t i : Nat} (h : i < 84) : cp84 f a g t 84 (t + i) = f (a + i) := by
  unfold cp84
  rw [if_pos (by omega), show t + i - t = i by omega]
theorem cp84_out {f g : Nat → Int32} {a t i : Nat} (h : i < t ∨ t + 84 ≤ i) : cp84 f a g t 84 i = g i := by
  unfold cp84
  rw [if_neg (by omega)]
def rowI' (N : Nat) (f : Nat → Int32) : PE := .inl (0, N, .inl f)
theorem l197 {p q a t N0 N1 : Nat} {f g : Nat → Int32} (hp : w p = some (rowI' N0 f)) (hpq : ¬ p = q) (ha : a + 84 ≤ N0) (ht : t + 84 ≤ N1) (h0 : N0 < 2147483648) (h1 : N1 < 2147483648) (d : Nat) : ∀ k, k + d = 84 →
    RC x 197 3 [some (.ref p), some (.int (Int32.ofNat a)), some (.ref q), some (.int (Int32.ofNat t)), some (.int (Int32.ofNat k))] [] (pupd w q (rowI' N1 (cp84 f a g t k))) n = some (.inl none, pupd w q (rowI' N1 (cp84 f a g t 84)), n) := by
  induction d with
  | zero =>
    intro k h
    obtain rfl : k = 84 := by omega
    rw [r197_3]
    simp only [csN, csm_i, csm_r, Nat.reduceAdd, Nat.reduceLeDiff, wdI, wdR, wdN, clM_0, clC_0, clC_1, clC_6, clC_8, true_or, or_true, i10, i01, ob_some, ob_map, cal_v, rvs_some, rvs_none, XO_at, cal_x, m197, r197_0, r197_1, r197_5, r197_7, r197_10, r197_11, r197_12, r197_14, r197_15, r197_16, r197_17, r197_19, r197_20, r197_21, r197_22, r197_25, r197_28, Int32.reduceOfNat, Int32.reduceLT, if_false]
  | succ d ih =>
    intro k h
    rw [r197_3]
    have e1 : Int32.ofNat k < 84 := nlt (N := 84) (by omega) (by omega) (by omega)
    have e2 : Int32.ofNat k + 1 = Int32.ofNat (k + 1) := i_add (b := 1)
    have e3 : Int32.ofNat t + Int32.ofNat k = Int32.ofNat (t + k) := i_add
    have e4 : Int32.ofNat a + Int32.ofNat k = Int32.ofNat (a + k) := i_add
    have e5 : fin N0 (Int32.ofNat (a + k)) = some (a + k) := fin_nat (by omega) (by omega)
    have e6 : fin N1 (Int32.ofNat (t + k)) = some (t + k) := fin_nat (by omega) (by omega)
    have e7 : ∀ v, ald 0 x (pupd w q (rowI' N1 (cp84 f a g t k))) 0 p v = (fin N0 v).map f := fun v => ald_at (by rw [pupd_ne hpq]; exact hp)
    have e8 : ∀ u v, ast 0 (pupd w q (rowI' N1 (cp84 f a g t k))) q u v = (fin N1 u).map fun j => pupd (pupd w q (rowI' N1 (cp84 f a g t k))) q (.inl (0, N1, .inl (upd (cp84 f a g t k) j v))) := fun u v => ast_at (pupd_same _ _ _)
    simp only [csN, csm_i, csm_r, Nat.reduceAdd, Nat.reduceLeDiff, wdI, wdR, wdN, clM_0, clC_0, clC_1, clC_6, clC_8, true_or, or_true, i10, i01, ob_some, ob_map, cal_v, rvs_some, rvs_none, XO_at, cal_x, m197, r197_0, r197_1, r197_5, r197_7, r197_10, r197_11, r197_12, r197_14, r197_15, r197_16, r197_17, r197_19, r197_20, r197_21, r197_22, r197_25, r197_28, e1, e2, e3, e4, e5, e6, e7, e8, Option.map_some, if_true, pupd_pupd, cp84_s]
    exact ih (k + 1) (by omega)
theorem c197 {p q a t N0 N1 : Nat} {u v : Int32} {f g : Nat → Int32} (hu : u = Int32.ofNat a) (hv : v = Int32.ofNat t) (hp : w p = some (rowI' N0 f)) (hq : w q = some (rowI' N1 g)) (hpq : ¬ p = q) (ha : a + 84 ≤ N0) (ht : t + 84 ≤ N1) (h0 : N0 < 2147483648) (h1 : N1 < 2147483648) :
    RM x 197 [.ref p, .int u, .ref q, .int v] w n = some (.inl none, pupd w q (rowI' N1 (cp84 f a g t 84)), n) := by
  subst hu
  subst hv
  have hl := l197 (x := x) (n := n) (w := w) (g := g) hp hpq ha ht h0 h1 84 0 rfl
  rw [cp84_0, pupd_self hq] at hl
  simp only [csN, csm_i, csm_r, Nat.reduceAdd, Nat.reduceLeDiff, wdI, wdR, wdN, clM_0, clC_0, clC_1, clC_6, clC_8, true_or, or_true, i10, i01, ob_some, ob_map, cal_v, rvs_some, rvs_none, XO_at, cal_x, m197, r197_0, r197_1, r197_5, r197_7, r197_10, r197_11, r197_12, r197_14, r197_15, r197_16, r197_17, r197_19, r197_20, r197_21, r197_22, r197_25, r197_28]
  exact hl
theorem c198 : RM x 198 [.ref b] (setM w b m) n = some (.inl none, setM w b (ua m 2 (cp84 (m 1) 0 (m 2) 0 84)), n) := by
  have h := c197 (x := x) (n := n) (w := setM w b m) (p := b + 1) (q := b + 2) (a := 0) (t := 0) (N0 := 84) (N1 := 84) (u := 0) (v := 0) rfl rfl setM_1 setM_2 (by omega) (by omega) (by omega) (by decide) (by decide)
  have e : pupd (setM w b m) (b + 2) (rowI' 84 (cp84 (m 1) 0 (m 2) 0 84)) = setM w b (ua m 2 (cp84 (m 1) 0 (m 2) 0 84)) := fM_2
  rw [e] at h
  simp only [csN, csm_i, csm_r, Nat.reduceAdd, Nat.reduceLeDiff, wdI, wdR, wdN, clM_0, clC_0, clC_1, clC_6, clC_8, true_or, or_true, i10, i01, ob_some, ob_map, cal_v, rvs_some, rvs_none, XO_at, cal_x, m198, r198_0, r198_1, r198_4, r198_5, r198_6, r198_9, r198_10, r198_13, gM_0_0, gM_0_1, h]
theorem c199a {v : Int32} (ht : ¬ m 20 13 = 0) : RM x 199 [.ref b, .int v] (setM w b m) n = some (.inl (some (.int 0)), setM w b (ua m 1 (cp84 (m 2) 0 (m 1) 0 84)), n) := by
  have h := c197 (x := x) (n := n) (w := setM w b m) (p := b + 2) (q := b + 1) (a := 0) (t := 0) (N0 := 84) (N1 := 84) (u := 0) (v := 0) rfl rfl setM_2 setM_1 (by omega) (by omega) (by omega) (by decide) (by decide)
  have e : pupd (setM w b m) (b + 1) (rowI' 84 (cp84 (m 2) 0 (m 1) 0 84)) = setM w b (ua m 1 (cp84 (m 2) 0 (m 1) 0 84)) := fM_1
  rw [e] at h
  simp only [csN, csm_i, csm_r, Nat.reduceAdd, Nat.reduceLeDiff, wdI, wdR, wdN, clM_0, clC_0, clC_1, clC_6, clC_8, true_or, or_true, i10, i01, ob_some, ob_map, cal_v, rvs_some, rvs_none, XO_at, cal_x, m199, r199_0, r199_1, r199_4, r199_7, r199_8, r199_11, r199_12, r199_13, r199_16, r199_17, r199_20, r199_21, r199_22, r199_23, r199_26, r199_28, r199_31, r199_32, r199_34, r199_37, r199_40, r199_41, r199_44, r199_45, r199_46, r199_49, r199_50, r199_52, r199_53, r199_54, r199_55, r199_58, r199_61, r199_62, r199_63, r199_66, r199_67, r199_68, r199_71, r199_72, r199_75, r199_76, r199_77, r199_80, r199_81, r199_84, r199_86, r199_87, r199_90, r199_91, r199_92, r199_95, r199_96, r199_97, r199_100, r199_101, gM_0_0, gM_0_1, gM_0_13, h, ht, if_false]
def shH (h : Nat → Int32) (k : Nat) : Nat → Int32 := fun i => if i < k then h (i + 84) else h i
theorem shH_s {h : Nat → Int32} {k : Nat} : upd (shH h k) k (h (k + 84)) = shH h (k + 1) := by
  funext i
  rw [upd_at]
  unfold shH
  by_cases e : i = k
  · rw [if_pos e, if_pos (by omega), e]
  · rw [if_neg e]
    by_cases e2 : i < k
    · rw [if_pos e2, if_pos (by omega)]
    · rw [if_neg e2, if_neg (by omega)]
theorem l199 {v : Int32} {h : Nat → Int32} (d : Nat) : ∀ k, k + d = 588 → RC x 199 33 [some (.ref b), some (.int v), some (.int (Int32.ofNat k))] [] (setM w b (ua m 4 (shH h k))) n = RC x 199 61 [some (.ref b), some (.int v), some (.int 588)] [] (setM w b (ua m 4 (shH h 588))) n := by
  induction d with
  | zero =>
    intro k hk
    obtain rfl : k = 588 := by omega
    rw [r199_33]
    simp only [csN, csm_i, csm_r, Nat.reduceAdd, Nat.reduceLeDiff, wdI, wdR, wdN, clM_0, clC_0, clC_1, clC_6, clC_8, true_or, or_true, i10, i01, ob_some, ob_map, cal_v, rvs_some, rvs_none, XO_at, cal_x, m199, r199_0, r199_1, r199_4, r199_7, r199_8, r199_11, r199_12, r199_13, r199_16, r199_17, r199_20, r199_21, r199_22, r199_23, r199_26, r199_28, r199_31, r199_32, r199_34, r199_37, r199_40, r199_41, r199_44, r199_45, r199_46, r199_49, r199_50, r199_52, r199_53, r199_54, r199_55, r199_58, r199_62, r199_63, r199_66, r199_67, r199_68, r199_71, r199_72, r199_75, r199_76, r199_77, r199_80, r199_81, r199_84, r199_86, r199_87, r199_90, r199_91, r199_92, r199_95, r199_96, r199_97, r199_100, r199_101, Int32.reduceOfNat, Int32.reduceLT, if_false]
  | succ d ih =>
    intro k hk
    rw [r199_33]
    have e1 : Int32.ofNat k < 588 := nlt (N := 588) (by omega) (by omega) (by omega)
    have e2 : Int32.ofNat k + 1 = Int32.ofNat (k + 1) := i_add (b := 1)
    have e3 : Int32.ofNat k + 84 = Int32.ofNat (k + 84) := i_add (b := 84)
    have e5 : fin 672 (Int32.ofNat k) = some k := fin_nat (by omega) (by omega)
    have e6 : fin 672 (Int32.ofNat (k + 84)) = some (k + 84) := fin_nat (by omega) (by omega)
    have e7 : shH h k (k + 84) = h (k + 84) := by unfold shH; rw [if_neg (by omega)]
    simp only [csN, csm_i, csm_r, Nat.reduceAdd, Nat.reduceLeDiff, wdI, wdR, wdN, clM_0, clC_0, clC_1, clC_6, clC_8, true_or, or_true, i10, i01, ob_some, ob_map, cal_v, rvs_some, rvs_none, XO_at, cal_x, m199, r199_0, r199_1, r199_4, r199_7, r199_8, r199_11, r199_12, r199_13, r199_16, r199_17, r199_20, r199_21, r199_22, r199_23, r199_26, r199_28, r199_31, r199_32, r199_34, r199_37, r199_40, r199_41, r199_44, r199_45, r199_46, r199_49, r199_50, r199_52, r199_53, r199_54, r199_55, r199_58, r199_62, r199_63, r199_66, r199_67, r199_68, r199_71, r199_72, r199_75, r199_76, r199_77, r199_80, r199_81, r199_84, r199_86, r199_87, r199_90, r199_91, r199_92, r199_95, r199_96, r199_97, r199_100, r199_101, gM_0_3, lM_4, sM_4, e1, e2, e3, e5, e6, e7, Option.map_some, if_true, ua_same, us_ua', shH_s]
    exact ih (k + 1) (by omega)
/-- the history behind a change: its row, how many -/
def hiR (h f : Nat → Int32) (q : Nat) : Nat → Int32 := if q = 8 then cp84 f 0 (shH h 588) 588 84 else cp84 f 0 h (q * 84) 84
def hiN (q : Nat) : Nat := if q = 8 then 8 else q + 1
theorem c199b {v : Int32} {q : Nat} (ht : m 20 13 = 0) (hq : m 20 4 = Int32.ofNat q) (h8 : q ≤ 8) : RM x 199 [.ref b, .int v] (setM w b m) n = some (.inl (some (.int v)), setM w b (us (ua m 4 (hiR (m 4) (m 2) q)) 20 4 (Int32.ofNat (hiN q))), n) := by
  have e : ∀ (m : NS) f, pupd (setM w b m) (b + 4) (rowI' 672 f) = setM w b (ua m 4 f) := fun m f => fM_4
  have hc := fun (m : NS) (t : Nat) (ht : t + 84 ≤ 672) => c197 (x := x) (n := n) (w := setM w b m) (p := b + 2) (q := b + 4) (a := 0) (t := t) (N0 := 84) (N1 := 672) (u := 0) (v := Int32.ofNat t) rfl rfl setM_2 setM_4 (by omega) (by omega) ht (by decide) (by decide)
  simp only [e] at hc
  unfold hiR hiN
  by_cases hq8 : q = 8
  · subst hq8
    have hl := l199 (x := x) (n := n) (b := b) (w := w) (m := m) (v := v) (h := m 4) 588 0 rfl
    have e0 : ua m 4 (shH (m 4) 0) = m := by
      funext a
      unfold ua
      split
      · next h => rw [h]; funext i; unfold shH; rw [if_neg (by omega)]
      · rfl
    rw [e0] at hl
    have q8 : (Int32.ofNat 8 : Int32) = 8 := rfl
    have k1 := hc (us (ua m 4 (shH (m 4) 588)) 20 4 (8 - 1)) 588 (by omega)
    have k2 : ∀ z, us (ua m 4 (shH (m 4) 588)) 20 4 z 20 4 = z := fun z => by rw [us_at, if_pos rfl, if_pos rfl]
    have k3 : ∀ z, us (ua m 4 (shH (m 4) 588)) 20 4 z 2 = m 2 := fun z => by rw [us_ne (by decide), ua_ne (by decide)]
    have k4 : ∀ z, us (ua m 4 (shH (m 4) 588)) 20 4 z 4 = shH (m 4) 588 := fun z => by rw [us_ne (by decide), ua_same]
    have k5 : ua m 4 (shH (m 4) 588) 20 4 = m 20 4 := by rw [ua_ne (by decide)]
    have k6 : (8 - 1 : Int32) * 84 = Int32.ofNat 588 := by decide
    rw [k3, k4] at k1
    simp only [csN, csm_i, csm_r, Nat.reduceAdd, Nat.reduceLeDiff, wdI, wdR, wdN, clM_0, clC_0, clC_1, clC_6, clC_8, true_or, or_true, i10, i01, ob_some, ob_map, cal_v, rvs_some, rvs_none, XO_at, cal_x, m199, r199_0, r199_1, r199_4, r199_7, r199_8, r199_11, r199_12, r199_13, r199_16, r199_17, r199_20, r199_21, r199_22, r199_23, r199_26, r199_28, r199_31, r199_32, r199_34, r199_37, r199_40, r199_41, r199_44, r199_45, r199_46, r199_49, r199_50, r199_52, r199_53, r199_54, r199_55, r199_58, r199_62, r199_63, r199_66, r199_67, r199_68, r199_71, r199_72, r199_75, r199_76, r199_77, r199_80, r199_81, r199_84, r199_86, r199_87, r199_90, r199_91, r199_92, r199_95, r199_96, r199_97, r199_100, r199_101, gM_0_13, gM_0_4, ht, hq, q8, if_true]
    show RC x 199 33 [some (.ref b), some (.int v), some (.int (Int32.ofNat 0))] [] (setM w b m) n = _
    rw [hl, r199_61]
    simp only [csN, csm_i, csm_r, Nat.reduceAdd, Nat.reduceLeDiff, wdI, wdR, wdN, clM_0, clC_0, clC_1, clC_6, clC_8, true_or, or_true, i10, i01, ob_some, ob_map, cal_v, rvs_some, rvs_none, XO_at, cal_x, m199, r199_0, r199_1, r199_4, r199_7, r199_8, r199_11, r199_12, r199_13, r199_16, r199_17, r199_20, r199_21, r199_22, r199_23, r199_26, r199_28, r199_31, r199_32, r199_34, r199_37, r199_40, r199_41, r199_44, r199_45, r199_46, r199_49, r199_50, r199_52, r199_53, r199_54, r199_55, r199_58, r199_62, r199_63, r199_66, r199_67, r199_68, r199_71, r199_72, r199_75, r199_76, r199_77, r199_80, r199_81, r199_84, r199_86, r199_87, r199_90, r199_91, r199_92, r199_95, r199_96, r199_97, r199_100, r199_101, gM_0_1, gM_0_3, gM_0_4, pM_0_4, k5, hq, q8, k2, k6, k1, ua_ne, Nat.reduceEqDiff, not_false_eq_true]
    refine congrArg (fun z => some ((Sum.inl (some (Value.int v)), setM w b z, n) : RR)) ?_
    have e9 : (8 - 1 + 1 : Int32) = 8 := by decide
    rw [e9]
    funext a i
    simp only [us_at]
    by_cases h20 : a = 20
    · rw [if_pos h20, if_pos h20]
      by_cases hi : i = 4
      · rw [if_pos hi, if_pos hi]
      · rw [if_neg hi, if_neg hi, ua_ne (by decide), ua_ne (by decide), us_at, if_pos rfl, if_neg hi, ua_ne (by decide)]
    · rw [if_neg h20, if_neg h20]
      by_cases h4 : a = 4
      · rw [h4, ua_same, ua_same]
      · rw [ua_ne h4, ua_ne h4, us_ne h20, ua_ne h4]
  · have k0 : ¬ Int32.ofNat q = 8 := fun z => hq8 (i_inj (a := q) (b := 8) (by omega) (by omega) z)
    have k1 := hc m (q * 84) (by omega)
    have k2 : Int32.ofNat q * 84 = Int32.ofNat (q * 84) := i_mul (b := 84)
    have k3 : Int32.ofNat q + 1 = Int32.ofNat (q + 1) := i_add (b := 1)
    have k5 : ∀ f, ua m 4 f 20 4 = m 20 4 := fun f => by rw [ua_ne (by decide)]
    rw [if_neg hq8, if_neg hq8]
    simp only [csN, csm_i, csm_r, Nat.reduceAdd, Nat.reduceLeDiff, wdI, wdR, wdN, clM_0, clC_0, clC_1, clC_6, clC_8, true_or, or_true, i10, i01, ob_some, ob_map, cal_v, rvs_some, rvs_none, XO_at, cal_x, m199, r199_0, r199_1, r199_4, r199_7, r199_8, r199_11, r199_12, r199_13, r199_16, r199_17, r199_20, r199_21, r199_22, r199_23, r199_26, r199_28, r199_31, r199_32, r199_34, r199_37, r199_40, r199_41, r199_44, r199_45, r199_46, r199_49, r199_50, r199_52, r199_53, r199_54, r199_55, r199_58, r199_62, r199_63, r199_66, r199_67, r199_68, r199_71, r199_72, r199_75, r199_76, r199_77, r199_80, r199_81, r199_84, r199_86, r199_87, r199_90, r199_91, r199_92, r199_95, r199_96, r199_97, r199_100, r199_101, gM_0_13, gM_0_1, gM_0_3, gM_0_4, pM_0_4, ht, hq, k0, if_true, if_false, k1, k2, k3, k5]
/-! the relation speaks of 84 numbers, of a canal's own numbers -/
theorem RB_g {g' : Nat → Int32} {i j : Nat} (hj : j < 8) (h : RB s g i j) (hg : ∀ k, k < 84 → g' k = g k) : RB s g' i j := RB_congr h (hg _ (by omega)) (hg _ (by omega)) (hg _ (by omega)) (hg _ (by omega)) (hg _ (by omega))
theorem Rel_g {g' : Nat → Int32} (h : Rel s g c) (hg : ∀ k, k < 84 → g' k = g k) : Rel s g' c := by
  obtain ⟨⟨h1, h2, h3, h4⟩, h5⟩ := h
  have h8 := h1.1.2.1
  exact ⟨⟨h1, RS_congr h2 (fun k hk _ _ => hg k (by omega)), by rw [hg 3 (by omega)]; exact h3, fun j hj => RB_g (by omega) (h4 j hj) hg⟩, by rw [hg 7 (by omega)]; exact h5⟩
theorem Rel_E {t : NS} (h : Rel s g c) (e : EC t s) : Rel t g c := by
  obtain ⟨e2, e3, e4, e5, e7, er, e20⟩ := e
  obtain ⟨⟨⟨⟨a1, a2, a3⟩, a4⟩, ⟨⟨b1, b2, b3, b4, b5, b6⟩, c2, c3, c4, c5, c6⟩, h3, h4⟩, h5⟩ := h
  refine ⟨⟨⟨⟨by rw [e20 25 (by simp)]; exact a1, a2, fun q hq => by rw [e2 q hq]; exact a3 q hq⟩, fun j hj => ?_⟩, ⟨⟨?_, ?_, ?_, ?_, ?_, ?_⟩, fun r hr => ?_, fun i hi => ?_, fun j hj => ?_, fun j hj => ?_, fun i hi => ?_⟩, h3, fun j hj => ?_⟩, ?_⟩
  · have := a4 j hj
    unfold WB at this ⊢
    rw [er 12 (by simp) j (by omega), er 13 (by simp) j (by omega)]
    exact this
  · rw [e20 3 (by simp)]; exact b1
  · rw [e20 4 (by simp)]; exact b2
  · rw [e20 26 (by simp)]; exact b3
  · rw [e20 11 (by simp)]; exact b4
  · rw [e20 12 (by simp)]; exact b5
  · rw [e20 13 (by simp)]; exact b6
  · rw [e7 r hr]; exact c2 r hr
  · rw [e2 i hi]; exact c3 i hi
  · rw [e4 j hj]; exact c4 j hj
  · rw [e5 j hj]; exact c5 j hj
  · rw [e3 i hi]; exact c6 i hi
  · have := h4 j hj
    unfold RB at this ⊢
    rw [er 9 (by simp) j (by omega), er 10 (by simp) j (by omega), er 11 (by simp) j (by omega), er 12 (by simp) j (by omega), er 13 (by simp) j (by omega)]
    exact this
  · rw [e20 5 (by simp)]; exact h5
theorem sumTo_congr {f f' : Nat → Int32} {N : Nat} (h : ∀ i, i < N → f i = f' i) : sumTo f N = sumTo f' N := by
  induction N with
  | zero => rfl
  | succ N ih => unfold sumTo; rw [ih (fun i hi => h i (by omega)), h N (by omega)]
theorem JC_E {t : NS} (h8 : c ≤ 8) (h : JC s c) (e : EC t s) : JC t c := by
  obtain ⟨e2, e3, e4, e5, e7, er, e20⟩ := e
  obtain ⟨h1, h2, h3, h4⟩ := h
  refine ⟨fun r hr => by rw [e7 r hr]; exact h1 r hr, ?_, fun r r0 r5 => ?_, by rw [e20 4 (by simp)]; exact h4⟩
  · rw [sumTo_congr e7, e20 11 (by simp), e20 12 (by simp), e20 13 (by simp)]; exact h2
  · have : ctS t c (Int32.ofNat r) = ctS s c (Int32.ofNat r) := cnt_congr (fun i hi => by rw [er 12 (by simp) i (by omega)])
    rw [this]
    exact h3 r r0 r5
def K1 (K : Nat → NS) (z : NS) : Nat → NS := fun j => if j = 0 then z else K (j - 1)
def mn8 (v : Int32) : Int32 := if (8 : Int32) < v + 1 then 8 else v + 1
def RJ (s : NS) (g : Nat → Int32) (c : Nat) : Prop := Rel s g c ∧ JC s c
/-- the kept canals on both sides -/
def HM (m : NS) (q : Nat) (K : Nat → NS) (cs : Nat → Nat) : Prop := q ≤ 8 ∧ m 20 4 = Int32.ofNat q ∧ ∀ j, j < q → RJ (K j) (fun i => m 4 ((q - 1 - j) * 84 + i)) (cs j)
def cs1 (cs : Nat → Nat) (c : Nat) : Nat → Nat := fun j => if j = 0 then c else cs (j - 1)
theorem hi_at {h f : Nat → Int32} {q i : Nat} (h8 : q ≤ 8) (hi : i < 84) : hiR h f q ((hiN q - 1) * 84 + i) = f i := by
  unfold hiR hiN
  by_cases e : q = 8
  · rw [if_pos e, if_pos e]
    have := cp84_in (f := f) (g := shH h 588) (a := 0) (t := 588) hi
    rw [Nat.zero_add] at this
    exact this
  · rw [if_neg e, if_neg e, Nat.add_sub_cancel]
    have := cp84_in (f := f) (g := h) (a := 0) (t := q * 84) hi
    rw [Nat.zero_add] at this
    exact this
theorem hi_old {h f : Nat → Int32} {q j i : Nat} (h8 : q ≤ 8) (hj : j + 1 < hiN q) (hi : i < 84) : hiR h f q ((hiN q - 1 - (j + 1)) * 84 + i) = h ((q - 1 - j) * 84 + i) := by
  unfold hiR hiN at *
  by_cases e : q = 8
  · rw [if_pos e] at hj
    rw [if_pos e, if_pos e, cp84_out (by omega)]
    unfold shH
    rw [if_pos (by omega)]
    congr 1
    subst e
    omega
  · rw [if_neg e] at hj
    rw [if_neg e, if_neg e, cp84_out (by omega)]
    congr 1
    omega
/-- the memory behind a change -/
theorem HM_1 {q : Nat} {K : Nat → NS} {cs : Nat → Nat} {z : NS} {m' : NS} (h : HM m q K cs) (hz : RJ z (m 2) c) (h4 : m' 4 = hiR (m 4) (m 2) q) (h20 : m' 20 4 = Int32.ofNat (hiN q)) : HM m' (hiN q) (K1 K z) (cs1 cs c) := by
  obtain ⟨h8, -, hK⟩ := h
  refine ⟨by unfold hiN; split <;> omega, h20, fun j hj => ?_⟩
  unfold K1 cs1
  by_cases j0 : j = 0
  · rw [if_pos j0, if_pos j0, j0]
    refine ⟨Rel_g hz.1 (fun k hk => ?_), hz.2⟩
    rw [h4, Nat.sub_zero, hi_at h8 hk]
  · rw [if_neg j0, if_neg j0]
    obtain ⟨j', rfl⟩ : ∃ j', j = j' + 1 := ⟨j - 1, by omega⟩
    have hjq : j' < q := by unfold hiN at hj; split at hj <;> omega
    rw [Nat.add_sub_cancel]
    refine ⟨Rel_g (hK j' hjq).1 (fun k hk => ?_), (hK j' hjq).2⟩
    show m' 4 _ = m 4 _
    rw [h4, hi_old h8 hj hk]
theorem mn8_hiN {q : Nat} (h8 : q ≤ 8) : mn8 (Int32.ofNat q) = Int32.ofNat (hiN q) := by
  have : q = 0 ∨ q = 1 ∨ q = 2 ∨ q = 3 ∨ q = 4 ∨ q = 5 ∨ q = 6 ∨ q = 7 ∨ q = 8 := by omega
  rcases this with rfl | rfl | rfl | rfl | rfl | rfl | rfl | rfl | rfl <;> decide
/-- what no change touches -/
def Keep (m m' : NS) : Prop := (∀ a, a = 3 ∨ a = 5 ∨ a = 6 ∨ a = 7 ∨ a = 9 → m' a = m a) ∧ (∀ j, ¬ j = 4 → ¬ j = 13 → m' 20 j = m 20 j)
/-- a change of the model with its beginning and its keeping -/
theorem kept_of {K : Nat → NS} {cs : Nat → Nat} {q : Nat} {k u v z : Int32} {code : Nat → Int32} {o : NS → Option RR} (hR : RJ s (m 1) c) (hH : HM m q K cs) (hcode : ∀ f, ¬ f = 0 → ¬ code f = 0)
    (hM : ∀ m : NS, Rel s (m 1) c → MCH x n b w m s c k u v z code (o m)) (hJ : ftS s c k u v z = 0 → JC (pfS s c k u v z).2 (pcS s c k u v z)) (z7 : NS) (hz7 : EC z7 s) :
    (ftS s c k u v z = 0 → ∃ mm m', o (ua m 2 (cp84 (m 1) 0 (m 2) 0 84)) = some (.inl (some (.int (pfS s c k u v z).1)), setM w b mm, n) ∧ RM x 199 [.ref b, .int (pfS s c k u v z).1] (setM w b mm) n = some (.inl (some (.int (pfS s c k u v z).1)), setM w b m', n) ∧
      RJ (pfS s c k u v z).2 (m' 1) (pcS s c k u v z) ∧ HM m' (hiN q) (K1 K z7) (cs1 cs c) ∧ m' 20 13 = 0 ∧ Keep m m') ∧
    (¬ ftS s c k u v z = 0 → ∃ mm m', o (ua m 2 (cp84 (m 1) 0 (m 2) 0 84)) = some (.inl (some (.int 0)), setM w b mm, n) ∧ RM x 199 [.ref b, .int 0] (setM w b mm) n = some (.inl (some (.int 0)), setM w b m', n) ∧
      RJ s (m' 1) c ∧ HM m' q K cs ∧ m' 20 13 = code (ftS s c k u v z) ∧ Keep m m') := by
  have h8 := hR.1.1.1.1.2.1
  have hM2 := hM (ua m 2 (cp84 (m 1) 0 (m 2) 0 84)) (by rw [ua_ne (by decide)]; exact hR.1)
  obtain ⟨M1, M2⟩ := hM2
  have b2 : ∀ i, i < 84 → cp84 (m 1) 0 (m 2) 0 84 i = m 1 i := fun i hi => by
    have := cp84_in (f := m 1) (g := m 2) (a := 0) (t := 0) hi
    rw [Nat.zero_add] at this
    exact this
  have hz : RJ z7 (cp84 (m 1) 0 (m 2) 0 84) c := ⟨Rel_g (Rel_E hR.1 hz7) b2, JC_E h8 hR.2 hz7⟩
  refine ⟨fun hf => ?_, fun hf => ?_⟩
  · obtain ⟨g', f', a1, a2⟩ := M1 hf
    obtain ⟨mm, hmm⟩ : ∃ mm, mm = ua (ua (us (ua m 2 (cp84 (m 1) 0 (m 2) 0 84)) 20 13 0) 8 f') 1 g' := ⟨_, rfl⟩
    rw [← hmm] at a2
    have e13 : mm 20 13 = 0 := by rw [hmm, ua_ne (by decide), ua_ne (by decide), us_at, if_pos rfl, if_pos rfl]
    have e4 : mm 20 4 = Int32.ofNat q := by rw [hmm, ua_ne (by decide), ua_ne (by decide), us_at, if_pos rfl, if_neg (by decide), ua_ne (by decide)]; exact hH.2.1
    have m4 : mm 4 = m 4 := by rw [hmm, ua_ne (by decide), ua_ne (by decide), us_ne (by decide), ua_ne (by decide)]
    have m2 : mm 2 = cp84 (m 1) 0 (m 2) 0 84 := by rw [hmm, ua_ne (by decide), ua_ne (by decide), us_ne (by decide), ua_same]
    have hk := c199b (x := x) (n := n) (b := b) (w := w) (v := (pfS s c k u v z).1) e13 e4 hH.1
    refine ⟨mm, us (ua mm 4 (hiR (mm 4) (mm 2) q)) 20 4 (Int32.ofNat (hiN q)), a2, hk, ?_, ?_, ?_, ?_, ?_⟩
    · rw [us_ne (by decide), ua_ne (by decide), hmm, ua_same]
      exact ⟨a1, hJ hf⟩
    · refine HM_1 (m := mm) ⟨hH.1, e4, by rw [m4]; exact hH.2.2⟩ (by rw [m2]; exact hz) ?_ ?_
      · rw [us_ne (by decide), ua_same]
      · rw [us_at, if_pos rfl, if_pos rfl]
    · rw [us_at, if_pos rfl, if_neg (by decide), ua_ne (by decide)]; exact e13
    · intro a ha
      rw [us_ne (by omega), ua_ne (by omega), hmm, ua_ne (by omega), ua_ne (by omega), us_ne (by omega), ua_ne (by omega)]
    · intro j j4 j13
      rw [us_at, if_pos rfl, if_neg j4, ua_ne (by decide), hmm, ua_ne (by decide), ua_ne (by decide), us_at, if_pos rfl, if_neg j13, ua_ne (by decide)]
  · have a2 := M2 hf
    obtain ⟨mm, hmm⟩ : ∃ mm, mm = us (ua m 2 (cp84 (m 1) 0 (m 2) 0 84)) 20 13 (code (ftS s c k u v z)) := ⟨_, rfl⟩
    rw [← hmm] at a2
    have e13 : mm 20 13 = code (ftS s c k u v z) := by rw [hmm, us_at, if_pos rfl, if_pos rfl]
    have hk := c199a (x := x) (n := n) (b := b) (w := w) (m := mm) (v := 0) (by rw [e13]; exact hcode _ hf)
    have m2 : mm 2 = cp84 (m 1) 0 (m 2) 0 84 := by rw [hmm, us_ne (by decide), ua_same]
    refine ⟨mm, ua mm 1 (cp84 (mm 2) 0 (mm 1) 0 84), a2, hk, ?_, ?_, ?_, ?_, ?_⟩
    · rw [ua_same]
      refine ⟨Rel_g hR.1 (fun i hi => ?_), hR.2⟩
      have := cp84_in (f := mm 2) (g := mm 1) (a := 0) (t := 0) hi
      rw [Nat.zero_add] at this
      rw [this, m2, b2 i hi]
    · have m4 : mm 4 = m 4 := by rw [hmm, us_ne (by decide), ua_ne (by decide)]
      refine ⟨hH.1, ?_, ?_⟩
      · rw [ua_ne (by decide), hmm, us_at, if_pos rfl, if_neg (by decide), ua_ne (by decide)]; exact hH.2.1
      · rw [ua_ne (by decide), m4]; exact hH.2.2
    · rw [ua_ne (by decide)]; exact e13
    · intro a ha
      rw [ua_ne (by omega), hmm, us_ne (by omega), ua_ne (by omega)]
    · intro j j4 j13
      rw [ua_ne (by decide), hmm, us_at, if_pos rfl, if_neg j13, ua_ne (by decide)]
end MHI
