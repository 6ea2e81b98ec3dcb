/-! THE FLEET of the class -/
section FLT
set_option maxRecDepth 20000
variable {x : SX} {n b : Nat} {w : PW} {s : NS}
theorem bi_if {P : Prop} [Decidable P] : (if P then (1 : Int32) else 0) = bi (decide P) := by
  by_cases h : P <;> simp [h, bi]
theorem c119 {v : Int32} : RM x 119 [.int v] w n = some (.inl (some (.int (bi (!decide (v < 1) && !decide (9 < v))))), w, n) := by
  simp only [csN, csm_i, csm_r, Nat.reduceAdd, Nat.reduceLeDiff, wdI, wdR, wdN, clM_0, clC_0, clC_1, clC_6, clC_8, true_or, or_true, i10, i01, ob_some, ob_map, cal_v, rvs_some, rvs_none, XO_at, cal_x, m119, r119_0, r119_1, r119_2, r119_5, r119_6, r119_8, r119_11, r119_12, r119_15, r119_16]
  by_cases h : v < 1 <;> by_cases h9 : 9 < v <;> simp [h, h9, bi]
theorem c120 : RM x 120 [.ref (b + 8)] (setC w b s) n = some (.inl (some (.int (bi (decide (¬ s 20 25 < 8))))), setC w b s, n) := by
  simp only [csN, csm_i, csm_r, Nat.reduceAdd, Nat.reduceLeDiff, wdI, wdR, wdN, clM_0, clC_0, clC_1, clC_6, clC_8, true_or, or_true, i10, i01, ob_some, ob_map, cal_v, rvs_some, rvs_none, XO_at, cal_x, m120, r120_0, r120_1, r120_4, r120_6, r120_9, r120_10, r120_13, gC_8_5]
  split
  · next h => simp only [h, not_true, decide_false, bi_f]; exact r120_14 (v := 0) (by decide)
  · next h => simp only [h, not_false_eq_true, decide_true, bi_t]; exact r120_14 (v := 1) (by decide)
def lauS (s : NS) (c : Nat) (note dr : Int32) (d : Bool) : NS := us (us (us (us (us (us (us s 9 c (s 20 26)) 10 c note) 11 c dr) 12 c (cond d 0 5)) 13 c (cond d 1 (-1))) 20 25 (s 20 25 + 1)) 20 26 (s 20 26 + 1)
theorem c121 {c : Nat} {u v z : Int32} {d : Bool} (hc : s 20 25 = Int32.ofNat c) (h8 : c < 8) (hz : z = bi d) : RM x 121 [.ref (b + 8), .int u, .int v, .int z] (setC w b s) n = some (.inl (some (.int (s 20 26))), setC w b (lauS s c u v d), n) := by
  subst hz
  have h1 := nz (a := c) (by omega)
  have h2 : Int32.ofNat c < 8 := nlt (N := 8) (by omega) (by omega) h8
  have h3 : fin 8 (Int32.ofNat c) = some c := fin_nat h8 (by omega)
  cases d with
  | true =>
    simp only [csN, csm_i, csm_r, Nat.reduceAdd, Nat.reduceLeDiff, wdI, wdR, wdN, clM_0, clC_0, clC_1, clC_6, clC_8, true_or, or_true, i10, i01, ob_some, ob_map, cal_v, rvs_some, rvs_none, XO_at, cal_x, m121, r121_0, r121_1, r121_4, r121_6, r121_7, r121_10, r121_13, r121_14, r121_17, r121_19, r121_22, r121_23, r121_26, r121_27, r121_30, r121_32, r121_33, r121_34, r121_37, r121_38, r121_41, r121_42, r121_43, r121_44, r121_47, r121_48, r121_51, r121_52, r121_53, r121_54, r121_57, r121_58, r121_61, r121_62, r121_65, r121_66, r121_69, r121_70, r121_71, r121_72, r121_75, r121_76, r121_79, r121_80, r121_83, r121_84, r121_87, r121_88, r121_89, r121_90, r121_91, r121_94, r121_95, r121_96, r121_99, r121_100, r121_101, r121_104, r121_105, r121_106, r121_109, r121_111, gC_8_0, gC_8_1, gC_8_2, gC_8_3, gC_8_4, gC_8_5, gC_8_6, pC_8_5, pC_8_6, sC_9, sC_10, sC_11, sC_12, sC_13, us_ne, Nat.reduceEqDiff, not_false_eq_true, hc, h1, h2, h3, Option.map_some, if_true, if_false, bi_t]
    rw [us_at]
    simp only [Nat.reduceEqDiff, if_true, if_false, us_ne, not_false_eq_true]
    unfold lauS
    simp only [cond_true, hc]
  | false =>
    simp only [csN, csm_i, csm_r, Nat.reduceAdd, Nat.reduceLeDiff, wdI, wdR, wdN, clM_0, clC_0, clC_1, clC_6, clC_8, true_or, or_true, i10, i01, ob_some, ob_map, cal_v, rvs_some, rvs_none, XO_at, cal_x, m121, r121_0, r121_1, r121_4, r121_6, r121_7, r121_10, r121_13, r121_14, r121_17, r121_19, r121_22, r121_23, r121_26, r121_27, r121_30, r121_32, r121_33, r121_34, r121_37, r121_38, r121_41, r121_42, r121_43, r121_44, r121_47, r121_48, r121_51, r121_52, r121_53, r121_54, r121_57, r121_58, r121_61, r121_62, r121_65, r121_66, r121_69, r121_70, r121_71, r121_72, r121_75, r121_76, r121_79, r121_80, r121_83, r121_84, r121_87, r121_88, r121_89, r121_90, r121_91, r121_94, r121_95, r121_96, r121_99, r121_100, r121_101, r121_104, r121_105, r121_106, r121_109, r121_111, gC_8_0, gC_8_1, gC_8_2, gC_8_3, gC_8_4, gC_8_5, gC_8_6, pC_8_5, pC_8_6, sC_9, sC_10, sC_11, sC_12, sC_13, us_ne, Nat.reduceEqDiff, not_false_eq_true, hc, h1, h2, h3, Option.map_some, if_true, if_false, bi_f]
    rw [us_at]
    simp only [Nat.reduceEqDiff, if_true, if_false, us_ne, not_false_eq_true]
    unfold lauS
    simp only [cond_false, hc]
/-- where a number stands first, from i on -/
def ixA (f : Nat → Int32) (v : Int32) : Nat → Nat → Int32
  | 0, _ => -1
  | d + 1, i => if f i = v then Int32.ofNat i else ixA f v d (i + 1)
theorem l122 {c : Nat} {v : Int32} (hc : s 20 25 = Int32.ofNat c) (h8 : c ≤ 8) (d : Nat) : ∀ i, i + d = c → RC x 122 2 [some (.ref (b + 8)), some (.int v), some (.int (Int32.ofNat i))] [] (setC w b s) n = some (.inl (some (.int (ixA (s 9) v d i))), setC w b s, n) := by
  induction d with
  | zero =>
    intro i h
    obtain rfl : i = c := by omega
    rw [r122_2]
    have h1 : ¬ Int32.ofNat i < Int32.ofNat i := by rw [i_lt (by omega) (by omega)]; omega
    simp only [csN, csm_i, csm_r, Nat.reduceAdd, Nat.reduceLeDiff, wdI, wdR, wdN, clM_0, clC_0, clC_1, clC_6, clC_8, true_or, or_true, i10, i01, ob_some, ob_map, cal_v, rvs_some, rvs_none, XO_at, cal_x, m122, r122_0, r122_1, r122_3, r122_4, r122_7, r122_10, r122_11, r122_14, r122_15, r122_18, r122_19, r122_22, r122_23, r122_24, r122_27, r122_30, r122_31, gC_8_5, hc, h1, if_false, ixA]
  | succ d ih =>
    intro i h
    rw [r122_2]
    have h1 : Int32.ofNat i < Int32.ofNat c := nlt (by omega) (by omega) (by omega)
    have h2 : Int32.ofNat i + 1 = Int32.ofNat (i + 1) := i_add (b := 1)
    have h3 : atv 8 (s 9) (Int32.ofNat i) = s 9 i := atv_nat (by omega) (by omega)
    have h4 := c96 (x := x) (n := n) (i := Int32.ofNat i) (setC_9 (w := w) (b := b) (s := s)) (by decide)
    simp only [csN, csm_i, csm_r, Nat.reduceAdd, Nat.reduceLeDiff, wdI, wdR, wdN, clM_0, clC_0, clC_1, clC_6, clC_8, true_or, or_true, i10, i01, ob_some, ob_map, cal_v, rvs_some, rvs_none, XO_at, cal_x, m122, r122_0, r122_1, r122_3, r122_4, r122_7, r122_10, r122_11, r122_14, r122_15, r122_18, r122_19, r122_22, r122_23, r122_24, r122_27, r122_30, r122_31, gC_8_5, gC_8_0, hc, h1, h2, h3, h4, if_true]
    rw [ih (i + 1) (by omega)]
    simp only [ixA]
    split <;> (next h => simp only [h, if_true, if_false])
theorem c122 {c : Nat} {v : Int32} (hc : s 20 25 = Int32.ofNat c) (h8 : c ≤ 8) : RM x 122 [.ref (b + 8), .int v] (setC w b s) n = some (.inl (some (.int (ixA (s 9) v c 0))), setC w b s, n) := by
  simp only [csN, csm_i, csm_r, Nat.reduceAdd, Nat.reduceLeDiff, wdI, wdR, wdN, clM_0, clC_0, clC_1, clC_6, clC_8, true_or, or_true, i10, i01, ob_some, ob_map, cal_v, rvs_some, rvs_none, XO_at, cal_x, m122, r122_0, r122_1, r122_3, r122_4, r122_7, r122_10, r122_11, r122_14, r122_15, r122_18, r122_19, r122_22, r122_23, r122_24, r122_27, r122_30, r122_31]
  exact l122 hc h8 c 0 (by omega)
theorem c123 {v : Int32} : RM x 123 [.ref (b + 8), .int v] (setC w b s) n = some (.inl (some (.int (atv 8 (s 10) v))), setC w b s, n) := by
  have h := c96 (x := x) (n := n) (i := v) (setC_10 (w := w) (b := b) (s := s)) (by decide)
  simp only [csN, csm_i, csm_r, Nat.reduceAdd, Nat.reduceLeDiff, wdI, wdR, wdN, clM_0, clC_0, clC_1, clC_6, clC_8, true_or, or_true, i10, i01, ob_some, ob_map, cal_v, rvs_some, rvs_none, XO_at, cal_x, m123, r123_0, r123_1, r123_4, r123_5, r123_8, gC_8_1, h]
theorem c124 {v : Int32} : RM x 124 [.ref (b + 8), .int v] (setC w b s) n = some (.inl (some (.int (atv 8 (s 11) v))), setC w b s, n) := by
  have h := c96 (x := x) (n := n) (i := v) (setC_11 (w := w) (b := b) (s := s)) (by decide)
  simp only [csN, csm_i, csm_r, Nat.reduceAdd, Nat.reduceLeDiff, wdI, wdR, wdN, clM_0, clC_0, clC_1, clC_6, clC_8, true_or, or_true, i10, i01, ob_some, ob_map, cal_v, rvs_some, rvs_none, XO_at, cal_x, m124, r124_0, r124_1, r124_4, r124_5, r124_8, gC_8_2, h]
theorem c125 {v : Int32} : RM x 125 [.ref (b + 8), .int v] (setC w b s) n = some (.inl (some (.int (atv 8 (s 12) v))), setC w b s, n) := by
  have h := c96 (x := x) (n := n) (i := v) (setC_12 (w := w) (b := b) (s := s)) (by decide)
  simp only [csN, csm_i, csm_r, Nat.reduceAdd, Nat.reduceLeDiff, wdI, wdR, wdN, clM_0, clC_0, clC_1, clC_6, clC_8, true_or, or_true, i10, i01, ob_some, ob_map, cal_v, rvs_some, rvs_none, XO_at, cal_x, m125, r125_0, r125_1, r125_4, r125_5, r125_8, gC_8_3, h]
theorem c126 {v : Int32} : RM x 126 [.ref (b + 8), .int v] (setC w b s) n = some (.inl (some (.int (bi (decide (0 < atv 8 (s 13) v))))), setC w b s, n) := by
  have h := c96 (x := x) (n := n) (i := v) (setC_13 (w := w) (b := b) (s := s)) (by decide)
  simp only [csN, csm_i, csm_r, Nat.reduceAdd, Nat.reduceLeDiff, wdI, wdR, wdN, clM_0, clC_0, clC_1, clC_6, clC_8, true_or, or_true, i10, i01, ob_some, ob_map, cal_v, rvs_some, rvs_none, XO_at, cal_x, m126, r126_0, r126_1, r126_4, r126_5, r126_8, r126_11, r126_12, r126_15, gC_8_4, h]
  split
  · next h => simp only [h, decide_true, bi_t]; exact r126_16 (v := 1) (by decide)
  · next h => simp only [h, decide_false, bi_f]; exact r126_16 (v := 0) (by decide)
theorem c127 {v : Int32} : RM x 127 [.ref (b + 8), .int v] (setC w b s) n = some (.inl (some (.int (atv 8 (s 12) v + atv 8 (s 13) v))), setC w b s, n) := by
  have h := c96 (x := x) (n := n) (i := v) (setC_12 (w := w) (b := b) (s := s)) (by decide)
  have h1 := c96 (x := x) (n := n) (i := v) (setC_13 (w := w) (b := b) (s := s)) (by decide)
  simp only [csN, csm_i, csm_r, Nat.reduceAdd, Nat.reduceLeDiff, wdI, wdR, wdN, clM_0, clC_0, clC_1, clC_6, clC_8, true_or, or_true, i10, i01, ob_some, ob_map, cal_v, rvs_some, rvs_none, XO_at, cal_x, m127, r127_0, r127_1, r127_4, r127_5, r127_8, r127_9, r127_12, r127_13, r127_16, r127_17, gC_8_3, gC_8_4, h, h1]
theorem c128 {v : Int32} : RM x 128 [.ref (b + 8), .int v] (setC w b s) n = some (.inl (some (.int (atv 8 (s 12) v + mn (atv 8 (s 13) v) 0))), setC w b s, n) := by
  have h := c96 (x := x) (n := n) (i := v) (setC_12 (w := w) (b := b) (s := s)) (by decide)
  have h1 := c96 (x := x) (n := n) (i := v) (setC_13 (w := w) (b := b) (s := s)) (by decide)
  simp only [csN, csm_i, csm_r, Nat.reduceAdd, Nat.reduceLeDiff, wdI, wdR, wdN, clM_0, clC_0, clC_1, clC_6, clC_8, true_or, or_true, i10, i01, ob_some, ob_map, cal_v, rvs_some, rvs_none, XO_at, cal_x, m128, r128_0, r128_1, r128_4, r128_5, r128_8, r128_9, r128_12, r128_13, r128_16, r128_17, r128_20, r128_21, gC_8_3, gC_8_4, h, h1]
  rfl
def gaS (r d : Int32) : Int32 := if 0 < d then 5 - r else r
theorem c129 {v : Int32} : RM x 129 [.ref (b + 8), .int v] (setC w b s) n = some (.inl (some (.int (gaS (atv 8 (s 12) v) (atv 8 (s 13) v)))), setC w b s, n) := by
  have h := c96 (x := x) (n := n) (i := v) (setC_12 (w := w) (b := b) (s := s)) (by decide)
  have h1 := c96 (x := x) (n := n) (i := v) (setC_13 (w := w) (b := b) (s := s)) (by decide)
  simp only [csN, csm_i, csm_r, Nat.reduceAdd, Nat.reduceLeDiff, wdI, wdR, wdN, clM_0, clC_0, clC_1, clC_6, clC_8, true_or, or_true, i10, i01, ob_some, ob_map, cal_v, rvs_some, rvs_none, XO_at, cal_x, m129, r129_0, r129_1, r129_4, r129_5, r129_8, r129_9, r129_10, r129_13, r129_14, r129_17, r129_20, r129_21, r129_22, r129_23, r129_26, r129_27, gC_8_3, gC_8_4, h, h1]
  unfold gaS
  split <;> (next h => simp only [h, if_true, if_false])
theorem c130 {i : Nat} {u : Int32} (hu : u = Int32.ofNat i) (hi : i < 8) : RM x 130 [.ref (b + 8), .int u] (setC w b s) n = some (.inl none, setC w b (us s 12 i (s 12 i + s 13 i)), n) := by
  subst hu
  have h1 := nz (a := i) (by omega)
  have h2 : Int32.ofNat i < 8 := nlt (N := 8) (by omega) (by omega) hi
  have h3 : fin 8 (Int32.ofNat i) = some i := fin_nat hi (by omega)
  have h4 : ∀ f : Nat → Int32, atv 8 f (Int32.ofNat i) = f i := fun f => atv_nat (by omega) (by omega)
  simp only [csN, csm_i, csm_r, Nat.reduceAdd, Nat.reduceLeDiff, wdI, wdR, wdN, clM_0, clC_0, clC_1, clC_6, clC_8, true_or, or_true, i10, i01, ob_some, ob_map, cal_v, rvs_some, rvs_none, XO_at, cal_x, m130, r130_0, r130_1, r130_4, r130_5, r130_7, r130_10, r130_11, r130_14, r130_15, r130_16, r130_17, r130_20, r130_21, gC_8_3, c127, h4, sC_12, h3, Option.map_some, h1, h2, if_true, if_false]
/-- a row of the fleet is put at another place -/
def mvS (s : NS) (i k : Nat) : NS := us (us (us (us (us s 9 k (s 9 i)) 10 k (s 10 i)) 11 k (s 11 i)) 12 k (s 12 i)) 13 k (s 13 i)
theorem c133 {i k : Nat} {u v : Int32} (hu : u = Int32.ofNat i) (hv : v = Int32.ofNat k) (hi : i < 8) (hk : k ≤ i) : RM x 133 [.ref (b + 8), .int u, .int v] (setC w b s) n = some (.inl none, setC w b (mvS s i k), n) := by
  subst hu
  subst hv
  have h1 := nz (a := k) (by omega)
  have h2 : Int32.ofNat i < 8 := nlt (N := 8) (by omega) (by omega) hi
  have h3 : fin 8 (Int32.ofNat i) = some i := fin_nat hi (by omega)
  have h4 : fin 8 (Int32.ofNat k) = some k := fin_nat (by omega) (by omega)
  have h5 : ¬ Int32.ofNat i < Int32.ofNat k := by rw [i_lt (by omega) (by omega)]; omega
  simp only [csN, csm_i, csm_r, Nat.reduceAdd, Nat.reduceLeDiff, wdI, wdR, wdN, clM_0, clC_0, clC_1, clC_6, clC_8, true_or, or_true, i10, i01, ob_some, ob_map, cal_v, rvs_some, rvs_none, XO_at, cal_x, m133, r133_0, r133_1, r133_4, r133_5, r133_6, r133_9, r133_10, r133_12, r133_15, r133_16, r133_17, r133_20, r133_21, r133_22, r133_25, r133_26, r133_27, r133_28, r133_29, r133_32, r133_33, r133_34, r133_37, r133_38, r133_39, r133_40, r133_41, r133_44, r133_45, r133_46, r133_49, r133_50, r133_51, r133_52, r133_53, r133_56, r133_57, r133_58, r133_61, r133_62, r133_63, r133_64, r133_65, r133_68, r133_69, r133_70, r133_73, r133_74, r133_75, r133_76, gC_8_0, gC_8_1, gC_8_2, gC_8_3, gC_8_4, lC_9, lC_10, lC_11, lC_12, lC_13, sC_9, sC_10, sC_11, sC_12, sC_13, h3, h4, h5, Option.map_some, h1, h2, if_true, if_false, us_ne, Nat.reduceEqDiff, not_false_eq_true]
  rfl
def cnt (p : Nat → Bool) : Nat → Nat
  | 0 => 0
  | k + 1 => cond (p k) (cnt p k + 1) (cnt p k)
theorem cnt_s {p : Nat → Bool} {k : Nat} : cnt p (k + 1) = cond (p k) (cnt p k + 1) (cnt p k) := rfl
theorem cnt_le (p : Nat → Bool) (k : Nat) : cnt p k ≤ k := by
  induction k with
  | zero => exact Nat.le_refl _
  | succ k ih => unfold cnt; cases p k <;> simp only [cond_true, cond_false] <;> omega
theorem cnt_congr {p q : Nat → Bool} {k : Nat} (h : ∀ i, i < k → p i = q i) : cnt p k = cnt q k := by
  induction k with
  | zero => rfl
  | succ k ih => unfold cnt; rw [h k (by omega), ih (fun i hi => h i (by omega))]
theorem cnt_cut {p : Nat → Bool} {c N : Nat} (h : c ≤ N) : cnt (fun j => decide (j < c) && p j) N = cnt p c := by
  induction N with
  | zero => obtain rfl : c = 0 := by omega
            rfl
  | succ N ih =>
    by_cases hc : c = N + 1
    · subst hc
      exact cnt_congr (fun i hi => by simp [hi])
    · rw [cnt_s]
      have h0 : (decide (N < c) && p N) = false := by
        have : ¬ N < c := by omega
        simp [this]
      rw [h0, cond_false]
      exact ih (by omega)
theorem l134 {c : Nat} {v : Int32} (hc : s 20 25 = Int32.ofNat c) (h8 : c ≤ 8) (d : Nat) : ∀ i, i + d = 8 → RC x 134 4 [some (.ref (b + 8)), some (.int v), some (.int (Int32.ofNat (cnt (fun j => decide (j < c) && decide (s 12 j = v)) i))), some (.int (Int32.ofNat i))] [] (setC w b s) n = some (.inl (some (.int (Int32.ofNat (cnt (fun j => decide (j < c) && decide (s 12 j = v)) 8)))), setC w b s, n) := by
  induction d with
  | zero =>
    intro i h
    obtain rfl : i = 8 := by omega
    rw [r134_4]
    simp only [csN, csm_i, csm_r, Nat.reduceAdd, Nat.reduceLeDiff, wdI, wdR, wdN, clM_0, clC_0, clC_1, clC_6, clC_8, true_or, or_true, i10, i01, ob_some, ob_map, cal_v, rvs_some, rvs_none, XO_at, cal_x, m134, r134_0, r134_1, r134_2, r134_3, r134_5, r134_6, r134_9, r134_10, r134_13, r134_14, r134_15, r134_18, r134_21, r134_22, r134_25, r134_26, r134_27, r134_28, r134_31, r134_34, r134_37, r134_40, r134_41, gC_8_3, nC_12, Int32.reduceOfNat, Int32.reduceLT, if_false]
  | succ d ih =>
    intro i h
    rw [r134_4]
    have h1 : Int32.ofNat i < 8 := nlt (N := 8) (by omega) (by omega) (by omega)
    have h2 : Int32.ofNat i + 1 = Int32.ofNat (i + 1) := i_add (b := 1)
    have h3 : fin 8 (Int32.ofNat i) = some i := fin_nat (by omega) (by omega)
    have h5 : (Int32.ofNat i < Int32.ofNat c) = (i < c) := i_lt (by omega) (by omega)
    have h6 : Int32.ofNat (cnt (fun j => decide (j < c) && decide (s 12 j = v)) i) + 1 = Int32.ofNat (cnt (fun j => decide (j < c) && decide (s 12 j = v)) i + 1) := i_add (b := 1)
    have hh := ih (i + 1) (by omega)
    simp only [csN, csm_i, csm_r, Nat.reduceAdd, Nat.reduceLeDiff, wdI, wdR, wdN, clM_0, clC_0, clC_1, clC_6, clC_8, true_or, or_true, i10, i01, ob_some, ob_map, cal_v, rvs_some, rvs_none, XO_at, cal_x, m134, r134_0, r134_1, r134_2, r134_3, r134_5, r134_6, r134_9, r134_10, r134_13, r134_14, r134_15, r134_18, r134_21, r134_22, r134_25, r134_26, r134_27, r134_28, r134_31, r134_34, r134_37, r134_40, r134_41, gC_8_3, gC_8_5, nC_12, lC_12, hc, h1, h2, h3, h5, if_true, Option.map_some]
    rw [cnt_s (k := i)] at hh
    by_cases g1 : i < c
    · by_cases g2 : s 12 i = v
      · simp only [g1, g2, if_true, h6]
        simpa [g1, g2] using hh
      · simp only [g1, g2, if_true, if_false]
        simpa [g1, g2] using hh
    · simp only [g1, if_false]
      simpa [g1] using hh
def ctS (s : NS) (c : Nat) (v : Int32) : Nat := cnt (fun j => decide (s 12 j = v)) c
theorem c134 {c : Nat} {v : Int32} (hc : s 20 25 = Int32.ofNat c) (h8 : c ≤ 8) : RM x 134 [.ref (b + 8), .int v] (setC w b s) n = some (.inl (some (.int (Int32.ofNat (ctS s c v)))), setC w b s, n) := by
  simp only [csN, csm_i, csm_r, Nat.reduceAdd, Nat.reduceLeDiff, wdI, wdR, wdN, clM_0, clC_0, clC_1, clC_6, clC_8, true_or, or_true, i10, i01, ob_some, ob_map, cal_v, rvs_some, rvs_none, XO_at, cal_x, m134, r134_0, r134_1, r134_2, r134_3, r134_5, r134_6, r134_9, r134_10, r134_13, r134_14, r134_15, r134_18, r134_21, r134_22, r134_25, r134_26, r134_27, r134_28, r134_31, r134_34, r134_37, r134_40, r134_41]
  unfold ctS
  rw [← cnt_cut h8]
  exact l134 hc h8 8 0 rfl
def idA (f g : Nat → Int32) (v pos : Int32) : Nat → Nat → Int32 → Int32
  | 0, _, _ => -1
  | d + 1, i, k => if f i = v then (if k = pos then g i else idA f g v pos d (i + 1) (k + 1)) else idA f g v pos d (i + 1) k
theorem l135 {c : Nat} {u v : Int32} (hc : s 20 25 = Int32.ofNat c) (h8 : c ≤ 8) (d : Nat) : ∀ (i : Nat) (k : Int32), i + d = c → RC x 135 5 [some (.ref (b + 8)), some (.int u), some (.int v), some (.int k), some (.int (Int32.ofNat i))] [] (setC w b s) n = some (.inl (some (.int (idA (s 12) (s 9) u v d i k))), setC w b s, n) := by
  induction d with
  | zero =>
    intro i k h
    obtain rfl : i = c := by omega
    rw [r135_5]
    have h1 : ¬ Int32.ofNat i < Int32.ofNat i := by rw [i_lt (by omega) (by omega)]; omega
    simp only [csN, csm_i, csm_r, Nat.reduceAdd, Nat.reduceLeDiff, wdI, wdR, wdN, clM_0, clC_0, clC_1, clC_6, clC_8, true_or, or_true, i10, i01, ob_some, ob_map, cal_v, rvs_some, rvs_none, XO_at, cal_x, m135, r135_0, r135_1, r135_2, r135_3, r135_7, r135_8, r135_11, r135_14, r135_15, r135_17, r135_20, r135_21, r135_24, r135_25, r135_26, r135_29, r135_30, r135_33, r135_35, r135_38, r135_39, r135_42, r135_45, r135_48, r135_49, gC_8_5, hc, h1, if_false, idA]
  | succ d ih =>
    intro i k h
    rw [r135_5]
    have h1 : Int32.ofNat i < Int32.ofNat c := nlt (by omega) (by omega) (by omega)
    have h2 : Int32.ofNat i + 1 = Int32.ofNat (i + 1) := i_add (b := 1)
    have h3 : ∀ f : Nat → Int32, atv 8 f (Int32.ofNat i) = f i := fun f => atv_nat (by omega) (by omega)
    have h4 := c96 (x := x) (n := n) (i := Int32.ofNat i) (setC_9 (w := w) (b := b) (s := s)) (by decide)
    simp only [csN, csm_i, csm_r, Nat.reduceAdd, Nat.reduceLeDiff, wdI, wdR, wdN, clM_0, clC_0, clC_1, clC_6, clC_8, true_or, or_true, i10, i01, ob_some, ob_map, cal_v, rvs_some, rvs_none, XO_at, cal_x, m135, r135_0, r135_1, r135_2, r135_3, r135_7, r135_8, r135_11, r135_14, r135_15, r135_17, r135_20, r135_21, r135_24, r135_25, r135_26, r135_29, r135_30, r135_33, r135_35, r135_38, r135_39, r135_42, r135_45, r135_48, r135_49, gC_8_5, gC_8_0, c125, hc, h1, h2, h3, h4, if_true]
    rw [ih (i + 1) _ (by omega), ih (i + 1) _ (by omega)]
    simp only [idA]
    by_cases g1 : s 12 i = u
    · by_cases g2 : k = v
      · simp only [g1, g2, if_true]
      · simp only [g1, g2, if_true, if_false]
    · simp only [g1, if_false]
theorem c135 {c : Nat} {u v : Int32} (hc : s 20 25 = Int32.ofNat c) (h8 : c ≤ 8) : RM x 135 [.ref (b + 8), .int u, .int v] (setC w b s) n = some (.inl (some (.int (idA (s 12) (s 9) u v c 0 0))), setC w b s, n) := by
  simp only [csN, csm_i, csm_r, Nat.reduceAdd, Nat.reduceLeDiff, wdI, wdR, wdN, clM_0, clC_0, clC_1, clC_6, clC_8, true_or, or_true, i10, i01, ob_some, ob_map, cal_v, rvs_some, rvs_none, XO_at, cal_x, m135, r135_0, r135_1, r135_2, r135_3, r135_7, r135_8, r135_11, r135_14, r135_15, r135_17, r135_20, r135_21, r135_24, r135_25, r135_26, r135_29, r135_30, r135_33, r135_35, r135_38, r135_39, r135_42, r135_45, r135_48, r135_49]
  exact l135 hc h8 c 0 0 (by omega)
/-- there is room in a reach -/
def rmS (s : NS) (c : Nat) (v : Int32) : Bool := decide (v = 0) || (decide (v = 5) || decide (ctS s c v < 3))
theorem c136 {c : Nat} {v : Int32} (hc : s 20 25 = Int32.ofNat c) (h8 : c ≤ 8) : RM x 136 [.ref (b + 8), .int v] (setC w b s) n = some (.inl (some (.int (bi (rmS s c v)))), setC w b s, n) := by
  have h1 := cnt_le (fun j => decide (s 12 j = v)) c
  have h2 : (Int32.ofNat (ctS s c v) < 3) = (ctS s c v < 3) := i_lt (b := 3) (by unfold ctS; omega) (by omega)
  have hk := c134 (x := x) (n := n) (b := b) (w := w) (v := v) hc h8
  simp only [csN, csm_i, csm_r, Nat.reduceAdd, Nat.reduceLeDiff, wdI, wdR, wdN, clM_0, clC_0, clC_1, clC_6, clC_8, true_or, or_true, i10, i01, ob_some, ob_map, cal_v, rvs_some, rvs_none, XO_at, cal_x, m136, r136_0, r136_1, r136_4, r136_5, r136_6, r136_9, r136_10, r136_11, r136_14, r136_15, r136_18, r136_19, r136_22, hk, h2]
  unfold rmS
  by_cases g1 : v = 0
  · simp only [g1, if_true, decide_true, Bool.true_or, bi_t]; exact r136_23 (v := 1) (by decide)
  · by_cases g2 : v = 5
    · simp only [g2, i10, i01, if_true, if_false, decide_true, Bool.true_or, Bool.or_true, bi_t]; exact r136_23 (v := 1) (by decide)
    · by_cases g3 : ctS s c v < 3
      · simp only [g1, g2, g3, if_true, if_false, decide_true, Bool.or_true, bi_t]; exact r136_23 (v := 1) (by decide)
      · simp only [g1, g2, g3, if_false, decide_false, Bool.or_false, bi_f]; exact r136_23 (v := 0) (by decide)
theorem l137 {c : Nat} (hc : s 20 25 = Int32.ofNat c) (h8 : c ≤ 8) (h : ∀ r : Nat, 0 < r → r < 5 → ctS s c (Int32.ofNat r) ≤ 3) (d : Nat) : ∀ i, 0 < i → i + d = 5 → RC x 137 2 [some (.ref (b + 8)), some (.int (Int32.ofNat i))] [] (setC w b s) n = some (.inl (some (.int 1)), setC w b s, n) := by
  induction d with
  | zero =>
    intro i h0 hi
    obtain rfl : i = 5 := by omega
    rw [r137_2]
    simp only [csN, csm_i, csm_r, Nat.reduceAdd, Nat.reduceLeDiff, wdI, wdR, wdN, clM_0, clC_0, clC_1, clC_6, clC_8, true_or, or_true, i10, i01, ob_some, ob_map, cal_v, rvs_some, rvs_none, XO_at, cal_x, m137, r137_0, r137_1, r137_3, r137_4, r137_7, r137_8, r137_9, r137_12, r137_13, r137_16, r137_17, r137_18, r137_21, r137_24, r137_25, Int32.reduceOfNat, Int32.reduceLT, if_false]
  | succ d ih =>
    intro i h0 hi
    rw [r137_2]
    have h1 : Int32.ofNat i < 5 := nlt (N := 5) (by omega) (by omega) (by omega)
    have h2 : Int32.ofNat i + 1 = Int32.ofNat (i + 1) := i_add (b := 1)
    have hk := c134 (x := x) (n := n) (b := b) (w := w) (v := Int32.ofNat i) hc h8
    have h3 : ¬ (3 < Int32.ofNat (ctS s c (Int32.ofNat i))) := by
      have := h i h0 (by omega)
      rw [show (3 : Int32) = Int32.ofNat 3 from rfl, i_lt (by omega) (by omega)]
      omega
    simp only [csN, csm_i, csm_r, Nat.reduceAdd, Nat.reduceLeDiff, wdI, wdR, wdN, clM_0, clC_0, clC_1, clC_6, clC_8, true_or, or_true, i10, i01, ob_some, ob_map, cal_v, rvs_some, rvs_none, XO_at, cal_x, m137, r137_0, r137_1, r137_3, r137_4, r137_7, r137_8, r137_9, r137_12, r137_13, r137_16, r137_17, r137_18, r137_21, r137_24, r137_25, hk, h1, h2, h3, if_true, if_false]
    exact ih (i + 1) (by omega) (by omega)
theorem c137 {c : Nat} (hc : s 20 25 = Int32.ofNat c) (h8 : c ≤ 8) (h : ∀ r : Nat, 0 < r → r < 5 → ctS s c (Int32.ofNat r) ≤ 3) : RM x 137 [.ref (b + 8)] (setC w b s) n = some (.inl (some (.int 1)), setC w b s, n) := by
  simp only [csN, csm_i, csm_r, Nat.reduceAdd, Nat.reduceLeDiff, wdI, wdR, wdN, clM_0, clC_0, clC_1, clC_6, clC_8, true_or, or_true, i10, i01, ob_some, ob_map, cal_v, rvs_some, rvs_none, XO_at, cal_x, m137, r137_0, r137_1, r137_3, r137_4, r137_7, r137_8, r137_9, r137_12, r137_13, r137_16, r137_17, r137_18, r137_21, r137_24, r137_25]
  exact l137 hc h8 h 4 1 (by omega) rfl
/-- the rows that p keeps, put together: what has become of the first i -/
def flA (s : NS) (p : Nat → Bool) : Nat → NS × Nat
  | 0 => (s, 0)
  | i + 1 => cond (p i) (mvS (flA s p i).1 i (flA s p i).2, (flA s p i).2 + 1) (flA s p i)
theorem flA_s {p : Nat → Bool} {i : Nat} : flA s p (i + 1) = cond (p i) (mvS (flA s p i).1 i (flA s p i).2, (flA s p i).2 + 1) (flA s p i) := rfl
theorem flA_2 (s : NS) (p : Nat → Bool) (i : Nat) : (flA s p i).2 = cnt p i := by
  induction i with
  | zero => rfl
  | succ i ih => unfold flA cnt; cases p i <;> simp [ih]
theorem mvS_20 {i k : Nat} : mvS s i k 20 = s 20 := by
  unfold mvS
  rw [us_ne (by decide), us_ne (by decide), us_ne (by decide), us_ne (by decide), us_ne (by decide)]
theorem mvS_at {a i k j : Nat} (ha : a = 9 ∨ a = 10 ∨ a = 11 ∨ a = 12 ∨ a = 13) : mvS s i k a j = if j = k then s a i else s a j := by
  unfold mvS
  rcases ha with rfl | rfl | rfl | rfl | rfl <;> simp [us_at]
theorem mvS_out {a i k : Nat} (ha : ¬ a = 9 ∧ ¬ a = 10 ∧ ¬ a = 11 ∧ ¬ a = 12 ∧ ¬ a = 13) : mvS s i k a = s a := by
  unfold mvS
  rw [us_ne ha.2.2.2.2, us_ne ha.2.2.2.1, us_ne ha.2.2.1, us_ne ha.2.1, us_ne ha.1]
theorem flA_out {s : NS} {p : Nat → Bool} {a : Nat} (ha : ¬ a = 9 ∧ ¬ a = 10 ∧ ¬ a = 11 ∧ ¬ a = 12 ∧ ¬ a = 13) (i : Nat) : (flA s p i).1 a = s a := by
  induction i with
  | zero => rfl
  | succ i ih =>
    unfold flA
    cases p i with
    | true => simp only [cond_true]; rw [mvS_out ha, ih]
    | false => exact ih
theorem flA_hi {s : NS} {p : Nat → Bool} {a : Nat} (ha : a = 9 ∨ a = 10 ∨ a = 11 ∨ a = 12 ∨ a = 13) (i : Nat) : ∀ j, i ≤ j → (flA s p i).1 a j = s a j := by
  induction i with
  | zero => intro j _; rfl
  | succ i ih =>
    intro j hj
    unfold flA
    cases p i with
    | true =>
      simp only [cond_true]
      have hk := cnt_le p i
      rw [mvS_at ha, flA_2, if_neg (by omega), ih j (by omega)]
    | false => exact ih j (by omega)
theorem cnt_mono {p : Nat → Bool} {i j : Nat} (h : i ≤ j) : cnt p i ≤ cnt p j := by
  obtain ⟨d, rfl⟩ := Nat.exists_eq_add_of_le h
  clear h
  induction d with
  | zero => exact Nat.le_refl _
  | succ d ih => show cnt p i ≤ cnt p (i + d + 1); rw [cnt_s]; cases p (i + d) <;> simp only [cond_true, cond_false] <;> omega
theorem cnt_lt {p : Nat → Bool} {i j : Nat} (h : i < j) (hp : p i = true) : cnt p i < cnt p j := by
  have h1 : cnt p (i + 1) = cnt p i + 1 := by rw [cnt, hp, cond_true]
  have h2 := cnt_mono (p := p) (show i + 1 ≤ j by omega)
  omega
theorem flA_lo {s : NS} {p : Nat → Bool} {a : Nat} (ha : a = 9 ∨ a = 10 ∨ a = 11 ∨ a = 12 ∨ a = 13) (i : Nat) : ∀ m, m < i → p m = true → (flA s p i).1 a (cnt p m) = s a m := by
  induction i with
  | zero => intro m hm; omega
  | succ i ih =>
    intro m hm hp
    unfold flA
    by_cases hmi : m = i
    · subst hmi
      rw [hp]
      simp only [cond_true]
      rw [mvS_at ha, flA_2, if_pos rfl, flA_hi ha m m (Nat.le_refl _)]
    · cases hpi : p i with
      | true =>
        simp only [cond_true]
        have := cnt_lt (show m < i by omega) hp
        rw [mvS_at ha, flA_2, if_neg (by omega), ih m (by omega) hp]
      | false => exact ih m (by omega) hp
theorem l131 {c : Nat} {u : Int32} (hc : s 20 25 = Int32.ofNat c) (h8 : c ≤ 8) (d : Nat) : ∀ i, i + d = c → RC x 131 4 [some (.ref (b + 8)), some (.int u), some (.int (Int32.ofNat (cnt (fun j => decide (¬ Int32.ofNat j = u)) i))), some (.int (Int32.ofNat i))] [] (setC w b (flA s (fun j => decide (¬ Int32.ofNat j = u)) i).1) n = some (.inl (some (.int (Int32.ofNat (cnt (fun j => decide (¬ Int32.ofNat j = u)) c)))), setC w b (us (flA s (fun j => decide (¬ Int32.ofNat j = u)) c).1 20 25 (Int32.ofNat (cnt (fun j => decide (¬ Int32.ofNat j = u)) c))), n) := by
  have h20 : ∀ i, (flA s (fun j => decide (¬ Int32.ofNat j = u)) i).1 20 25 = Int32.ofNat c := fun i => by rw [flA_out (by decide), hc]
  induction d with
  | zero =>
    intro i h
    obtain rfl : i = c := by omega
    rw [r131_4]
    have h1 : ¬ Int32.ofNat i < Int32.ofNat i := by rw [i_lt (by omega) (by omega)]; omega
    simp only [csN, csm_i, csm_r, Nat.reduceAdd, Nat.reduceLeDiff, wdI, wdR, wdN, clM_0, clC_0, clC_1, clC_6, clC_8, true_or, or_true, i10, i01, ob_some, ob_map, cal_v, rvs_some, rvs_none, XO_at, cal_x, m131, r131_0, r131_1, r131_2, r131_3, r131_5, r131_6, r131_9, r131_12, r131_13, r131_14, r131_17, r131_18, r131_19, r131_20, r131_23, r131_26, r131_29, r131_32, r131_33, r131_34, r131_37, r131_38, gC_8_5, pC_8_5, h20, h1, if_false]
  | succ d ih =>
    intro i h
    rw [r131_4]
    have h1 : Int32.ofNat i < Int32.ofNat c := nlt (by omega) (by omega) (by omega)
    have h2 : Int32.ofNat i + 1 = Int32.ofNat (i + 1) := i_add (b := 1)
    have hk := cnt_le (fun j => decide (¬ Int32.ofNat j = u)) i
    have h6 : Int32.ofNat (cnt (fun j => decide (¬ Int32.ofNat j = u)) i) + 1 = Int32.ofNat (cnt (fun j => decide (¬ Int32.ofNat j = u)) i + 1) := i_add (b := 1)
    have h7 := fun s => c133 (x := x) (n := n) (b := b) (w := w) (s := s) (i := i) (k := cnt (fun j => decide (¬ Int32.ofNat j = u)) i) rfl rfl (by omega) hk
    have hh := ih (i + 1) (by omega)
    simp only [csN, csm_i, csm_r, Nat.reduceAdd, Nat.reduceLeDiff, wdI, wdR, wdN, clM_0, clC_0, clC_1, clC_6, clC_8, true_or, or_true, i10, i01, ob_some, ob_map, cal_v, rvs_some, rvs_none, XO_at, cal_x, m131, r131_0, r131_1, r131_2, r131_3, r131_5, r131_6, r131_9, r131_12, r131_13, r131_14, r131_17, r131_18, r131_19, r131_20, r131_23, r131_26, r131_29, r131_32, r131_33, r131_34, r131_37, r131_38, gC_8_5, h20, h1, h2, h6, h7, if_true]
    rw [cnt_s (k := i)] at hh
    rw [flA_s (i := i)] at hh
    by_cases g1 : Int32.ofNat i = u
    · simp only [g1, if_true, not_true, decide_false, cond_false] at hh ⊢
      exact hh
    · simp only [g1, if_false, not_false_eq_true, decide_true, cond_true, flA_2] at hh ⊢
      exact hh
/-- the fleet without one of its rows -/
def rvS (s : NS) (c : Nat) (u : Int32) : NS := us (flA s (fun j => decide (¬ Int32.ofNat j = u)) c).1 20 25 (Int32.ofNat (cnt (fun j => decide (¬ Int32.ofNat j = u)) c))
theorem c131 {c : Nat} {u : Int32} (hc : s 20 25 = Int32.ofNat c) (h8 : c ≤ 8) : RM x 131 [.ref (b + 8), .int u] (setC w b s) n = some (.inl (some (.int (Int32.ofNat (cnt (fun j => decide (¬ Int32.ofNat j = u)) c)))), setC w b (rvS s c u), n) := by
  simp only [csN, csm_i, csm_r, Nat.reduceAdd, Nat.reduceLeDiff, wdI, wdR, wdN, clM_0, clC_0, clC_1, clC_6, clC_8, true_or, or_true, i10, i01, ob_some, ob_map, cal_v, rvs_some, rvs_none, XO_at, cal_x, m131, r131_0, r131_1, r131_2, r131_3, r131_5, r131_6, r131_9, r131_12, r131_13, r131_14, r131_17, r131_18, r131_19, r131_20, r131_23, r131_26, r131_29, r131_32, r131_33, r131_34, r131_37, r131_38]
  exact l131 hc h8 c 0 (by omega)
/-- a barge of the row j has gates ahead -/
def ahS (s : NS) (j : Nat) : Bool := decide (0 < gaS (s 12 j) (s 13 j))
theorem l132 {c : Nat} (hc : s 20 25 = Int32.ofNat c) (h8 : c ≤ 8) (d : Nat) : ∀ i, i + d = c → RC x 132 4 [some (.ref (b + 8)), some (.int (Int32.ofNat (cnt (ahS s) i))), some (.int (Int32.ofNat i))] [] (setC w b (flA s (ahS s) i).1) n = some (.inl (some (.int (Int32.ofNat c - Int32.ofNat (cnt (ahS s) c)))), setC w b (us (flA s (ahS s) c).1 20 25 (Int32.ofNat (cnt (ahS s) c))), n) := by
  have h20 : ∀ i, (flA s (ahS s) i).1 20 25 = Int32.ofNat c := fun i => by rw [flA_out (by decide), hc]
  induction d with
  | zero =>
    intro i h
    obtain rfl : i = c := by omega
    rw [r132_4]
    have h1 : ¬ Int32.ofNat i < Int32.ofNat i := by rw [i_lt (by omega) (by omega)]; omega
    simp only [csN, csm_i, csm_r, Nat.reduceAdd, Nat.reduceLeDiff, wdI, wdR, wdN, clM_0, clC_0, clC_1, clC_6, clC_8, true_or, or_true, i10, i01, ob_some, ob_map, cal_v, rvs_some, rvs_none, XO_at, cal_x, m132, r132_0, r132_1, r132_2, r132_3, r132_5, r132_6, r132_9, r132_12, r132_13, r132_14, r132_17, r132_20, r132_21, r132_22, r132_23, r132_26, r132_29, r132_32, r132_35, r132_36, r132_39, r132_40, r132_41, r132_42, r132_43, r132_44, r132_47, r132_48, gC_8_5, pC_8_5, h20, h1, if_false]
  | succ d ih =>
    intro i h
    rw [r132_4]
    have h1 : Int32.ofNat i < Int32.ofNat c := nlt (by omega) (by omega) (by omega)
    have h2 : Int32.ofNat i + 1 = Int32.ofNat (i + 1) := i_add (b := 1)
    have hk := cnt_le (ahS s) i
    have h6 : Int32.ofNat (cnt (ahS s) i) + 1 = Int32.ofNat (cnt (ahS s) i + 1) := i_add (b := 1)
    have h7 := fun s' => c133 (x := x) (n := n) (b := b) (w := w) (s := s') (i := i) (k := cnt (ahS s) i) rfl rfl (by omega) hk
    have h3 : ∀ f : Nat → Int32, atv 8 f (Int32.ofNat i) = f i := fun f => atv_nat (by omega) (by omega)
    have h12 := flA_hi (s := s) (p := ahS s) (a := 12) (by simp) i i (Nat.le_refl _)
    have h13 := flA_hi (s := s) (p := ahS s) (a := 13) (by simp) i i (Nat.le_refl _)
    have hh := ih (i + 1) (by omega)
    simp only [csN, csm_i, csm_r, Nat.reduceAdd, Nat.reduceLeDiff, wdI, wdR, wdN, clM_0, clC_0, clC_1, clC_6, clC_8, true_or, or_true, i10, i01, ob_some, ob_map, cal_v, rvs_some, rvs_none, XO_at, cal_x, m132, r132_0, r132_1, r132_2, r132_3, r132_5, r132_6, r132_9, r132_12, r132_13, r132_14, r132_17, r132_20, r132_21, r132_22, r132_23, r132_26, r132_29, r132_32, r132_35, r132_36, r132_39, r132_40, r132_41, r132_42, r132_43, r132_44, r132_47, r132_48, gC_8_5, h20, h1, h2, h3, h6, h7, h12, h13, c129, if_true]
    rw [cnt_s (k := i)] at hh
    rw [flA_s (i := i)] at hh
    by_cases g1 : 0 < gaS (s 12 i) (s 13 i)
    · have g2 : ahS s i = true := decide_eq_true g1
      simp only [g1, g2, if_true, cond_true, flA_2] at hh ⊢
      exact hh
    · have g2 : ahS s i = false := decide_eq_false g1
      simp only [g1, g2, if_false, cond_false, flA_2] at hh ⊢
      exact hh
def arS (s : NS) (c : Nat) : NS := us (flA s (ahS s) c).1 20 25 (Int32.ofNat (cnt (ahS s) c))
theorem c132 {c : Nat} (hc : s 20 25 = Int32.ofNat c) (h8 : c ≤ 8) : RM x 132 [.ref (b + 8)] (setC w b s) n = some (.inl (some (.int (Int32.ofNat c - Int32.ofNat (cnt (ahS s) c)))), setC w b (arS s c), n) := by
  simp only [csN, csm_i, csm_r, Nat.reduceAdd, Nat.reduceLeDiff, wdI, wdR, wdN, clM_0, clC_0, clC_1, clC_6, clC_8, true_or, or_true, i10, i01, ob_some, ob_map, cal_v, rvs_some, rvs_none, XO_at, cal_x, m132, r132_0, r132_1, r132_2, r132_3, r132_5, r132_6, r132_9, r132_12, r132_13, r132_14, r132_17, r132_20, r132_21, r132_22, r132_23, r132_26, r132_29, r132_32, r132_35, r132_36, r132_39, r132_40, r132_41, r132_42, r132_43, r132_44, r132_47, r132_48]
  exact l132 hc h8 c 0 (by omega)
end FLT
