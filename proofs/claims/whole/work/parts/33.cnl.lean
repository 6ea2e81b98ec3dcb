/-! A CANAL: may a barge pass, hours, faults, changes; copies -/
section CNL
set_option maxRecDepth 20000
variable {x : SX} {n b : Nat} {w : PW} {s : NS}
/-- the numbers of a canal are in their bounds as far as the rows' indices go -/
def OKC (s : NS) (c : Nat) : Prop := s 20 25 = Int32.ofNat c ∧ c ≤ 8 ∧ ∀ g, g < 5 → isKd (s 2 g)
/-- the barge of the row i may pass: r the reach ahead, g the gate -/
def mpS (s : NS) (c i g r : Nat) : Bool := !decide (s 7 r < 5 * s 11 i) && (rmS s c (Int32.ofNat r) && opS s g (s 10 i))
theorem c108 {c i g r : Nat} {u : Int32} (hu : u = Int32.ofNat i) (hC : OKC s c) (hi : i < 8) (hr : r < 6) (hg : g < 5) (h1 : s 12 i + s 13 i = Int32.ofNat r) (h2 : s 12 i + mn (s 13 i) 0 = Int32.ofNat g) :
    RM x 108 [.ref b, .int u] (setC w b s) n = some (.inl (some (.int (bi (mpS s c i g r)))), setC w b s, n) := by
  subst hu
  obtain ⟨hc, h8, hk⟩ := hC
  have h3 : ∀ f : Nat → Int32, atv 8 f (Int32.ofNat i) = f i := fun f => atv_nat (by omega) (by omega)
  have h4 : ∀ f : Nat → Int32, atv 6 f (Int32.ofNat r) = f r := fun f => atv_nat (by omega) (by omega)
  have h5 := c136 (x := x) (n := n) (b := b) (w := w) (v := Int32.ofNat r) hc h8
  have h6 := c149 (x := x) (n := n) (b := b) (w := w) (u := Int32.ofNat g) (v := s 10 i) rfl hg (isKd_ch (hk g hg))
  simp only [csN, csm_i, csm_r, Nat.reduceAdd, Nat.reduceLeDiff, wdI, wdR, wdN, clM_0, clC_0, clC_1, clC_6, clC_8, true_or, or_true, i10, i01, ob_some, ob_map, cal_v, rvs_some, rvs_none, XO_at, cal_x, m108, r108_0, r108_1, r108_4, r108_5, r108_8, r108_9, r108_10, r108_13, r108_14, r108_17, r108_18, r108_19, r108_22, r108_23, r108_26, r108_27, r108_30, r108_31, r108_34, r108_35, r108_38, r108_41, r108_42, r108_45, r108_46, r108_49, r108_50, r108_53, r108_54, r108_57, r108_58, r108_61, r108_64, r108_67, r108_68, r108_71, gC_0_0, gC_0_1, gC_0_2, c127, c128, c123, c124, c167, h1, h2, h3, h4, h5, h6, bi_eq0]
  unfold mpS
  by_cases g1 : s 7 r < 5 * s 11 i
  · simp only [g1, if_true, decide_true, Bool.not_true, Bool.false_and, bi_f]; exact r108_72 (v := 0) (by decide)
  · cases g2 : rmS s c (Int32.ofNat r) with
    | false => simp only [g1, if_true, if_false, decide_false, Bool.not_false, Bool.true_and, Bool.false_and, bi_f]; exact r108_72 (v := 0) (by decide)
    | true => cases g3 : opS s g (s 10 i) with
      | false => simp only [g1, if_true, if_false, decide_false, Bool.not_false, Bool.true_and, bi_f, reduceCtorEq]; exact r108_72 (v := 0) (by decide)
      | true => simp only [g1, if_false, decide_false, Bool.not_false, Bool.true_and, bi_t, reduceCtorEq]; exact r108_72 (v := 1) (by decide)
theorem c102 {u v : Bool} : RM x 102 [.int (bi u), .int (bi v)] w n = some (.inl (some (.ref (cond u (cond v 0 2) 1))), w, n) := by
  cases u <;> cases v <;> simp only [csN, csm_i, csm_r, Nat.reduceAdd, Nat.reduceLeDiff, wdI, wdR, wdN, clM_0, clC_0, clC_1, clC_6, clC_8, true_or, or_true, i10, i01, ob_some, ob_map, cal_v, rvs_some, rvs_none, XO_at, cal_x, m102, r102_0, r102_1, r102_4, r102_7, r102_8, r102_9, r102_12, r102_15, r102_18, r102_21, bi_t, bi_f, if_true, if_false, cond_true, cond_false]
theorem c103 {u v z : Int32} : RM x 103 [.int u, .int v, .int z] w n = some (.inl (some (.ref (cond (!decide (u < v) && !decide (z < u)) 0 2))), w, n) := by
  simp only [csN, csm_i, csm_r, Nat.reduceAdd, Nat.reduceLeDiff, wdI, wdR, wdN, clM_0, clC_0, clC_1, clC_6, clC_8, true_or, or_true, i10, i01, ob_some, ob_map, cal_v, rvs_some, rvs_none, XO_at, cal_x, m103, r103_0, r103_1, r103_2, r103_5, r103_6, r103_7, r103_10, r103_13, r103_16, r103_19]
  by_cases h1 : u < v
  · simp [h1]
  · by_cases h2 : z < u <;> simp [h1, h2]
theorem c101 {u v : Int32} : RM x 101 [.ref b, .int u, .int v] (setC w b s) n = some (.inl (some (.ref (cond (rg u 12 && (!decide (v < 1) && !decide (9 < v))) (if s 20 25 < 8 then 0 else 3) 2))), setC w b s, n) := by
  simp only [csN, csm_i, csm_r, Nat.reduceAdd, Nat.reduceLeDiff, wdI, wdR, wdN, clM_0, clC_0, clC_1, clC_6, clC_8, true_or, or_true, i10, i01, ob_some, ob_map, cal_v, rvs_some, rvs_none, XO_at, cal_x, m101, r101_0, r101_1, r101_4, r101_7, r101_8, r101_11, r101_14, r101_17, r101_18, r101_19, r101_22, r101_25, r101_28, r101_31, r101_34, r101_37, c110, c119, gC_0_2, c120, bi_eq0]
  cases rg u 12
  · simp
  · by_cases h1 : v < 1
    · simp [h1]
    · by_cases h2 : 9 < v
      · simp [h1, h2]
      · by_cases h3 : s 20 25 < 8 <;> simp [h1, h2, h3]
theorem c104 {u v : Int32} : RM x 104 [.ref b, .int u, .int v] (setC w b s) n = some (.inl (some (.ref (cond (rg u 6) (cond (!decide (v < 1) && !decide (90 < v)) (if 90 < atv 6 (s 7) u + v then 4 else 0) 2) 1))), setC w b s, n) := by
  simp only [csN, csm_i, csm_r, Nat.reduceAdd, Nat.reduceLeDiff, wdI, wdR, wdN, clM_0, clC_0, clC_1, clC_6, clC_8, true_or, or_true, i10, i01, ob_some, ob_map, cal_v, rvs_some, rvs_none, XO_at, cal_x, m104, r104_0, r104_1, r104_4, r104_7, r104_10, r104_11, r104_12, r104_13, r104_16, r104_17, r104_19, r104_22, r104_25, r104_26, r104_27, r104_30, r104_31, r104_34, r104_35, r104_36, r104_38, r104_41, r104_44, r104_47, r104_50, c166, gC_0_1, c167, bi_eq0]
  cases rg u 6
  · simp
  · by_cases h1 : v < 1
    · simp [h1]
    · by_cases h2 : 90 < v
      · simp [h1, h2]
      · by_cases h3 : 90 < atv 6 (s 7) u + v <;> simp [h1, h2, h3]
/-- what a change would be refused for -/
def ftS (s : NS) (c : Nat) (k u v z : Int32) : Nat :=
  if k = 0 then cond (rg u 12 && (!decide (v < 1) && !decide (9 < v))) (if c < 8 then 0 else 3) 2
  else if k = 1 then cond (rg u 5 && rg v 2) (cond (rg z 12) 0 2) 1
  else if k = 2 then cond (rg u 5 && rg v 2) 0 1
  else if k = 3 then cond (rg u 5) (cond (decide (¬ patO v = 0)) 0 2) 1
  else if k = 4 then cond (!decide (u < 0) && !decide (9 < u)) 0 2
  else if k = 5 then cond (rg u 6) (cond (!decide (v < 1) && !decide (90 < v)) (if 90 < atv 6 (s 7) u + v then 4 else 0) 2) 1
  else if k = 6 then (if ixA (s 9) u c 0 = -1 then 5 else 0)
  else cond (!decide (u < 1) && !decide (100 < u)) 0 2
theorem c100 {c : Nat} {k u v z : Int32} (hC : OKC s c) : RM x 100 [.ref b, .int k, .int u, .int v, .int z] (setC w b s) n = some (.inl (some (.ref (ftS s c k u v z))), setC w b s, n) := by
  obtain ⟨hc, h8, hk⟩ := hC
  have h1 := c122 (x := x) (n := n) (b := b) (w := w) (v := u) hc h8
  have h2 : (Int32.ofNat c < 8) = (c < 8) := i_lt (b := 8) (by omega) (by omega)
  have h3 := fun p => c102 (x := x) (n := n) (w := setC w b s) (u := p) (v := true)
  rw [bi_t] at h3
  simp only [csN, csm_i, csm_r, Nat.reduceAdd, Nat.reduceLeDiff, wdI, wdR, wdN, clM_0, clC_0, clC_1, clC_6, clC_8, true_or, or_true, i10, i01, ob_some, ob_map, cal_v, rvs_some, rvs_none, XO_at, cal_x, m100, r100_0, r100_1, r100_44, r100_45, r100_46, r100_47, r100_50, r100_51, r100_52, r100_53, r100_56, r100_58, r100_61, r100_64, r100_65, r100_66, r100_67, r100_70, r100_71, r100_74, r100_75, r100_76, r100_79, r100_80, r100_83, r100_86, r100_87, r100_88, r100_89, r100_91, r100_94, r100_95, r100_96, r100_97, r100_98, r100_101, r100_102, r100_103, r100_106, r100_107, r100_110, r100_111, r100_114, r100_117, r100_120, r100_123, r100_124, r100_125, r100_126, r100_128, r100_131, c101, c141, c110, c102, h3, c140, c111, c103, c104, gC_0_2, h1, hc, h2]
  unfold ftS
  by_cases k0 : k = 0
  · simp only [k0, if_true]
  · by_cases k1 : k = 1
    · simp only [k0, k1, if_true, if_false, show ((1 : Int32) = 0) = False from i10]
    · by_cases k2 : k = 2
      · simp [k2]
      · by_cases k3 : k = 3
        · simp [k3]
        · by_cases k4 : k = 4
          · simp [k4]
          · by_cases k5 : k = 5
            · simp [k5]
            · by_cases k6 : k = 6
              · simp [k6]; split <;> rfl
              · simp only [k0, k1, k2, k3, k4, k5, k6, if_false]
theorem c106 {u : Int32} : RM x 106 [.ref b, .int u] (setC w b s) n = some (.inl (some (.int (s 20 4))), setC w b (us s 20 4 u), n) := by
  simp only [csN, csm_i, csm_r, Nat.reduceAdd, Nat.reduceLeDiff, wdI, wdR, wdN, clM_0, clC_0, clC_1, clC_6, clC_8, true_or, or_true, i10, i01, ob_some, ob_map, cal_v, rvs_some, rvs_none, XO_at, cal_x, m106, r106_0, r106_1, r106_4, r106_5, r106_6, r106_7, r106_10, r106_11, gC_0_4, pC_0_4]
end CNL
