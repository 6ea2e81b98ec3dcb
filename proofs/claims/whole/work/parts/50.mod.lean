/-! THE MODEL: leaves; what its canal has to do with the class's -/
section MOD
set_option maxRecDepth 20000
variable {x : SX} {n b : Nat} {w : PW} {m s : NS}
def rI (v lo hi : Int32) : Bool := !decide (v < lo) && !decide (hi < v)
theorem c193 {u v z : Int32} : RM x 193 [.int u, .int v, .int z] w n = some (.inl (some (.int (bi (rI u v z)))), w, n) := by
  simp only [csN, csm_i, csm_r, Nat.reduceAdd, Nat.reduceLeDiff, wdI, wdR, wdN, clM_0, clC_0, clC_1, clC_6, clC_8, true_or, or_true, i10, i01, ob_some, ob_map, cal_v, rvs_some, rvs_none, XO_at, cal_x, m193, r193_0, r193_1, r193_2, r193_5, r193_6, r193_7, r193_10, r193_11, r193_14, r193_15]
  by_cases h : u < v <;> by_cases h9 : z < u <;> simp [h, h9, rI, bi]
theorem lt_succ {v : Int32} {N : Nat} (hN : N + 1 < 2147483648) : (v < Int32.ofNat (N + 1)) = ¬ (Int32.ofNat N < v) := by
  rw [Int32.lt_iff_toInt_lt, Int32.lt_iff_toInt_lt, i32_ti hN, i32_ti (by omega)]
  apply propext
  constructor
  · intro h; omega
  · intro h; omega
theorem rI_rg {v : Int32} {N : Nat} (hN : N + 1 < 2147483648) : rI v 0 (Int32.ofNat N) = rg v (Int32.ofNat (N + 1)) := by
  unfold rI rg
  have e := lt_succ (v := v) hN
  by_cases h : Int32.ofNat N < v
  · have e' : ¬ v < Int32.ofNat (N + 1) := by rw [e]; exact fun z => z h
    rw [decide_eq_true h, decide_eq_false e']
    rfl
  · have e' : v < Int32.ofNat (N + 1) := by rw [e]; exact h
    rw [decide_eq_false h, decide_eq_true e']
    rfl
theorem c194 {u v : Int32} : RM x 194 [.int u, .int v] w n = some (.inl (some (.int (if u < v then u else v))), w, n) := by
  simp only [csN, csm_i, csm_r, Nat.reduceAdd, Nat.reduceLeDiff, wdI, wdR, wdN, clM_0, clC_0, clC_1, clC_6, clC_8, true_or, or_true, i10, i01, ob_some, ob_map, cal_v, rvs_some, rvs_none, XO_at, cal_x, m194, r194_0, r194_1, r194_2, r194_5, r194_6, r194_9, r194_10]
  split <;> rfl
theorem c192 : RM x 192 [.ref b] (setM w b m) n = some (.inl (some (.int (m 20 13))), setM w b m, n) := by
  simp only [csN, csm_i, csm_r, Nat.reduceAdd, Nat.reduceLeDiff, wdI, wdR, wdN, clM_0, clC_0, clC_1, clC_6, clC_8, true_or, or_true, i10, i01, ob_some, ob_map, cal_v, rvs_some, rvs_none, XO_at, cal_x, m192, r192_0, r192_1, r192_4, gM_0_13]
theorem c195 {u : Int32} : RM x 195 [.ref b, .int u] (setM w b m) n = some (.inl (some (.int u)), setM w b (us m 20 13 0), n) := by
  simp only [csN, csm_i, csm_r, Nat.reduceAdd, Nat.reduceLeDiff, wdI, wdR, wdN, clM_0, clC_0, clC_1, clC_6, clC_8, true_or, or_true, i10, i01, ob_some, ob_map, cal_v, rvs_some, rvs_none, XO_at, cal_x, m195, r195_0, r195_1, r195_2, r195_5, r195_6, pM_0_13]
theorem c196 {u : Int32} : RM x 196 [.ref b, .int u] (setM w b m) n = some (.inl (some (.int 0)), setM w b (us m 20 13 u), n) := by
  simp only [csN, csm_i, csm_r, Nat.reduceAdd, Nat.reduceLeDiff, wdI, wdR, wdN, clM_0, clC_0, clC_1, clC_6, clC_8, true_or, or_true, i10, i01, ob_some, ob_map, cal_v, rvs_some, rvs_none, XO_at, cal_x, m196, r196_0, r196_1, r196_2, r196_5, r196_6, pM_0_13]
theorem c200 {v : Int32} : RM x 200 [.int v] w n = some (.inl (some (.int (bi (rg v 5)))), w, n) := by
  simp only [csN, csm_i, csm_r, Nat.reduceAdd, Nat.reduceLeDiff, wdI, wdR, wdN, clM_0, clC_0, clC_1, clC_6, clC_8, true_or, or_true, i10, i01, ob_some, ob_map, cal_v, rvs_some, rvs_none, XO_at, cal_x, m200, r200_0, r200_1, r200_2, r200_3, c193]
  rw [show (5 : Int32) = Int32.ofNat (4 + 1) from rfl, ← rI_rg (by omega)]
  exact r200_6 (by rw [bi_01]; trivial)
theorem c202 {v : Int32} : RM x 202 [.int v] w n = some (.inl (some (.int (bi (rg v 6)))), w, n) := by
  simp only [csN, csm_i, csm_r, Nat.reduceAdd, Nat.reduceLeDiff, wdI, wdR, wdN, clM_0, clC_0, clC_1, clC_6, clC_8, true_or, or_true, i10, i01, ob_some, ob_map, cal_v, rvs_some, rvs_none, XO_at, cal_x, m202, r202_0, r202_1, r202_2, r202_3, c193]
  rw [show (6 : Int32) = Int32.ofNat (5 + 1) from rfl, ← rI_rg (by omega)]
  exact r202_6 (by rw [bi_01]; trivial)
theorem c203 {v : Int32} : RM x 203 [.int v] w n = some (.inl (some (.int (bi (rg v 12)))), w, n) := by
  simp only [csN, csm_i, csm_r, Nat.reduceAdd, Nat.reduceLeDiff, wdI, wdR, wdN, clM_0, clC_0, clC_1, clC_6, clC_8, true_or, or_true, i10, i01, ob_some, ob_map, cal_v, rvs_some, rvs_none, XO_at, cal_x, m203, r203_0, r203_1, r203_2, r203_4, c193]
  rw [show (12 : Int32) = Int32.ofNat (11 + 1) from rfl, ← rI_rg (by omega)]
  exact r203_7 (by rw [bi_01]; trivial)
theorem c201 {u v : Int32} : RM x 201 [.int u, .int v] w n = some (.inl (some (.int (bi (rg u 5 && rg v 2)))), w, n) := by
  have h2 : rI v 0 1 = rg v 2 := rI_rg (N := 1) (by omega)
  simp only [csN, csm_i, csm_r, Nat.reduceAdd, Nat.reduceLeDiff, wdI, wdR, wdN, clM_0, clC_0, clC_1, clC_6, clC_8, true_or, or_true, i10, i01, ob_some, ob_map, cal_v, rvs_some, rvs_none, XO_at, cal_x, m201, r201_0, r201_1, r201_4, r201_7, r201_8, r201_9, r201_10, r201_13, r201_16, r201_17, r201_20, r201_21, c200, c193, bi_eq0, h2]
  cases rg u 5 <;> cases rg v 2 <;> simp [bi]
def ntO (v : Int32) : Int32 := if v = 0 then 145 else if v = 1 then 137 else if v = 2 then 73 else 273
theorem c204 {v : Int32} : RM x 204 [.int v] w n = some (.inl (some (.int (ntO v))), w, n) := by
  simp only [csN, csm_i, csm_r, Nat.reduceAdd, Nat.reduceLeDiff, wdI, wdR, wdN, clM_0, clC_0, clC_1, clC_6, clC_8, true_or, or_true, i10, i01, ob_some, ob_map, cal_v, rvs_some, rvs_none, XO_at, cal_x, m204, r204_0, r204_1, r204_28, r204_31, r204_32, r204_35, r204_36, r204_38, r204_39, r204_42, ntO]
  repeat' split
  all_goals rfl
theorem c205 {u v : Int32} : RM x 205 [.int u, .int v] w n = some (.inl (some (.int (trp u v))), w, n) := by
  simp only [csN, csm_i, csm_r, Nat.reduceAdd, Nat.reduceLeDiff, wdI, wdR, wdN, clM_0, clC_0, clC_1, clC_6, clC_8, true_or, or_true, i10, i01, ob_some, ob_map, cal_v, rvs_some, rvs_none, XO_at, cal_x, m205, r205_0, r205_1, r205_2, r205_3, r205_4, r205_6, r205_7, r205_8, r205_9, r205_10, r205_13, r205_14]
  rfl
def ltO (v : Int32) : Int32 := if v = 0 then 77 else if v = 1 then 109 else if v = 2 then 100 else 97
theorem ltO_kd (v : Int32) : isKd (ltO v) := by
  unfold ltO isKd
  repeat' split
  all_goals simp
theorem c207 {v : Int32} : RM x 207 [.int v] w n = some (.inl (some (.int (ltO v))), w, n) := by
  have h := isKd_ch (ltO_kd v)
  simp only [csN, csm_i, csm_r, Nat.reduceAdd, Nat.reduceLeDiff, wdI, wdR, wdN, clM_0, clC_0, clC_1, clC_6, clC_8, true_or, or_true, i10, i01, ob_some, ob_map, cal_v, rvs_some, rvs_none, XO_at, cal_x, m207, r207_0, r207_1, r207_4, r207_6, r207_9, r207_10, r207_11, r207_14, r207_16, r207_19, r207_20, r207_21, r207_24, r207_26, r207_29]
  unfold ltO at h ⊢
  by_cases h0 : v = 0
  · simp only [h0, if_true] at h ⊢; exact r207_31 (by decide)
  · by_cases h1 : v = 1
    · simp only [h1, i10, if_true, if_false] at h ⊢; exact r207_31 (by decide)
    · by_cases h2 : v = 2
      · simp only [h2, show ((2 : Int32) = 0) = False from eq_false (by decide), show ((2 : Int32) = 1) = False from eq_false (by decide), if_true, if_false] at h ⊢; exact r207_31 (by decide)
      · simp only [h0, h1, h2, if_false] at h ⊢; exact r207_31 (by decide)
def kdO (v : Int32) : Int32 := if v = 77 then 0 else if v = 109 then 1 else if v = 100 then 2 else if v = 97 then 3 else -1
theorem c208 {v : Int32} : RM x 208 [.int v] w n = some (.inl (some (.int (kdO v))), w, n) := by
  simp only [csN, csm_i, csm_r, Nat.reduceAdd, Nat.reduceLeDiff, wdI, wdR, wdN, clM_0, clC_0, clC_1, clC_6, clC_8, true_or, or_true, i10, i01, ob_some, ob_map, cal_v, rvs_some, rvs_none, XO_at, cal_x, m208, r208_0, r208_1, r208_3, r208_6, r208_7, r208_10, r208_11, r208_13, r208_16, r208_17, r208_20, r208_21, r208_23, r208_26, r208_27, r208_30, r208_31, r208_33, r208_36, r208_37, r208_40, r208_41, kdO]
  repeat' split
  all_goals rfl
/-! chords -/
def chK (N : Int32) : Nat → Nat → Int32
  | 0, _ => -1
  | d + 1, k => if rt (ntO (Int32.ofNat k)) N = -1 then chK N d (k + 1) else 12 * Int32.ofNat k + rt (ntO (Int32.ofNat k)) N
theorem chK_s {N : Int32} {d k : Nat} : chK N (d + 1) k = if rt (ntO (Int32.ofNat k)) N = -1 then chK N d (k + 1) else 12 * Int32.ofNat k + rt (ntO (Int32.ofNat k)) N := rfl
theorem ofN_m1 {i : Nat} (h : i < 2147483648) : ¬ Int32.ofNat i = -1 := by
  intro e
  have := nz h
  rw [e] at this
  exact this (by decide)
theorem l206i {N : Int32} {k : Nat} (d : Nat) : ∀ i, i + d = 12 → RC x 206 9 [some (.int N), some (.int (Int32.ofNat k)), some (.int (Int32.ofNat i))] [] w n =
    if rtA (ntO (Int32.ofNat k)) N d i = -1 then RC x 206 2 [some (.int N), some (.int (Int32.ofNat (k + 1))), some (.int 12)] [] w n else some (.inl (some (.int (12 * Int32.ofNat k + rtA (ntO (Int32.ofNat k)) N d i))), w, n) := by
  induction d with
  | zero =>
    intro i h
    obtain rfl : i = 12 := by omega
    rw [r206_9]
    have h2 : Int32.ofNat k + 1 = Int32.ofNat (k + 1) := i_add (b := 1)
    simp only [csN, csm_i, csm_r, Nat.reduceAdd, Nat.reduceLeDiff, wdI, wdR, wdN, clM_0, clC_0, clC_1, clC_6, clC_8, true_or, or_true, i10, i01, ob_some, ob_map, cal_v, rvs_some, rvs_none, XO_at, cal_x, m206, r206_0, r206_1, r206_3, r206_4, r206_7, r206_8, r206_10, r206_12, r206_15, r206_16, r206_19, r206_20, r206_23, r206_24, r206_27, r206_29, r206_30, r206_31, r206_32, r206_33, r206_34, r206_37, r206_40, r206_43, r206_46, r206_47, Int32.reduceOfNat, Int32.reduceLT, if_false, if_true, rtA, h2]
  | succ d ih =>
    intro i h
    rw [r206_9]
    have h1 : Int32.ofNat i < 12 := nlt (N := 12) (by omega) (by omega) (by omega)
    have h2 : Int32.ofNat i + 1 = Int32.ofNat (i + 1) := i_add (b := 1)
    have hh := ih (i + 1) (by omega)
    simp only [csN, csm_i, csm_r, Nat.reduceAdd, Nat.reduceLeDiff, wdI, wdR, wdN, clM_0, clC_0, clC_1, clC_6, clC_8, true_or, or_true, i10, i01, ob_some, ob_map, cal_v, rvs_some, rvs_none, XO_at, cal_x, m206, r206_0, r206_1, r206_3, r206_4, r206_7, r206_8, r206_10, r206_12, r206_15, r206_16, r206_19, r206_20, r206_23, r206_24, r206_27, r206_29, r206_30, r206_31, r206_32, r206_33, r206_34, r206_37, r206_40, r206_43, r206_46, r206_47, c204, c205, h1, h2, hh, if_true, rtA]
    by_cases g : trp (ntO (Int32.ofNat k)) (Int32.ofNat i) = N
    · simp only [g, if_true, ofN_m1 (show i < 2147483648 by omega), if_false]
    · simp only [g, if_false]
theorem l206 {N : Int32} (d : Nat) : ∀ (k : Nat) (e : Option Value), k + d = 4 → RC x 206 2 [some (.int N), some (.int (Int32.ofNat k)), e] [] w n = some (.inl (some (.int (chK N d k))), w, n) := by
  induction d with
  | zero =>
    intro k e h
    obtain rfl : k = 4 := by omega
    rw [r206_2]
    simp only [csN, csm_i, csm_r, Nat.reduceAdd, Nat.reduceLeDiff, wdI, wdR, wdN, clM_0, clC_0, clC_1, clC_6, clC_8, true_or, or_true, i10, i01, ob_some, ob_map, cal_v, rvs_some, rvs_none, XO_at, cal_x, m206, r206_0, r206_1, r206_3, r206_4, r206_7, r206_8, r206_10, r206_12, r206_15, r206_16, r206_19, r206_20, r206_23, r206_24, r206_27, r206_29, r206_30, r206_31, r206_32, r206_33, r206_34, r206_37, r206_40, r206_43, r206_46, r206_47, Int32.reduceOfNat, Int32.reduceLT, if_false, chK]
  | succ d ih =>
    intro k e h
    rw [r206_2]
    have h1 : Int32.ofNat k < 4 := nlt (N := 4) (by omega) (by omega) (by omega)
    have hh := l206i (x := x) (n := n) (w := w) (N := N) (k := k) 12 0 rfl
    have h0 := ih (k + 1) (some (.int 12)) (by omega)
    simp only [csN, csm_i, csm_r, Nat.reduceAdd, Nat.reduceLeDiff, wdI, wdR, wdN, clM_0, clC_0, clC_1, clC_6, clC_8, true_or, or_true, i10, i01, ob_some, ob_map, cal_v, rvs_some, rvs_none, XO_at, cal_x, m206, r206_0, r206_1, r206_3, r206_4, r206_7, r206_8, r206_10, r206_12, r206_15, r206_16, r206_19, r206_20, r206_23, r206_24, r206_27, r206_29, r206_30, r206_31, r206_32, r206_33, r206_34, r206_37, r206_40, r206_43, r206_46, r206_47, h1, if_true]
    show RC x 206 9 [some (.int N), some (.int (Int32.ofNat k)), some (.int (Int32.ofNat 0))] [] w n = _
    rw [hh, h0]
    show (if rt (ntO (Int32.ofNat k)) N = -1 then _ else some (Sum.inl (some (Value.int (12 * Int32.ofNat k + rt (ntO (Int32.ofNat k)) N))), w, n)) = _
    rw [chK_s]
    split <;> rfl
theorem c206 {N : Int32} : RM x 206 [.int N] w n = some (.inl (some (.int (chK N 4 0))), w, n) := by
  simp only [csN, csm_i, csm_r, Nat.reduceAdd, Nat.reduceLeDiff, wdI, wdR, wdN, clM_0, clC_0, clC_1, clC_6, clC_8, true_or, or_true, i10, i01, ob_some, ob_map, cal_v, rvs_some, rvs_none, XO_at, cal_x, m206, r206_0, r206_1, r206_3, r206_4, r206_7, r206_8, r206_10, r206_12, r206_15, r206_16, r206_19, r206_20, r206_23, r206_24, r206_27, r206_29, r206_30, r206_31, r206_32, r206_33, r206_34, r206_37, r206_40, r206_43, r206_46, r206_47]
  exact l206 4 0 _ rfl
/-- a number of transposing is found: it is one of twelve -/
theorem rtA_lt {pat N : Int32} (d : Nat) : ∀ i, i + d = 12 → rtA pat N d i = -1 ∨ ∃ j, j < 12 ∧ rtA pat N d i = Int32.ofNat j ∧ trp pat (Int32.ofNat j) = N := by
  induction d with
  | zero => intro i h; exact Or.inl rfl
  | succ d ih =>
    intro i h
    unfold rtA
    by_cases g : trp pat (Int32.ofNat i) = N
    · rw [if_pos g]; exact Or.inr ⟨i, by omega, rfl, g⟩
    · rw [if_neg g]; exact ih (i + 1) (by omega)
theorem rt_lt {pat N : Int32} : rt pat N = -1 ∨ ∃ j, j < 12 ∧ rt pat N = Int32.ofNat j ∧ trp pat (Int32.ofNat j) = N := rtA_lt 12 0 rfl
/-- no notes are chords of two kinds -/
theorem trp_apart : ∀ k, k < 4 → ∀ l, l < 4 → k ≠ l → ∀ i, i < 12 → ∀ j, j < 12 → trp (ntO (Int32.ofNat k)) (Int32.ofNat i) ≠ trp (ntO (Int32.ofNat l)) (Int32.ofNat j) := by decide +kernel
theorem rt_apart {N : Int32} {k l : Nat} (hk : k < 4) (hl : l < 4) (hkl : k ≠ l) (h : ¬ rt (ntO (Int32.ofNat k)) N = -1) : rt (ntO (Int32.ofNat l)) N = -1 := by
  rcases rt_lt (pat := ntO (Int32.ofNat l)) (N := N) with h1 | ⟨j, h1, h2, h3⟩
  · exact h1
  · rcases rt_lt (pat := ntO (Int32.ofNat k)) (N := N) with g1 | ⟨i, g1, g2, g3⟩
    · exact absurd g1 h
    · exact absurd (g3.trans h3.symm) (trp_apart k hk l hl hkl i g1 j h1)
theorem div_12 : ∀ k, k < 4 → ∀ j, j < 12 → (12 * Int32.ofNat k + Int32.ofNat j) / 12 = Int32.ofNat k ∧ ¬ (12 * Int32.ofNat k + Int32.ofNat j) = -1 ∧ (12 * Int32.ofNat k + Int32.ofNat j) - (12 * Int32.ofNat k + Int32.ofNat j) / 12 * 12 = Int32.ofNat j := by decide +kernel
/-- the chord that notes are, its kind -/
theorem chK_at {N : Int32} {k : Nat} (hk : k < 4) (h : ¬ rt (ntO (Int32.ofNat k)) N = -1) : chK N 4 0 = 12 * Int32.ofNat k + rt (ntO (Int32.ofNat k)) N := by
  have key : ∀ l, l < 4 → l ≠ k → rt (ntO (Int32.ofNat l)) N = -1 := fun l hl hlk => rt_apart hk hl (fun e => hlk e.symm) h
  have hk4 : k = 0 ∨ k = 1 ∨ k = 2 ∨ k = 3 := by omega
  simp only [chK]
  rcases hk4 with rfl | rfl | rfl | rfl
  · rw [if_neg h]
  · rw [if_pos (key 0 (by omega) (by omega)), if_neg h]
  · rw [if_pos (key 0 (by omega) (by omega)), if_pos (key 1 (by omega) (by omega)), if_neg h]
  · rw [if_pos (key 0 (by omega) (by omega)), if_pos (key 1 (by omega) (by omega)), if_pos (key 2 (by omega) (by omega)), if_neg h]
theorem chK_no {N : Int32} (h : ∀ k, k < 4 → rt (ntO (Int32.ofNat k)) N = -1) : chK N 4 0 = -1 := by
  simp only [chK]
  rw [if_pos (h 0 (by omega)), if_pos (h 1 (by omega)), if_pos (h 2 (by omega)), if_pos (h 3 (by omega))]
theorem chK_cases (N : Int32) : (chK N 4 0 = -1 ∧ ∀ k, k < 4 → rt (ntO (Int32.ofNat k)) N = -1) ∨ ∃ k j, k < 4 ∧ j < 12 ∧ rt (ntO (Int32.ofNat k)) N = Int32.ofNat j ∧ chK N 4 0 = 12 * Int32.ofNat k + Int32.ofNat j := by
  by_cases h : ∃ k, k < 4 ∧ ¬ rt (ntO (Int32.ofNat k)) N = -1
  · obtain ⟨k, hk, hn⟩ := h
    rcases rt_lt (pat := ntO (Int32.ofNat k)) (N := N) with h1 | ⟨j, h1, h2, -⟩
    · exact absurd h1 hn
    · exact Or.inr ⟨k, j, hk, h1, h2, by rw [chK_at hk hn, h2]⟩
  · have h9 : ∀ k, k < 4 → rt (ntO (Int32.ofNat k)) N = -1 := by
      intro k hk
      by_cases h1 : rt (ntO (Int32.ofNat k)) N = -1
      · exact h1
      · exact absurd ⟨k, hk, h1⟩ h
    exact Or.inl ⟨chK_no h9, h9⟩
/-- a chord of the kind k -/
theorem ch_kind {N : Int32} {k : Nat} (hk : k < 4) : (!decide (chK N 4 0 = -1) && decide (chK N 4 0 / 12 = Int32.ofNat k)) = decide (¬ rt (ntO (Int32.ofNat k)) N = -1) := by
  rcases chK_cases N with ⟨h1, h2⟩ | ⟨l, j, h1, h2, h3, h4⟩
  · rw [h1, h2 k hk]; rfl
  · obtain ⟨d1, d2, -⟩ := div_12 l h1 j h2
    rw [h4, d1, decide_eq_false d2]
    by_cases hkl : l = k
    · subst hkl
      rw [h3]
      simp [ofN_m1 (show j < 2147483648 by omega)]
    · have hl : ¬ rt (ntO (Int32.ofNat l)) N = -1 := by rw [h3]; exact ofN_m1 (by omega)
      rw [rt_apart h1 hk hkl hl]
      have : ¬ Int32.ofNat l = Int32.ofNat k := fun e => hkl (i_inj (by omega) (by omega) e)
      simp [this]
theorem pat_lt : ∀ k, k < 4 → patO (ltO (Int32.ofNat k)) = ntO (Int32.ofNat k) := by decide +kernel
end MOD
