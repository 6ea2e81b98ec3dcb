/-! CHORDS AND GATES of the class -/
section CHD
set_option maxRecDepth 20000
theorem wdI {v : Int32} : wd (some (.int v)) = true := of_eq_true (eq_true rfl)
theorem wdR {v : Nat} : wd (some (.ref v)) = true := of_eq_true (eq_true rfl)
theorem wdN : wd none = true := of_eq_true (eq_true rfl)
theorem i10 : ((1 : Int32) = 0) = False := eq_false (by decide)
theorem i01 : ((0 : Int32) = 1) = False := eq_false (by decide)
theorem csN : csm [] = 0 := of_eq_true (eq_true rfl)
def bi (c : Bool) : Int32 := cond c 1 0
theorem bi_t : bi true = 1 := of_eq_true (eq_true rfl)
theorem bi_f : bi false = 0 := of_eq_true (eq_true rfl)
theorem bi_01 {c : Bool} : (bi c = 0 ∨ bi c = 1) = True := by cases c <;> simp [bi]
theorem bi_eq0 {c : Bool} : (bi c = 0) = (c = false) := by cases c <;> simp [bi]
theorem bi_eq1 {c : Bool} : (bi c = 1) = (c = true) := by cases c <;> simp [bi]
theorem bi_pos {c : Bool} : (0 < bi c) = (c = true) := by cases c <;> simp [bi]
theorem bi_neg {c : Bool} : (bi c < 0) = False := by cases c <;> simp [bi]
/-- an int from 0 on, below hi -/
def rg (v hi : Int32) : Bool := !decide (v < 0) && decide (v < hi)
theorem rg_of {v hi : Int32} (h : rg v hi = true) : ¬ v < 0 ∧ v < hi := by
  simpa [rg] using h
theorem rg_nat {v : Int32} {N : Nat} (hN : N < 2147483648) (h : rg v (Int32.ofNat N) = true) : ∃ a, a < N ∧ v = Int32.ofNat a := by
  obtain ⟨h1, h2⟩ := rg_of h
  obtain ⟨a, ha, rfl⟩ := i_of (Int32.not_lt.mp h1)
  rw [i_lt ha hN] at h2
  exact ⟨a, h2, rfl⟩
theorem nat_rg {a N : Nat} (hN : N < 2147483648) (h : a < N) : rg (Int32.ofNat a) (Int32.ofNat N) = true := by
  have h1 : ¬ Int32.ofNat a < 0 := by
    have := i_lt (a := a) (b := 0) (by omega) (by omega)
    rw [show (0 : Int32) = Int32.ofNat 0 from rfl, this]
    omega
  simp only [rg, h1, i_lt (a := a) (b := N) (by omega) hN, h, decide_true, decide_false, Bool.not_false, Bool.and_self]
variable {x : SX} {n b : Nat} {w : PW} {s : NS}
theorem clM_0 : clo (setM w b s) b = some 7 := clo_of setM_0
theorem clC_0 : clo (setC w b s) b = some 0 := clo_of setC_0
theorem clC_1 : clo (setC w b s) (b + 1) = some 2 := clo_of setC_1
theorem clC_6 : clo (setC w b s) (b + 6) = some 4 := clo_of setC_6
theorem clC_8 : clo (setC w b s) (b + 8) = some 1 := clo_of setC_8
/-! leaves -/
theorem c96 {p N : Nat} {f : Nat → Int32} {i : Int32} (hw : w p = some (.inl (0, N, .inl f))) (hN : N < 2147483648) : RM x 96 [.ref p, .int i] w n = some (.inl (some (.int (atv N f i))), w, n) := by
  have h1 : aln x w 0 p = some (Int32.ofNat N) := aln_at (by decide) hw
  have h2 := fun i => ald_at (x := x) (i := i) hw
  simp only [csN, csm_i, csm_r, Nat.reduceAdd, Nat.reduceLeDiff, wdI, wdR, wdN, clM_0, clC_0, clC_1, clC_6, clC_8, true_or, or_true, i10, i01, ob_some, ob_map, cal_v, rvs_some, rvs_none, XO_at, cal_x, m96, r96_0, r96_1, r96_4, r96_5, r96_6, r96_7, r96_10, r96_11, r96_12, r96_13, r96_16, r96_17, h1, h2]
  by_cases h : i < 0
  · simp [h, atv, fin_neg h]
  · by_cases h9 : i < Int32.ofNat N
    · have := fin_ok hN h (Int32.not_le.mpr h9)
      simp [h, h9, atv, this]
    · simp [h, h9, atv, fin_big hN (Int32.not_lt.mp h9)]
theorem c109 {u v z : Int32} : RM x 109 [.int u, .int v, .int z] w n = some (.inl (some (.int (1 <<< (u &&& 31) ||| 1 <<< (v &&& 31) ||| 1 <<< (z &&& 31)))), w, n) := by
  simp only [csN, csm_i, csm_r, Nat.reduceAdd, Nat.reduceLeDiff, wdI, wdR, wdN, clM_0, clC_0, clC_1, clC_6, clC_8, true_or, or_true, i10, i01, ob_some, ob_map, cal_v, rvs_some, rvs_none, XO_at, cal_x, m109, r109_0, r109_1, r109_2, r109_3, r109_4, r109_5, r109_6, r109_7, r109_8, r109_9, r109_10, r109_11]
theorem c110 {v : Int32} : RM x 110 [.int v] w n = some (.inl (some (.int (bi (rg v 12)))), w, n) := by
  simp only [csN, csm_i, csm_r, Nat.reduceAdd, Nat.reduceLeDiff, wdI, wdR, wdN, clM_0, clC_0, clC_1, clC_6, clC_8, true_or, or_true, i10, i01, ob_some, ob_map, cal_v, rvs_some, rvs_none, XO_at, cal_x, m110, r110_0, r110_1, r110_4, r110_5, r110_7, r110_10, r110_11, r110_14, r110_15]
  by_cases h : v < 0 <;> by_cases h9 : v < 12 <;> simp [h, h9, rg, bi]
def patO (v : Int32) : Int32 := if v = 77 then 145 else if v = 97 then 273 else if v = 100 then 73 else if v = 109 then 137 else 0
theorem c112 {v : Int32} : RM x 112 [.int v] w n = some (.inl (some (.int (patO v))), w, n) := by
  simp only [csN, csm_i, csm_r, Nat.reduceAdd, Nat.reduceLeDiff, wdI, wdR, wdN, clM_0, clC_0, clC_1, clC_6, clC_8, true_or, or_true, i10, i01, ob_some, ob_map, cal_v, rvs_some, rvs_none, XO_at, cal_x, m112, r112_0, r112_1, r112_44, r112_47, r112_48, r112_51, r112_52, r112_54, r112_55, r112_58, r112_59, r112_60, patO]
  repeat' split
  all_goals rfl
theorem c111 {v : Int32} : RM x 111 [.int v] w n = some (.inl (some (.int (bi (decide (¬ patO v = 0))))), w, n) := by
  simp only [csN, csm_i, csm_r, Nat.reduceAdd, Nat.reduceLeDiff, wdI, wdR, wdN, clM_0, clC_0, clC_1, clC_6, clC_8, true_or, or_true, i10, i01, ob_some, ob_map, cal_v, rvs_some, rvs_none, XO_at, cal_x, m111, r111_0, r111_1, r111_4, r111_7, r111_8, r111_11, r111_12, c112]
  by_cases h : patO v = 0 <;> simp [h, bi]
def trp (p r : Int32) : Int32 := (p <<< (r &&& 31) ||| p >>> ((12 - r) &&& 31)) &&& 4095
def rtA (pat N : Int32) : Nat → Nat → Int32
  | 0, _ => -1
  | d + 1, i => if trp pat (Int32.ofNat i) = N then Int32.ofNat i else rtA pat N d (i + 1)
def rt (pat N : Int32) : Int32 := rtA pat N 12 0
theorem l113 {pat N : Int32} (d : Nat) : ∀ (i : Nat) (e : Option Value), i + d = 12 → RC x 113 2 [some (.int pat), some (.int N), some (.int (Int32.ofNat i)), e] [] w n = some (.inl (some (.int (rtA pat N d i))), w, n) := by
  induction d with
  | zero =>
    intro i e h
    obtain rfl : i = 12 := by omega
    rw [r113_2]
    simp only [csN, csm_i, csm_r, Nat.reduceAdd, Nat.reduceLeDiff, wdI, wdR, wdN, clM_0, clC_0, clC_1, clC_6, clC_8, true_or, or_true, i10, i01, ob_some, ob_map, cal_v, rvs_some, rvs_none, XO_at, cal_x, m113, r113_0, r113_1, r113_3, r113_5, r113_8, r113_9, r113_10, r113_11, r113_12, r113_14, r113_15, r113_16, r113_17, r113_18, r113_21, r113_22, r113_23, r113_24, r113_25, r113_28, r113_29, r113_30, r113_33, r113_36, r113_37, Int32.reduceOfNat, Int32.reduceLT, if_false, rtA]
  | succ d ih =>
    intro i e h
    rw [r113_2]
    have h1 : Int32.ofNat i < 12 := by rw [show (12 : Int32) = Int32.ofNat 12 from rfl, i_lt (by omega) (by omega)]; omega
    have h2 : Int32.ofNat i + 1 = Int32.ofNat (i + 1) := i_add (b := 1)
    simp only [csN, csm_i, csm_r, Nat.reduceAdd, Nat.reduceLeDiff, wdI, wdR, wdN, clM_0, clC_0, clC_1, clC_6, clC_8, true_or, or_true, i10, i01, ob_some, ob_map, cal_v, rvs_some, rvs_none, XO_at, cal_x, m113, r113_0, r113_1, r113_3, r113_5, r113_8, r113_9, r113_10, r113_11, r113_12, r113_14, r113_15, r113_16, r113_17, r113_18, r113_21, r113_22, r113_23, r113_24, r113_25, r113_28, r113_29, r113_30, r113_33, r113_36, r113_37, h1, h2, if_true]
    rw [ih (i + 1) _ (by omega)]
    simp only [rtA, trp]
    split <;> (next h => simp only [h, if_true, if_false])
theorem c113 {pat N : Int32} : RM x 113 [.int pat, .int N] w n = some (.inl (some (.int (rt pat N))), w, n) := by
  simp only [csN, csm_i, csm_r, Nat.reduceAdd, Nat.reduceLeDiff, wdI, wdR, wdN, clM_0, clC_0, clC_1, clC_6, clC_8, true_or, or_true, i10, i01, ob_some, ob_map, cal_v, rvs_some, rvs_none, XO_at, cal_x, m113, r113_0, r113_1, r113_3, r113_5, r113_8, r113_9, r113_10, r113_11, r113_12, r113_14, r113_15, r113_16, r113_17, r113_18, r113_21, r113_22, r113_23, r113_24, r113_25, r113_28, r113_29, r113_30, r113_33, r113_36, r113_37]
  exact l113 12 0 _ rfl
def kdC (N : Int32) : Int32 := if ¬ rt 145 N = -1 then 77 else if ¬ rt 137 N = -1 then 109 else if ¬ rt 73 N = -1 then 100 else if ¬ rt 273 N = -1 then 97 else 45
theorem c114 {N : Int32} : RM x 114 [.int N] w n = some (.inl (some (.int (kdC N))), w, n) := by
  have e1 : patO 77 = 145 := by decide
  have e2 : patO 109 = 137 := by decide
  have e3 : patO 100 = 73 := by decide
  have e4 : patO 97 = 273 := by decide
  simp only [csN, csm_i, csm_r, Nat.reduceAdd, Nat.reduceLeDiff, wdI, wdR, wdN, clM_0, clC_0, clC_1, clC_6, clC_8, true_or, or_true, i10, i01, ob_some, ob_map, cal_v, rvs_some, rvs_none, XO_at, cal_x, m114, r114_0, r114_2, r114_5, r114_6, r114_9, r114_10, r114_13, r114_16, r114_18, r114_21, r114_22, r114_25, r114_26, r114_29, r114_32, r114_34, r114_37, r114_38, r114_41, r114_42, r114_45, r114_48, r114_50, r114_53, r114_54, r114_57, r114_58, r114_61, r114_63, r114_66, c112, c113, e1, e2, e3, e4]
  unfold kdC
  by_cases h1 : rt 145 N = -1
  · by_cases h2 : rt 137 N = -1
    · by_cases h3 : rt 73 N = -1
      · by_cases h4 : rt 273 N = -1
        · simp only [h1, h2, h3, h4, if_true, not_true, if_false]; exact r114_68 (v := 45) (by decide)
        · simp only [h1, h2, h3, h4, if_true, not_true, if_false, not_false_eq_true]; exact r114_68 (v := 97) (by decide)
      · simp only [h1, h2, h3, if_true, not_true, if_false, not_false_eq_true]; exact r114_47 (v := 100) (by decide)
    · simp only [h1, h2, if_true, not_true, if_false, not_false_eq_true]; exact r114_31 (v := 109) (by decide)
  · simp only [h1, if_true, not_true, if_false, not_false_eq_true]; exact r114_15 (v := 77) (by decide)
theorem c140 {v : Int32} : RM x 140 [.int v] w n = some (.inl (some (.int (bi (rg v 5)))), w, n) := by
  simp only [csN, csm_i, csm_r, Nat.reduceAdd, Nat.reduceLeDiff, wdI, wdR, wdN, clM_0, clC_0, clC_1, clC_6, clC_8, true_or, or_true, i10, i01, ob_some, ob_map, cal_v, rvs_some, rvs_none, XO_at, cal_x, m140, r140_0, r140_1, r140_4, r140_5, r140_6, r140_9, r140_10, r140_13, r140_14]
  by_cases h : v < 0 <;> by_cases h9 : v < 5 <;> simp [h, h9, rg, bi]
theorem c141 {u v : Int32} : RM x 141 [.int u, .int v] w n = some (.inl (some (.int (bi (rg u 5 && rg v 2)))), w, n) := by
  simp only [csN, csm_i, csm_r, Nat.reduceAdd, Nat.reduceLeDiff, wdI, wdR, wdN, clM_0, clC_0, clC_1, clC_6, clC_8, true_or, or_true, i10, i01, ob_some, ob_map, cal_v, rvs_some, rvs_none, XO_at, cal_x, m141, r141_0, r141_1, r141_4, r141_7, r141_8, r141_11, r141_12, r141_13, r141_16, r141_17, r141_20, r141_21, c140, bi_eq0]
  rw [show rg v 2 = (!decide (v < 0) && decide (v < 2)) from rfl]
  cases rg u 5 <;> by_cases h : v < 0 <;> by_cases h9 : v < 2 <;> simp [h, h9, bi]
theorem c142 {u v : Int32} : RM x 142 [.int u, .int v] w n = some (.inl (some (.int (u * 2 + v))), w, n) := by
  simp only [csN, csm_i, csm_r, Nat.reduceAdd, Nat.reduceLeDiff, wdI, wdR, wdN, clM_0, clC_0, clC_1, clC_6, clC_8, true_or, or_true, i10, i01, ob_some, ob_map, cal_v, rvs_some, rvs_none, XO_at, cal_x, m142, r142_0, r142_1, r142_2, r142_3, r142_4, r142_5]
theorem c143 {u v : Int32} : RM x 143 [.ref (b + 1), .int u, .int v] (setC w b s) n = some (.inl (some (.int (atv 10 (s 4) (u * 2 + v)))), setC w b s, n) := by
  simp only [csN, csm_i, csm_r, Nat.reduceAdd, Nat.reduceLeDiff, wdI, wdR, wdN, clM_0, clC_0, clC_1, clC_6, clC_8, true_or, or_true, i10, i01, ob_some, ob_map, cal_v, rvs_some, rvs_none, XO_at, cal_x, m143, r143_0, r143_1, r143_4, r143_5, r143_6, r143_9, r143_12, gC_1_2, c142]
  rw [c96 setC_4 (by decide)]
  simp only [csN, csm_i, csm_r, Nat.reduceAdd, Nat.reduceLeDiff, wdI, wdR, wdN, clM_0, clC_0, clC_1, clC_6, clC_8, true_or, or_true, i10, i01, ob_some, ob_map, cal_v, rvs_some, rvs_none, XO_at, cal_x, m143, r143_0, r143_1, r143_4, r143_5, r143_6, r143_9, r143_12]
theorem c144 {u v : Int32} : RM x 144 [.ref (b + 1), .int u, .int v] (setC w b s) n = some (.inl (some (.int (atv 10 (s 5) (u * 2 + v)))), setC w b s, n) := by
  simp only [csN, csm_i, csm_r, Nat.reduceAdd, Nat.reduceLeDiff, wdI, wdR, wdN, clM_0, clC_0, clC_1, clC_6, clC_8, true_or, or_true, i10, i01, ob_some, ob_map, cal_v, rvs_some, rvs_none, XO_at, cal_x, m144, r144_0, r144_1, r144_4, r144_5, r144_6, r144_9, r144_12, gC_1_3, c142]
  rw [c96 setC_5 (by decide)]
  simp only [csN, csm_i, csm_r, Nat.reduceAdd, Nat.reduceLeDiff, wdI, wdR, wdN, clM_0, clC_0, clC_1, clC_6, clC_8, true_or, or_true, i10, i01, ob_some, ob_map, cal_v, rvs_some, rvs_none, XO_at, cal_x, m144, r144_0, r144_1, r144_4, r144_5, r144_6, r144_9, r144_12]
/-- what a string sounds -/
def snd (note wear : Int32) : Int32 := if wear < 10 then note else if note = 11 then 0 else note + 1
theorem c148 {g t : Nat} {u v : Int32} (hu : u = Int32.ofNat g) (hv : v = Int32.ofNat t) (hg : g < 5) (ht : t < 2) : RM x 148 [.ref (b + 1), .int u, .int v] (setC w b s) n = some (.inl (some (.int (snd (s 4 (g * 2 + t)) (s 5 (g * 2 + t))))), setC w b s, n) := by
  subst hu
  subst hv
  have h1 : Int32.ofNat g * 2 + Int32.ofNat t = Int32.ofNat (g * 2 + t) := by rw [show (2 : Int32) = Int32.ofNat 2 from rfl, i_mul, i_add]
  have h2 : ¬ Int32.ofNat (g * 2 + t) < 0 := by rw [show (0 : Int32) = Int32.ofNat 0 from rfl, i_lt (by omega) (by omega)]; omega
  have h3 : Int32.ofNat (g * 2 + t) < 10 := by rw [show (10 : Int32) = Int32.ofNat 10 from rfl, i_lt (by omega) (by omega)]; omega
  have h4 : fin 10 (Int32.ofNat (g * 2 + t)) = some (g * 2 + t) := fin_nat (by omega) (by omega)
  simp only [csN, csm_i, csm_r, Nat.reduceAdd, Nat.reduceLeDiff, wdI, wdR, wdN, clM_0, clC_0, clC_1, clC_6, clC_8, true_or, or_true, i10, i01, ob_some, ob_map, cal_v, rvs_some, rvs_none, XO_at, cal_x, m148, r148_0, r148_1, r148_2, r148_3, r148_4, r148_5, r148_6, r148_7, r148_10, r148_11, r148_12, r148_15, r148_16, r148_19, r148_20, r148_21, r148_24, r148_25, r148_28, r148_29, r148_30, r148_31, r148_34, r148_35, r148_36, r148_38, r148_39, r148_42, r148_43, r148_44, r148_46, r148_49, r148_51, r148_52, r148_54, r148_56, r148_59, r148_60, r148_63, r148_65, r148_66, r148_67, gC_1_2, gC_1_3, nC_4, nC_5, lC_4, lC_5, h1, h2, h3, h4, if_true, if_false, Option.map_some]
  unfold snd
  repeat' split
  all_goals rfl
end CHD
