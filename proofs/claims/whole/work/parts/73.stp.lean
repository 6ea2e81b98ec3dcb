/-! THE KIND BY STEPS -/
section STP
set_option maxRecDepth 20000
variable {x : SX} {n b c q B : Nat} {w w' : PW} {m s t y : NS} {hs le lf hc : Int32} {F : Nat → Nat} {K : Nat → NS} {sc : NS} {cs : Nat → Nat} {u v N : Int32}
def stA (N : Int32) : Nat → Nat → Int32 → Int32 → Int32 → Int32
  | 0, _, a, f, l => if l = -1 then 0 else a <<< (4 &&& 31) ||| (f + 12 - l)
  | d + 1, i, a, f, l => if (N >>> (Int32.ofNat i &&& 31)) &&& 1 = 1 then (if l = -1 then stA N d (i + 1) a (Int32.ofNat i) (Int32.ofNat i) else stA N d (i + 1) (a <<< (4 &&& 31) ||| (Int32.ofNat i - l)) f (Int32.ofNat i)) else stA N d (i + 1) a f l
theorem stA_0 {i : Nat} {a f l : Int32} : stA N 0 i a f l = (if l = -1 then (0 : Int32) else a <<< (4 &&& 31) ||| (f + 12 - l) : Int32) := rfl
theorem stA_s {d i : Nat} {a f l : Int32} : stA N (d + 1) i a f l = if (N >>> (Int32.ofNat i &&& 31)) &&& 1 = 1 then (if l = -1 then stA N d (i + 1) a (Int32.ofNat i) (Int32.ofNat i) else stA N d (i + 1) (a <<< (4 &&& 31) ||| (Int32.ofNat i - l)) f (Int32.ofNat i)) else stA N d (i + 1) a f l := rfl
theorem l116 (d : Nat) : ∀ (i : Nat) (a f l : Int32), i + d = 12 → RC x 116 9 [some (.int N), some (.int a), some (.int f), some (.int l), some (.int (Int32.ofNat i))] [] w n = some (.inl (some (.int (stA N d i a f l))), w, n) := by
  induction d with
  | zero =>
    intro i a f l h
    obtain rfl : i = 12 := by omega
    rw [r116_9, stA_0]
    have h0 : ¬ Int32.ofNat 12 < (12 : Int32) := by decide
    by_cases g : l = -1
    · simp only [csN, csm_i, csm_r, Nat.reduceAdd, Nat.reduceLeDiff, wdI, wdR, wdN, clM_0, clC_0, clC_1, clC_6, clC_8, true_or, or_true, i10, i01, ob_some, ob_map, cal_v, rvs_some, rvs_none, XO_at, cal_x, m116, r116_0, r116_1, r116_2, r116_3, r116_4, r116_5, r116_6, r116_7, r116_11, r116_13, r116_16, r116_17, r116_19, r116_20, r116_21, r116_22, r116_23, r116_26, r116_27, r116_28, r116_31, r116_33, r116_34, r116_37, r116_38, r116_39, r116_40, r116_42, r116_43, r116_44, r116_45, r116_46, r116_48, r116_49, r116_52, r116_55, r116_56, r116_57, r116_60, r116_61, r116_64, r116_65, r116_66, r116_67, r116_68, r116_70, r116_71, r116_72, r116_73, r116_74, h0, if_false, g, if_true]
    · simp only [csN, csm_i, csm_r, Nat.reduceAdd, Nat.reduceLeDiff, wdI, wdR, wdN, clM_0, clC_0, clC_1, clC_6, clC_8, true_or, or_true, i10, i01, ob_some, ob_map, cal_v, rvs_some, rvs_none, XO_at, cal_x, m116, r116_0, r116_1, r116_2, r116_3, r116_4, r116_5, r116_6, r116_7, r116_11, r116_13, r116_16, r116_17, r116_19, r116_20, r116_21, r116_22, r116_23, r116_26, r116_27, r116_28, r116_31, r116_33, r116_34, r116_37, r116_38, r116_39, r116_40, r116_42, r116_43, r116_44, r116_45, r116_46, r116_48, r116_49, r116_52, r116_55, r116_56, r116_57, r116_60, r116_61, r116_64, r116_65, r116_66, r116_67, r116_68, r116_70, r116_71, r116_72, r116_73, r116_74, h0, if_false, g]
  | succ d ih =>
    intro i a f l h
    rw [r116_9, stA_s]
    have h1 : Int32.ofNat i < (12 : Int32) := nlt (N := 12) (by omega) (by omega) (by omega)
    have h2 : Int32.ofNat i + 1 = Int32.ofNat (i + 1) := i_add (b := 1)
    have hh := fun a f l => ih (i + 1) a f l (by omega)
    by_cases g : (N >>> (Int32.ofNat i &&& 31)) &&& 1 = 1
    · by_cases gl : l = -1
      · simp only [csN, csm_i, csm_r, Nat.reduceAdd, Nat.reduceLeDiff, wdI, wdR, wdN, clM_0, clC_0, clC_1, clC_6, clC_8, true_or, or_true, i10, i01, ob_some, ob_map, cal_v, rvs_some, rvs_none, XO_at, cal_x, m116, r116_0, r116_1, r116_2, r116_3, r116_4, r116_5, r116_6, r116_7, r116_11, r116_13, r116_16, r116_17, r116_19, r116_20, r116_21, r116_22, r116_23, r116_26, r116_27, r116_28, r116_31, r116_33, r116_34, r116_37, r116_38, r116_39, r116_40, r116_42, r116_43, r116_44, r116_45, r116_46, r116_48, r116_49, r116_52, r116_55, r116_56, r116_57, r116_60, r116_61, r116_64, r116_65, r116_66, r116_67, r116_68, r116_70, r116_71, r116_72, r116_73, r116_74, h1, g, gl, h2, if_true]
        exact hh _ _ _
      · simp only [csN, csm_i, csm_r, Nat.reduceAdd, Nat.reduceLeDiff, wdI, wdR, wdN, clM_0, clC_0, clC_1, clC_6, clC_8, true_or, or_true, i10, i01, ob_some, ob_map, cal_v, rvs_some, rvs_none, XO_at, cal_x, m116, r116_0, r116_1, r116_2, r116_3, r116_4, r116_5, r116_6, r116_7, r116_11, r116_13, r116_16, r116_17, r116_19, r116_20, r116_21, r116_22, r116_23, r116_26, r116_27, r116_28, r116_31, r116_33, r116_34, r116_37, r116_38, r116_39, r116_40, r116_42, r116_43, r116_44, r116_45, r116_46, r116_48, r116_49, r116_52, r116_55, r116_56, r116_57, r116_60, r116_61, r116_64, r116_65, r116_66, r116_67, r116_68, r116_70, r116_71, r116_72, r116_73, r116_74, h1, g, gl, h2, if_true, if_false]
        exact hh _ _ _
    · simp only [csN, csm_i, csm_r, Nat.reduceAdd, Nat.reduceLeDiff, wdI, wdR, wdN, clM_0, clC_0, clC_1, clC_6, clC_8, true_or, or_true, i10, i01, ob_some, ob_map, cal_v, rvs_some, rvs_none, XO_at, cal_x, m116, r116_0, r116_1, r116_2, r116_3, r116_4, r116_5, r116_6, r116_7, r116_11, r116_13, r116_16, r116_17, r116_19, r116_20, r116_21, r116_22, r116_23, r116_26, r116_27, r116_28, r116_31, r116_33, r116_34, r116_37, r116_38, r116_39, r116_40, r116_42, r116_43, r116_44, r116_45, r116_46, r116_48, r116_49, r116_52, r116_55, r116_56, r116_57, r116_60, r116_61, r116_64, r116_65, r116_66, r116_67, r116_68, r116_70, r116_71, r116_72, r116_73, r116_74, h1, g, h2, if_true, if_false]
      exact hh _ _ _
theorem c116 : RM x 116 [.int N] w n = some (.inl (some (.int (stA N 12 0 0 0 (-1)))), w, n) := by
  simp only [csN, csm_i, csm_r, Nat.reduceAdd, Nat.reduceLeDiff, wdI, wdR, wdN, clM_0, clC_0, clC_1, clC_6, clC_8, true_or, or_true, i10, i01, ob_some, ob_map, cal_v, rvs_some, rvs_none, XO_at, cal_x, m116, r116_0, r116_1, r116_2, r116_3, r116_4, r116_5, r116_6, r116_7, r116_11, r116_13, r116_16, r116_17, r116_19, r116_20, r116_21, r116_22, r116_23, r116_26, r116_27, r116_28, r116_31, r116_33, r116_34, r116_37, r116_38, r116_39, r116_40, r116_42, r116_43, r116_44, r116_45, r116_46, r116_48, r116_49, r116_52, r116_55, r116_56, r116_57, r116_60, r116_61, r116_64, r116_65, r116_66, r116_67, r116_68, r116_70, r116_71, r116_72, r116_73, r116_74]
  exact l116 12 0 0 0 (-1) rfl
def kdT (v : Int32) : Int32 := if v = 822 then 100 else if v = 837 then 109 else if v = 852 then 77 else if v = 867 then 100 else if v = 1077 then 77 else if v = 1092 then 97 else if v = 1107 then 109 else if v = 1332 then 109 else if v = 1347 then 77 else if v = 1587 then 100 else 45
def kdS (N : Int32) : Int32 := kdT (stA N 12 0 0 0 (-1))
theorem c115 : RM x 115 [.int N] w n = some (.inl (some (.int (kdS N))), w, n) := by
  simp only [csN, csm_i, csm_r, Nat.reduceAdd, Nat.reduceLeDiff, wdI, wdR, wdN, clM_0, clC_0, clC_1, clC_6, clC_8, true_or, or_true, i10, i01, ob_some, ob_map, cal_v, rvs_some, rvs_none, XO_at, cal_x, m115, r115_0, r115_1, r115_4, r115_96, r115_99, r115_102, r115_105, r115_108, c116]
  unfold kdS kdT
  generalize stA N 12 0 0 0 (-1) = v
  by_cases h822 : v = 822
  · rw [if_pos h822, if_pos h822]; exact r115_104 (by decide)
  rw [if_neg h822, if_neg h822]
  by_cases h837 : v = 837
  · rw [if_pos h837, if_pos h837]; exact r115_101 (by decide)
  rw [if_neg h837, if_neg h837]
  by_cases h852 : v = 852
  · rw [if_pos h852, if_pos h852]; exact r115_98 (by decide)
  rw [if_neg h852, if_neg h852]
  by_cases h867 : v = 867
  · rw [if_pos h867, if_pos h867]; exact r115_104 (by decide)
  rw [if_neg h867, if_neg h867]
  by_cases h1077 : v = 1077
  · rw [if_pos h1077, if_pos h1077]; exact r115_98 (by decide)
  rw [if_neg h1077, if_neg h1077]
  by_cases h1092 : v = 1092
  · rw [if_pos h1092, if_pos h1092]; exact r115_107 (by decide)
  rw [if_neg h1092, if_neg h1092]
  by_cases h1107 : v = 1107
  · rw [if_pos h1107, if_pos h1107]; exact r115_101 (by decide)
  rw [if_neg h1107, if_neg h1107]
  by_cases h1332 : v = 1332
  · rw [if_pos h1332, if_pos h1332]; exact r115_101 (by decide)
  rw [if_neg h1332, if_neg h1332]
  by_cases h1347 : v = 1347
  · rw [if_pos h1347, if_pos h1347]; exact r115_98 (by decide)
  rw [if_neg h1347, if_neg h1347]
  by_cases h1587 : v = 1587
  · rw [if_pos h1587, if_pos h1587]; exact r115_104 (by decide)
  rw [if_neg h1587, if_neg h1587]
  exact r115_110 (by decide)
def L40 : List Nat := [73, 137, 145, 146, 265, 273, 274, 289, 290, 292, 521, 529, 530, 545, 546, 548, 577, 578, 580, 584, 1042, 1058, 1060, 1090, 1092, 1096, 1154, 1156, 1160, 1168, 2084, 2116, 2120, 2180, 2184, 2192, 2308, 2312, 2320, 2336]
theorem kdS_all : ∀ h, h < 64 → ∀ l, l < 64 → kdS (Int32.ofNat (h * 64 + l)) = 45 ∨ h * 64 + l ∈ L40 := by decide +kernel
theorem L40_kd : ∀ a ∈ L40, kdS (Int32.ofNat a) = kdC (Int32.ofNat a) := by decide +kernel
theorem L40_tr : ∀ k, k < 4 → ∀ j, j < 12 → ∃ a ∈ L40, trp (ntO (Int32.ofNat k)) (Int32.ofNat j) = Int32.ofNat a := by decide +kernel
theorem kdS_eq {a : Nat} (ha : a < 4096) : kdS (Int32.ofNat a) = kdC (Int32.ofNat a) := by
  have h := kdS_all (a / 64) (by omega) (a % 64) (by omega)
  rw [show a / 64 * 64 + a % 64 = a by omega] at h
  rcases h with h | h
  · rcases ch_cases (Int32.ofNat a) with ⟨-, h2⟩ | ⟨k, j, hk, hj, -, -, h3⟩
    · rw [h, h2]
    · rcases rt_lt (pat := ntO (Int32.ofNat k)) (N := Int32.ofNat a) with h4 | ⟨j', h5, -, h6⟩
      · rw [h4] at h3
        exact absurd h3.symm (ofN_m1 (by omega))
      · obtain ⟨a', m1, m2⟩ := L40_tr k hk j' h5
        have := L40_kd a' m1
        rw [← m2, h6] at this
        exact this
  · exact L40_kd a h
theorem p307 (hV : IV B w m s t y hs le lf F K sc c q cs) : PAIR B x w n 307 [.ref 64, .int u, .ref 237] 238 [.ref 227, .int u] m le lf sc := by
  obtain ⟨-, c64, -⟩ := WD_64 hV.1
  cases h : rI u 0 4095 with
  | true =>
    have e1 := c91_t (x := x) (n := n) (w := w) h
    have hu : kdS u = kdC u := by
      unfold rI at h
      rw [Bool.and_eq_true] at h
      obtain ⟨a, -, ha, rfl⟩ := in_nat (lo := 0) (hi := 4095) (by omega) (by omega) (v := u) (by simpa using h.1) (by simpa using h.2)
      exact kdS_eq (by omega)
    have e3 : RM x 44 [.ref 64, .int u] w n = some (.inl (some (.int (kdC u))), w, n) := by
      simp only [csN, csm_i, csm_r, Nat.reduceAdd, Nat.reduceLeDiff, wdI, wdR, wdN, clM_0, clC_0, clC_1, clC_6, clC_8, true_or, or_true, i10, i01, ob_some, ob_map, cal_v, rvs_some, rvs_none, XO_at, cal_x, m44, r44_0, r44_1, r44_4, r44_5, e1, c115, hu]
      exact r44_8 kdC_ch
    exact q_ok hV (fun f hf => lw307 c64 e3 hf) (fun w' n' => by
      have k := c237_t (x := x) (n := n') (b := 227) (w := w') (m := m) h
      simp only [csN, csm_i, csm_r, Nat.reduceAdd, Nat.reduceLeDiff, wdI, wdR, wdN, clM_0, clC_0, clC_1, clC_6, clC_8, true_or, or_true, i10, i01, ob_some, ob_map, cal_v, rvs_some, rvs_none, XO_at, cal_x, m238, r238_0, r238_1, r238_2, k]
      exact r238_5 kdC_ch)
  | false =>
    have e1 := c91_f (x := x) (n := n) (w := w) h
    have e3 : RM x 44 [.ref 64, .int u] w n = some (.inr "java/lang/IllegalArgumentException", w, n + 1) := by
      simp only [csN, csm_i, csm_r, Nat.reduceAdd, Nat.reduceLeDiff, wdI, wdR, wdN, clM_0, clC_0, clC_1, clC_6, clC_8, true_or, or_true, i10, i01, ob_some, ob_map, cal_v, rvs_some, rvs_none, XO_at, cal_x, m44, r44_0, r44_1, r44_4, r44_5, e1]
    exact q_ex (r := 0) hV (by decide) (lx307_1 c64 e3) (fun w' n' => by
      have k := c237_f (x := x) (n := n') (b := 227) (w := w') (m := m) h
      simp only [csN, csm_i, csm_r, Nat.reduceAdd, Nat.reduceLeDiff, wdI, wdR, wdN, clM_0, clC_0, clC_1, clC_6, clC_8, true_or, or_true, i10, i01, ob_some, ob_map, cal_v, rvs_some, rvs_none, XO_at, cal_x, m238, r238_0, r238_1, r238_2, k]
      exact r238_5 (by decide))
end STP
