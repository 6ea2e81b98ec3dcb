/-! STRING CONSTANTS: length, characters, where a character stands -/
section STR
set_option maxRecDepth 20000
variable {x : SX} {n p : Nat} {w : PW} {bs : List Int32} {c : Int32}
def CH (v : Int32) : Prop := ∃ a : Nat, a < 128 ∧ v = Int32.ofNat a
theorem ch_all : ∀ a, a < 128 → (Int32.ofNat a &&& 255 = Int32.ofNat a ∧ ((Int32.ofNat a).toUInt32 % 65536).toInt32 = Int32.ofNat a ∧ (Int32.ofNat a).toUInt32.toUInt16.toUInt32.toInt32 = Int32.ofNat a ∧ (Int32.ofNat a).toInt8.toInt32 = Int32.ofNat a ∧ ¬ Int32.ofNat a < 0 ∧ ¬ 255 < Int32.ofNat a) := by decide +kernel
theorem ch_f {v : Int32} (h : CH v) : v &&& 255 = v ∧ (v.toUInt32 % 65536).toInt32 = v ∧ v.toUInt32.toUInt16.toUInt32.toInt32 = v ∧ v.toInt8.toInt32 = v ∧ ¬ v < 0 ∧ ¬ 255 < v := by
  obtain ⟨a, ha, rfl⟩ := h
  exact ch_all a ha
theorem ch_0 : CH 0 := ⟨0, by omega, rfl⟩
def STR (x : SX) (p : Nat) (bs : List Int32) : Prop := isStr p = true ∧ extA x (p + 1) = some (2, bs.length, fun j => bs.getD j 0) ∧ (∀ j, CH (bs.getD j 0)) ∧ bs.length < 100
theorem gs_v (h : STR x p bs) : gfd w 1000 0 p = some (.ref (p + 1)) := by
  unfold gfd
  rw [if_pos rfl, if_pos h.1]
theorem gs_c (h : STR x p bs) : gfd w 1001 0 p = some (.int 0) := by
  unfold gfd
  rw [if_neg (by decide), if_pos rfl, if_pos h.1]
theorem gs_n (h : STR x p bs) : aln x w 1 (p + 1) = some (Int32.ofNat bs.length) := by
  unfold aln
  rw [if_pos rfl, h.2.1]
  rfl
theorem gs_l (h : STR x p bs) {i : Nat} (hi : i < bs.length) : ald 2 x w 1 (p + 1) (Int32.ofNat i) = some (bs.getD i 0) := by
  have h9 := h.2.2.2
  unfold ald rowI
  rw [if_pos rfl, h.2.1]
  dsimp only
  rw [if_pos rfl, fin_nat hi (by omega)]
  rfl
theorem r19_5u {z0 : Int32} {z1 : Int32} {st : List Value} {lv : LV} (hc : csm st ≤ 8) : RC x 19 5 lv (.retAddr 0 :: .int z1 :: .int z0 :: st) w n = cal (RM x 33 [.int z0, .int z1, .retAddr 0] w n) (fun v w n => RC x 19 8 lv (rvs v st) w n) XO := rc_callO (a := 1) (i := 1059) (N := 3) (as := [.int z0, .int z1, .retAddr 0]) (L := 3) (show fetch 19 5 = some (.invokestatic 1059, 3, 1, 33, 791) by decide +kernel) ml33 (by decide) (by decide) (by decide +kernel) (by decide +kernel) rfl rfl rfl rfl hc (Or.inl rfl) (by decide +kernel)
theorem m33u {z0 : Int32} {z1 : Int32} : RM x 33 [.int z0, .int z1, .retAddr 0] w n = RC x 33 0 [some (.int z0), some (.int z1), some (.retAddr 0)] [] w n := by unfold RM; rw [ml33]; rfl
theorem c17 (h : STR x p bs) : RM x 17 [.ref p] w n = some (.inl (some (.int 0)), w, n) := by
  have g := gs_c (w := w) h
  simp only [csN, csm_i, csm_r, Nat.reduceAdd, Nat.reduceLeDiff, wdI, wdR, wdN, clM_0, clC_0, clC_1, clC_6, clC_8, true_or, or_true, i10, i01, ob_some, ob_map, cal_v, rvs_some, rvs_none, XO_at, cal_x, m17, r17_0, r17_3, r17_6, r17_7, r17_10, r17_13, g, if_false]
  exact r17_14 (by decide +kernel)
theorem c18 (h : STR x p bs) : RM x 18 [.ref p] w n = some (.inl (some (.int 1)), w, n) := by
  have g := gs_c (w := w) h
  simp only [csN, csm_i, csm_r, Nat.reduceAdd, Nat.reduceLeDiff, wdI, wdR, wdN, clM_0, clC_0, clC_1, clC_6, clC_8, true_or, or_true, i10, i01, ob_some, ob_map, cal_v, rvs_some, rvs_none, XO_at, cal_x, m18, r18_0, r18_3, r18_6, r18_7, r18_10, r18_13, r18_14, r18_17, r18_18, g, if_false, if_true]
theorem sh0 {a : Nat} (h : a < 100) : Int32.ofNat a >>> (0 &&& 31 : Int32) = Int32.ofNat a := by
  have : ∀ a, a < 100 → Int32.ofNat a >>> (0 &&& 31 : Int32) = Int32.ofNat a := by decide +kernel
  exact this a h
theorem c13 (h : STR x p bs) : RM x 13 [.ref p] w n = some (.inl (some (.int (Int32.ofNat bs.length))), w, n) := by
  have g := gs_v (w := w) h
  have g2 := gs_n (w := w) h
  have e := c17 (n := n) (w := w) h
  have h1 := h.1
  have h3 := sh0 h.2.2.2
  simp only [csN, csm_i, csm_r, Nat.reduceAdd, Nat.reduceLeDiff, wdI, wdR, wdN, clM_0, clC_0, clC_1, clC_6, clC_8, true_or, or_true, i10, i01, ob_some, ob_map, cal_v, rvs_some, rvs_none, XO_at, cal_x, m13, r13_0, r13_1, r13_4, r13_5, r13_6, r13_9, r13_10, g, g2, e, h1, h3]
theorem c14 (h : STR x p bs) {i : Nat} (hi : i < bs.length) : RM x 14 [.ref p, .int (Int32.ofNat i)] w n = some (.inl (some (.int (bs.getD i 0))), w, n) := by
  have h9 := h.2.2.2
  have g := gs_v (w := w) h
  have g2 := gs_n (w := w) h
  have g3 := gs_l (w := w) h hi
  have e := c18 (n := n) (w := w) h
  have h1 := h.1
  obtain ⟨k1, k2, k3, -⟩ := ch_f (h.2.2.1 i)
  have n0 : ¬ Int32.ofNat i < 0 := by
    have := i_lt (a := i) (b := 0) (by omega) (by omega)
    rw [show (0 : Int32) = Int32.ofNat 0 from rfl, this]
    omega
  have n1 : Int32.ofNat i < Int32.ofNat bs.length := by rw [i_lt (by omega) (by omega)]; exact hi
  have e26 : RM x 26 [.ref (p + 1), .int (Int32.ofNat i)] w n = some (.inl (some (.int (bs.getD i 0))), w, n) := by
    simp only [csN, csm_i, csm_r, Nat.reduceAdd, Nat.reduceLeDiff, wdI, wdR, wdN, clM_0, clC_0, clC_1, clC_6, clC_8, true_or, or_true, i10, i01, ob_some, ob_map, cal_v, rvs_some, rvs_none, XO_at, cal_x, m26, r26_0, r26_1, r26_2, r26_3, r26_6, r26_7, r26_8, r26_9, r26_12, r26_13, m19, r19_0, r19_1, r19_2, r19_5, r19_8, r19_9, m33, r33_0, r33_1, r33_4, r33_5, r33_6, r33_9, r33_10, r33_11, r33_16, r33_17, r19_5u, m33u, g2, g3, n0, n1, if_true, if_false, k1, k2]
    exact r26_14 k3
  simp only [csN, csm_i, csm_r, Nat.reduceAdd, Nat.reduceLeDiff, wdI, wdR, wdN, clM_0, clC_0, clC_1, clC_6, clC_8, true_or, or_true, i10, i01, ob_some, ob_map, cal_v, rvs_some, rvs_none, XO_at, cal_x, m14, r14_0, r14_1, r14_4, r14_7, r14_8, r14_11, r14_12, r14_16, r14_17, r14_20, r14_24, g, e, h1, e26, if_false]
  exact r14_15 k3
theorem l30 (h : STR x p bs) (d : Nat) : ∀ i, i + d = bs.length → ∃ r : Int32, RC x 30 7 [some (.ref (p + 1)), some (.int c), some (.int 0), some (.int (Int32.ofNat bs.length)), some (.int c), some (.int (Int32.ofNat i))] [] w n = some (.inl (some (.int r)), w, n) ∧ (r < 0 ↔ ∀ j, i ≤ j → j < bs.length → ¬ bs.getD j 0 = c) := by
  have h9 := h.2.2.2
  induction d with
  | zero =>
    intro i hi
    obtain rfl : i = bs.length := by omega
    rw [r30_7]
    have h0 : ¬ Int32.ofNat bs.length < Int32.ofNat bs.length := Int32.lt_irrefl
    refine ⟨-1, ?_, fun _ j h1 h2 => by omega, fun _ => (by decide : (-1 : Int32) < 0)⟩
    simp only [csN, csm_i, csm_r, Nat.reduceAdd, Nat.reduceLeDiff, wdI, wdR, wdN, clM_0, clC_0, clC_1, clC_6, clC_8, true_or, or_true, i10, i01, ob_some, ob_map, cal_v, rvs_some, rvs_none, XO_at, cal_x, m30, r30_0, r30_1, r30_2, r30_4, r30_5, r30_9, r30_10, r30_13, r30_14, r30_16, r30_17, r30_19, r30_22, r30_24, r30_25, r30_28, r30_31, r30_32, h0, if_false]
  | succ d ih =>
    intro i hi
    rw [r30_7]
    have h1 : Int32.ofNat i < Int32.ofNat bs.length := nlt (by omega) (by omega) (by omega)
    have g3 := gs_l (w := w) h (i := i) (by omega)
    have h2 : Int32.ofNat i + 1 = Int32.ofNat (i + 1) := i_add (b := 1)
    by_cases hc : bs.getD i 0 = c
    · refine ⟨Int32.ofNat i, ?_, fun hn => ?_, fun hn => absurd hc (hn i (by omega) (by omega))⟩
      · simp only [csN, csm_i, csm_r, Nat.reduceAdd, Nat.reduceLeDiff, wdI, wdR, wdN, clM_0, clC_0, clC_1, clC_6, clC_8, true_or, or_true, i10, i01, ob_some, ob_map, cal_v, rvs_some, rvs_none, XO_at, cal_x, m30, r30_0, r30_1, r30_2, r30_4, r30_5, r30_9, r30_10, r30_13, r30_14, r30_16, r30_17, r30_19, r30_22, r30_24, r30_25, r30_28, r30_31, r30_32, h1, if_true, g3, hc]
      · exfalso
        have := i_lt (a := i) (b := 0) (by omega) (by omega)
        rw [show (0 : Int32) = Int32.ofNat 0 from rfl, this] at hn
        omega
    · obtain ⟨r, e, hr⟩ := ih (i + 1) (by omega)
      refine ⟨r, ?_, hr.trans ⟨fun hn j h1 h2 => ?_, fun hn j h1 h2 => hn j (by omega) h2⟩⟩
      · simp only [csN, csm_i, csm_r, Nat.reduceAdd, Nat.reduceLeDiff, wdI, wdR, wdN, clM_0, clC_0, clC_1, clC_6, clC_8, true_or, or_true, i10, i01, ob_some, ob_map, cal_v, rvs_some, rvs_none, XO_at, cal_x, m30, r30_0, r30_1, r30_2, r30_4, r30_5, r30_9, r30_10, r30_13, r30_14, r30_16, r30_17, r30_19, r30_22, r30_24, r30_25, r30_28, r30_31, r30_32, h1, if_true, g3, hc, if_false, h2]
        exact e
      · by_cases hj : j = i
        · rw [hj]; exact hc
        · exact hn j (by omega) h2
theorem mem_gd : (∀ j, 0 ≤ j → j < bs.length → ¬ bs.getD j 0 = c) ↔ ¬ c ∈ bs := by
  constructor
  · intro h hm
    obtain ⟨i, hi, e⟩ := List.mem_iff_getElem.mp hm
    refine h i (Nat.zero_le _) hi ?_
    rw [List.getD_eq_getElem?_getD, List.getElem?_eq_getElem hi, e]
    rfl
  · intro h j _ hj e
    rw [List.getD_eq_getElem?_getD, List.getElem?_eq_getElem hj] at e
    exact h (e ▸ List.getElem_mem hj)
theorem c15 (h : STR x p bs) (hl : 0 < bs.length) (hc : CH c) : ∃ r : Int32, RM x 15 [.ref p, .int c] w n = some (.inl (some (.int r)), w, n) ∧ (r < 0 ↔ ¬ c ∈ bs) := by
  have h9 := h.2.2.2
  have h1 := h.1
  have g := gs_v (w := w) h
  have g2 := gs_n (w := w) h
  have e := c18 (n := n) (w := w) h
  have e13 := c13 (n := n) (w := w) h
  obtain ⟨-, -, -, k4, k5, k6⟩ := ch_f hc
  obtain ⟨r, e30, hr⟩ := l30 (x := x) (n := n) (w := w) (c := c) h bs.length 0 (by omega)
  refine ⟨r, ?_, hr.trans mem_gd⟩
  rw [show Int32.ofNat 0 = 0 from rfl] at e30
  have e30' : RM x 30 [.ref (p + 1), .int c, .int 0, .int (Int32.ofNat bs.length)] w n = some (.inl (some (.int r)), w, n) := by
    rw [m30, ← e30]
    simp only [csN, csm_i, csm_r, Nat.reduceAdd, Nat.reduceLeDiff, wdI, wdR, wdN, clM_0, clC_0, clC_1, clC_6, clC_8, true_or, or_true, i10, i01, ob_some, ob_map, cal_v, rvs_some, rvs_none, XO_at, cal_x, m30, r30_0, r30_1, r30_2, r30_4, r30_5, r30_9, r30_10, r30_13, r30_14, r30_16, r30_17, r30_19, r30_22, r30_24, r30_25, r30_28, r30_31, r30_32, k4]
  have e28 : RM x 28 [.int c] w n = some (.inl (some (.int 1)), w, n) := by
    simp only [csN, csm_i, csm_r, Nat.reduceAdd, Nat.reduceLeDiff, wdI, wdR, wdN, clM_0, clC_0, clC_1, clC_6, clC_8, true_or, or_true, i10, i01, ob_some, ob_map, cal_v, rvs_some, rvs_none, XO_at, cal_x, m28, r28_0, r28_1, r28_4, r28_5, r28_8, r28_11, r28_12, r28_15, r28_16, k5, k6, if_false, if_true]
  have n0 : ¬ (0 : Int32) < 0 := by decide
  have nl : ¬ Int32.ofNat bs.length < Int32.ofNat bs.length := Int32.lt_irrefl
  have np : (0 : Int32) < Int32.ofNat bs.length := nlt (a := 0) (by omega) (by omega) hl
  have e29 : RM x 29 [.ref (p + 1), .int c, .int 0, .int (Int32.ofNat bs.length)] w n = some (.inl (some (.int r)), w, n) := by
    simp only [csN, csm_i, csm_r, Nat.reduceAdd, Nat.reduceLeDiff, wdI, wdR, wdN, clM_0, clC_0, clC_1, clC_6, clC_8, true_or, or_true, i10, i01, ob_some, ob_map, cal_v, rvs_some, rvs_none, XO_at, cal_x, m29, r29_0, r29_1, r29_4, r29_7, r29_8, r29_9, r29_10, r29_11, r29_14, r29_15, r29_16, r29_17, r29_18, r29_21, r29_22, r29_23, r29_24, r29_27, r29_28, r29_29, r29_30, r29_31, r29_32, r29_33, r29_36, e28, e30', g2, n0, nl, np, if_true, if_false]
  simp only [csN, csm_i, csm_r, Nat.reduceAdd, Nat.reduceLeDiff, wdI, wdR, wdN, clM_0, clC_0, clC_1, clC_6, clC_8, true_or, or_true, i10, i01, ob_some, ob_map, cal_v, rvs_some, rvs_none, XO_at, cal_x, m15, r15_0, r15_1, r15_2, r15_3, r15_6, m16, r16_0, r16_1, r16_4, r16_7, r16_8, r16_11, r16_12, r16_13, r16_14, r16_17, r16_20, r16_23, r16_24, r16_27, r16_28, r16_29, r16_30, r16_36, g, e, e13, e29, h1, if_false]
/-! the forms -/
def frm (k : Nat) : List Int32 := if k = 0 then [98, 97, 114, 103, 101, 32, 78, 32, 68, 87] else if k = 1 then [116, 117, 110, 101, 32, 68, 32, 68, 32, 78] else if k = 2 then [102, 105, 120, 32, 68, 32, 68] else if k = 3 then [100, 101, 109, 97, 110, 100, 32, 68, 32, 75] else if k = 4 then [102, 108, 111, 119, 32, 68] else if k = 5 then [102, 105, 108, 108, 32, 68, 32, 78] else if k = 6 then [108, 101, 97, 118, 101, 32, 78] else [104, 111, 117, 114, 72]
theorem ch_d {bs : List Int32} (h : bs.all (fun v => decide (¬ v < 0) && decide (v < 128)) = true) : ∀ j, CH (bs.getD j 0) := by
  intro j
  by_cases hj : j < bs.length
  · have hm : bs.getD j 0 ∈ bs := by
      rw [List.getD_eq_getElem?_getD, List.getElem?_eq_getElem hj]
      exact List.getElem_mem hj
    have := List.all_eq_true.mp h _ hm
    rw [Bool.and_eq_true, decide_eq_true_eq, decide_eq_true_eq] at this
    obtain ⟨a, ha, e⟩ := i_of (Int32.not_lt.mp this.1)
    refine ⟨a, ?_, e⟩
    have h2 := this.2
    rw [e] at h2
    have := i_lt (a := a) (b := 128) ha (by omega)
    rw [show (128 : Int32) = Int32.ofNat 128 from rfl, this] at h2
    exact h2
  · rw [List.getD_eq_getElem?_getD, List.getElem?_eq_none (by omega)]
    exact ch_0
theorem S30 : STR x 30 [48, 49, 50, 51, 52, 53, 54, 55, 56, 57] := ⟨by decide +kernel, rfl, ch_d (by decide +kernel), by decide⟩
theorem S26 : STR x 26 [100, 117] := ⟨by decide +kernel, rfl, ch_d (by decide +kernel), by decide⟩
theorem S28 : STR x 28 [77, 109, 100, 97] := ⟨by decide +kernel, rfl, ch_d (by decide +kernel), by decide⟩
theorem c182 {k : Nat} (hk : k < 8) : STR x (10 + 2 * k) (frm k) ∧ RM x 182 [.int (Int32.ofNat k)] w n = some (.inl (some (.ref (10 + 2 * k))), w, n) := by
  have h : k = 0 ∨ k = 1 ∨ k = 2 ∨ k = 3 ∨ k = 4 ∨ k = 5 ∨ k = 6 ∨ k = 7 := by omega
  have q1 : ∀ k : Nat, k < 8 → ∀ j : Nat, j < 8 → (Int32.ofNat k = Int32.ofNat j) = (k = j) := fun k hk j hj => i_eq (by omega) (by omega)
  rcases h with rfl | rfl | rfl | rfl | rfl | rfl | rfl | rfl
  · exact ⟨⟨by decide +kernel, rfl, ch_d (by decide +kernel), by decide⟩, by
      rw [show Int32.ofNat 0 = 0 from rfl]
      simp only [csN, csm_i, csm_r, Nat.reduceAdd, Nat.reduceLeDiff, wdI, wdR, wdN, clM_0, clC_0, clC_1, clC_6, clC_8, true_or, or_true, i10, i01, ob_some, ob_map, cal_v, rvs_some, rvs_none, XO_at, cal_x, m182, r182_0, r182_1, r182_44, r182_46, r182_47, r182_49, r182_50, r182_52, r182_53, r182_55, r182_56, r182_58, r182_59, r182_61, r182_62, r182_64, r182_65, r182_67, if_true]⟩
  · exact ⟨⟨by decide +kernel, rfl, ch_d (by decide +kernel), by decide⟩, by
      rw [show Int32.ofNat 1 = 1 from rfl]
      simp only [csN, csm_i, csm_r, Nat.reduceAdd, Nat.reduceLeDiff, wdI, wdR, wdN, clM_0, clC_0, clC_1, clC_6, clC_8, true_or, or_true, i10, i01, ob_some, ob_map, cal_v, rvs_some, rvs_none, XO_at, cal_x, m182, r182_0, r182_1, r182_44, r182_46, r182_47, r182_49, r182_50, r182_52, r182_53, r182_55, r182_56, r182_58, r182_59, r182_61, r182_62, r182_64, r182_65, r182_67, if_true, if_false]⟩
  · exact ⟨⟨by decide +kernel, rfl, ch_d (by decide +kernel), by decide⟩, by
      have a0 : ((2 : Int32) = 0) = False := eq_false (by decide)
      have a1 : ((2 : Int32) = 1) = False := eq_false (by decide)
      rw [show Int32.ofNat 2 = 2 from rfl]
      simp only [csN, csm_i, csm_r, Nat.reduceAdd, Nat.reduceLeDiff, wdI, wdR, wdN, clM_0, clC_0, clC_1, clC_6, clC_8, true_or, or_true, i10, i01, ob_some, ob_map, cal_v, rvs_some, rvs_none, XO_at, cal_x, m182, r182_0, r182_1, r182_44, r182_46, r182_47, r182_49, r182_50, r182_52, r182_53, r182_55, r182_56, r182_58, r182_59, r182_61, r182_62, r182_64, r182_65, r182_67, a0, a1, if_true, if_false]⟩
  · exact ⟨⟨by decide +kernel, rfl, ch_d (by decide +kernel), by decide⟩, by
      have a0 : ((3 : Int32) = 0) = False := eq_false (by decide)
      have a1 : ((3 : Int32) = 1) = False := eq_false (by decide)
      have a2 : ((3 : Int32) = 2) = False := eq_false (by decide)
      rw [show Int32.ofNat 3 = 3 from rfl]
      simp only [csN, csm_i, csm_r, Nat.reduceAdd, Nat.reduceLeDiff, wdI, wdR, wdN, clM_0, clC_0, clC_1, clC_6, clC_8, true_or, or_true, i10, i01, ob_some, ob_map, cal_v, rvs_some, rvs_none, XO_at, cal_x, m182, r182_0, r182_1, r182_44, r182_46, r182_47, r182_49, r182_50, r182_52, r182_53, r182_55, r182_56, r182_58, r182_59, r182_61, r182_62, r182_64, r182_65, r182_67, a0, a1, a2, if_true, if_false]⟩
  · exact ⟨⟨by decide +kernel, rfl, ch_d (by decide +kernel), by decide⟩, by
      have a0 : ((4 : Int32) = 0) = False := eq_false (by decide)
      have a1 : ((4 : Int32) = 1) = False := eq_false (by decide)
      have a2 : ((4 : Int32) = 2) = False := eq_false (by decide)
      have a3 : ((4 : Int32) = 3) = False := eq_false (by decide)
      rw [show Int32.ofNat 4 = 4 from rfl]
      simp only [csN, csm_i, csm_r, Nat.reduceAdd, Nat.reduceLeDiff, wdI, wdR, wdN, clM_0, clC_0, clC_1, clC_6, clC_8, true_or, or_true, i10, i01, ob_some, ob_map, cal_v, rvs_some, rvs_none, XO_at, cal_x, m182, r182_0, r182_1, r182_44, r182_46, r182_47, r182_49, r182_50, r182_52, r182_53, r182_55, r182_56, r182_58, r182_59, r182_61, r182_62, r182_64, r182_65, r182_67, a0, a1, a2, a3, if_true, if_false]⟩
  · exact ⟨⟨by decide +kernel, rfl, ch_d (by decide +kernel), by decide⟩, by
      obtain ⟨a0, a1, a2, a3, a4⟩ := neq5
      rw [show Int32.ofNat 5 = 5 from rfl]
      simp only [csN, csm_i, csm_r, Nat.reduceAdd, Nat.reduceLeDiff, wdI, wdR, wdN, clM_0, clC_0, clC_1, clC_6, clC_8, true_or, or_true, i10, i01, ob_some, ob_map, cal_v, rvs_some, rvs_none, XO_at, cal_x, m182, r182_0, r182_1, r182_44, r182_46, r182_47, r182_49, r182_50, r182_52, r182_53, r182_55, r182_56, r182_58, r182_59, r182_61, r182_62, r182_64, r182_65, r182_67, a0, a1, a2, a3, a4, if_true, if_false]⟩
  · exact ⟨⟨by decide +kernel, rfl, ch_d (by decide +kernel), by decide⟩, by
      obtain ⟨a0, a1, a2, a3, a4, a5⟩ := neq6
      rw [show Int32.ofNat 6 = 6 from rfl]
      simp only [csN, csm_i, csm_r, Nat.reduceAdd, Nat.reduceLeDiff, wdI, wdR, wdN, clM_0, clC_0, clC_1, clC_6, clC_8, true_or, or_true, i10, i01, ob_some, ob_map, cal_v, rvs_some, rvs_none, XO_at, cal_x, m182, r182_0, r182_1, r182_44, r182_46, r182_47, r182_49, r182_50, r182_52, r182_53, r182_55, r182_56, r182_58, r182_59, r182_61, r182_62, r182_64, r182_65, r182_67, a0, a1, a2, a3, a4, a5, if_true, if_false]⟩
  · exact ⟨⟨by decide +kernel, rfl, ch_d (by decide +kernel), by decide⟩, by
      obtain ⟨a0, a1, a2, a3, a4, a5, a6⟩ := neq7
      rw [show Int32.ofNat 7 = 7 from rfl]
      simp only [csN, csm_i, csm_r, Nat.reduceAdd, Nat.reduceLeDiff, wdI, wdR, wdN, clM_0, clC_0, clC_1, clC_6, clC_8, true_or, or_true, i10, i01, ob_some, ob_map, cal_v, rvs_some, rvs_none, XO_at, cal_x, m182, r182_0, r182_1, r182_44, r182_46, r182_47, r182_49, r182_50, r182_52, r182_53, r182_55, r182_56, r182_58, r182_59, r182_61, r182_62, r182_64, r182_65, r182_67, a0, a1, a2, a3, a4, a5, a6, if_true, if_false]⟩
end STR
