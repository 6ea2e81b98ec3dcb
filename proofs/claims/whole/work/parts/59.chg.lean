/-! CHANGES of the class: refusing, remembering, undoing, the snapshot -/
section CHG
set_option maxRecDepth 20000
variable {x : SX} {n c : Nat} {w : PW} {s t y : NS} {hs le lf hc : Int32} {F : Nat → Nat} {K : Nat → NS} {sc : NS}
def ftX (f : Nat) : String := if f = 1 then "java/lang/IndexOutOfBoundsException" else if f = 2 then "java/lang/IllegalArgumentException" else if f = 3 then "java/lang/IllegalStateException" else if f = 4 then "java/lang/UnsupportedOperationException" else "java/util/NoSuchElementException"
theorem c90_0 : RM x 90 [.ref 0] w n = some (.inl none, w, n) := by
  simp only [csN, csm_i, csm_r, Nat.reduceAdd, Nat.reduceLeDiff, wdI, wdR, wdN, clM_0, clC_0, clC_1, clC_6, clC_8, true_or, or_true, i10, i01, ob_some, ob_map, cal_v, rvs_some, rvs_none, XO_at, cal_x, m90, r90_0, r90_1, r90_4, r90_7, r90_18, r90_19, r90_22, r90_25, r90_36, r90_37, r90_40, r90_43, r90_54, r90_55, r90_58, r90_61, r90_72, r90_73, r90_76, r90_79, r90_90, Nat.reduceEqDiff, Nat.reduceLT, if_false]
theorem c90_1 {f : Nat} (h0 : ¬ f = 0) (h6 : f < 6) : RM x 90 [.ref f] w n = some (.inr (ftX f), w, n + 1) := by
  have h : f = 1 ∨ f = 2 ∨ f = 3 ∨ f = 4 ∨ f = 5 := by omega
  rcases h with rfl | rfl | rfl | rfl | rfl
  · simp only [csN, csm_i, csm_r, Nat.reduceAdd, Nat.reduceLeDiff, wdI, wdR, wdN, clM_0, clC_0, clC_1, clC_6, clC_8, true_or, or_true, i10, i01, ob_some, ob_map, cal_v, rvs_some, rvs_none, XO_at, cal_x, m90, r90_0, r90_1, r90_4, r90_7, r90_18, r90_19, r90_22, r90_25, r90_36, r90_37, r90_40, r90_43, r90_54, r90_55, r90_58, r90_61, r90_72, r90_73, r90_76, r90_79, r90_90, Nat.reduceEqDiff, Nat.reduceLT, if_false, if_true]
    rfl
  · simp only [csN, csm_i, csm_r, Nat.reduceAdd, Nat.reduceLeDiff, wdI, wdR, wdN, clM_0, clC_0, clC_1, clC_6, clC_8, true_or, or_true, i10, i01, ob_some, ob_map, cal_v, rvs_some, rvs_none, XO_at, cal_x, m90, r90_0, r90_1, r90_4, r90_7, r90_18, r90_19, r90_22, r90_25, r90_36, r90_37, r90_40, r90_43, r90_54, r90_55, r90_58, r90_61, r90_72, r90_73, r90_76, r90_79, r90_90, Nat.reduceEqDiff, Nat.reduceLT, if_false, if_true]
    rfl
  · simp only [csN, csm_i, csm_r, Nat.reduceAdd, Nat.reduceLeDiff, wdI, wdR, wdN, clM_0, clC_0, clC_1, clC_6, clC_8, true_or, or_true, i10, i01, ob_some, ob_map, cal_v, rvs_some, rvs_none, XO_at, cal_x, m90, r90_0, r90_1, r90_4, r90_7, r90_18, r90_19, r90_22, r90_25, r90_36, r90_37, r90_40, r90_43, r90_54, r90_55, r90_58, r90_61, r90_72, r90_73, r90_76, r90_79, r90_90, Nat.reduceEqDiff, Nat.reduceLT, if_false, if_true]
    rfl
  · simp only [csN, csm_i, csm_r, Nat.reduceAdd, Nat.reduceLeDiff, wdI, wdR, wdN, clM_0, clC_0, clC_1, clC_6, clC_8, true_or, or_true, i10, i01, ob_some, ob_map, cal_v, rvs_some, rvs_none, XO_at, cal_x, m90, r90_0, r90_1, r90_4, r90_7, r90_18, r90_19, r90_22, r90_25, r90_36, r90_37, r90_40, r90_43, r90_54, r90_55, r90_58, r90_61, r90_72, r90_73, r90_76, r90_79, r90_90, Nat.reduceEqDiff, Nat.reduceLT, if_false, if_true]
    rfl
  · simp only [csN, csm_i, csm_r, Nat.reduceAdd, Nat.reduceLeDiff, wdI, wdR, wdN, clM_0, clC_0, clC_1, clC_6, clC_8, true_or, or_true, i10, i01, ob_some, ob_map, cal_v, rvs_some, rvs_none, XO_at, cal_x, m90, r90_0, r90_1, r90_4, r90_7, r90_18, r90_19, r90_22, r90_25, r90_36, r90_37, r90_40, r90_43, r90_54, r90_55, r90_58, r90_61, r90_72, r90_73, r90_76, r90_79, r90_90, Nat.reduceEqDiff, Nat.reduceLT, if_false, if_true]
    rfl
theorem cd6 {a : Bool} {p q : Nat} (hp : p < 6) (hq : q < 6) : cond a p q < 6 := by cases a <;> assumption
theorem it6 {P : Prop} [Decidable P] {p q : Nat} (hp : p < 6) (hq : q < 6) : (if P then p else q) < 6 := by split <;> assumption
theorem ftS_6 {k u v z : Int32} : ftS s c k u v z < 6 := by
  unfold ftS
  repeat' first | apply it6 | apply cd6 | decide
theorem WD_64 (h : WD w s t y hs le lf F K hc sc) : (gfd w 6 0 64 = some (.ref 65) ∧ gfd w 6 1 64 = some (.ref 79) ∧ gfd w 6 2 64 = some (.ref 93) ∧ gfd w 6 3 64 = some (.int hs) ∧ gfd w 6 4 64 = some (.ref 107) ∧ gfd w 6 5 64 = some (.ref 221) ∧ gfd w 6 6 64 = some (.ref 225) ∧ gfd w 6 7 64 = some (.int le) ∧ gfd w 6 8 64 = some (.int lf)) ∧ clo w 64 = some 6 ∧ clo w 65 = some 0 ∧ clo w 79 = some 0 ∧ clo w 93 = some 0 ∧ clo w 107 = some 3 := by
  obtain ⟨h1, h2, h3, h4, h5, h6, h7, h8, h9, h10⟩ := h
  have e : ∀ k, gfd w 6 k 64 = [Value.ref 65, .ref 79, .ref 93, .int hs, .ref 107, .ref 221, .ref 225, .int le, .int lf][k]? := fun k => gfd_at h1 (by decide)
  exact ⟨⟨by rw [e]; rfl, by rw [e]; rfl, by rw [e]; rfl, by rw [e]; rfl, by rw [e]; rfl, by rw [e]; rfl, by rw [e]; rfl, by rw [e]; rfl, by rw [e]; rfl⟩, clo_of h1, clo_of (h2 0 (by omega)), clo_of (h3 0 (by omega)), clo_of (h4 0 (by omega)), clo_of h5⟩
theorem WD_c (h : WD w s t y hs le lf F K hc sc) : setC w 65 s = w ∧ setC w 79 t = w ∧ setC w 93 y = w := ⟨isC_set h.2.1, isC_set h.2.2.1, isC_set h.2.2.2.1⟩
theorem c89_1 {k u v z : Int32} (h : WD w s t y hs le lf F K hc sc) (hI : IC s c) (hf : ¬ ftS s c k u v z = 0) : RM x 89 [.ref 64, .int k, .int u, .int v, .int z] w n = some (.inr (ftX (ftS s c k u v z)), w, n + 1) := by
  obtain ⟨⟨g0, -, -, -, g4, -⟩, -, c65, -, -, c107⟩ := WD_64 h
  have e := c100 (x := x) (n := n) (w := w) (b := 65) (k := k) (u := u) (v := v) (z := z) hI.1
  rw [(WD_c h).1] at e
  have e2 := c90_1 (x := x) (n := n) (w := w) hf ftS_6
  simp only [csN, csm_i, csm_r, Nat.reduceAdd, Nat.reduceLeDiff, wdI, wdR, wdN, clM_0, clC_0, clC_1, clC_6, clC_8, true_or, or_true, i10, i01, ob_some, ob_map, cal_v, rvs_some, rvs_none, XO_at, cal_x, m89, r89_0, r89_1, r89_4, r89_5, r89_6, r89_7, r89_9, r89_12, r89_15, r89_16, r89_19, r89_20, r89_23, r89_26, r89_27, r89_30, r89_31, r89_32, r89_33, r89_35, r89_38, g0, c65, e, e2]
theorem c89_0 {k u v z : Int32} (h : WD w s t y hs le lf F K hc sc) (hI : IC s c) (hf : ftS s c k u v z = 0) : ∃ w' F', RM x 89 [.ref 64, .int k, .int u, .int v, .int z] w n = some (.inl (some (.int (pfS s c k u v z).1)), w', n) ∧ WD w' (pfS s c k u v z).2 t y hs le lf F' (K1 K (cpC (K 7) s)) (mn8 hc) sc ∧ (∀ i, 225 ≤ i → w' i = w i) := by
  obtain ⟨⟨g0, -, -, -, g4, -⟩, -, c65, -, -, c107⟩ := WD_64 h
  have e := c100 (x := x) (n := n) (w := w) (b := 65) (k := k) (u := u) (v := v) (z := z) hI.1
  rw [(WD_c h).1, hf] at e
  have e2 := c90_0 (x := x) (n := n) (w := w)
  obtain ⟨w1, F', e3, hW, ho⟩ := c161 (x := x) (n := n) h hI.1.2.2
  obtain ⟨⟨g0', -⟩, -, c65', -⟩ := WD_64 hW
  have e4 := c105 (x := x) (n := n) (w := w1) (b := 65) hI hf
  rw [(WD_c hW).1] at e4
  refine ⟨setC w1 65 (pfS s c k u v z).2, F', ?_, WD_C _ hW, fun i hi => by rw [setC_w (by omega)]; exact ho i hi⟩
  simp only [csN, csm_i, csm_r, Nat.reduceAdd, Nat.reduceLeDiff, wdI, wdR, wdN, clM_0, clC_0, clC_1, clC_6, clC_8, true_or, or_true, i10, i01, ob_some, ob_map, cal_v, rvs_some, rvs_none, XO_at, cal_x, m89, r89_0, r89_1, r89_4, r89_5, r89_6, r89_7, r89_9, r89_12, r89_15, r89_16, r89_19, r89_20, r89_23, r89_26, r89_27, r89_30, r89_31, r89_32, r89_33, r89_35, r89_38, g0, g4, c65, c107, e, e2, e3, g0', c65', e4]
/-- the history's row when the places before i have been shifted -/
def shL (f : Nat → Option Nat) (i : Nat) : Nat → Option Nat := fun j => if j < i then f (j + 1) else f j
theorem l162 {f : Nat → Option Nat} {e : Option Value} (he : wd e = true) (h5 : w 107 = some (.inr (3, [.ref 108, .int hc]))) (hf : ∀ j, j < 8 → ∃ a fs, f j = some a ∧ ¬ a = 108 ∧ w a = some (.inr (0, fs))) (d : Nat) : ∀ i, i + d = 7 →
    RC x 162 9 [some (.ref 107), some (.ref 65), e, some (.int (Int32.ofNat i))] [] (pupd w 108 (rowQ (shL f i))) n = RC x 162 35 [some (.ref 107), some (.ref 65), e, some (.int 7)] [] (pupd w 108 (rowQ (shL f 7))) n := by
  induction d with
  | zero =>
    intro i hi
    obtain rfl : i = 7 := by omega
    rw [r162_9]
    have h0 : ¬ Int32.ofNat 7 < (7 : Int32) := by decide
    simp only [csN, csm_i, csm_r, Nat.reduceAdd, Nat.reduceLeDiff, wdI, wdR, wdN, clM_0, clC_0, clC_1, clC_6, clC_8, true_or, or_true, i10, i01, ob_some, ob_map, cal_v, rvs_some, rvs_none, XO_at, cal_x, m162, r162_0, r162_1, r162_4, r162_5, r162_6, r162_7, r162_8, r162_10, r162_12, r162_15, r162_16, r162_19, r162_20, r162_21, r162_24, r162_25, r162_26, r162_27, r162_28, r162_29, r162_32, r162_36, r162_39, r162_41, r162_42, r162_43, r162_44, r162_47, r162_48, r162_49, r162_52, r162_53, r162_54, r162_57, r162_58, r162_59, r162_62, h0, if_false]
    rfl
  | succ d ih =>
    intro i hi
    rw [r162_9]
    have h1 : Int32.ofNat i < (7 : Int32) := nlt (N := 7) (by omega) (by omega) (by omega)
    have h2 : Int32.ofNat i + 1 = Int32.ofNat (i + 1) := i_add (b := 1)
    have g0 : gfd (pupd w 108 (rowQ (shL f i))) 3 0 107 = some (.ref 108) := by rw [gfd_at (by rw [pupd_ne (by omega)]; exact h5) (by decide)]; rfl
    have g1 : ∀ v : Int32, qld (pupd w 108 (rowQ (shL f i))) 108 v = (fin 8 v).map fun j => va_rf (shL f i j) := fun v => qld_at (pupd_same _ _ _)
    have g2 : fin 8 (Int32.ofNat i) = some i := fin_nat (by omega) (by omega)
    have g3 : fin 8 (Int32.ofNat (i + 1)) = some (i + 1) := fin_nat (by omega) (by omega)
    obtain ⟨a, fs, a1, a2, a3⟩ := hf (i + 1) (by omega)
    have g4 : va_rf (shL f i (i + 1)) = .ref a := by
      unfold shL
      rw [if_neg (by omega), a1]
      rfl
    have g5 : ∀ v : Int32, qst (pupd w 108 (rowQ (shL f i))) 108 v a = (fin 8 v).map fun j => pupd (pupd w 108 (rowQ (shL f i))) 108 (.inl (5, 8, .inr (.inr (.inr (.inr (va_up (shL f i) j (some a))))))) := fun v => qst_at (pupd_same _ _ _) (by rw [pupd_ne a2]; exact a3)
    have g6 : va_up (shL f i) i (some a) = shL f (i + 1) := by
      funext j
      unfold va_up shL
      by_cases hj : j = i
      · subst hj
        rw [if_pos rfl, if_pos (by omega), a1]
      · rw [if_neg hj]
        by_cases hj2 : j < i
        · rw [if_pos hj2, if_pos (by omega)]
        · rw [if_neg hj2, if_neg (by omega)]
    simp only [csN, csm_i, csm_r, Nat.reduceAdd, Nat.reduceLeDiff, wdI, wdR, wdN, clM_0, clC_0, clC_1, clC_6, clC_8, true_or, or_true, i10, i01, ob_some, ob_map, cal_v, rvs_some, rvs_none, XO_at, cal_x, m162, r162_0, r162_1, r162_4, r162_5, r162_6, r162_7, r162_8, r162_10, r162_12, r162_15, r162_16, r162_19, r162_20, r162_21, r162_24, r162_25, r162_26, r162_27, r162_28, r162_29, r162_32, r162_36, r162_39, r162_41, r162_42, r162_43, r162_44, r162_47, r162_48, r162_49, r162_52, r162_53, r162_54, r162_57, r162_58, r162_59, r162_62, he, h1, h2, if_true, g0, g1, g2, g3, g4, g5, g6, Option.map_some]
    rw [pupd_pupd]
    exact ih (i + 1) (by omega)
def F2 (F : Nat → Nat) : Nat → Nat := fun j => if j = 7 then F 0 else F (j + 1)
def K2 (K : Nat → NS) : Nat → NS := fun j => if j = 7 then K 0 else K (j + 1)
theorem c162 (h : WD w s t y hs le lf F K hc sc) (hk : ∀ g, g < 5 → isKd (K 0 2 g)) : ∃ w' F', RM x 162 [.ref 107, .ref 65] w n = some (.inl none, w', n) ∧ WD w' (cpC s (K 0)) t y hs le lf F' (K2 K) (hc - 1) sc ∧ (∀ i, 225 ≤ i → w' i = w i) := by
  obtain ⟨h1, h2, h3, h4, h5, h6, h7, h8, h9, h10⟩ := id h
  have hF0 := h8 0 (by omega)
  have hf : ∀ j, j < 8 → ∃ a fs, kpt F j = some a ∧ ¬ a = 108 ∧ w a = some (.inr (0, fs)) := by
    intro j hj
    exact ⟨_, _, kpt_at hj, by omega, h7 j hj 0 (by omega)⟩
  have g0 : gfd w 3 0 107 = some (.ref 108) := by rw [gfd_at h5 (by decide)]; rfl
  have g1 : ∀ v : Int32, qld w 108 v = (fin 8 v).map fun j => va_rf (kpt F j) := fun v => qld_at h6
  have k7 : fin 8 7 = some 7 := fin_lit (by decide) (by decide)
  have k0 : fin 8 0 = some 0 := fin_lit (by decide) (by decide)
  have e0 : va_rf (kpt F 0) = .ref (109 + 14 * F 0) := by rw [kpt_at (by omega)]; rfl
  have w0 : pupd w 108 (rowQ (shL (kpt F) 0)) = w := by
    have : shL (kpt F) 0 = kpt F := by
      funext j
      unfold shL
      rw [if_neg (by omega)]
    rw [this]
    exact pupd_self h6
  have hl := l162 (x := x) (n := n) (w := w) (hc := hc) (f := kpt F) (e := some (.ref (109 + 14 * F 0))) rfl h5 hf 7 0 rfl
  rw [w0] at hl
  simp only [csN, csm_i, csm_r, Nat.reduceAdd, Nat.reduceLeDiff, wdI, wdR, wdN, clM_0, clC_0, clC_1, clC_6, clC_8, true_or, or_true, i10, i01, ob_some, ob_map, cal_v, rvs_some, rvs_none, XO_at, cal_x, m162, r162_0, r162_1, r162_4, r162_5, r162_6, r162_7, r162_8, r162_10, r162_12, r162_15, r162_16, r162_19, r162_20, r162_21, r162_24, r162_25, r162_26, r162_27, r162_28, r162_29, r162_32, r162_36, r162_39, r162_41, r162_42, r162_43, r162_44, r162_47, r162_48, r162_49, r162_52, r162_53, r162_54, r162_57, r162_58, r162_59, r162_62, g0, g1, k0, e0, Option.map_some]
  rw [show (0 : Int32) = Int32.ofNat 0 from rfl, hl, r162_35]
  have g3 : gfd (pupd w 108 (rowQ (shL (kpt F) 7))) 3 0 107 = some (.ref 108) := by rw [gfd_at (by rw [pupd_ne (by omega)]; exact h5) (by decide)]; rfl
  have g5 : ∀ v : Int32, qst (pupd w 108 (rowQ (shL (kpt F) 7))) 108 v (109 + 14 * F 0) = (fin 8 v).map fun j => pupd (pupd w 108 (rowQ (shL (kpt F) 7))) 108 (.inl (5, 8, .inr (.inr (.inr (.inr (va_up (shL (kpt F) 7) j (some (109 + 14 * F 0)))))))) := fun v => qst_at (pupd_same _ _ _) (by rw [pupd_ne (by omega)]; exact h7 0 (by omega) 0 (by omega))
  have g6 : va_up (shL (kpt F) 7) 7 (some (109 + 14 * F 0)) = kpt (F2 F) := by
    funext j
    unfold va_up shL kpt F2
    by_cases hj : j = 7
    · subst hj
      rw [if_pos rfl, if_pos (by omega), if_pos rfl]
    · rw [if_neg hj]
      by_cases hj2 : j < 7
      · rw [if_pos hj2, if_pos (by omega), if_pos (by omega), if_neg hj]
      · rw [if_neg hj2, if_neg (by omega), if_neg (by omega)]
  obtain ⟨w1, hw1⟩ : ∃ w1, w1 = pupd w 108 (rowQ (kpt (F2 F))) := ⟨_, rfl⟩
  have hw1' : pupd (pupd w 108 (rowQ (shL (kpt F) 7))) 108 (.inl (5, 8, .inr (.inr (.inr (.inr (kpt (F2 F))))))) = w1 := by rw [pupd_pupd, hw1]; rfl
  have o1 : ∀ i, ¬ i = 108 → w1 i = w i := fun i hi => by rw [hw1, pupd_ne hi]
  have h2' : isC w1 65 s := fun k hk => by rw [o1 _ (by omega)]; exact h2 k hk
  have hC : isC w1 (109 + 14 * F 0) (K 0) := fun k hk => by rw [o1 _ (by omega)]; exact h7 0 (by omega) k hk
  have hb := c99 (x := x) (n := n) (w := w1) (b := 65) (b2 := 109 + 14 * F 0) (s := s) (t := K 0) (by omega) hC hk
  rw [isC_set h2'] at hb
  have z0 : clo w1 65 = some 0 := clo_of (h2' 0 (by omega))
  have h1' : gfd (setC w1 65 (cpC s (K 0))) 3 1 107 = some (.int hc) := by rw [gfd_at (by rw [setC_w (by omega), o1 _ (by omega)]; exact h5) (by decide)]; rfl
  have p1 : ∀ v : Int32, pfd (setC w1 65 (cpC s (K 0))) 3 1 107 (.int v) = some (pupd (setC w1 65 (cpC s (K 0))) 107 (.inr (3, [.ref 108, .int v]))) := fun v => by
    rw [pfd_at (ty := .int) (by rw [setC_w (by omega), o1 _ (by omega)]; exact h5) (by decide +kernel) ⟨by simp only [List.length_cons, List.length_nil]; decide, rfl⟩]
    rfl
  refine ⟨pupd (setC w1 65 (cpC s (K 0))) 107 (.inr (3, [.ref 108, .int (hc - 1)])), F2 F, ?_, ?_, ?_⟩
  rotate_left
  · refine ⟨?_, ?_, ?_, ?_, ?_, ?_, fun q hq => ?_, fun q hq => ?_, fun q r hq hr he => ?_, fun k hk => ?_⟩
    · rw [pupd_ne (by omega), setC_w (by omega), o1 _ (by omega)]; exact h1
    · intro k hk; rw [pupd_ne (by omega)]; exact isC_self k hk
    · intro k hk; rw [pupd_ne (by omega), setC_w (by omega), o1 _ (by omega)]; exact h3 k hk
    · intro k hk; rw [pupd_ne (by omega), setC_w (by omega), o1 _ (by omega)]; exact h4 k hk
    · exact pupd_same _ _ _
    · rw [pupd_ne (by omega), setC_w (by omega), hw1]; exact pupd_same _ _ _
    · unfold F2 K2
      by_cases hq0 : q = 7
      · rw [if_pos hq0, if_pos hq0]
        intro k hk
        rw [pupd_ne (by omega), setC_w (by omega), o1 _ (by omega)]
        exact h7 0 (by omega) k hk
      · rw [if_neg hq0, if_neg hq0]
        intro k hk
        have h8q := h8 (q + 1) (by omega)
        rw [pupd_ne (by omega), setC_w (by omega), o1 _ (by omega)]
        exact h7 (q + 1) (by omega) k hk
    · unfold F2
      split
      · exact hF0
      · exact h8 _ (by omega)
    · unfold F2 at he
      by_cases q0 : q = 7
      · by_cases r0 : r = 7
        · omega
        · rw [if_pos q0, if_neg r0] at he
          have := h9 0 (r + 1) (by omega) (by omega) he
          omega
      · by_cases r0 : r = 7
        · rw [if_neg q0, if_pos r0] at he
          have := h9 (q + 1) 0 (by omega) (by omega) he
          omega
        · rw [if_neg q0, if_neg r0] at he
          have := h9 (q + 1) (r + 1) (by omega) (by omega) he
          omega
    · rw [pupd_ne (by omega), setC_w (by omega), o1 _ (by omega)]; exact h10 k hk
  · intro i hi
    rw [pupd_ne (by omega), setC_w (by omega), o1 _ (by omega)]
  · simp only [csN, csm_i, csm_r, Nat.reduceAdd, Nat.reduceLeDiff, wdI, wdR, wdN, clM_0, clC_0, clC_1, clC_6, clC_8, true_or, or_true, i10, i01, ob_some, ob_map, cal_v, rvs_some, rvs_none, XO_at, cal_x, m162, r162_0, r162_1, r162_4, r162_5, r162_6, r162_7, r162_8, r162_10, r162_12, r162_15, r162_16, r162_19, r162_20, r162_21, r162_24, r162_25, r162_26, r162_27, r162_28, r162_29, r162_32, r162_36, r162_39, r162_41, r162_42, r162_43, r162_44, r162_47, r162_48, r162_49, r162_52, r162_53, r162_54, r162_57, r162_58, r162_59, r162_62, g3, g5, k7, g6, hw1', Option.map_some, z0, hb, h1', p1]
theorem WD_h (hc' : Int32) (h : WD w s t y hs le lf F K hc sc) : WD (pupd w 107 (.inr (3, [.ref 108, .int hc']))) s t y hs le lf F K hc' sc := by
  obtain ⟨h1, h2, h3, h4, h5, h6, h7, h8, h9, h10⟩ := h
  exact ⟨by rw [pupd_ne (by omega)]; exact h1, fun k hk => by rw [pupd_ne (by omega)]; exact h2 k hk, fun k hk => by rw [pupd_ne (by omega)]; exact h3 k hk, fun k hk => by rw [pupd_ne (by omega)]; exact h4 k hk, pupd_same _ _ _, by rw [pupd_ne (by omega)]; exact h6, fun q hq k hk => by have := h8 q hq; rw [pupd_ne (by omega)]; exact h7 q hq k hk, h8, h9, fun k hk => by rw [pupd_ne (by omega)]; exact h10 k hk⟩
theorem WD_o (hs' le' lf' : Int32) (h : WD w s t y hs le lf F K hc sc) : WD (pupd w 64 (.inr (6, [.ref 65, .ref 79, .ref 93, .int hs', .ref 107, .ref 221, .ref 225, .int le', .int lf']))) s t y hs' le' lf' F K hc sc := by
  obtain ⟨h1, h2, h3, h4, h5, h6, h7, h8, h9, h10⟩ := h
  exact ⟨pupd_same _ _ _, fun k hk => by rw [pupd_ne (by omega)]; exact h2 k hk, fun k hk => by rw [pupd_ne (by omega)]; exact h3 k hk, fun k hk => by rw [pupd_ne (by omega)]; exact h4 k hk, by rw [pupd_ne (by omega)]; exact h5, by rw [pupd_ne (by omega)]; exact h6, fun q hq k hk => by have := h8 q hq; rw [pupd_ne (by omega)]; exact h7 q hq k hk, h8, h9, fun k hk => by rw [pupd_ne (by omega)]; exact h10 k hk⟩
theorem WD_107 (h : WD w s t y hs le lf F K hc sc) : gfd w 3 1 107 = some (.int hc) ∧ ∀ v : Int32, pfd w 3 1 107 (.int v) = some (pupd w 107 (.inr (3, [.ref 108, .int v]))) := by
  obtain ⟨h1, h2, h3, h4, h5, h6, h7, h8, h9, h10⟩ := h
  refine ⟨by rw [gfd_at h5 (by decide)]; rfl, fun v => ?_⟩
  rw [pfd_at (ty := .int) h5 (by decide +kernel) ⟨by simp only [List.length_cons, List.length_nil]; decide, rfl⟩]
  rfl
theorem WD_p3 (h : WD w s t y hs le lf F K hc sc) : pfd w 6 3 64 (.int 1) = some (pupd w 64 (.inr (6, [.ref 65, .ref 79, .ref 93, .int 1, .ref 107, .ref 221, .ref 225, .int le, .int lf]))) := by
  rw [pfd_at (ty := .boolean) h.1 (by decide +kernel) ⟨by simp only [List.length_cons, List.length_nil]; decide, rfl⟩]
  rfl
theorem c163 (h : WD w s t y hs le lf F K hc sc) : RM x 163 [.ref 107] w n = some (.inl none, pupd w 107 (.inr (3, [.ref 108, .int 0])), n) := by
  have p := (WD_107 h).2
  simp only [csN, csm_i, csm_r, Nat.reduceAdd, Nat.reduceLeDiff, wdI, wdR, wdN, clM_0, clC_0, clC_1, clC_6, clC_8, true_or, or_true, i10, i01, ob_some, ob_map, cal_v, rvs_some, rvs_none, XO_at, cal_x, m163, r163_0, r163_1, r163_2, r163_5, p]
theorem c86_0 (h : WD w s t y hs le lf F K 0 sc) : RM x 86 [.ref 64] w n = some (.inr "java/util/NoSuchElementException", w, n + 1) := by
  obtain ⟨⟨g0, -, -, -, g4, -⟩, -⟩ := WD_64 h
  have g := (WD_107 h).1
  simp only [csN, csm_i, csm_r, Nat.reduceAdd, Nat.reduceLeDiff, wdI, wdR, wdN, clM_0, clC_0, clC_1, clC_6, clC_8, true_or, or_true, i10, i01, ob_some, ob_map, cal_v, rvs_some, rvs_none, XO_at, cal_x, m86, r86_0, r86_1, r86_4, r86_7, r86_10, r86_21, r86_22, r86_25, r86_26, r86_29, r86_32, r86_33, r86_36, r86_39, g0, g4, g, if_true]
theorem c86_1 (h : WD w s t y hs le lf F K hc sc) (h0 : ¬ hc = 0) (hk : ∀ g, g < 5 → isKd (K 0 2 g)) : ∃ w' F', RM x 86 [.ref 64] w n = some (.inl (some (.int (hc - 1))), w', n) ∧ WD w' (cpC s (K 0)) t y hs le lf F' (K2 K) (hc - 1) sc ∧ (∀ i, 225 ≤ i → w' i = w i) := by
  obtain ⟨⟨g0, -, -, -, g4, -⟩, -, -, -, -, c107⟩ := WD_64 h
  have g := (WD_107 h).1
  obtain ⟨w', F', e, hW, ho⟩ := c162 (x := x) (n := n) h hk
  obtain ⟨⟨g0', -, -, -, g4', -⟩, -⟩ := WD_64 hW
  have g' := (WD_107 hW).1
  refine ⟨w', F', ?_, hW, ho⟩
  simp only [csN, csm_i, csm_r, Nat.reduceAdd, Nat.reduceLeDiff, wdI, wdR, wdN, clM_0, clC_0, clC_1, clC_6, clC_8, true_or, or_true, i10, i01, ob_some, ob_map, cal_v, rvs_some, rvs_none, XO_at, cal_x, m86, r86_0, r86_1, r86_4, r86_7, r86_10, r86_21, r86_22, r86_25, r86_26, r86_29, r86_32, r86_33, r86_36, r86_39, g0, g4, g, h0, if_false, c107, e, g0', g4', g']
theorem WD_n (h : WD w s t y hs le lf F K hc sc) : gfd w 0 2 65 = some (.ref 73) ∧ gfd w 1 5 73 = some (.int (s 20 25)) := by
  have q1 := gC_0_2 (w := w) (b := 65) (s := s)
  have q2 := gC_8_5 (w := w) (b := 65) (s := s)
  rw [(WD_c h).1] at q1 q2
  exact ⟨q1, q2⟩
theorem c87 (h : WD w s t y hs le lf F K hc sc) (hk : ∀ g, g < 5 → isKd (s 2 g)) : ∃ w', RM x 87 [.ref 64] w n = some (.inl (some (.int (s 20 25))), w', n) ∧ WD w' s t (cpC y s) 1 le lf F K hc sc ∧ (∀ i, 225 ≤ i → w' i = w i) := by
  obtain ⟨⟨g0, -, g2, -⟩, -, -, -, c93, -⟩ := WD_64 h
  have hb := c99 (x := x) (n := n) (w := w) (b := 93) (b2 := 65) (s := y) (t := s) (by omega) h.2.1 hk
  rw [(WD_c h).2.2] at hb
  have hW1 := WD_U (cpC y s) h
  have p3 := WD_p3 hW1
  obtain ⟨⟨g0a, -⟩, -⟩ := WD_64 hW1
  have hW2 := WD_o 1 le lf hW1
  obtain ⟨⟨g0', -⟩, -⟩ := WD_64 hW2
  obtain ⟨q1, q2⟩ := WD_n hW2
  refine ⟨_, ?_, hW2, fun i hi => by rw [pupd_ne (by omega), setC_w (by omega)]⟩
  simp only [csN, csm_i, csm_r, Nat.reduceAdd, Nat.reduceLeDiff, wdI, wdR, wdN, clM_0, clC_0, clC_1, clC_6, clC_8, true_or, or_true, i10, i01, ob_some, ob_map, cal_v, rvs_some, rvs_none, XO_at, cal_x, m87, r87_0, r87_1, r87_4, r87_5, r87_8, r87_11, r87_12, r87_13, r87_16, r87_17, r87_20, r87_23, r87_26, g0, g2, c93, hb, p3, g0a, g0', q1, q2]
theorem c88_0 (h : WD w s t y 0 le lf F K hc sc) : RM x 88 [.ref 64] w n = some (.inr "java/lang/IllegalStateException", w, n + 1) := by
  obtain ⟨⟨g0, -, -, g3, -⟩, -⟩ := WD_64 h
  simp only [csN, csm_i, csm_r, Nat.reduceAdd, Nat.reduceLeDiff, wdI, wdR, wdN, clM_0, clC_0, clC_1, clC_6, clC_8, true_or, or_true, i10, i01, ob_some, ob_map, cal_v, rvs_some, rvs_none, XO_at, cal_x, m88, r88_0, r88_1, r88_4, r88_7, r88_18, r88_19, r88_22, r88_23, r88_26, r88_29, r88_30, r88_33, r88_36, r88_37, r88_40, r88_43, r88_46, g0, g3, if_true]
theorem c88_1 (h : WD w s t y hs le lf F K hc sc) (h0 : ¬ hs = 0) (hk : ∀ g, g < 5 → isKd (y 2 g)) : ∃ w', RM x 88 [.ref 64] w n = some (.inl (some (.int (cpC s y 20 25))), w', n) ∧ WD w' (cpC s y) t y hs le lf F K 0 sc ∧ (∀ i, 225 ≤ i → w' i = w i) := by
  obtain ⟨⟨g0, -, g2, g3, g4, -⟩, -, c65, -⟩ := WD_64 h
  have hb := c99 (x := x) (n := n) (w := w) (b := 65) (b2 := 93) (s := s) (t := y) (by omega) h.2.2.2.1 hk
  rw [(WD_c h).1] at hb
  have hW1 := WD_C (cpC s y) h
  obtain ⟨⟨g0a, -, -, -, g4a, -⟩, -, -, -, -, c107⟩ := WD_64 hW1
  have e := c163 (x := x) (n := n) hW1
  have hW2 := WD_h 0 hW1
  obtain ⟨⟨g0', -⟩, -⟩ := WD_64 hW2
  obtain ⟨q1, q2⟩ := WD_n hW2
  refine ⟨_, ?_, hW2, fun i hi => by rw [pupd_ne (by omega), setC_w (by omega)]⟩
  simp only [csN, csm_i, csm_r, Nat.reduceAdd, Nat.reduceLeDiff, wdI, wdR, wdN, clM_0, clC_0, clC_1, clC_6, clC_8, true_or, or_true, i10, i01, ob_some, ob_map, cal_v, rvs_some, rvs_none, XO_at, cal_x, m88, r88_0, r88_1, r88_4, r88_7, r88_18, r88_19, r88_22, r88_23, r88_26, r88_29, r88_30, r88_33, r88_36, r88_37, r88_40, r88_43, r88_46, g0, g2, g3, h0, if_false, c65, hb, g0a, g4a, c107, e, g0', q1, q2]
end CHG
