/-! THE SAME CANAL on both sides; what the model reads of it -/
section REL
set_option maxRecDepth 20000
variable {x : SX} {n b c : Nat} {w : PW} {m s : NS} {g : Nat → Int32}
/-- one barge on both sides: the class's row i, the model's row j -/
def RB (s : NS) (g : Nat → Int32) (i j : Nat) : Prop :=
  s 9 i = g (44 + j) ∧ s 10 i = g (52 + j) ∧ s 11 i = g (60 + j) ∧ s 12 i = g (76 + j) ∧ ((s 13 i = 1 ∧ g (68 + j) = 1) ∨ (s 13 i = -1 ∧ g (68 + j) = 0))
/-- all but the fleet -/
def RS (s : NS) (g : Nat → Int32) : Prop :=
  (s 20 3 = g 0 ∧ s 20 4 = g 1 ∧ s 20 26 = g 2 ∧ s 20 11 = g 4 ∧ s 20 12 = g 5 ∧ s 20 13 = g 6) ∧ (∀ r, r < 6 → s 7 r = g (8 + r)) ∧ (∀ i, i < 5 → ∃ k, k < 4 ∧ g (14 + i) = Int32.ofNat k ∧ s 2 i = ltO (Int32.ofNat k)) ∧
  (∀ j, j < 10 → s 4 j = g (19 + j) ∧ ∃ a, a < 12 ∧ s 4 j = Int32.ofNat a) ∧ (∀ j, j < 10 → s 5 j = g (29 + j) ∧ ∃ a, a < 21 ∧ s 5 j = Int32.ofNat a) ∧ (∀ i, i < 5 → s 3 i = g (39 + i))
def RelH (s : NS) (g : Nat → Int32) (c : Nat) : Prop := IC s c ∧ RS s g ∧ g 3 = Int32.ofNat c ∧ ∀ j, j < c → RB s g j j
def Rel (s : NS) (g : Nat → Int32) (c : Nat) : Prop := RelH s g c ∧ s 20 5 = g 7
theorem ofN_add {a b' : Nat} {v : Int32} (h : v = Int32.ofNat b') : Int32.ofNat a + v = Int32.ofNat (a + b') := by rw [h, i_add]
theorem i_2g {g t : Nat} : 2 * Int32.ofNat g + Int32.ofNat t = Int32.ofNat (g * 2 + t) := by
  rw [show (2 : Int32) = Int32.ofNat 2 from rfl, i_mul, i_add, Nat.mul_comm]
theorem i_K2g {K g t : Nat} : Int32.ofNat K + 2 * Int32.ofNat g + Int32.ofNat t = Int32.ofNat (K + (g * 2 + t)) := by
  rw [Int32.add_assoc, i_2g, i_add]
theorem md12 : ∀ a, a < 12 → (Int32.ofNat a + 1) - (Int32.ofNat a + 1) / 12 * 12 = if Int32.ofNat a = 11 then 0 else Int32.ofNat a + 1 := by decide +kernel
theorem c209 {gt t : Nat} {u v : Int32} (hR : RS s (m 1)) (hu : u = Int32.ofNat gt) (hv : v = Int32.ofNat t) (hg : gt < 5) (ht : t < 2) : RM x 209 [.ref b, .int u, .int v] (setM w b m) n = some (.inl (some (.int (snS s gt t))), setM w b m, n) := by
  subst hu
  subst hv
  obtain ⟨-, -, -, h4, h5, -⟩ := hR
  obtain ⟨e4, a, ha, e4a⟩ := h4 (gt * 2 + t) (by omega)
  obtain ⟨e5, -⟩ := h5 (gt * 2 + t) (by omega)
  have h1 : (19 : Int32) + 2 * Int32.ofNat gt + Int32.ofNat t = Int32.ofNat (19 + (gt * 2 + t)) := i_K2g (K := 19)
  have h2 : (29 : Int32) + 2 * Int32.ofNat gt + Int32.ofNat t = Int32.ofNat (29 + (gt * 2 + t)) := i_K2g (K := 29)
  have h3 : fin 84 (Int32.ofNat (19 + (gt * 2 + t))) = some (19 + (gt * 2 + t)) := fin_nat (by omega) (by omega)
  have h6 : fin 84 (Int32.ofNat (29 + (gt * 2 + t))) = some (29 + (gt * 2 + t)) := fin_nat (by omega) (by omega)
  have h7 : ¬ (12 : Int32) = 0 := by decide
  have h8 := md12 a ha
  simp only [csN, csm_i, csm_r, Nat.reduceAdd, Nat.reduceLeDiff, wdI, wdR, wdN, clM_0, clC_0, clC_1, clC_6, clC_8, true_or, or_true, i10, i01, ob_some, ob_map, cal_v, rvs_some, rvs_none, XO_at, cal_x, m209, r209_0, r209_1, r209_4, r209_6, r209_7, r209_8, r209_9, r209_10, r209_11, r209_12, r209_13, r209_14, r209_15, r209_18, r209_20, r209_21, r209_22, r209_23, r209_24, r209_25, r209_26, r209_27, r209_29, r209_32, r209_33, r209_36, r209_37, r209_38, r209_39, r209_41, r209_42, gM_0_0, lM_1, h1, h2, h3, h6, h7, Option.map_some, not_false_eq_true]
  unfold snS snd
  rw [← e5, ← e4, e4a, h8]
  split <;> rfl
theorem c210 {gt : Nat} {u v : Int32} (hR : RS s (m 1)) (hu : u = Int32.ofNat gt) (hg : gt < 5) : RM x 210 [.ref b, .int u, .int v] (setM w b m) n = some (.inl (some (.int (bi (opS s gt v)))), setM w b m, n) := by
  subst hu
  have h1 := c209 (x := x) (n := n) (b := b) (w := w) (u := Int32.ofNat gt) (v := 0) (t := 0) hR rfl rfl hg (by omega)
  have h2 := c209 (x := x) (n := n) (b := b) (w := w) (u := Int32.ofNat gt) (v := 1) (t := 1) hR rfl rfl hg (by omega)
  obtain ⟨k, hk, k1, k2⟩ := hR.2.2.1 gt hg
  have h3 : (14 : Int32) + Int32.ofNat gt = Int32.ofNat (14 + gt) := i_add (a := 14)
  have h4 : fin 84 (Int32.ofNat (14 + gt)) = some (14 + gt) := fin_nat (by omega) (by omega)
  have h7 : ¬ (12 : Int32) = 0 := by decide
  have h8 := ch_kind (N := setN v (snS s gt 0) (snS s gt 1)) hk
  simp only [csN, csm_i, csm_r, Nat.reduceAdd, Nat.reduceLeDiff, wdI, wdR, wdN, clM_0, clC_0, clC_1, clC_6, clC_8, true_or, or_true, i10, i01, ob_some, ob_map, cal_v, rvs_some, rvs_none, XO_at, cal_x, m210, r210_0, r210_1, r210_2, r210_3, r210_4, r210_5, r210_6, r210_7, r210_10, r210_11, r210_12, r210_13, r210_14, r210_15, r210_16, r210_19, r210_20, r210_21, r210_24, r210_25, r210_26, r210_27, r210_30, r210_31, r210_33, r210_34, r210_35, r210_38, r210_40, r210_41, r210_42, r210_43, r210_46, r210_47, r210_50, h1, h2, c206, gM_0_0, lM_1, h3, h4, h7, Option.map_some, not_false_eq_true, k1]
  unfold opS
  rw [k2, pat_lt k hk, ← h8]
  show (if chK (setN v (snS s gt 0) (snS s gt 1)) 4 0 = -1 then _ else _) = _
  by_cases g1 : chK (setN v (snS s gt 0) (snS s gt 1)) 4 0 = -1
  · simp only [g1, if_true, decide_true, Bool.not_true, Bool.false_and, bi_f]; exact r210_51 (v := 0) (by decide)
  · rw [if_neg g1]
    show (if chK (setN v (snS s gt 0) (snS s gt 1)) 4 0 / 12 = Int32.ofNat k then _ else _) = _
    by_cases g2 : chK (setN v (snS s gt 0) (snS s gt 1)) 4 0 / 12 = Int32.ofNat k
    · simp only [g1, g2, if_true, decide_true, decide_false, Bool.not_false, Bool.and_self, bi_t]; exact r210_51 (v := 1) (by decide)
    · simp only [g1, g2, if_false, decide_false, Bool.not_false, Bool.and_false, bi_f]; exact r210_51 (v := 0) (by decide)
theorem l211 {v : Int32} (hc : m 1 3 = Int32.ofNat c) (h8 : c ≤ 8) (d : Nat) : ∀ i, i + d = c → RC x 211 2 [some (.ref b), some (.int v), some (.int (Int32.ofNat i))] [] (setM w b m) n = some (.inl (some (.int (ixA (fun j => m 1 (44 + j)) v d i))), setM w b m, n) := by
  induction d with
  | zero =>
    intro i h
    obtain rfl : i = c := by omega
    rw [r211_2]
    have h1 : ¬ Int32.ofNat i < Int32.ofNat i := by rw [i_lt (by omega) (by omega)]; omega
    have h0 : fin 84 3 = some 3 := fin_lit (by decide) (by decide)
    simp only [csN, csm_i, csm_r, Nat.reduceAdd, Nat.reduceLeDiff, wdI, wdR, wdN, clM_0, clC_0, clC_1, clC_6, clC_8, true_or, or_true, i10, i01, ob_some, ob_map, cal_v, rvs_some, rvs_none, XO_at, cal_x, m211, r211_0, r211_1, r211_3, r211_4, r211_7, r211_8, r211_9, r211_12, r211_13, r211_16, r211_18, r211_19, r211_20, r211_21, r211_22, r211_25, r211_26, r211_27, r211_30, r211_33, r211_34, gM_0_0, lM_1, h0, Option.map_some, hc, h1, if_false, ixA]
  | succ d ih =>
    intro i h
    rw [r211_2]
    have h0 : fin 84 3 = some 3 := fin_lit (by decide) (by decide)
    have h1 : Int32.ofNat i < Int32.ofNat c := nlt (by omega) (by omega) (by omega)
    have h2 : Int32.ofNat i + 1 = Int32.ofNat (i + 1) := i_add (b := 1)
    have h3 : (44 : Int32) + Int32.ofNat i = Int32.ofNat (44 + i) := i_add (a := 44)
    have h4 : fin 84 (Int32.ofNat (44 + i)) = some (44 + i) := fin_nat (by omega) (by omega)
    have hh := ih (i + 1) (by omega)
    simp only [csN, csm_i, csm_r, Nat.reduceAdd, Nat.reduceLeDiff, wdI, wdR, wdN, clM_0, clC_0, clC_1, clC_6, clC_8, true_or, or_true, i10, i01, ob_some, ob_map, cal_v, rvs_some, rvs_none, XO_at, cal_x, m211, r211_0, r211_1, r211_3, r211_4, r211_7, r211_8, r211_9, r211_12, r211_13, r211_16, r211_18, r211_19, r211_20, r211_21, r211_22, r211_25, r211_26, r211_27, r211_30, r211_33, r211_34, gM_0_0, lM_1, h0, Option.map_some, hc, h1, h2, h3, h4, hh, if_true, ixA]
    split <;> rfl
theorem ixA_congr {f f' : Nat → Int32} {v : Int32} (d : Nat) : ∀ i, (∀ j, i ≤ j → j < i + d → f j = f' j) → ixA f v d i = ixA f' v d i := by
  induction d with
  | zero => intro i h; rfl
  | succ d ih => intro i h; unfold ixA; rw [h i (Nat.le_refl _) (by omega), ih (i + 1) (fun j h1 h2 => h j (by omega) (by omega))]
theorem c211 {v : Int32} (hR : RelH s (m 1) c) : RM x 211 [.ref b, .int v] (setM w b m) n = some (.inl (some (.int (ixA (s 9) v c 0))), setM w b m, n) := by
  obtain ⟨hI, -, h3, hB⟩ := hR
  simp only [csN, csm_i, csm_r, Nat.reduceAdd, Nat.reduceLeDiff, wdI, wdR, wdN, clM_0, clC_0, clC_1, clC_6, clC_8, true_or, or_true, i10, i01, ob_some, ob_map, cal_v, rvs_some, rvs_none, XO_at, cal_x, m211, r211_0, r211_1, r211_3, r211_4, r211_7, r211_8, r211_9, r211_12, r211_13, r211_16, r211_18, r211_19, r211_20, r211_21, r211_22, r211_25, r211_26, r211_27, r211_30, r211_33, r211_34]
  rw [ixA_congr (f' := fun j => m 1 (44 + j)) c 0 (fun j _ hj => (hB j (by omega)).1)]
  exact l211 h3 hI.1.2.1 c 0 (by omega)
theorem l212 {v : Int32} (hc : m 1 3 = Int32.ofNat c) (h8 : c ≤ 8) (d : Nat) : ∀ i, i + d = c → RC x 212 4 [some (.ref b), some (.int v), some (.int (Int32.ofNat (cnt (fun j => decide (m 1 (76 + j) = v)) i))), some (.int (Int32.ofNat i))] [] (setM w b m) n = some (.inl (some (.int (Int32.ofNat (cnt (fun j => decide (m 1 (76 + j) = v)) c)))), setM w b m, n) := by
  induction d with
  | zero =>
    intro i h
    obtain rfl : i = c := by omega
    rw [r212_4]
    have h1 : ¬ Int32.ofNat i < Int32.ofNat i := by rw [i_lt (by omega) (by omega)]; omega
    have h0 : fin 84 3 = some 3 := fin_lit (by decide) (by decide)
    simp only [csN, csm_i, csm_r, Nat.reduceAdd, Nat.reduceLeDiff, wdI, wdR, wdN, clM_0, clC_0, clC_1, clC_6, clC_8, true_or, or_true, i10, i01, ob_some, ob_map, cal_v, rvs_some, rvs_none, XO_at, cal_x, m212, r212_0, r212_1, r212_2, r212_3, r212_5, r212_6, r212_9, r212_10, r212_11, r212_14, r212_15, r212_16, r212_19, r212_21, r212_22, r212_23, r212_24, r212_25, r212_28, r212_29, r212_32, r212_33, r212_34, r212_35, r212_38, r212_41, r212_42, gM_0_0, lM_1, h0, Option.map_some, hc, h1, if_false]
  | succ d ih =>
    intro i h
    rw [r212_4]
    have h0 : fin 84 3 = some 3 := fin_lit (by decide) (by decide)
    have h1 : Int32.ofNat i < Int32.ofNat c := nlt (by omega) (by omega) (by omega)
    have h2 : Int32.ofNat i + 1 = Int32.ofNat (i + 1) := i_add (b := 1)
    have h3 : (76 : Int32) + Int32.ofNat i = Int32.ofNat (76 + i) := i_add (a := 76)
    have h4 : fin 84 (Int32.ofNat (76 + i)) = some (76 + i) := fin_nat (by omega) (by omega)
    have h6 : Int32.ofNat (cnt (fun j => decide (m 1 (76 + j) = v)) i) + 1 = Int32.ofNat (cnt (fun j => decide (m 1 (76 + j) = v)) i + 1) := i_add (b := 1)
    have hh := ih (i + 1) (by omega)
    rw [cnt_s (k := i)] at hh
    simp only [csN, csm_i, csm_r, Nat.reduceAdd, Nat.reduceLeDiff, wdI, wdR, wdN, clM_0, clC_0, clC_1, clC_6, clC_8, true_or, or_true, i10, i01, ob_some, ob_map, cal_v, rvs_some, rvs_none, XO_at, cal_x, m212, r212_0, r212_1, r212_2, r212_3, r212_5, r212_6, r212_9, r212_10, r212_11, r212_14, r212_15, r212_16, r212_19, r212_21, r212_22, r212_23, r212_24, r212_25, r212_28, r212_29, r212_32, r212_33, r212_34, r212_35, r212_38, r212_41, r212_42, gM_0_0, lM_1, h0, Option.map_some, hc, h1, h2, h3, h4, if_true]
    by_cases g2 : m 1 (76 + i) = v
    · simp only [g2, if_true, h6, decide_true, cond_true] at hh ⊢
      exact hh
    · simp only [g2, if_false, Int32.add_zero, decide_false, cond_false] at hh ⊢
      exact hh
theorem c212 {v : Int32} (hc : m 1 3 = Int32.ofNat c) (h8 : c ≤ 8) : RM x 212 [.ref b, .int v] (setM w b m) n = some (.inl (some (.int (Int32.ofNat (cnt (fun j => decide (m 1 (76 + j) = v)) c)))), setM w b m, n) := by
  simp only [csN, csm_i, csm_r, Nat.reduceAdd, Nat.reduceLeDiff, wdI, wdR, wdN, clM_0, clC_0, clC_1, clC_6, clC_8, true_or, or_true, i10, i01, ob_some, ob_map, cal_v, rvs_some, rvs_none, XO_at, cal_x, m212, r212_0, r212_1, r212_2, r212_3, r212_5, r212_6, r212_9, r212_10, r212_11, r212_14, r212_15, r212_16, r212_19, r212_21, r212_22, r212_23, r212_24, r212_25, r212_28, r212_29, r212_32, r212_33, r212_34, r212_35, r212_38, r212_41, r212_42]
  exact l212 hc h8 c 0 (by omega)
theorem RB_dir {i j : Nat} (h : RB s g i j) : (g (68 + j) = 1 → s 13 i = 1) ∧ (¬ g (68 + j) = 1 → s 13 i = -1) := by
  rcases h.2.2.2.2 with ⟨h1, h2⟩ | ⟨h1, h2⟩
  · exact ⟨fun _ => h1, fun z => absurd h2 z⟩
  · exact ⟨fun z => by rw [h2] at z; exact absurd z (by decide), fun _ => h1⟩
theorem c213 {i j : Nat} {u : Int32} (hu : u = Int32.ofNat j) (hj : j < 8) (hB : RB s (m 1) i j) : RM x 213 [.ref b, .int u] (setM w b m) n = some (.inl (some (.int (s 12 i + mn (s 13 i) 0))), setM w b m, n) := by
  subst hu
  have h1 : (68 : Int32) + Int32.ofNat j = Int32.ofNat (68 + j) := i_add (a := 68)
  have h2 : fin 84 (Int32.ofNat (68 + j)) = some (68 + j) := fin_nat (by omega) (by omega)
  have h3 : (76 : Int32) + Int32.ofNat j = Int32.ofNat (76 + j) := i_add (a := 76)
  have h4 : fin 84 (Int32.ofNat (76 + j)) = some (76 + j) := fin_nat (by omega) (by omega)
  obtain ⟨d1, d2⟩ := RB_dir hB
  simp only [csN, csm_i, csm_r, Nat.reduceAdd, Nat.reduceLeDiff, wdI, wdR, wdN, clM_0, clC_0, clC_1, clC_6, clC_8, true_or, or_true, i10, i01, ob_some, ob_map, cal_v, rvs_some, rvs_none, XO_at, cal_x, m213, r213_0, r213_1, r213_4, r213_6, r213_7, r213_8, r213_9, r213_10, r213_13, r213_14, r213_17, r213_19, r213_20, r213_21, r213_22, r213_25, r213_26, r213_29, r213_31, r213_32, r213_33, r213_34, r213_35, r213_36, gM_0_0, lM_1, h1, h2, h3, h4, Option.map_some]
  rw [← hB.2.2.2.1]
  split
  · next e => rw [d1 e, show mn 1 0 = 0 by decide, Int32.add_zero]
  · next e => rw [d2 e, show mn (-1) 0 = -1 by decide, Int32.sub_eq_add_neg]
theorem c214 {i j : Nat} {u : Int32} (hu : u = Int32.ofNat j) (hj : j < 8) (hB : RB s (m 1) i j) : RM x 214 [.ref b, .int u] (setM w b m) n = some (.inl (some (.int (s 12 i + s 13 i))), setM w b m, n) := by
  subst hu
  have h1 : (68 : Int32) + Int32.ofNat j = Int32.ofNat (68 + j) := i_add (a := 68)
  have h2 : fin 84 (Int32.ofNat (68 + j)) = some (68 + j) := fin_nat (by omega) (by omega)
  have h3 : (76 : Int32) + Int32.ofNat j = Int32.ofNat (76 + j) := i_add (a := 76)
  have h4 : fin 84 (Int32.ofNat (76 + j)) = some (76 + j) := fin_nat (by omega) (by omega)
  obtain ⟨d1, d2⟩ := RB_dir hB
  simp only [csN, csm_i, csm_r, Nat.reduceAdd, Nat.reduceLeDiff, wdI, wdR, wdN, clM_0, clC_0, clC_1, clC_6, clC_8, true_or, or_true, i10, i01, ob_some, ob_map, cal_v, rvs_some, rvs_none, XO_at, cal_x, m214, r214_0, r214_1, r214_4, r214_6, r214_7, r214_8, r214_9, r214_10, r214_13, r214_14, r214_17, r214_19, r214_20, r214_21, r214_22, r214_23, r214_24, r214_27, r214_28, r214_31, r214_33, r214_34, r214_35, r214_36, r214_37, r214_38, gM_0_0, lM_1, h1, h2, h3, h4, Option.map_some]
  rw [← hB.2.2.2.1]
  split
  · next e => rw [d1 e]
  · next e => rw [d2 e, Int32.sub_eq_add_neg]
/-- the barge in row j of the model, row i of the class, may pass: the same on both sides. cg: barges of the model; the reaches between hold as many -/
theorem c215 {i j cg gt r : Nat} {u : Int32} (hu : u = Int32.ofNat j) (hj : j < 8) (hB : RB s (m 1) i j) (hS : RS s (m 1)) (hr : r < 6) (hg : gt < 5) (h1 : s 12 i + s 13 i = Int32.ofNat r) (h2 : s 12 i + mn (s 13 i) 0 = Int32.ofNat gt)
    (h3 : m 1 3 = Int32.ofNat cg) (hc8 : cg ≤ 8) (hct : ¬ r = 0 → ¬ r = 5 → cnt (fun j => decide (m 1 (76 + j) = Int32.ofNat r)) cg = ctS s c (Int32.ofNat r)) :
    RM x 215 [.ref b, .int u] (setM w b m) n = some (.inl (some (.int (bi (mpS s c i gt r)))), setM w b m, n) := by
  subst hu
  have e1 := c214 (x := x) (n := n) (b := b) (w := w) (u := Int32.ofNat j) rfl hj hB
  have e2 := c213 (x := x) (n := n) (b := b) (w := w) (u := Int32.ofNat j) rfl hj hB
  have e3 := c212 (x := x) (n := n) (b := b) (w := w) (v := Int32.ofNat r) h3 hc8
  have e4 := c210 (x := x) (n := n) (b := b) (w := w) (u := Int32.ofNat gt) (v := s 10 i) hS rfl hg
  have e5 : (8 : Int32) + Int32.ofNat r = Int32.ofNat (8 + r) := i_add (a := 8)
  have e6 : fin 84 (Int32.ofNat (8 + r)) = some (8 + r) := fin_nat (by omega) (by omega)
  have e7 : (60 : Int32) + Int32.ofNat j = Int32.ofNat (60 + j) := i_add (a := 60)
  have e8 : fin 84 (Int32.ofNat (60 + j)) = some (60 + j) := fin_nat (by omega) (by omega)
  have e9 : (52 : Int32) + Int32.ofNat j = Int32.ofNat (52 + j) := i_add (a := 52)
  have f1 : fin 84 (Int32.ofNat (52 + j)) = some (52 + j) := fin_nat (by omega) (by omega)
  have f2 := (hS.2.1 r hr).symm
  have f3 := hB.2.2.1.symm
  have f4 := hB.2.1.symm
  have f5 : (Int32.ofNat r = 0) = (r = 0) := i_eq (b := 0) (by omega) (by omega)
  have f6 : (Int32.ofNat r = 5) = (r = 5) := i_eq (b := 5) (by omega) (by omega)
  have f7 := cnt_le (fun j => decide (m 1 (76 + j) = Int32.ofNat r)) cg
  have f8 : (Int32.ofNat (cnt (fun j => decide (m 1 (76 + j) = Int32.ofNat r)) cg) < 3) = (cnt (fun j => decide (m 1 (76 + j) = Int32.ofNat r)) cg < 3) := i_lt (b := 3) (by omega) (by omega)
  simp only [csN, csm_i, csm_r, Nat.reduceAdd, Nat.reduceLeDiff, wdI, wdR, wdN, clM_0, clC_0, clC_1, clC_6, clC_8, true_or, or_true, i10, i01, ob_some, ob_map, cal_v, rvs_some, rvs_none, XO_at, cal_x, m215, r215_0, r215_1, r215_2, r215_5, r215_6, r215_7, r215_10, r215_11, r215_12, r215_15, r215_16, r215_17, r215_20, r215_21, r215_24, r215_25, r215_28, r215_30, r215_31, r215_34, r215_35, r215_38, r215_40, r215_41, r215_42, r215_43, r215_44, r215_45, r215_48, r215_50, r215_51, r215_52, r215_53, r215_54, r215_57, r215_58, r215_59, r215_60, r215_63, r215_64, r215_67, r215_69, r215_70, r215_71, r215_72, r215_75, r215_78, r215_79, r215_82, e1, h1, f5, f6, e3, f8]
  have fin29 : ∀ B : Bool, RC x 215 29 [some (.ref b), some (.int (Int32.ofNat j)), some (.int (Int32.ofNat r)), none] [.int (bi B)] (setM w b m) n = some (.inl (some (.int (bi (B && (!decide (s 7 r < 5 * s 11 i) && opS s gt (s 10 i)))))), setM w b m, n) := by
    intro B
    simp only [csN, csm_i, csm_r, Nat.reduceAdd, Nat.reduceLeDiff, wdI, wdR, wdN, clM_0, clC_0, clC_1, clC_6, clC_8, true_or, or_true, i10, i01, ob_some, ob_map, cal_v, rvs_some, rvs_none, XO_at, cal_x, m215, r215_0, r215_1, r215_2, r215_5, r215_6, r215_7, r215_10, r215_11, r215_12, r215_15, r215_16, r215_17, r215_20, r215_21, r215_24, r215_25, r215_28, r215_29, r215_30, r215_31, r215_34, r215_35, r215_38, r215_40, r215_41, r215_42, r215_43, r215_44, r215_45, r215_48, r215_50, r215_51, r215_52, r215_53, r215_54, r215_57, r215_58, r215_59, r215_60, r215_63, r215_64, r215_67, r215_69, r215_70, r215_71, r215_72, r215_75, r215_78, r215_79, r215_82, bi_eq0, gM_0_0, lM_1, e5, e6, e7, e8, e9, f1, f2, f3, f4, e2, h2, e4, Option.map_some]
    cases B with
    | false => simp only [if_true, Bool.false_and, bi_f]; exact r215_83 (v := 0) (by decide)
    | true =>
      by_cases g1 : s 7 r < 5 * s 11 i
      · simp only [g1, if_true, if_false, decide_true, Bool.not_true, Bool.true_and, Bool.false_and, bi_f, reduceCtorEq]; exact r215_83 (v := 0) (by decide)
      · cases g2 : opS s gt (s 10 i) with
        | false => simp only [g1, if_true, if_false, decide_false, Bool.not_false, Bool.true_and, bi_f, reduceCtorEq]; exact r215_83 (v := 0) (by decide)
        | true => simp only [g1, if_false, decide_false, Bool.not_false, Bool.true_and, bi_t, reduceCtorEq]; exact r215_83 (v := 1) (by decide)
  have hmp : mpS s c i gt r = (rmS s c (Int32.ofNat r) && (!decide (s 7 r < 5 * s 11 i) && opS s gt (s 10 i))) := by
    unfold mpS
    cases rmS s c (Int32.ofNat r) <;> cases decide (s 7 r < 5 * s 11 i) <;> rfl
  rw [hmp]
  unfold rmS
  simp only [f5, f6]
  have F1 := fin29 true
  have F0 := fin29 false
  rw [bi_t] at F1
  rw [bi_f] at F0
  by_cases g1 : r = 0
  · simp only [g1, if_true, decide_true, Bool.true_or] at F1 ⊢
    exact F1
  · by_cases g2 : r = 5
    · simp only [g1, g2, if_true, if_false, decide_true, Bool.true_or, Bool.or_true, decide_false, Bool.false_or] at F1 ⊢
      exact F1
    · rw [hct g1 g2]
      by_cases g3 : ctS s c (Int32.ofNat r) < 3
      · simp only [g1, g2, g3, if_true, if_false, decide_true, decide_false, Bool.false_or]
        exact F1
      · simp only [g1, g2, g3, if_false, decide_false, Bool.false_or]
        exact F0
end REL
