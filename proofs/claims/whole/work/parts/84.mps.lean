/-! THE MODEL reads a script: its small parts -/
section MPS
set_option maxRecDepth 20000
variable {x : SX} {n b p l : Nat} {w : PW} {s m : NS} {f : Nat → Int32} {q : Bool × Nat} {v : Int32}
/-- the model where it reads: whether something was wrong, where it is; f what it has read -/
def MK (m : NS) (f : Nat → Int32) (q : Bool × Nat) : NS := us (us (ua m 9 f) 20 15 (Int32.ofNat q.2)) 20 16 (bi q.1)
theorem MK_15 : MK m f q 20 15 = Int32.ofNat q.2 := by
  unfold MK
  rw [us_at, if_pos rfl, if_neg (by decide), us_at, if_pos rfl, if_pos rfl]
theorem MK_16 : MK m f q 20 16 = bi q.1 := by
  unfold MK
  rw [us_at, if_pos rfl, if_pos rfl]
theorem MK_o {r j : Nat} (h9 : ¬ r = 9) (h : ¬ (r = 20 ∧ (j = 15 ∨ j = 16))) : MK m f q r j = m r j := by
  unfold MK
  rw [us_at]
  by_cases hr : r = 20
  · rw [if_pos hr, if_neg (fun e => h ⟨hr, Or.inr e⟩), us_at, if_pos rfl, if_neg (fun e => h ⟨hr, Or.inl e⟩), ua_ne (by decide), hr]
  · rw [if_neg hr, us_ne hr, ua_ne h9]
theorem MK_9 : MK m f q 9 = f := by
  unfold MK
  rw [us_ne (by decide), us_ne (by decide), ua_same]
theorem MK_8 : MK m f q 20 8 = m 20 8 := MK_o (by decide) (by omega)
theorem MK_6 {j : Nat} : MK m f q 6 j = m 6 j := MK_o (by decide) (by omega)
theorem MK_w {c : Bool} : us (MK m f q) 20 16 (bi c) = MK m f (c, q.2) := by
  funext r j
  unfold MK
  by_cases hr : r = 20
  · subst hr
    simp only [us_at, if_true]
    by_cases h5 : j = 16
    · simp [h5]
    · simp [h5]
  · simp only [us_at, hr, if_false]
theorem MK_w1 : us (MK m f q) 20 16 1 = MK m f (true, q.2) := MK_w (c := true)
theorem MK_w0 : us (MK m f q) 20 16 0 = MK m f (false, q.2) := MK_w (c := false)
theorem MK_p {k : Nat} : us (MK m f q) 20 15 (Int32.ofNat k) = MK m f (q.1, k) := by
  funext r j
  unfold MK
  by_cases hr : r = 20
  · subst hr
    simp only [us_at, if_true]
    by_cases h5 : j = 15
    · simp [h5]
    · simp [h5]
  · simp only [us_at, hr, if_false]
theorem MK_f {j : Nat} : us (MK m f q) 9 j v = MK m (upd f j v) q := by
  funext r k
  by_cases hr : r = 9
  · subst hr
    rw [us_row, MK_9, MK_9]
  · rw [us_ne hr]
    by_cases h : r = 20 ∧ (k = 15 ∨ k = 16)
    · obtain ⟨rfl, rfl | rfl⟩ := h
      · rw [MK_15, MK_15]
      · rw [MK_16, MK_16]
    · rw [MK_o hr h, MK_o hr h]
theorem MK_self (h15 : m 20 15 = Int32.ofNat q.2) (h16 : m 20 16 = bi q.1) : MK m (m 9) q = m := by
  funext r j
  by_cases h9 : r = 9
  · rw [h9, MK_9]
  · by_cases h : r = 20 ∧ (j = 15 ∨ j = 16)
    · obtain ⟨rfl, rfl | rfl⟩ := h
      · rw [MK_15, h15]
      · rw [MK_16, h16]
    · exact MK_o h9 h
/-- the model's text is the class's -/
def TM (m s : NS) (l : Nat) : Prop := m 20 8 = Int32.ofNat l ∧ ∀ j, j < l → m 6 j = s 1 j
def hm (s : NS) (l p : Nat) : Int32 := if p < l then s 1 p else -1
theorem hm_eq (h : TX s l) {a : Nat} (h1 : 0 < a) (h2 : a < 128) : (hm s l p = Int32.ofNat a) = (nx s l p = Int32.ofNat a) := by
  unfold hm nx
  by_cases hp : p < l
  · rw [if_pos hp, if_pos hp]
  · rw [if_neg hp, if_neg hp]
    refine propext ⟨fun e => ?_, fun e => ?_⟩
    · have : ∀ a, a < 128 → ¬ (-1 : Int32) = Int32.ofNat a := by decide +kernel
      exact absurd e (this a h2)
    · rw [show (0 : Int32) = Int32.ofNat 0 from rfl, i_eq (by omega) (by omega)] at e
      omega
theorem c283 (hT : TM m s l) (hl : l ≤ 60) (hq : q.2 ≤ l) : RM x 283 [.ref b] (setM w b (MK m f q)) n = some (.inl (some (.int (hm s l q.2))), setM w b (MK m f q), n) := by
  have e8 : MK m f q 20 8 = Int32.ofNat l := MK_8.trans hT.1
  unfold hm
  by_cases hp : q.2 < l
  · rw [if_pos hp]
    have n1 : Int32.ofNat q.2 < Int32.ofNat l := nlt (by omega) (by omega) hp
    have k : fin 60 (Int32.ofNat q.2) = some q.2 := fin_nat (by omega) (by omega)
    have e6 := (MK_6 (f := f) (q := q) (m := m) (j := q.2)).trans (hT.2 q.2 hp)
    simp only [csN, csm_i, csm_r, Nat.reduceAdd, Nat.reduceLeDiff, wdI, wdR, wdN, clM_0, clC_0, clC_1, clC_6, clC_8, true_or, or_true, i10, i01, ob_some, ob_map, cal_v, rvs_some, rvs_none, XO_at, cal_x, m283, r283_0, r283_1, r283_4, r283_5, r283_8, r283_11, r283_12, r283_15, r283_16, r283_19, r283_20, r283_23, r283_24, gM_0_15, gM_0_8, gM_0_7, lM_6, MK_15, e8, n1, if_true, k, Option.map_some, e6]
  · rw [if_neg hp]
    have n1 : ¬ Int32.ofNat q.2 < Int32.ofNat l := by rw [i_lt (by omega) (by omega)]; exact hp
    simp only [csN, csm_i, csm_r, Nat.reduceAdd, Nat.reduceLeDiff, wdI, wdR, wdN, clM_0, clC_0, clC_1, clC_6, clC_8, true_or, or_true, i10, i01, ob_some, ob_map, cal_v, rvs_some, rvs_none, XO_at, cal_x, m283, r283_0, r283_1, r283_4, r283_5, r283_8, r283_11, r283_12, r283_15, r283_16, r283_19, r283_20, r283_23, r283_24, gM_0_15, gM_0_8, MK_15, e8, n1, if_false]
def nd (s : NS) (l : Nat) (v : Int32) (q : Bool × Nat) : Bool × Nat := if q.1 = false ∧ nx s l q.2 = v then (false, q.2 + 1) else (true, q.2)
theorem nd_le (hv : ¬ v = 0) (h : q.2 ≤ l) : (nd s l v q).2 ≤ l := by
  unfold nd
  split
  · next h2 =>
    exact nx_l (s := s) (fun e => hv (h2.2.symm.trans e))
  · exact h
theorem i_s0 {p : Nat} : Int32.ofNat p + 0 = Int32.ofNat p := Int32.add_zero _
theorem c284 (hX : TX s l) (hT : TM m s l) {a : Nat} (h1 : 0 < a) (h2 : a < 128) (hq : q.2 ≤ l) : RM x 284 [.ref b, .int (Int32.ofNat a)] (setM w b (MK m f q)) n = some (.inl none, setM w b (MK m f (nd s l (Int32.ofNat a) q)), n) := by
  have e := c283 (x := x) (n := n) (w := w) (b := b) (f := f) hT hX.1 hq
  have k1 : (1 : Int32) = 0 ∨ (1 : Int32) = 1 := Or.inr rfl
  have k0 : (0 : Int32) = 0 ∨ (0 : Int32) = 1 := Or.inl rfl
  have p1 : ∀ s : NS, pfd (setM w b s) 7 16 b (.int 1) = some (setM w b (us s 20 16 1)) := fun s => pM_0_16 k1
  have p0 : ∀ s : NS, pfd (setM w b s) 7 16 b (.int 0) = some (setM w b (us s 20 16 0)) := fun s => pM_0_16 k0
  obtain ⟨c, p⟩ := q
  unfold nd
  dsimp only at e hq ⊢
  cases c with
  | true =>
    rw [if_neg (by simp)]
    simp only [csN, csm_i, csm_r, Nat.reduceAdd, Nat.reduceLeDiff, wdI, wdR, wdN, clM_0, clC_0, clC_1, clC_6, clC_8, true_or, or_true, i10, i01, ob_some, ob_map, cal_v, rvs_some, rvs_none, XO_at, cal_x, m284, r284_0, r284_1, r284_2, r284_5, r284_8, r284_9, r284_12, r284_13, r284_16, r284_17, r284_20, r284_21, r284_24, r284_25, r284_26, r284_29, r284_30, r284_33, r284_36, r284_37, r284_40, r284_41, r284_42, r284_45, gM_0_16, gM_0_15, pM_0_15, p1, MK_16, MK_15, MK_w1, MK_p, bi_t, if_true, if_false, e, i_s0]
  | false =>
    by_cases hh : nx s l p = Int32.ofNat a
    · rw [if_pos ⟨rfl, hh⟩]
      rw [← hm_eq hX h1 h2] at hh
      simp only [csN, csm_i, csm_r, Nat.reduceAdd, Nat.reduceLeDiff, wdI, wdR, wdN, clM_0, clC_0, clC_1, clC_6, clC_8, true_or, or_true, i10, i01, ob_some, ob_map, cal_v, rvs_some, rvs_none, XO_at, cal_x, m284, r284_0, r284_1, r284_2, r284_5, r284_8, r284_9, r284_12, r284_13, r284_16, r284_17, r284_20, r284_21, r284_24, r284_25, r284_26, r284_29, r284_30, r284_33, r284_36, r284_37, r284_40, r284_41, r284_42, r284_45, gM_0_16, gM_0_15, pM_0_15, p0, MK_16, MK_15, MK_w0, MK_p, bi_f, if_true, if_false, e, hh, i_s]
    · rw [if_neg (fun h => hh h.2)]
      rw [← hm_eq hX h1 h2] at hh
      simp only [csN, csm_i, csm_r, Nat.reduceAdd, Nat.reduceLeDiff, wdI, wdR, wdN, clM_0, clC_0, clC_1, clC_6, clC_8, true_or, or_true, i10, i01, ob_some, ob_map, cal_v, rvs_some, rvs_none, XO_at, cal_x, m284, r284_0, r284_1, r284_2, r284_5, r284_8, r284_9, r284_12, r284_13, r284_16, r284_17, r284_20, r284_21, r284_24, r284_25, r284_26, r284_29, r284_30, r284_33, r284_36, r284_37, r284_40, r284_41, r284_42, r284_45, gM_0_16, gM_0_15, pM_0_15, p1, MK_16, MK_15, MK_w1, MK_p, bi_f, bi_t, if_true, if_false, e, hh, i_s0]
theorem c285 (hX : TX s l) (hT : TM m s l) {a1 a2 a3 : Nat} (h1 : 0 < a1 ∧ a1 < 128) (h2 : 0 < a2 ∧ a2 < 128) (h3 : 0 < a3 ∧ a3 < 128) (hq : q.2 ≤ l) : RM x 285 [.ref b, .int (Int32.ofNat a1), .int (Int32.ofNat a2), .int (Int32.ofNat a3)] (setM w b (MK m f q)) n = some (.inl none, setM w b (MK m f (nd s l (Int32.ofNat a3) (nd s l (Int32.ofNat a2) (nd s l (Int32.ofNat a1) q)))), n) := by
  have z : ∀ a : Nat, 0 < a ∧ a < 128 → ¬ Int32.ofNat a = 0 := fun a ha e => by
    rw [show (0 : Int32) = Int32.ofNat 0 from rfl, i_eq (by omega) (by omega)] at e
    omega
  have q1 := nd_le (s := s) (z a1 h1) hq
  have q2 := nd_le (s := s) (z a2 h2) q1
  have e1 := c284 (x := x) (n := n) (w := w) (b := b) (f := f) hX hT h1.1 h1.2 hq
  have e2 := c284 (x := x) (n := n) (w := w) (b := b) (f := f) hX hT h2.1 h2.2 q1
  have e3 := c284 (x := x) (n := n) (w := w) (b := b) (f := f) hX hT h3.1 h3.2 q2
  simp only [csN, csm_i, csm_r, Nat.reduceAdd, Nat.reduceLeDiff, wdI, wdR, wdN, clM_0, clC_0, clC_1, clC_6, clC_8, true_or, or_true, i10, i01, ob_some, ob_map, cal_v, rvs_some, rvs_none, XO_at, cal_x, m285, r285_0, r285_1, r285_2, r285_5, r285_6, r285_7, r285_10, r285_11, r285_12, r285_15, e1, e2, e3]
theorem dig_all : ∀ a, a < 128 → rI (Int32.ofNat a) 48 57 = decide (Int32.ofNat a ∈ D10) := by decide +kernel
theorem hm_dig (h : TX s l) : rI (hm s l p) 48 57 = decide (nx s l p ∈ D10) := by
  unfold hm nx
  by_cases hp : p < l
  · rw [if_pos hp, if_pos hp]
    obtain ⟨a, h1, h2, e⟩ := h.2.2 p hp
    rw [e]
    exact dig_all a (by omega)
  · rw [if_neg hp, if_neg hp]
    decide +kernel
theorem hm_nx (h : p < l) : hm s l p = nx s l p := by
  unfold hm nx
  rw [if_pos h, if_pos h]
def dgQ (s : NS) (l d : Nat) (q : Bool × Nat) : Bool × Nat := if (nd s l 32 q).1 = false ∧ nx s l (nd s l 32 q).2 ∈ D10 then (false, (dgF s l d (nd s l 32 q).2 0).1) else (true, (nd s l 32 q).2)
def dgV (s : NS) (l d : Nat) (q : Bool × Nat) : Int32 := if (nd s l 32 q).1 = false ∧ nx s l (nd s l 32 q).2 ∈ D10 then (dgF s l d (nd s l 32 q).2 0).2 else 0
theorem dgQ_le {d : Nat} (h : q.2 ≤ l) : (dgQ s l d q).2 ≤ l := by
  unfold dgQ
  have h1 := nd_le (s := s) (v := 32) (by decide) h
  split
  · exact (dgF_p d _ _).2.1 h1
  · exact h1
theorem l286 (hX : TX s l) (hT : TM m s l) {k9 : Nat} (hk9 : k9 < 10) (d : Nat) : ∀ p v k, p ≤ l → k + d = k9 →
    RC x 286 40 [some (.ref b), some (.int (Int32.ofNat k9)), some (.int v), some (.int (Int32.ofNat k))] [] (setM w b (MK m f (false, p))) n = some (.inl (some (.int (dgF s l d p v).2)), setM w b (MK m f (false, (dgF s l d p v).1)), n) := by
  induction d with
  | zero =>
    intro p v k hp hk
    obtain rfl : k = k9 := by omega
    rw [r286_40]
    have h0 : ¬ Int32.ofNat k < Int32.ofNat k := Int32.lt_irrefl
    simp only [csN, csm_i, csm_r, Nat.reduceAdd, Nat.reduceLeDiff, wdI, wdR, wdN, clM_0, clC_0, clC_1, clC_6, clC_8, true_or, or_true, i10, i01, ob_some, ob_map, cal_v, rvs_some, rvs_none, XO_at, cal_x, m286, r286_0, r286_1, r286_3, r286_6, r286_7, r286_8, r286_11, r286_14, r286_15, r286_18, r286_20, r286_22, r286_25, r286_28, r286_29, r286_32, r286_33, r286_36, r286_37, r286_38, r286_39, r286_41, r286_44, r286_47, r286_48, r286_49, r286_52, r286_53, r286_56, r286_58, r286_60, r286_63, r286_66, r286_68, r286_69, r286_70, r286_71, r286_74, r286_75, r286_77, r286_78, r286_79, r286_80, r286_81, r286_84, r286_85, r286_86, r286_89, r286_92, r286_95, r286_96, gM_0_16, MK_16, bi_f, if_true, h0, if_false, dgF]
  | succ d ih =>
    intro p v k hp hk
    rw [r286_40]
    have h1 : Int32.ofNat k < Int32.ofNat k9 := nlt (by omega) (by omega) (by omega)
    have e := c283 (x := x) (n := n) (w := w) (b := b) (f := f) (q := (false, p)) hT hX.1 hp
    dsimp only at e
    have e2 := hm_dig (p := p) hX
    unfold dgF
    by_cases hd : nx s l p ∈ D10
    · rw [if_pos hd]
      rw [decide_eq_true hd] at e2
      have hp' := dg_l hd
      rw [hm_nx hp'] at e e2
      have ec : 10 * v + nx s l p - 48 = v * 10 + nx s l p - 48 := by rw [Int32.mul_comm]
      simp only [csN, csm_i, csm_r, Nat.reduceAdd, Nat.reduceLeDiff, wdI, wdR, wdN, clM_0, clC_0, clC_1, clC_6, clC_8, true_or, or_true, i10, i01, ob_some, ob_map, cal_v, rvs_some, rvs_none, XO_at, cal_x, m286, r286_0, r286_1, r286_3, r286_6, r286_7, r286_8, r286_11, r286_14, r286_15, r286_18, r286_20, r286_22, r286_25, r286_28, r286_29, r286_32, r286_33, r286_36, r286_37, r286_38, r286_39, r286_41, r286_44, r286_47, r286_48, r286_49, r286_52, r286_53, r286_56, r286_58, r286_60, r286_63, r286_66, r286_68, r286_69, r286_70, r286_71, r286_74, r286_75, r286_77, r286_78, r286_79, r286_80, r286_81, r286_84, r286_85, r286_86, r286_89, r286_92, r286_95, r286_96, gM_0_16, gM_0_15, pM_0_15, MK_16, MK_15, MK_p, bi_f, if_true, h1, e, c193, e2, bi_t, if_false, i_s, ec]
      exact ih (p + 1) _ (k + 1) (by omega) (by omega)
    · rw [if_neg hd]
      rw [decide_eq_false hd] at e2
      simp only [csN, csm_i, csm_r, Nat.reduceAdd, Nat.reduceLeDiff, wdI, wdR, wdN, clM_0, clC_0, clC_1, clC_6, clC_8, true_or, or_true, i10, i01, ob_some, ob_map, cal_v, rvs_some, rvs_none, XO_at, cal_x, m286, r286_0, r286_1, r286_3, r286_6, r286_7, r286_8, r286_11, r286_14, r286_15, r286_18, r286_20, r286_22, r286_25, r286_28, r286_29, r286_32, r286_33, r286_36, r286_37, r286_38, r286_39, r286_41, r286_44, r286_47, r286_48, r286_49, r286_52, r286_53, r286_56, r286_58, r286_60, r286_63, r286_66, r286_68, r286_69, r286_70, r286_71, r286_74, r286_75, r286_77, r286_78, r286_79, r286_80, r286_81, r286_84, r286_85, r286_86, r286_89, r286_92, r286_95, r286_96, gM_0_16, MK_16, bi_f, if_true, h1, e, c193, e2, if_false]
theorem c286 (hX : TX s l) (hT : TM m s l) {d : Nat} (hd : d < 10) (hq : q.2 ≤ l) : RM x 286 [.ref b, .int (Int32.ofNat d)] (setM w b (MK m f q)) n = some (.inl (some (.int (dgV s l d q))), setM w b (MK m f (dgQ s l d q)), n) := by
  have e := c284 (x := x) (n := n) (w := w) (b := b) (f := f) (a := 32) hX hT (by omega) (by omega) hq
  rw [show Int32.ofNat 32 = 32 from rfl] at e
  have h1 := nd_le (s := s) (v := 32) (by decide) hq
  have k1 : (1 : Int32) = 0 ∨ (1 : Int32) = 1 := Or.inr rfl
  have k0 : (0 : Int32) = 0 ∨ (0 : Int32) = 1 := Or.inl rfl
  have p1 : ∀ s : NS, pfd (setM w b s) 7 16 b (.int 1) = some (setM w b (us s 20 16 1)) := fun s => pM_0_16 k1
  have p0 : ∀ s : NS, pfd (setM w b s) 7 16 b (.int 0) = some (setM w b (us s 20 16 0)) := fun s => pM_0_16 k0
  unfold dgV dgQ
  obtain ⟨q1, hq1⟩ : ∃ q1, q1 = nd s l 32 q := ⟨_, rfl⟩
  rw [← hq1] at e h1 ⊢
  obtain ⟨c, p⟩ := q1
  dsimp only at h1 ⊢
  have e2 := c283 (x := x) (n := n) (w := w) (b := b) (f := f) (q := (c, p)) hT hX.1 h1
  dsimp only at e2
  have e3 := hm_dig (p := p) hX
  cases c with
  | true =>
    rw [if_neg (by simp), if_neg (by simp)]
    simp only [csN, csm_i, csm_r, Nat.reduceAdd, Nat.reduceLeDiff, wdI, wdR, wdN, clM_0, clC_0, clC_1, clC_6, clC_8, true_or, or_true, i10, i01, ob_some, ob_map, cal_v, rvs_some, rvs_none, XO_at, cal_x, m286, r286_0, r286_1, r286_3, r286_6, r286_7, r286_8, r286_11, r286_14, r286_15, r286_18, r286_20, r286_22, r286_25, r286_28, r286_29, r286_32, r286_33, r286_36, r286_37, r286_38, r286_39, r286_41, r286_44, r286_47, r286_48, r286_49, r286_52, r286_53, r286_56, r286_58, r286_60, r286_63, r286_66, r286_68, r286_69, r286_70, r286_71, r286_74, r286_75, r286_77, r286_78, r286_79, r286_80, r286_81, r286_84, r286_85, r286_86, r286_89, r286_92, r286_95, r286_96, e, gM_0_16, MK_16, bi_t, if_false, p1, MK_w1]
    rw [r286_40]
    simp only [csN, csm_i, csm_r, Nat.reduceAdd, Nat.reduceLeDiff, wdI, wdR, wdN, clM_0, clC_0, clC_1, clC_6, clC_8, true_or, or_true, i10, i01, ob_some, ob_map, cal_v, rvs_some, rvs_none, XO_at, cal_x, m286, r286_0, r286_1, r286_3, r286_6, r286_7, r286_8, r286_11, r286_14, r286_15, r286_18, r286_20, r286_22, r286_25, r286_28, r286_29, r286_32, r286_33, r286_36, r286_37, r286_38, r286_39, r286_41, r286_44, r286_47, r286_48, r286_49, r286_52, r286_53, r286_56, r286_58, r286_60, r286_63, r286_66, r286_68, r286_69, r286_70, r286_71, r286_74, r286_75, r286_77, r286_78, r286_79, r286_80, r286_81, r286_84, r286_85, r286_86, r286_89, r286_92, r286_95, r286_96, gM_0_16, MK_16, bi_t, if_false]
  | false =>
    by_cases hdg : nx s l p ∈ D10
    · rw [decide_eq_true hdg] at e3
      rw [if_pos ⟨rfl, hdg⟩, if_pos ⟨rfl, hdg⟩]
      have hl := l286 (x := x) (n := n) (w := w) (b := b) (f := f) hX hT hd d p 0 0 h1 (by omega)
      rw [← hl]
      simp only [csN, csm_i, csm_r, Nat.reduceAdd, Nat.reduceLeDiff, wdI, wdR, wdN, clM_0, clC_0, clC_1, clC_6, clC_8, true_or, or_true, i10, i01, ob_some, ob_map, cal_v, rvs_some, rvs_none, XO_at, cal_x, m286, r286_0, r286_1, r286_3, r286_6, r286_7, r286_8, r286_11, r286_14, r286_15, r286_18, r286_20, r286_22, r286_25, r286_28, r286_29, r286_32, r286_33, r286_36, r286_37, r286_38, r286_39, r286_41, r286_44, r286_47, r286_48, r286_49, r286_52, r286_53, r286_56, r286_58, r286_60, r286_63, r286_66, r286_68, r286_69, r286_70, r286_71, r286_74, r286_75, r286_77, r286_78, r286_79, r286_80, r286_81, r286_84, r286_85, r286_86, r286_89, r286_92, r286_95, r286_96, e, gM_0_16, MK_16, bi_f, if_true, e2, c193, e3, bi_t, if_false, p0, MK_w0]
      rfl
    · rw [decide_eq_false hdg] at e3
      rw [if_neg (fun h => hdg h.2), if_neg (fun h => hdg h.2)]
      simp only [csN, csm_i, csm_r, Nat.reduceAdd, Nat.reduceLeDiff, wdI, wdR, wdN, clM_0, clC_0, clC_1, clC_6, clC_8, true_or, or_true, i10, i01, ob_some, ob_map, cal_v, rvs_some, rvs_none, XO_at, cal_x, m286, r286_0, r286_1, r286_3, r286_6, r286_7, r286_8, r286_11, r286_14, r286_15, r286_18, r286_20, r286_22, r286_25, r286_28, r286_29, r286_32, r286_33, r286_36, r286_37, r286_38, r286_39, r286_41, r286_44, r286_47, r286_48, r286_49, r286_52, r286_53, r286_56, r286_58, r286_60, r286_63, r286_66, r286_68, r286_69, r286_70, r286_71, r286_74, r286_75, r286_77, r286_78, r286_79, r286_80, r286_81, r286_84, r286_85, r286_86, r286_89, r286_92, r286_95, r286_96, e, gM_0_16, MK_16, bi_f, if_true, e2, c193, e3, if_false, p1, MK_w1]
      rw [r286_40]
      simp only [csN, csm_i, csm_r, Nat.reduceAdd, Nat.reduceLeDiff, wdI, wdR, wdN, clM_0, clC_0, clC_1, clC_6, clC_8, true_or, or_true, i10, i01, ob_some, ob_map, cal_v, rvs_some, rvs_none, XO_at, cal_x, m286, r286_0, r286_1, r286_3, r286_6, r286_7, r286_8, r286_11, r286_14, r286_15, r286_18, r286_20, r286_22, r286_25, r286_28, r286_29, r286_32, r286_33, r286_36, r286_37, r286_38, r286_39, r286_41, r286_44, r286_47, r286_48, r286_49, r286_52, r286_53, r286_56, r286_58, r286_60, r286_63, r286_66, r286_68, r286_69, r286_70, r286_71, r286_74, r286_75, r286_77, r286_78, r286_79, r286_80, r286_81, r286_84, r286_85, r286_86, r286_89, r286_92, r286_95, r286_96, gM_0_16, MK_16, bi_t, if_false]
end MPS
