/-! THE SCRIPT of the class: what its parts read -/
section SCP
set_option maxRecDepth 20000
variable {x : SX} {n b c p l : Nat} {w : PW} {s : NS} {as : List Int32} {v a : Int32}
def ag (f : Nat → Int32) (k : Nat) (as : List Int32) : Nat → Int32 := fun i => if k ≤ i ∧ i < k + as.length then as.getD (i - k) 0 else f i
/-- the script where it reads: at p, with the arguments as of command c -/
def SP (s : NS) (c p : Nat) (as : List Int32) : NS := us (us (ua s 3 (ag (s 3) (3 * c) as)) 20 5 (Int32.ofNat p)) 20 6 (Int32.ofNat as.length)
theorem clS_0 : clo (setS w b s) b = some 5 := clo_of setS_0
theorem SP_1 : SP s c p as 20 1 = s 20 1 := by
  unfold SP
  rw [us_at, if_pos rfl, if_neg (by decide), us_at, if_pos rfl, if_neg (by decide), ua_ne (by decide)]
theorem SP_4 : SP s c p as 20 4 = s 20 4 := by
  unfold SP
  rw [us_at, if_pos rfl, if_neg (by decide), us_at, if_pos rfl, if_neg (by decide), ua_ne (by decide)]
theorem SP_5 : SP s c p as 20 5 = Int32.ofNat p := by
  unfold SP
  rw [us_at, if_pos rfl, if_neg (by decide), us_at, if_pos rfl, if_pos rfl]
theorem SP_6 : SP s c p as 20 6 = Int32.ofNat as.length := by
  unfold SP
  rw [us_at, if_pos rfl, if_pos rfl]
theorem SP_t : SP s c p as 1 = s 1 := by
  unfold SP
  rw [us_ne (by decide), us_ne (by decide), ua_ne (by decide)]
theorem SP_o {r j : Nat} (h3 : ¬ r = 3) (h : ¬ (r = 20 ∧ (j = 5 ∨ j = 6))) : SP s c p as r j = s r j := by
  unfold SP
  rw [us_at]
  by_cases hr : r = 20
  · rw [if_pos hr, if_neg (fun e => h ⟨hr, Or.inr e⟩), us_at, if_pos rfl, if_neg (fun e => h ⟨hr, Or.inl e⟩), ua_ne (by decide), hr]
  · rw [if_neg hr, us_ne hr, ua_ne h3]
theorem SP_3 {j : Nat} : SP s c p as 3 j = ag (s 3) (3 * c) as j := by
  unfold SP
  rw [us_ne (by decide), us_ne (by decide), ua_same]
theorem SP_p {q : Nat} : us (SP s c p as) 20 5 (Int32.ofNat q) = SP s c q as := by
  funext r j
  unfold SP
  by_cases hr : r = 20
  · subst hr
    simp only [us_at, if_true]
    by_cases h5 : j = 5
    · simp [h5]
    · simp [h5]
  · simp only [us_at, hr, if_false]
theorem ag_s : upd (ag (s 3) (3 * c) as) (3 * c + as.length) a = ag (s 3) (3 * c) (as ++ [a]) := by
  funext i
  rw [upd_at]
  unfold ag
  rw [List.length_append, List.length_singleton]
  by_cases hi : i = 3 * c + as.length
  · rw [if_pos hi, if_pos (by omega), hi, List.getD_eq_getElem?_getD, List.getElem?_append_right (by omega)]
    rw [show 3 * c + as.length - 3 * c - as.length = 0 by omega]
    rfl
  · rw [if_neg hi]
    by_cases h2 : 3 * c ≤ i ∧ i < 3 * c + as.length
    · rw [if_pos h2, if_pos (by omega), List.getD_eq_getElem?_getD, List.getD_eq_getElem?_getD, List.getElem?_append_left (by omega)]
    · rw [if_neg h2, if_neg (by omega)]
theorem SP_a : us (us (SP s c p as) 3 (3 * c + as.length) a) 20 6 (Int32.ofNat (as.length + 1)) = SP s c p (as ++ [a]) := by
  funext r j
  by_cases h3 : r = 3
  · subst h3
    rw [us_ne (by decide), us_at, if_pos rfl, SP_3, SP_3]
    have := congrFun (ag_s (s := s) (c := c) (as := as) (a := a)) j
    rw [upd_at] at this
    exact this
  · rw [us_at]
    by_cases hr : r = 20
    · subst hr
      rw [if_pos rfl]
      by_cases h6 : j = 6
      · rw [if_pos h6, h6, SP_6, List.length_append]
        rfl
      · rw [if_neg h6, us_ne (by decide)]
        by_cases h5 : j = 5
        · rw [h5, SP_5, SP_5]
        · rw [SP_o (by decide) (by omega), SP_o (by decide) (by omega)]
    · rw [if_neg hr, us_ne h3, SP_o h3 (by omega), SP_o h3 (by omega)]
/-- the script's text: l characters -/
def TX (s : NS) (l : Nat) : Prop := l ≤ 60 ∧ s 20 1 = Int32.ofNat l ∧ ∀ j, j < l → ∃ a : Nat, 32 ≤ a ∧ a < 127 ∧ s 1 j = Int32.ofNat a
def nx (s : NS) (l p : Nat) : Int32 := if p < l then s 1 p else 0
theorem nx_ch (h : TX s l) : CH (nx s l p) := by
  unfold nx
  split
  · next hp =>
    obtain ⟨a, h1, h2, e⟩ := h.2.2 p hp
    exact ⟨a, by omega, e⟩
  · exact ch_0
theorem nx_l (h : ¬ nx s l p = 0) : p < l := by
  by_cases hp : p < l
  · exact hp
  · exact absurd (if_neg hp) h
theorem c190 (h : TX s l) (hp : p ≤ l) : RM x 190 [.ref b] (setS w b (SP s c p as)) n = some (.inl (some (.int (nx s l p))), setS w b (SP s c p as), n) := by
  have h6 := h.1
  have e1 : SP s c p as 20 1 = Int32.ofNat l := SP_1.trans h.2.1
  have e5 : SP s c p as 20 5 = Int32.ofNat p := SP_5
  have n0 : ¬ Int32.ofNat p < 0 := by
    have := i_lt (a := p) (b := 0) (by omega) (by omega)
    rw [show (0 : Int32) = Int32.ofNat 0 from rfl, this]
    omega
  obtain ⟨-, -, k3, -⟩ := ch_f (nx_ch (p := p) h)
  by_cases hl : p < l
  · have n1 : Int32.ofNat p < Int32.ofNat l := nlt (by omega) (by omega) hl
    have n2 : Int32.ofNat p < 60 := nlt (N := 60) (by omega) (by omega) (by omega)
    have k : fin 60 (Int32.ofNat p) = some p := fin_nat (by omega) (by omega)
    have e : s 1 p = nx s l p := (if_pos hl).symm
    simp only [csN, csm_i, csm_r, Nat.reduceAdd, Nat.reduceLeDiff, wdI, wdR, wdN, clM_0, clC_0, clC_1, clC_6, clC_8, true_or, or_true, i10, i01, ob_some, ob_map, cal_v, rvs_some, rvs_none, XO_at, cal_x, m190, r190_0, r190_1, r190_4, r190_7, r190_8, r190_11, r190_12, r190_15, r190_18, r190_19, r190_22, r190_24, r190_27, r190_28, r190_31, r190_32, r190_35, r190_36, r190_39, gS_0_0, gS_0_1, gS_0_5, lS_1, e1, e5, n0, n1, n2, k, Option.map_some, SP_t, e, if_true, if_false]
    exact r190_40 k3
  · have n1 : ¬ Int32.ofNat p < Int32.ofNat l := by rw [i_lt (by omega) (by omega)]; exact hl
    have e : nx s l p = 0 := if_neg hl
    rw [e] at k3 ⊢
    simp only [csN, csm_i, csm_r, Nat.reduceAdd, Nat.reduceLeDiff, wdI, wdR, wdN, clM_0, clC_0, clC_1, clC_6, clC_8, true_or, or_true, i10, i01, ob_some, ob_map, cal_v, rvs_some, rvs_none, XO_at, cal_x, m190, r190_0, r190_1, r190_4, r190_7, r190_8, r190_11, r190_12, r190_15, r190_18, r190_19, r190_22, r190_24, r190_27, r190_28, r190_31, r190_32, r190_35, r190_36, r190_39, gS_0_1, gS_0_5, e1, e5, n0, n1, if_false]
    exact r190_40 k3
theorem i_s {p : Nat} : Int32.ofNat p + 1 = Int32.ofNat (p + 1) := i_add (b := 1)
theorem c189_1 (h : TX s l) (hp : p ≤ l) (hv : nx s l p = v) : RM x 189 [.ref b, .int v] (setS w b (SP s c p as)) n = some (.inl (some (.int 1)), setS w b (SP s c (p + 1) as), n) := by
  have e := c190 (x := x) (n := n) (w := w) (b := b) (c := c) (as := as) h hp
  simp only [csN, csm_i, csm_r, Nat.reduceAdd, Nat.reduceLeDiff, wdI, wdR, wdN, clM_0, clC_0, clC_1, clC_6, clC_8, true_or, or_true, i10, i01, ob_some, ob_map, cal_v, rvs_some, rvs_none, XO_at, cal_x, m189, r189_0, r189_1, r189_4, r189_5, r189_8, r189_9, r189_10, r189_11, r189_12, r189_15, r189_16, r189_17, r189_20, r189_21, clS_0, e, hv, gS_0_5, pS_0_5, SP_5, SP_p, i_s, if_true]
theorem c189_0 (h : TX s l) (hp : p ≤ l) (hv : ¬ nx s l p = v) : RM x 189 [.ref b, .int v] (setS w b (SP s c p as)) n = some (.inl (some (.int 0)), setS w b (SP s c p as), n) := by
  have e := c190 (x := x) (n := n) (w := w) (b := b) (c := c) (as := as) h hp
  simp only [csN, csm_i, csm_r, Nat.reduceAdd, Nat.reduceLeDiff, wdI, wdR, wdN, clM_0, clC_0, clC_1, clC_6, clC_8, true_or, or_true, i10, i01, ob_some, ob_map, cal_v, rvs_some, rvs_none, XO_at, cal_x, m189, r189_0, r189_1, r189_4, r189_5, r189_8, r189_9, r189_10, r189_11, r189_12, r189_15, r189_16, r189_17, r189_20, r189_21, clS_0, e, hv, if_false]
theorem c184 (h4 : s 20 4 = Int32.ofNat c) (hc : c < 15) (ha : as.length < 3) : RM x 184 [.ref b, .int a] (setS w b (SP s c p as)) n = some (.inl (some (.int 1)), setS w b (SP s c p (as ++ [a])), n) := by
  have e4 : SP s c p as 20 4 = Int32.ofNat c := SP_4.trans h4
  have e6 : SP s c p as 20 6 = Int32.ofNat as.length := SP_6
  have e1 : Int32.ofNat c * 3 + Int32.ofNat as.length = Int32.ofNat (3 * c + as.length) := by rw [show (3 : Int32) = Int32.ofNat 3 from rfl, i_mul, i_add, Nat.mul_comm]
  have n0 : ¬ Int32.ofNat (3 * c + as.length) < 0 := by
    have := i_lt (a := 3 * c + as.length) (b := 0) (by omega) (by omega)
    rw [show (0 : Int32) = Int32.ofNat 0 from rfl, this]
    omega
  have n1 : Int32.ofNat (3 * c + as.length) < 45 := nlt (N := 45) (by omega) (by omega) (by omega)
  have k : fin 45 (Int32.ofNat (3 * c + as.length)) = some (3 * c + as.length) := fin_nat (by omega) (by omega)
  have e7 : us (SP s c p as) 3 (3 * c + as.length) a 20 6 = Int32.ofNat as.length := by rw [us_ne (by decide)]; exact e6
  simp only [csN, csm_i, csm_r, Nat.reduceAdd, Nat.reduceLeDiff, wdI, wdR, wdN, clM_0, clC_0, clC_1, clC_6, clC_8, true_or, or_true, i10, i01, ob_some, ob_map, cal_v, rvs_some, rvs_none, XO_at, cal_x, m184, r184_0, r184_1, r184_4, r184_5, r184_6, r184_7, r184_10, r184_11, r184_12, r184_13, r184_16, r184_17, r184_18, r184_21, r184_22, r184_25, r184_26, r184_29, r184_30, r184_31, r184_32, r184_33, r184_34, r184_37, r184_38, r184_39, r184_42, r184_43, gS_0_3, gS_0_4, gS_0_6, pS_0_6, nS_3, sS_3, e4, e6, e1, n0, n1, k, e7, i_s, SP_a, Option.map_some, if_true, if_false]
theorem c188_1 {q : Nat} {bs : List Int32} (hS : STR x q bs) (hl : 0 < bs.length) (h : TX s l) (hp : p ≤ l) (h4 : s 20 4 = Int32.ofNat c) (hc : c < 15) (ha : as.length < 3) (hm : nx s l p ∈ bs) : RM x 188 [.ref b, .ref q] (setS w b (SP s c p as)) n = some (.inl (some (.int 1)), setS w b (SP s c (p + 1) (as ++ [nx s l p])), n) := by
  have e := c190 (x := x) (n := n) (w := w) (b := b) (c := c) (as := as) h hp
  obtain ⟨r, e2, hr⟩ := c15 (n := n) (w := setS w b (SP s c p as)) hS hl (nx_ch (p := p) h)
  have hr' : ¬ r < 0 := fun h => hr.mp h hm
  have hs := hS.1
  have e3 := c184 (x := x) (n := n) (w := w) (b := b) (p := p + 1) (a := nx s l p) h4 hc ha
  simp only [csN, csm_i, csm_r, Nat.reduceAdd, Nat.reduceLeDiff, wdI, wdR, wdN, clM_0, clC_0, clC_1, clC_6, clC_8, true_or, or_true, i10, i01, ob_some, ob_map, cal_v, rvs_some, rvs_none, XO_at, cal_x, m188, r188_0, r188_1, r188_4, r188_5, r188_6, r188_7, r188_10, r188_13, r188_14, r188_15, r188_16, r188_17, r188_20, r188_21, r188_22, r188_25, r188_26, r188_27, r188_30, clS_0, e, e2, hr', hs, gS_0_5, pS_0_5, SP_5, SP_p, i_s, e3, if_false]
theorem c188_0 {q : Nat} {bs : List Int32} (hS : STR x q bs) (hl : 0 < bs.length) (h : TX s l) (hp : p ≤ l) (hm : ¬ nx s l p ∈ bs) : RM x 188 [.ref b, .ref q] (setS w b (SP s c p as)) n = some (.inl (some (.int 0)), setS w b (SP s c p as), n) := by
  have e := c190 (x := x) (n := n) (w := w) (b := b) (c := c) (as := as) h hp
  obtain ⟨r, e2, hr⟩ := c15 (n := n) (w := setS w b (SP s c p as)) hS hl (nx_ch (p := p) h)
  have hr' : r < 0 := hr.mpr hm
  have hs := hS.1
  simp only [csN, csm_i, csm_r, Nat.reduceAdd, Nat.reduceLeDiff, wdI, wdR, wdN, clM_0, clC_0, clC_1, clC_6, clC_8, true_or, or_true, i10, i01, ob_some, ob_map, cal_v, rvs_some, rvs_none, XO_at, cal_x, m188, r188_0, r188_1, r188_4, r188_5, r188_6, r188_7, r188_10, r188_13, r188_14, r188_15, r188_16, r188_17, r188_20, r188_21, r188_22, r188_25, r188_26, r188_27, r188_30, clS_0, e, e2, hr', hs, if_true]
def D10 : List Int32 := [48, 49, 50, 51, 52, 53, 54, 55, 56, 57]
def dgF (s : NS) (l : Nat) : Nat → Nat → Int32 → Nat × Int32
  | 0, p, v => (p, v)
  | d + 1, p, v => if nx s l p ∈ D10 then dgF s l d (p + 1) (v * 10 + nx s l p - 48) else (p, v)
theorem dg_l (h : nx s l p ∈ D10) : p < l := by
  refine nx_l (s := s) (fun e => ?_)
  rw [e] at h
  revert h
  decide
theorem dgF_p (d : Nat) : ∀ p v, p ≤ (dgF s l d p v).1 ∧ (p ≤ l → (dgF s l d p v).1 ≤ l) ∧ (dgF s l d p v).1 ≤ p + d := by
  induction d with
  | zero => intro p v; exact ⟨Nat.le_refl _, fun h => h, Nat.le_refl _⟩
  | succ d ih =>
    intro p v
    unfold dgF
    split
    · next h =>
      have hp := dg_l h
      obtain ⟨h1, h2, h3⟩ := ih (p + 1) (v * 10 + nx s l p - 48)
      exact ⟨by omega, fun _ => h2 (by omega), by omega⟩
    · exact ⟨Nat.le_refl _, fun h => h, by dsimp only; omega⟩
theorem l187 (h : TX s l) {m : Nat} (hm : m < 10) (d : Nat) : ∀ p v k, p ≤ l → k + d = m →
    RC x 187 4 [some (.ref b), some (.int (Int32.ofNat m)), some (.int v), some (.int (Int32.ofNat k))] [] (setS w b (SP s c p as)) n = RC x 187 50 [some (.ref b), some (.int (Int32.ofNat m)), some (.int (dgF s l d p v).2), some (.int (Int32.ofNat (k + ((dgF s l d p v).1 - p))))] [] (setS w b (SP s c (dgF s l d p v).1 as)) n := by
  induction d with
  | zero =>
    intro p v k hp hk
    obtain rfl : k = m := by omega
    rw [r187_4]
    have h0 : ¬ Int32.ofNat k < Int32.ofNat k := Int32.lt_irrefl
    have e : k + (p - p) = k := by omega
    simp only [csN, csm_i, csm_r, Nat.reduceAdd, Nat.reduceLeDiff, wdI, wdR, wdN, clM_0, clC_0, clC_1, clC_6, clC_8, true_or, or_true, i10, i01, ob_some, ob_map, cal_v, rvs_some, rvs_none, XO_at, cal_x, m187, r187_0, r187_1, r187_2, r187_3, r187_5, r187_6, r187_9, r187_11, r187_12, r187_15, r187_18, r187_21, r187_22, r187_24, r187_25, r187_26, r187_29, r187_30, r187_32, r187_33, r187_34, r187_37, r187_38, r187_39, r187_42, r187_43, r187_44, r187_47, r187_51, r187_54, r187_55, r187_56, r187_59, r187_62, r187_63, r187_66, r187_67, h0, if_false, dgF, e]
  | succ d ih =>
    intro p v k hp hk
    rw [r187_4]
    have h1 : Int32.ofNat k < Int32.ofNat m := nlt (by omega) (by omega) (by omega)
    have e := c190 (x := x) (n := n) (w := w) (b := b) (c := c) (as := as) h hp
    obtain ⟨r, e2, hr⟩ := c15 (n := n) (w := setS w b (SP s c p as)) (S30 (x := x)) (by decide) (nx_ch (p := p) h)
    have hs := (S30 (x := x)).1
    unfold dgF
    by_cases hd : nx s l p ∈ D10
    · have hr' : ¬ r < 0 := fun h => hr.mp h hd
      rw [if_pos hd]
      have hp' := dg_l hd
      have hq := (dgF_p (s := s) (l := l) d (p + 1) (v * 10 + nx s l p - 48)).1
      have ek : k + 1 + ((dgF s l d (p + 1) (v * 10 + nx s l p - 48)).1 - (p + 1)) = k + ((dgF s l d (p + 1) (v * 10 + nx s l p - 48)).1 - p) := by omega
      simp only [csN, csm_i, csm_r, Nat.reduceAdd, Nat.reduceLeDiff, wdI, wdR, wdN, clM_0, clC_0, clC_1, clC_6, clC_8, true_or, or_true, i10, i01, ob_some, ob_map, cal_v, rvs_some, rvs_none, XO_at, cal_x, m187, r187_0, r187_1, r187_2, r187_3, r187_5, r187_6, r187_9, r187_11, r187_12, r187_15, r187_18, r187_21, r187_22, r187_24, r187_25, r187_26, r187_29, r187_30, r187_32, r187_33, r187_34, r187_37, r187_38, r187_39, r187_42, r187_43, r187_44, r187_47, r187_51, r187_54, r187_55, r187_56, r187_59, r187_62, r187_63, r187_66, r187_67, h1, if_true, clS_0, e, e2, hs, hr', if_false, gS_0_5, pS_0_5, SP_5, SP_p, i_s]
      rw [ih (p + 1) (v * 10 + nx s l p - 48) (k + 1) (by omega) (by omega), ek]
    · have hr' : r < 0 := hr.mpr hd
      rw [if_neg hd]
      have e9 : k + (p - p) = k := by omega
      simp only [csN, csm_i, csm_r, Nat.reduceAdd, Nat.reduceLeDiff, wdI, wdR, wdN, clM_0, clC_0, clC_1, clC_6, clC_8, true_or, or_true, i10, i01, ob_some, ob_map, cal_v, rvs_some, rvs_none, XO_at, cal_x, m187, r187_0, r187_1, r187_2, r187_3, r187_5, r187_6, r187_9, r187_11, r187_12, r187_15, r187_18, r187_21, r187_22, r187_24, r187_25, r187_26, r187_29, r187_30, r187_32, r187_33, r187_34, r187_37, r187_38, r187_39, r187_42, r187_43, r187_44, r187_47, r187_51, r187_54, r187_55, r187_56, r187_59, r187_62, r187_63, r187_66, r187_67, h1, if_true, clS_0, e, e2, hs, hr', e9]
def numF (s : NS) (l d p : Nat) (as : List Int32) : Bool × Nat × List Int32 := if p < (dgF s l d p 0).1 then (true, (dgF s l d p 0).1, as ++ [(dgF s l d p 0).2]) else (false, p, as)
theorem c187 (h : TX s l) {m : Nat} (hm : m < 10) (hp : p ≤ l) (h4 : s 20 4 = Int32.ofNat c) (hc : c < 15) (ha : as.length < 3) : RM x 187 [.ref b, .int (Int32.ofNat m)] (setS w b (SP s c p as)) n = some (.inl (some (.int (bi (numF s l m p as).1))), setS w b (SP s c (numF s l m p as).2.1 (numF s l m p as).2.2), n) := by
  have hl := l187 (x := x) (n := n) (w := w) (b := b) (c := c) (as := as) h hm m p 0 0 hp (by omega)
  obtain ⟨h1, h2, h3⟩ := dgF_p (s := s) (l := l) m p (Int32.ofNat 0)
  have h9 := h.1
  unfold numF
  simp only [csN, csm_i, csm_r, Nat.reduceAdd, Nat.reduceLeDiff, wdI, wdR, wdN, clM_0, clC_0, clC_1, clC_6, clC_8, true_or, or_true, i10, i01, ob_some, ob_map, cal_v, rvs_some, rvs_none, XO_at, cal_x, m187, r187_0, r187_1, r187_2, r187_3, r187_5, r187_6, r187_9, r187_11, r187_12, r187_15, r187_18, r187_21, r187_22, r187_24, r187_25, r187_26, r187_29, r187_30, r187_32, r187_33, r187_34, r187_37, r187_38, r187_39, r187_42, r187_43, r187_44, r187_47, r187_51, r187_54, r187_55, r187_56, r187_59, r187_62, r187_63, r187_66, r187_67]
  rw [show (0 : Int32) = Int32.ofNat 0 from rfl] at hl ⊢
  rw [hl, r187_50]
  by_cases hd : p < (dgF s l m p (Int32.ofNat 0)).1
  · rw [if_pos hd]
    have n1 : (0 : Int32) < Int32.ofNat (0 + ((dgF s l m p (Int32.ofNat 0)).1 - p)) := nlt (a := 0) (by omega) (by omega) (by omega)
    have e3 := c184 (x := x) (n := n) (w := w) (b := b) (p := (dgF s l m p (Int32.ofNat 0)).1) (a := (dgF s l m p (Int32.ofNat 0)).2) h4 hc ha
    simp only [csN, csm_i, csm_r, Nat.reduceAdd, Nat.reduceLeDiff, wdI, wdR, wdN, clM_0, clC_0, clC_1, clC_6, clC_8, true_or, or_true, i10, i01, ob_some, ob_map, cal_v, rvs_some, rvs_none, XO_at, cal_x, m187, r187_0, r187_1, r187_2, r187_3, r187_5, r187_6, r187_9, r187_11, r187_12, r187_15, r187_18, r187_21, r187_22, r187_24, r187_25, r187_26, r187_29, r187_30, r187_32, r187_33, r187_34, r187_37, r187_38, r187_39, r187_42, r187_43, r187_44, r187_47, r187_51, r187_54, r187_55, r187_56, r187_59, r187_62, r187_63, r187_66, r187_67, n1, if_true, clS_0, e3, if_false, bi_t]
  · rw [if_neg hd]
    have hq : (dgF s l m p (Int32.ofNat 0)).1 = p := by omega
    have n1 : ¬ (0 : Int32) < Int32.ofNat (0 + (p - p)) := by
      rw [show 0 + (p - p) = 0 by omega]
      decide
    simp only [csN, csm_i, csm_r, Nat.reduceAdd, Nat.reduceLeDiff, wdI, wdR, wdN, clM_0, clC_0, clC_1, clC_6, clC_8, true_or, or_true, i10, i01, ob_some, ob_map, cal_v, rvs_some, rvs_none, XO_at, cal_x, m187, r187_0, r187_1, r187_2, r187_3, r187_5, r187_6, r187_9, r187_11, r187_12, r187_15, r187_18, r187_21, r187_22, r187_24, r187_25, r187_26, r187_29, r187_30, r187_32, r187_33, r187_34, r187_37, r187_38, r187_39, r187_42, r187_43, r187_44, r187_47, r187_51, r187_54, r187_55, r187_56, r187_59, r187_62, r187_63, r187_66, r187_67, n1, if_false, hq, bi_f]
end SCP
