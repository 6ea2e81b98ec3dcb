/-! RENDERING: the model's letters; what both write -/
section REN
set_option maxRecDepth 20000
variable {x : SX} {n b c k q B : Nat} {w w' : PW} {m s t y : NS} {hs le lf hc : Int32} {F : Nat → Nat} {K : Nat → NS} {sc : NS} {cs : Nat → Nat} {u v : Int32} {T : Nat → Int32}
def MO (m : NS) (T : Nat → Int32) (k : Nat) : NS := us (ua m 7 T) 20 12 (Int32.ofNat k)
theorem MO_12 : MO m T k 20 12 = Int32.ofNat k := by
  unfold MO
  rw [us_at, if_pos rfl, if_pos rfl]
theorem MO_o {r : Nat} (h7 : ¬ r = 7) (h20 : ¬ r = 20) : MO m T k r = m r := by
  unfold MO
  rw [us_ne h20, ua_ne h7]
theorem MO_7 : MO m T k 7 = T := by
  unfold MO
  rw [us_ne (by decide), ua_same]
theorem MO_n {j : Nat} (h : ¬ j = 12) : MO m T k 20 j = m 20 j := by
  unfold MO
  rw [us_at, if_pos rfl, if_neg h, ua_ne (by decide)]
theorem MO_l {j : Nat} : us (MO m T k) 20 12 (Int32.ofNat j) = MO m T j := by
  funext r i
  by_cases h7 : r = 7
  · rw [h7, us_ne (by decide), MO_7, MO_7]
  · by_cases h20 : r = 20
    · rw [h20, us_at, if_pos rfl]
      by_cases h12 : i = 12
      · rw [if_pos h12, h12, MO_12]
      · rw [if_neg h12, MO_n h12, MO_n h12]
    · rw [us_ne h20, MO_o h7 h20, MO_o h7 h20]
theorem MO_c {i : Nat} : us (MO m T k) 7 i v = MO m (upd T i v) k := by
  funext r j
  by_cases h7 : r = 7
  · rw [h7, us_row, MO_7, MO_7]
  · rw [us_ne h7]
    by_cases h20 : r = 20
    · rw [h20]
      by_cases h12 : j = 12
      · rw [h12, MO_12, MO_12]
      · rw [MO_n h12, MO_n h12]
    · rw [MO_o h7 h20, MO_o h7 h20]
theorem MO_0 : us m 20 12 0 = MO m (m 7) 0 := by
  unfold MO
  have : ua m 7 (m 7) = m := by
    funext a
    unfold ua
    split
    · next h => rw [h]
    · rfl
  rw [this]
  rfl
theorem c277 (hk : k < 100) (hv : CH v) : RM x 277 [.ref b, .int v] (setM w b (MO m T k)) n = some (.inl none, setM w b (MO m (upd T k v) (k + 1)), n) := by
  obtain ⟨-, q2, -⟩ := ch_f hv
  have hn : vp_nar .char v = v := by
    obtain ⟨a, ha, rfl⟩ := hv
    exact nar_all a ha
  have k1 : fin 100 (Int32.ofNat k) = some k := fin_nat hk (by omega)
  simp only [csN, csm_i, csm_r, Nat.reduceAdd, Nat.reduceLeDiff, wdI, wdR, wdN, clM_0, clC_0, clC_1, clC_6, clC_8, true_or, or_true, i10, i01, ob_some, ob_map, cal_v, rvs_some, rvs_none, XO_at, cal_x, m277, r277_0, r277_1, r277_4, r277_5, r277_8, r277_9, r277_10, r277_11, r277_12, r277_13, r277_16, r277_17, r277_18, r277_21, gM_0_11, gM_0_12, pM_0_12, sM_7, MO_12, q2, hn, k1, Option.map_some, MO_c, i_s, MO_l]
theorem dv10_all : ∀ a, a < 100 → (decide ((9 : Int32) < Int32.ofNat a) = !decide (a < 10) ∧ (48 : Int32) + Int32.ofNat a / 10 = Int32.ofNat (48 + a / 10) ∧ (48 : Int32) + (Int32.ofNat a - Int32.ofNat a / 10 * 10) = Int32.ofNat (48 + a % 10)) := by decide +kernel
theorem c278 {a : Nat} (ha : a < 100) (hk : k + 2 < 100) : RM x 278 [.ref b, .int (Int32.ofNat a)] (setM w b (MO m T k)) n = some (.inl none, setM w b (MO m (apI T k a) (k + szI a)), n) := by
  obtain ⟨d1, d2, d3⟩ := dv10_all a ha
  have z10 : ¬ (10 : Int32) = 0 := by decide
  have c7 : CH (Int32.ofNat (48 + a % 10)) := ⟨48 + a % 10, by omega, rfl⟩
  have c8 : CH (Int32.ofNat (48 + a / 10)) := ⟨48 + a / 10, by omega, rfl⟩
  unfold apI szI
  by_cases h : a < 10
  · have d1' : ¬ (9 : Int32) < Int32.ofNat a := of_decide_eq_false (d1.trans (by rw [decide_eq_true h]; rfl))
    have e := c277 (x := x) (n := n) (b := b) (w := w) (m := m) (T := T) (k := k) (by omega) c7
    rw [if_pos h, if_pos h]
    simp only [csN, csm_i, csm_r, Nat.reduceAdd, Nat.reduceLeDiff, wdI, wdR, wdN, clM_0, clC_0, clC_1, clC_6, clC_8, true_or, or_true, i10, i01, ob_some, ob_map, cal_v, rvs_some, rvs_none, XO_at, cal_x, m278, r278_0, r278_1, r278_3, r278_6, r278_7, r278_9, r278_10, r278_12, r278_13, r278_14, r278_17, r278_18, r278_20, r278_21, r278_23, r278_24, r278_25, r278_28, d1', if_false, not_false_eq_true, z10, d3, e]
  · have d1' : (9 : Int32) < Int32.ofNat a := of_decide_eq_true (d1.trans (by rw [decide_eq_false h]; rfl))
    have e := c277 (x := x) (n := n) (b := b) (w := w) (m := m) (T := T) (k := k) (by omega) c8
    have e2 := c277 (x := x) (n := n) (b := b) (w := w) (m := m) (T := upd T k (Int32.ofNat (48 + a / 10))) (k := k + 1) (by omega) c7
    rw [if_neg h, if_neg h]
    simp only [csN, csm_i, csm_r, Nat.reduceAdd, Nat.reduceLeDiff, wdI, wdR, wdN, clM_0, clC_0, clC_1, clC_6, clC_8, true_or, or_true, i10, i01, ob_some, ob_map, cal_v, rvs_some, rvs_none, XO_at, cal_x, m278, r278_0, r278_1, r278_3, r278_6, r278_7, r278_9, r278_10, r278_12, r278_13, r278_14, r278_17, r278_18, r278_20, r278_21, r278_23, r278_24, r278_25, r278_28, d1', if_true, not_false_eq_true, z10, d2, d3, e, e2]
/-- texts with their lengths -/
abbrev TKX : Type := (Nat → Int32) × Nat
def aC (v : Int32) (q : TKX) : TKX := (upd q.1 q.2 v, q.2 + 1)
def aI (a : Nat) (q : TKX) : TKX := (apI q.1 q.2 a, q.2 + szI a)
def strs : Nat → TKX → TKX
  | 0, q => q
  | j + 1, q => strs j (aC 42 q)
def rcF (wa ct : Nat → Nat) : Nat → Nat → TKX → TKX
  | 0, _, q => q
  | d + 1, r, q => rcF wa ct d (r + 1) (strs (ct r) (aI (wa r) (if 0 < r then aC 124 q else q)))
def sumc (ct : Nat → Nat) : Nat → Nat
  | 0 => 0
  | r + 1 => sumc ct r + ct r
theorem strs_2 (j : Nat) : ∀ q : TKX, (strs j q).2 = q.2 + j := by
  induction j with
  | zero => intro q; rfl
  | succ j ih =>
    intro q
    unfold strs
    rw [ih]
    unfold aC
    dsimp only
    omega
theorem szI_2 {a : Nat} : szI a ≤ 2 := by
  unfold szI
  split <;> omega
theorem CH42 : CH 42 := ⟨42, by omega, rfl⟩
theorem CH124 : CH 124 := ⟨124, by omega, rfl⟩
theorem CH126 : CH 126 := ⟨126, by omega, rfl⟩
theorem CH58 : CH 58 := ⟨58, by omega, rfl⟩
theorem CH44 : CH 44 := ⟨44, by omega, rfl⟩
theorem CHlt : CH (ltO v) := by
  unfold ltO
  split
  · exact ⟨77, by omega, rfl⟩
  · split
    · exact ⟨109, by omega, rfl⟩
    · split
      · exact ⟨100, by omega, rfl⟩
      · exact ⟨97, by omega, rfl⟩
/-- the number of barges in all reaches -/
theorem sum_ct {s : NS} (c : Nat) (N : Nat) (hN : N < 2147483648) : sumc (fun r => ctS s c (Int32.ofNat r)) N ≤ c := by
  have key : ∀ c, ∀ N, N < 2147483648 → sumc (fun r => ctS s (c + 1) (Int32.ofNat r)) N ≤ sumc (fun r => ctS s c (Int32.ofNat r)) N + (if ∃ r, r < N ∧ s 12 c = Int32.ofNat r then 1 else 0) := by
    intro c N
    induction N with
    | zero => intro _; simp [sumc]
    | succ N ih =>
      intro hN
      have h1 := ih (by omega)
      unfold sumc
      have e : ctS s (c + 1) (Int32.ofNat N) = cond (decide (s 12 c = Int32.ofNat N)) (ctS s c (Int32.ofNat N) + 1) (ctS s c (Int32.ofNat N)) := rfl
      by_cases h : s 12 c = Int32.ofNat N
      · have hn : ¬ ∃ r, r < N ∧ s 12 c = Int32.ofNat r := fun ⟨r, hr, e⟩ => by
          rw [h] at e
          have := i_inj (by omega) (by omega) e
          omega
        rw [if_neg hn] at h1
        rw [if_pos ⟨N, by omega, h⟩, e, decide_eq_true h, cond_true]
        omega
      · rw [e, decide_eq_false h, cond_false]
        have : (if ∃ r, r < N + 1 ∧ s 12 c = Int32.ofNat r then 1 else 0) = (if ∃ r, r < N ∧ s 12 c = Int32.ofNat r then 1 else 0) := by
          by_cases h2 : ∃ r, r < N ∧ s 12 c = Int32.ofNat r
          · obtain ⟨r, hr, e⟩ := h2
            rw [if_pos ⟨r, by omega, e⟩, if_pos ⟨r, hr, e⟩]
          · rw [if_neg h2, if_neg (fun ⟨r, hr, e⟩ => h2 ⟨r, by
              by_cases hrN : r = N
              · exact absurd (hrN ▸ e) h
              · omega, e⟩)]
        omega
  induction c with
  | zero =>
    have : ∀ N, sumc (fun r => ctS s 0 (Int32.ofNat r)) N = 0 := by
      intro N
      induction N with
      | zero => rfl
      | succ N ih => unfold sumc; rw [ih]; rfl
    rw [this]
    omega
  | succ c ih =>
    have := key c N hN
    have h2 : (if ∃ r, r < N ∧ s 12 c = Int32.ofNat r then 1 else 0) ≤ 1 := by split <;> omega
    omega
/-- how many places the water of a reach tells -/
def waF (s : NS) (r : Nat) : Nat := (s 7 r).toNatClampNeg
theorem waF_ok (hJ : JC s c) {r : Nat} (hr : r < 6) : waF s r < 91 ∧ s 7 r = Int32.ofNat (waF s r) := by
  obtain ⟨a, ha, e⟩ := hJ.1 r hr
  unfold waF
  rw [e, i32_cl (by omega)]
  exact ⟨ha, rfl⟩
/-! the model writes the canal -/
theorem l280s {r N : Nat} (e212 : ∀ T k, RM x 212 [.ref b, .int (Int32.ofNat r)] (setM w b (MO m T k)) n = some (.inl (some (.int (Int32.ofNat N))), setM w b (MO m T k), n)) (hN : N ≤ 8) (d : Nat) : ∀ j q, j + d = N → q.2 + d < 100 →
    RC x 280 38 [some (.ref b), some (.int (Int32.ofNat r)), some (.int (Int32.ofNat j))] [] (setM w b (MO m q.1 q.2)) n = RC x 280 59 [some (.ref b), some (.int (Int32.ofNat r)), some (.int (Int32.ofNat N))] [] (setM w b (MO m (strs d q).1 (strs d q).2)) n := by
  induction d with
  | zero =>
    intro j q hj hq
    obtain rfl : j = N := by omega
    have h0 : ¬ Int32.ofNat j < Int32.ofNat j := Int32.lt_irrefl
    conv => lhs; rw [r280_38]
    simp only [csN, csm_i, csm_r, Nat.reduceAdd, Nat.reduceLeDiff, wdI, wdR, wdN, clM_0, clC_0, clC_1, clC_6, clC_8, true_or, or_true, i10, i01, ob_some, ob_map, cal_v, rvs_some, rvs_none, XO_at, cal_x, m280, r280_0, r280_1, r280_2, r280_5, r280_6, r280_7, r280_8, r280_10, r280_13, r280_14, r280_17, r280_18, r280_20, r280_23, r280_24, r280_25, r280_28, r280_30, r280_31, r280_32, r280_33, r280_36, r280_37, r280_39, r280_40, r280_41, r280_44, r280_47, r280_48, r280_50, r280_53, r280_56, r280_62, r280_65, r280_66, r280_67, r280_70, r280_73, e212, h0, if_false]
    rfl
  | succ d ih =>
    intro j q hj hq
    have h1 : Int32.ofNat j < Int32.ofNat N := nlt (by omega) (by omega) (by omega)
    have e := c277 (x := x) (n := n) (b := b) (w := w) (m := m) (T := q.1) (k := q.2) (by omega) CH42
    have hh := ih (j + 1) (aC 42 q) (by omega) (by unfold aC; dsimp only; omega)
    conv => lhs; rw [r280_38]
    simp only [csN, csm_i, csm_r, Nat.reduceAdd, Nat.reduceLeDiff, wdI, wdR, wdN, clM_0, clC_0, clC_1, clC_6, clC_8, true_or, or_true, i10, i01, ob_some, ob_map, cal_v, rvs_some, rvs_none, XO_at, cal_x, m280, r280_0, r280_1, r280_2, r280_5, r280_6, r280_7, r280_8, r280_10, r280_13, r280_14, r280_17, r280_18, r280_20, r280_23, r280_24, r280_25, r280_28, r280_30, r280_31, r280_32, r280_33, r280_36, r280_37, r280_39, r280_40, r280_41, r280_44, r280_47, r280_48, r280_50, r280_53, r280_56, r280_62, r280_65, r280_66, r280_67, r280_70, r280_73, e212, h1, if_true, e, i_s]
    exact hh
theorem l280 (hR : RS s (m 1)) (hJ : JC s c) (h8 : c ≤ 8) (h3 : m 1 3 = Int32.ofNat c) (hct : ∀ r, r < 6 → cnt (fun j => decide (m 1 (76 + j) = Int32.ofNat r)) c = ctS s c (Int32.ofNat r)) (a2 : Option Value) (h2 : wd a2 = true) (d : Nat) : ∀ r (q : TKX) (a2 : Option Value), wd a2 = true → r + d = 6 → q.2 ≤ 3 * r + sumc (fun r => ctS s c (Int32.ofNat r)) r →
    RC x 280 7 [some (.ref b), some (.int (Int32.ofNat r)), a2] [] (setM w b (MO m q.1 q.2)) n = some (.inl (some (.int (Int32.ofNat (rcF (waF s) (fun r => ctS s c (Int32.ofNat r)) d r q).2))), setM w b (us (MO m (rcF (waF s) (fun r => ctS s c (Int32.ofNat r)) d r q).1 (rcF (waF s) (fun r => ctS s c (Int32.ofNat r)) d r q).2) 20 13 0), n) := by
  induction d with
  | zero =>
    intro r q a2 h2 hr hq
    obtain rfl : r = 6 := by omega
    have h0 : ¬ Int32.ofNat 6 < (6 : Int32) := by decide
    rw [r280_7]
    simp only [csN, csm_i, csm_r, Nat.reduceAdd, Nat.reduceLeDiff, wdI, wdR, wdN, clM_0, clC_0, clC_1, clC_6, clC_8, true_or, or_true, i10, i01, ob_some, ob_map, cal_v, rvs_some, rvs_none, XO_at, cal_x, m280, r280_0, r280_1, r280_2, r280_5, r280_6, r280_8, r280_10, r280_13, r280_14, r280_17, r280_18, r280_20, r280_23, r280_24, r280_25, r280_28, r280_30, r280_31, r280_32, r280_33, r280_36, r280_37, r280_39, r280_40, r280_41, r280_44, r280_47, r280_48, r280_50, r280_53, r280_56, r280_62, r280_65, r280_66, r280_67, r280_70, r280_73, h0, if_false, gM_0_12, MO_12, c195]
    rfl
  | succ d ih =>
    intro r q a2 h2 hr hq
    have h1 : Int32.ofNat r < (6 : Int32) := nlt (N := 6) (by omega) (by omega) (by omega)
    have hs := sum_ct (s := s) c (r + 1) (by omega)
    unfold sumc at hs
    obtain ⟨w1, w2⟩ := waF_ok hJ (r := r) (by omega)
    have e8 : m 1 (8 + r) = Int32.ofNat (waF s r) := by rw [← hR.2.1 r (by omega)]; exact w2
    have i8 : (8 : Int32) + Int32.ofNat r = Int32.ofNat (8 + r) := i_add (a := 8)
    have f8 : fin 84 (Int32.ofNat (8 + r)) = some (8 + r) := fin_nat (by omega) (by omega)
    have e1 : ∀ T k, MO m T k 1 = m 1 := fun T k => MO_o (by decide) (by decide)
    have e212 : ∀ T k, RM x 212 [.ref b, .int (Int32.ofNat r)] (setM w b (MO m T k)) n = some (.inl (some (.int (Int32.ofNat (ctS s c (Int32.ofNat r))))), setM w b (MO m T k), n) := fun T k => by
      have := c212 (x := x) (n := n) (b := b) (w := w) (m := MO m T k) (v := Int32.ofNat r) (c := c) (by rw [e1]; exact h3) h8
      rw [e1, hct r (by omega)] at this
      exact this
    have hsz := szI_2 (a := waF s r)
    have tail : ∀ q1 : TKX, q1.2 ≤ q.2 + 1 → RC x 280 23 [some (.ref b), some (.int (Int32.ofNat r)), a2] [] (setM w b (MO m q1.1 q1.2)) n = RC x 280 7 [some (.ref b), some (.int (Int32.ofNat (r + 1))), some (.int (Int32.ofNat (ctS s c (Int32.ofNat r))))] [] (setM w b (MO m (strs (ctS s c (Int32.ofNat r)) (aI (waF s r) q1)).1 (strs (ctS s c (Int32.ofNat r)) (aI (waF s r) q1)).2)) n := fun q1 hq1 => by
      have e278 := c278 (x := x) (n := n) (b := b) (w := w) (m := m) (T := q1.1) (k := q1.2) (a := waF s r) (by omega) (by omega)
      have hl := l280s (x := x) (n := n) (b := b) (w := w) (m := m) (r := r) e212 (by omega) (ctS s c (Int32.ofNat r)) 0 (aI (waF s r) q1) (by omega) (by unfold aI; dsimp only; omega)
      rw [r280_23]
      simp only [csN, csm_i, csm_r, Nat.reduceAdd, Nat.reduceLeDiff, wdI, wdR, wdN, clM_0, clC_0, clC_1, clC_6, clC_8, true_or, or_true, i10, i01, ob_some, ob_map, cal_v, rvs_some, rvs_none, XO_at, cal_x, m280, r280_0, r280_1, r280_2, r280_5, r280_6, r280_8, r280_10, r280_13, r280_14, r280_17, r280_18, r280_20, r280_24, r280_25, r280_28, r280_30, r280_31, r280_32, r280_33, r280_36, r280_37, r280_39, r280_40, r280_41, r280_44, r280_47, r280_48, r280_50, r280_53, r280_56, r280_62, r280_65, r280_66, r280_67, r280_70, r280_73, gM_0_0, lM_1, i8, f8, Option.map_some, e1, e8, e278, h2]
      refine Eq.trans hl ?_
      rw [r280_59 (a0 := some (.ref b)) rfl]
      simp only [csN, csm_i, csm_r, Nat.reduceAdd, Nat.reduceLeDiff, wdI, wdR, wdN, clM_0, clC_0, clC_1, clC_6, clC_8, true_or, or_true, i10, i01, ob_some, ob_map, cal_v, rvs_some, rvs_none, XO_at, cal_x, m280, r280_0, r280_1, r280_2, r280_5, r280_6, r280_8, r280_10, r280_13, r280_14, r280_17, r280_18, r280_20, r280_23, r280_24, r280_25, r280_28, r280_30, r280_31, r280_32, r280_33, r280_36, r280_37, r280_39, r280_40, r280_41, r280_44, r280_47, r280_48, r280_50, r280_53, r280_56, r280_62, r280_65, r280_66, r280_67, r280_70, r280_73, i_s]
    have hq2 : ∀ q1 : TKX, q1.2 ≤ q.2 + 1 → (strs (ctS s c (Int32.ofNat r)) (aI (waF s r) q1)).2 ≤ 3 * (r + 1) + sumc (fun r => ctS s c (Int32.ofNat r)) (r + 1) := fun q1 hq1 => by
      rw [strs_2]
      unfold sumc aI
      dsimp only
      omega
    unfold rcF
    by_cases hr0 : 0 < r
    · have g0 : (0 : Int32) < Int32.ofNat r := nlt (a := 0) (by omega) (by omega) hr0
      have e := c277 (x := x) (n := n) (b := b) (w := w) (m := m) (T := q.1) (k := q.2) (by omega) CH124
      rw [if_pos hr0, ← ih (r + 1) (strs (ctS s c (Int32.ofNat r)) (aI (waF s r) (aC 124 q))) (some (.int (Int32.ofNat (ctS s c (Int32.ofNat r))))) rfl (by omega) (hq2 _ (Nat.le_refl _)), ← tail (aC 124 q) (Nat.le_refl _)]
      conv => lhs; rw [r280_7]
      simp only [csN, csm_i, csm_r, Nat.reduceAdd, Nat.reduceLeDiff, wdI, wdR, wdN, clM_0, clC_0, clC_1, clC_6, clC_8, true_or, or_true, i10, i01, ob_some, ob_map, cal_v, rvs_some, rvs_none, XO_at, cal_x, m280, r280_0, r280_1, r280_2, r280_5, r280_6, r280_8, r280_10, r280_13, r280_14, r280_17, r280_18, r280_20, r280_24, r280_25, r280_28, r280_30, r280_31, r280_32, r280_33, r280_36, r280_37, r280_39, r280_40, r280_41, r280_44, r280_47, r280_48, r280_50, r280_53, r280_56, r280_62, r280_65, r280_66, r280_67, r280_70, r280_73, h1, if_true, g0, e]
      rfl
    · have g0 : ¬ (0 : Int32) < Int32.ofNat r := by
        rw [show (0 : Int32) = Int32.ofNat 0 from rfl, i_lt (by omega) (by omega)]
        exact hr0
      rw [if_neg hr0, ← ih (r + 1) (strs (ctS s c (Int32.ofNat r)) (aI (waF s r) q)) (some (.int (Int32.ofNat (ctS s c (Int32.ofNat r))))) rfl (by omega) (hq2 _ (by omega)), ← tail q (by omega)]
      conv => lhs; rw [r280_7]
      simp only [csN, csm_i, csm_r, Nat.reduceAdd, Nat.reduceLeDiff, wdI, wdR, wdN, clM_0, clC_0, clC_1, clC_6, clC_8, true_or, or_true, i10, i01, ob_some, ob_map, cal_v, rvs_some, rvs_none, XO_at, cal_x, m280, r280_0, r280_1, r280_2, r280_5, r280_6, r280_8, r280_10, r280_13, r280_14, r280_17, r280_18, r280_20, r280_24, r280_25, r280_28, r280_30, r280_31, r280_32, r280_33, r280_36, r280_37, r280_39, r280_40, r280_41, r280_44, r280_47, r280_48, r280_50, r280_53, r280_56, r280_62, r280_65, r280_66, r280_67, r280_70, r280_73, h1, if_true, g0, if_false]
/-! the model writes a gate -/
def rgF (s : NS) (g : Nat) (T : Nat → Int32) : TKX := aI (s 5 (g * 2 + 1)).toNatClampNeg (aC 126 (aI (s 4 (g * 2 + 1)).toNatClampNeg (aC 44 (aI (s 5 (g * 2)).toNatClampNeg (aC 126 (aI (s 4 (g * 2)).toNatClampNeg (aC (s 2 g) (aC 58 (aI g (T, 0))))))))))
theorem RS_45 (hR : RS s (m 1)) {j : Nat} (hj : j < 10) : (s 4 j).toNatClampNeg < 100 ∧ m 1 (19 + j) = Int32.ofNat (s 4 j).toNatClampNeg ∧ s 4 j = Int32.ofNat (s 4 j).toNatClampNeg ∧ (s 5 j).toNatClampNeg < 100 ∧ m 1 (29 + j) = Int32.ofNat (s 5 j).toNatClampNeg ∧ s 5 j = Int32.ofNat (s 5 j).toNatClampNeg := by
  obtain ⟨e1, a, ha, e2⟩ := hR.2.2.2.1 j hj
  obtain ⟨e3, a', ha', e4⟩ := hR.2.2.2.2.1 j hj
  rw [← e1, ← e3, e2, e4, i32_cl (by omega), i32_cl (by omega)]
  exact ⟨by omega, rfl, rfl, by omega, rfl, rfl⟩
theorem c279_1 (h : rg u 5 = false) : RM x 279 [.ref b, .int u] (setM w b m) n = some (.inl (some (.int 0)), setM w b (us m 20 13 1), n) := by
  simp only [csN, csm_i, csm_r, Nat.reduceAdd, Nat.reduceLeDiff, wdI, wdR, wdN, clM_0, clC_0, clC_1, clC_6, clC_8, true_or, or_true, i10, i01, ob_some, ob_map, cal_v, rvs_some, rvs_none, XO_at, cal_x, m279, r279_0, r279_1, r279_4, r279_7, r279_8, r279_9, r279_12, r279_13, r279_14, r279_15, r279_18, r279_19, r279_20, r279_23, r279_24, r279_26, r279_29, r279_30, r279_31, r279_34, r279_36, r279_37, r279_38, r279_39, r279_42, r279_45, r279_46, r279_48, r279_49, r279_52, r279_53, r279_56, r279_57, r279_59, r279_62, r279_63, r279_64, r279_67, r279_69, r279_70, r279_71, r279_72, r279_73, r279_74, r279_75, r279_76, r279_79, r279_80, r279_82, r279_85, r279_86, r279_87, r279_90, r279_92, r279_93, r279_94, r279_95, r279_96, r279_97, r279_98, r279_99, r279_102, r279_105, r279_108, r279_109, r279_110, r279_113, r279_116, c200, h, bi_f, if_true, c196]
theorem aI_2 {a : Nat} {q : TKX} : (aI a q).2 ≤ q.2 + 2 := by
  unfold aI
  have := szI_2 (a := a)
  dsimp only
  omega
theorem c279_0 {g : Nat} (hR : RS s (m 1)) (hg : g < 5) : RM x 279 [.ref b, .int (Int32.ofNat g)] (setM w b m) n = some (.inl (some (.int (Int32.ofNat (rgF s g (m 7)).2))), setM w b (us (MO m (rgF s g (m 7)).1 (rgF s g (m 7)).2) 20 13 0), n) := by
  have h : rg (Int32.ofNat g) 5 = true := nat_rg (N := 5) (by omega) hg
  obtain ⟨kk, hkk, k1, k2⟩ := hR.2.2.1 g hg
  have e1 : ∀ T k, MO m T k 1 = m 1 := fun T k => MO_o (by decide) (by decide)
  obtain ⟨a1, a2, a3, a4, a5, a6⟩ := RS_45 hR (j := g * 2) (by omega)
  obtain ⟨b1, b2, b3, b4, b5, b6⟩ := RS_45 hR (j := g * 2 + 1) (by omega)
  have i14 : (14 : Int32) + Int32.ofNat g = Int32.ofNat (14 + g) := i_add (a := 14)
  have f14 : fin 84 (Int32.ofNat (14 + g)) = some (14 + g) := fin_nat (by omega) (by omega)
  have i19 : (19 : Int32) + 2 * Int32.ofNat g + 0 = Int32.ofNat (19 + g * 2) := i_K2g (K := 19) (t := 0)
  have i19' : (19 : Int32) + 2 * Int32.ofNat g + 1 = Int32.ofNat (19 + (g * 2 + 1)) := i_K2g (K := 19) (t := 1)
  have i29 : (29 : Int32) + 2 * Int32.ofNat g + 0 = Int32.ofNat (29 + g * 2) := i_K2g (K := 29) (t := 0)
  have i29' : (29 : Int32) + 2 * Int32.ofNat g + 1 = Int32.ofNat (29 + (g * 2 + 1)) := i_K2g (K := 29) (t := 1)
  have f19 : fin 84 (Int32.ofNat (19 + g * 2)) = some (19 + g * 2) := fin_nat (by omega) (by omega)
  have f19' : fin 84 (Int32.ofNat (19 + (g * 2 + 1))) = some (19 + (g * 2 + 1)) := fin_nat (by omega) (by omega)
  have f29 : fin 84 (Int32.ofNat (29 + g * 2)) = some (29 + g * 2) := fin_nat (by omega) (by omega)
  have f29' : fin 84 (Int32.ofNat (29 + (g * 2 + 1))) = some (29 + (g * 2 + 1)) := fin_nat (by omega) (by omega)
  have hk : ltO (m 1 (14 + g)) = s 2 g := by rw [k2, ← k1]
  have hks : CH (s 2 g) := by rw [← hk]; exact CHlt
  have o0 : us m 20 12 0 = MO m (m 7) 0 := MO_0
  obtain ⟨q1, hq1⟩ : ∃ q1, q1 = aI g (m 7, 0) := ⟨_, rfl⟩
  have l1 : q1.2 ≤ 2 := by rw [hq1]; exact aI_2
  have s1 := c278 (x := x) (n := n) (b := b) (w := w) (m := m) (T := m 7) (k := 0) (a := g) (by omega) (by omega)
  rw [show apI (m 7) 0 g = q1.1 by rw [hq1]; rfl, show 0 + szI g = q1.2 by rw [hq1]; rfl] at s1
  obtain ⟨q2, hq2⟩ : ∃ q2, q2 = aC 58 q1 := ⟨_, rfl⟩
  have l2 : q2.2 ≤ 3 := by rw [hq2]; unfold aC; dsimp only; omega
  have s2 := c277 (x := x) (n := n) (b := b) (w := w) (m := m) (T := q1.1) (k := q1.2) (by omega) CH58
  rw [show upd q1.1 q1.2 58 = q2.1 by rw [hq2]; rfl, show q1.2 + 1 = q2.2 by rw [hq2]; rfl] at s2
  obtain ⟨q3, hq3⟩ : ∃ q3, q3 = aC (s 2 g) q2 := ⟨_, rfl⟩
  have l3 : q3.2 ≤ 4 := by rw [hq3]; unfold aC; dsimp only; omega
  have s3 := c277 (x := x) (n := n) (b := b) (w := w) (m := m) (T := q2.1) (k := q2.2) (by omega) hks
  rw [show upd q2.1 q2.2 (s 2 g) = q3.1 by rw [hq3]; rfl, show q2.2 + 1 = q3.2 by rw [hq3]; rfl] at s3
  obtain ⟨q4, hq4⟩ : ∃ q4, q4 = aI (s 4 (g * 2)).toNatClampNeg q3 := ⟨_, rfl⟩
  have l4 : q4.2 ≤ 6 := by rw [hq4]; exact Nat.le_trans aI_2 (by omega)
  have s4 := c278 (x := x) (n := n) (b := b) (w := w) (m := m) (T := q3.1) (k := q3.2) (a := (s 4 (g * 2)).toNatClampNeg) (by omega) (by omega)
  rw [show apI q3.1 q3.2 (s 4 (g * 2)).toNatClampNeg = q4.1 by rw [hq4]; rfl, show q3.2 + szI (s 4 (g * 2)).toNatClampNeg = q4.2 by rw [hq4]; rfl] at s4
  obtain ⟨q5, hq5⟩ : ∃ q5, q5 = aC 126 q4 := ⟨_, rfl⟩
  have l5 : q5.2 ≤ 7 := by rw [hq5]; unfold aC; dsimp only; omega
  have s5 := c277 (x := x) (n := n) (b := b) (w := w) (m := m) (T := q4.1) (k := q4.2) (by omega) CH126
  rw [show upd q4.1 q4.2 126 = q5.1 by rw [hq5]; rfl, show q4.2 + 1 = q5.2 by rw [hq5]; rfl] at s5
  obtain ⟨q6, hq6⟩ : ∃ q6, q6 = aI (s 5 (g * 2)).toNatClampNeg q5 := ⟨_, rfl⟩
  have l6 : q6.2 ≤ 9 := by rw [hq6]; exact Nat.le_trans aI_2 (by omega)
  have s6 := c278 (x := x) (n := n) (b := b) (w := w) (m := m) (T := q5.1) (k := q5.2) (a := (s 5 (g * 2)).toNatClampNeg) (by omega) (by omega)
  rw [show apI q5.1 q5.2 (s 5 (g * 2)).toNatClampNeg = q6.1 by rw [hq6]; rfl, show q5.2 + szI (s 5 (g * 2)).toNatClampNeg = q6.2 by rw [hq6]; rfl] at s6
  obtain ⟨q7, hq7⟩ : ∃ q7, q7 = aC 44 q6 := ⟨_, rfl⟩
  have l7 : q7.2 ≤ 10 := by rw [hq7]; unfold aC; dsimp only; omega
  have s7 := c277 (x := x) (n := n) (b := b) (w := w) (m := m) (T := q6.1) (k := q6.2) (by omega) CH44
  rw [show upd q6.1 q6.2 44 = q7.1 by rw [hq7]; rfl, show q6.2 + 1 = q7.2 by rw [hq7]; rfl] at s7
  obtain ⟨q8, hq8⟩ : ∃ q8, q8 = aI (s 4 (g * 2 + 1)).toNatClampNeg q7 := ⟨_, rfl⟩
  have l8 : q8.2 ≤ 12 := by rw [hq8]; exact Nat.le_trans aI_2 (by omega)
  have s8 := c278 (x := x) (n := n) (b := b) (w := w) (m := m) (T := q7.1) (k := q7.2) (a := (s 4 (g * 2 + 1)).toNatClampNeg) (by omega) (by omega)
  rw [show apI q7.1 q7.2 (s 4 (g * 2 + 1)).toNatClampNeg = q8.1 by rw [hq8]; rfl, show q7.2 + szI (s 4 (g * 2 + 1)).toNatClampNeg = q8.2 by rw [hq8]; rfl] at s8
  obtain ⟨q9, hq9⟩ : ∃ q9, q9 = aC 126 q8 := ⟨_, rfl⟩
  have l9 : q9.2 ≤ 13 := by rw [hq9]; unfold aC; dsimp only; omega
  have s9 := c277 (x := x) (n := n) (b := b) (w := w) (m := m) (T := q8.1) (k := q8.2) (by omega) CH126
  rw [show upd q8.1 q8.2 126 = q9.1 by rw [hq9]; rfl, show q8.2 + 1 = q9.2 by rw [hq9]; rfl] at s9
  have s10 := c278 (x := x) (n := n) (b := b) (w := w) (m := m) (T := q9.1) (k := q9.2) (a := (s 5 (g * 2 + 1)).toNatClampNeg) (by omega) (by omega)
  have er : rgF s g (m 7) = aI (s 5 (g * 2 + 1)).toNatClampNeg q9 := by rw [hq9, hq8, hq7, hq6, hq5, hq4, hq3, hq2, hq1]; rfl
  rw [er]
  rw [show apI q9.1 q9.2 (s 5 (g * 2 + 1)).toNatClampNeg = (aI (s 5 (g * 2 + 1)).toNatClampNeg q9).1 from rfl, show q9.2 + szI (s 5 (g * 2 + 1)).toNatClampNeg = (aI (s 5 (g * 2 + 1)).toNatClampNeg q9).2 from rfl] at s10
  have z1 : (0 : Int32) < 2 := by decide
  have z2 : ¬ (0 : Int32) < 0 := by decide
  have z3 : (0 : Int32) + 1 = 1 := by decide
  have z4 : (1 : Int32) < 2 := by decide
  have z5 : (0 : Int32) < 1 := by decide
  have z6 : (1 : Int32) + 1 = 2 := by decide
  have z7 : ¬ (2 : Int32) < 2 := by decide
  simp only [csN, csm_i, csm_r, Nat.reduceAdd, Nat.reduceLeDiff, wdI, wdR, wdN, clM_0, clC_0, clC_1, clC_6, clC_8, true_or, or_true, i10, i01, ob_some, ob_map, cal_v, rvs_some, rvs_none, XO_at, cal_x, m279, r279_0, r279_1, r279_4, r279_7, r279_8, r279_9, r279_12, r279_13, r279_14, r279_15, r279_18, r279_19, r279_20, r279_23, r279_24, r279_26, r279_29, r279_30, r279_31, r279_34, r279_36, r279_37, r279_38, r279_39, r279_42, r279_45, r279_46, r279_47, r279_48, r279_49, r279_52, r279_53, r279_56, r279_57, r279_59, r279_62, r279_63, r279_64, r279_67, r279_69, r279_70, r279_71, r279_72, r279_73, r279_74, r279_75, r279_76, r279_79, r279_80, r279_82, r279_85, r279_86, r279_87, r279_90, r279_92, r279_93, r279_94, r279_95, r279_96, r279_97, r279_98, r279_99, r279_102, r279_105, r279_108, r279_109, r279_110, r279_113, r279_116, c200, h, bi_t, ↓reduceIte, pM_0_12, o0, s1, s2, gM_0_0, lM_1, i14, f14, Option.map_some, e1, c207, hk, s3, z1, z2, z3, z4, z5, z6, z7, i19, i19', i29, i29', f19, f19', f29, f29', a2, a5, b2, b5, s4, s5, s6, s7, s8, s9, s10, gM_0_12, MO_12, c195]
end REN
