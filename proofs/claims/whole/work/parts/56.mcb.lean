/-! CHANGES of the model, the rest -/
section MCB
set_option maxRecDepth 20000
variable {x : SX} {n b c : Nat} {w : PW} {m s : NS} {g : Nat → Int32}
/-- the numbers that no change takes out of their bounds -/
def JC (s : NS) (c : Nat) : Prop := (∀ r, r < 6 → ∃ a, a < 91 ∧ s 7 r = Int32.ofNat a) ∧ sumTo (s 7) 6 + s 20 13 = 360 + s 20 11 + s 20 12 ∧ (∀ r : Nat, 0 < r → r < 5 → ctS s c (Int32.ofNat r) ≤ 3) ∧ ∃ a, a < 10 ∧ s 20 4 = Int32.ofNat a
theorem mn_all : ∀ a, a < 91 → ∀ v, v < 91 → ¬ 90 < a + v → mn (Int32.ofNat v) (90 - Int32.ofNat a) = Int32.ofNat v := by
  intro a ha v hv h
  unfold mn
  have e : (90 : Int32) - Int32.ofNat a = Int32.ofNat (90 - a) := i_subL (k := 90) (by omega)
  rw [e, if_neg]
  rw [i_lt (by omega) (by omega)]
  omega
def code5 (f : Nat) : Int32 := if f = 1 then 1 else if f = 2 then 2 else 3
theorem neq5 : ¬ (5 : Int32) = 0 ∧ ¬ (5 : Int32) = 1 ∧ ¬ (5 : Int32) = 2 ∧ ¬ (5 : Int32) = 3 ∧ ¬ (5 : Int32) = 4 := by decide
theorem neq6 : ¬ (6 : Int32) = 0 ∧ ¬ (6 : Int32) = 1 ∧ ¬ (6 : Int32) = 2 ∧ ¬ (6 : Int32) = 3 ∧ ¬ (6 : Int32) = 4 ∧ ¬ (6 : Int32) = 5 := by decide
theorem neq7 : ¬ (7 : Int32) = 0 ∧ ¬ (7 : Int32) = 1 ∧ ¬ (7 : Int32) = 2 ∧ ¬ (7 : Int32) = 3 ∧ ¬ (7 : Int32) = 4 ∧ ¬ (7 : Int32) = 5 ∧ ¬ (7 : Int32) = 6 := by decide
theorem c229 {u v z : Int32} (hR : Rel s (m 1) c) (hJ : ∀ r, r < 6 → ∃ a, a < 91 ∧ s 7 r = Int32.ofNat a) : MCH x n b w m s c 5 u v z code5 (RM x 229 [.ref b, .int u, .int v] (setM w b m) n) := by
  obtain ⟨n0, n1, n2, n3, n4⟩ := neq5
  have hft : ftS s c 5 u v z = cond (rg u 6) (cond (!decide (v < 1) && !decide (90 < v)) (if 90 < atv 6 (s 7) u + v then 4 else 0) 2) 1 := by
    unfold ftS
    rw [if_neg n0, if_neg n1, if_neg n2, if_neg n3, if_neg n4, if_pos rfl]
  have hpf : pfS s c 5 u v z = (fillS s u.toNatClampNeg v 7 u.toNatClampNeg, fillS s u.toNatClampNeg v) := by
    unfold pfS
    rw [if_neg n0, if_neg n1, if_neg n2, if_neg n3, if_neg n4, if_pos rfl]
  have hpc : pcS s c 5 u v z = c := by
    unfold pcS
    rw [if_neg n0, if_neg n1, if_neg n2, if_neg n3, if_neg n4, if_pos rfl]
  unfold MCH
  rw [hft, hpf, hpc]
  cases hb : rg u 6 with
  | false =>
    refine ⟨fun h => by simp at h, fun _ => ?_⟩
    simp only [csN, csm_i, csm_r, Nat.reduceAdd, Nat.reduceLeDiff, wdI, wdR, wdN, clM_0, clC_0, clC_1, clC_6, clC_8, true_or, or_true, i10, i01, ob_some, ob_map, cal_v, rvs_some, rvs_none, XO_at, cal_x, m229, r229_0, r229_1, r229_4, r229_7, r229_8, r229_9, r229_12, r229_13, r229_14, r229_15, r229_17, r229_20, r229_23, r229_24, r229_25, r229_28, r229_29, r229_30, r229_33, r229_35, r229_36, r229_37, r229_38, r229_39, r229_40, r229_42, r229_45, r229_46, r229_47, r229_50, r229_51, r229_52, r229_55, r229_57, r229_58, r229_59, r229_60, r229_61, r229_62, r229_63, r229_64, r229_65, r229_68, r229_69, r229_70, r229_71, r229_72, r229_73, r229_74, r229_75, r229_76, r229_79, r229_81, r229_82, r229_83, r229_84, r229_87, c202, hb, bi_f, if_true, c196, cond_false]
    rfl
  | true =>
    obtain ⟨r, hr, rfl⟩ := rg_nat (N := 6) (by omega) hb
    have hat : atv 6 (s 7) (Int32.ofNat r) = s 7 r := atv_nat hr (by omega)
    rw [hat, i32_cl (show r < 2147483648 by omega)]
    have hS := hR.1.2.1
    have e8 := hS.2.1 r hr
    have h1 : (8 : Int32) + Int32.ofNat r = Int32.ofNat (8 + r) := i_add (a := 8)
    have h3 : fin 84 (Int32.ofNat (8 + r)) = some (8 + r) := fin_nat (by omega) (by omega)
    have k5 : fin 84 5 = some 5 := fin_lit (by decide) (by decide)
    cases hv : rI v 1 90 with
    | false =>
      have hv' : (!decide (v < 1) && !decide (90 < v)) = false := hv
      refine ⟨fun h => (by rw [hv'] at h; cases h), fun _ => ?_⟩
      simp only [csN, csm_i, csm_r, Nat.reduceAdd, Nat.reduceLeDiff, wdI, wdR, wdN, clM_0, clC_0, clC_1, clC_6, clC_8, true_or, or_true, i10, i01, ob_some, ob_map, cal_v, rvs_some, rvs_none, XO_at, cal_x, m229, r229_0, r229_1, r229_4, r229_7, r229_8, r229_9, r229_12, r229_13, r229_14, r229_15, r229_17, r229_20, r229_23, r229_24, r229_25, r229_28, r229_29, r229_30, r229_33, r229_35, r229_36, r229_37, r229_38, r229_39, r229_40, r229_42, r229_45, r229_46, r229_47, r229_50, r229_51, r229_52, r229_55, r229_57, r229_58, r229_59, r229_60, r229_61, r229_62, r229_63, r229_64, r229_65, r229_68, r229_69, r229_70, r229_71, r229_72, r229_73, r229_74, r229_75, r229_76, r229_79, r229_81, r229_82, r229_83, r229_84, r229_87, c202, hb, bi_t, bi_f, if_true, if_false, c193, hv, c196, cond_true]
      rw [hv']
      rfl
    | true =>
      have hv' : (!decide (v < 1) && !decide (90 < v)) = true := hv
      rw [hv']
      by_cases h9 : 90 < s 7 r + v
      · refine ⟨fun h => (by rw [if_pos h9] at h; cases h), fun _ => ?_⟩
        rw [e8] at h9
        simp only [csN, csm_i, csm_r, Nat.reduceAdd, Nat.reduceLeDiff, wdI, wdR, wdN, clM_0, clC_0, clC_1, clC_6, clC_8, true_or, or_true, i10, i01, ob_some, ob_map, cal_v, rvs_some, rvs_none, XO_at, cal_x, m229, r229_0, r229_1, r229_4, r229_7, r229_8, r229_9, r229_12, r229_13, r229_14, r229_15, r229_17, r229_20, r229_23, r229_24, r229_25, r229_28, r229_29, r229_30, r229_33, r229_35, r229_36, r229_37, r229_38, r229_39, r229_40, r229_42, r229_45, r229_46, r229_47, r229_50, r229_51, r229_52, r229_55, r229_57, r229_58, r229_59, r229_60, r229_61, r229_62, r229_63, r229_64, r229_65, r229_68, r229_69, r229_70, r229_71, r229_72, r229_73, r229_74, r229_75, r229_76, r229_79, r229_81, r229_82, r229_83, r229_84, r229_87, c202, hb, bi_t, if_true, if_false, c193, hv, gM_0_0, lM_1, h1, h3, Option.map_some, h9, c196, cond_true]
        rw [e8, if_pos h9]
        rfl
      · refine ⟨fun _ => ?_, fun h => (by rw [if_neg h9] at h; exact absurd rfl h)⟩
        rw [Bool.and_eq_true] at hv'
        obtain ⟨a, ha, ea⟩ := hJ r hr
        obtain ⟨q, q1, q2, rfl⟩ := in_nat (lo := 1) (hi := 90) (by omega) (by omega) (v := v) (by simpa using hv'.1) (by simpa using hv'.2)
        have hq : ¬ 90 < a + q := by
          intro z
          apply h9
          rw [ea, i_add]
          exact nlt (a := 90) (by omega) (by omega) z
        have hmn : mn (Int32.ofNat q) (90 - s 7 r) = Int32.ofNat q := by rw [ea]; exact mn_all a ha q (by omega) hq
        have hfs : fillS s r (Int32.ofNat q) = us (us (us s 20 12 (s 20 12 + Int32.ofNat q)) 7 r (s 7 r + Int32.ofNat q)) 20 13 (s 20 13 + 0) := by
          unfold fillS pourS
          rw [us_ne (by decide : ¬ 7 = 20), hmn, Int32.sub_self, us_at, if_pos rfl, if_neg (by decide)]
        rw [hfs]
        dsimp only
        have hr7 : us (us (us s 20 12 (s 20 12 + Int32.ofNat q)) 7 r (s 7 r + Int32.ofNat q)) 20 13 (s 20 13 + 0) 7 r = s 7 r + Int32.ofNat q := by rw [us_ne (by decide), us_at, if_pos rfl, if_pos rfl]
        rw [hr7]
        have k1 := RS_20 (i := 12) (k := 5) (v := s 20 12 + Int32.ofNat q) (by simp) hS
        have k2 := RS_7 (r := r) (v := s 7 r + Int32.ofNat q) hr k1
        have k3 : RS (us (us (us s 20 12 (s 20 12 + Int32.ofNat q)) 7 r (s 7 r + Int32.ofNat q)) 20 13 (s 20 13 + 0)) _ := RS_s k2 (fun j _ _ => by
          rw [us_at, if_pos rfl]
          split
          · next e => rw [e, us_ne (by decide), us_at, if_pos rfl, if_neg (by decide), Int32.add_zero]
          · rfl) (fun a ha => by rw [us_ne (by omega)])
        have k4 : RS (us (us (us s 20 12 (s 20 12 + Int32.ofNat q)) 7 r (s 7 r + Int32.ofNat q)) 20 13 (s 20 13 + 0)) (upd (upd (m 1) (8 + r) (s 7 r + Int32.ofNat q)) 5 (s 20 12 + Int32.ofNat q)) := RS_congr k3 (fun k _ _ _ => by
          simp only [upd_at]
          by_cases c1 : k = 5
          · rw [if_pos c1, if_neg (by omega), if_pos c1]
          · rw [if_neg c1, if_neg c1])
        refine ⟨upd (upd (m 1) (8 + r) (s 7 r + Int32.ofNat q)) 5 (s 20 12 + Int32.ofNat q), m 8, ?_, ?_⟩
        · exact Rel_s hR (IC_s hR.1.1 (by rw [us_at, if_pos rfl, if_neg (by decide), us_ne (by decide), us_at, if_pos rfl, if_neg (by decide)]) (by rw [us_ne (by decide), us_ne (by decide), us_ne (by decide)]) (by rw [us_ne (by decide), us_ne (by decide), us_ne (by decide)]) (by rw [us_ne (by decide), us_ne (by decide), us_ne (by decide)])) k4 (by rw [upd_at, if_neg (by omega), upd_at, if_neg (by omega)]) (fun a h1 h2 => by rw [us_ne (by omega), us_ne (by omega), us_ne (by omega)]) (fun k hk => by rw [upd_at, if_neg (by omega), upd_at, if_neg (by omega)]) (by rw [us_at, if_pos rfl, if_neg (by decide), us_ne (by decide), us_at, if_pos rfl, if_neg (by decide)]) (by rw [upd_at, if_neg (by omega), upd_at, if_neg (by omega)])
        · have h9' : ¬ 90 < m 1 (8 + r) + Int32.ofNat q := by rw [← e8]; exact h9
          have n5 : ¬ 5 = 8 + r := by omega
          have n8 : ¬ 8 + r = 5 := by omega
          have e5 := hS.1.2.2.2.2.1
          rw [ua8_self]
          conv => lhs; rw [← ua_self1 (m := m)]
          simp only [csN, csm_i, csm_r, Nat.reduceAdd, Nat.reduceLeDiff, wdI, wdR, wdN, clM_0, clC_0, clC_1, clC_6, clC_8, true_or, or_true, i10, i01, ob_some, ob_map, cal_v, rvs_some, rvs_none, XO_at, cal_x, m229, r229_0, r229_1, r229_4, r229_7, r229_8, r229_9, r229_12, r229_13, r229_14, r229_15, r229_17, r229_20, r229_23, r229_24, r229_25, r229_28, r229_29, r229_30, r229_33, r229_35, r229_36, r229_37, r229_38, r229_39, r229_40, r229_42, r229_45, r229_46, r229_47, r229_50, r229_51, r229_52, r229_55, r229_57, r229_58, r229_59, r229_60, r229_61, r229_62, r229_63, r229_64, r229_65, r229_68, r229_69, r229_70, r229_71, r229_72, r229_73, r229_74, r229_75, r229_76, r229_79, r229_81, r229_82, r229_83, r229_84, r229_87, c202, hb, bi_t, if_false, c193, hv, gM_0_0, lM_1, sM_1, h1, h3, k5, Option.map_some, ua_same, us_ua, h9', c195, m_self, upd_at, n5, n8, if_true]
          rw [e8, e5]
/-- an hour leaves the number of those that have left as it was -/
theorem hr_5 : hrS s c 20 5 = s 20 5 := by
  unfold hrS arS
  rw [us_at, if_pos rfl, if_neg (by decide), flA_out (by decide)]
  have : ∀ (d i : Nat) (s : NS) (P : Int32), lpS c d i s P 20 5 = s 20 5 := by
    intro d
    induction d with
    | zero => intro i s P; rfl
    | succ d ih =>
      intro i s P
      unfold lpS
      rw [ih]
      unfold stS
      cases decide ((P >>> (Int32.ofNat (gN s i) &&& 31)) &&& 1 = 0) && mpS s c i (gN s i) (rN s i) with
      | true => rw [cond_true]; dsimp only; exact mvd_20 (by decide)
      | false => rfl
  unfold mdS
  rw [this, h1S_20 (by decide) (by decide) (by decide)]
theorem ph_5 (d : Nat) : ∀ (s : NS) (c : Nat) (L : Int32), (phS d s c L).1 20 5 = s 20 5 := by
  induction d with
  | zero => intro s c L; rfl
  | succ d ih => intro s c L; unfold phS; rw [ih, hr_5]
theorem c235 {u v z : Int32} (hR : Rel s (m 1) c) : MCH x n b w m s c 7 u v z code0 (RM x 235 [.ref b, .int u] (setM w b m) n) := by
  obtain ⟨n0, n1, n2, n3, n4, n5, n6⟩ := neq7
  have hft : ftS s c 7 u v z = cond (!decide (u < 1) && !decide (100 < u)) 0 2 := by
    unfold ftS
    rw [if_neg n0, if_neg n1, if_neg n2, if_neg n3, if_neg n4, if_neg n5, if_neg n6]
  have hpf : pfS s c 7 u v z = ((phS u.toNatClampNeg s c 0).2.2, pdS u.toNatClampNeg s c) := by
    unfold pfS
    rw [if_neg n0, if_neg n1, if_neg n2, if_neg n3, if_neg n4, if_neg n5, if_neg n6]
  have hpc : pcS s c 7 u v z = (phS u.toNatClampNeg s c 0).2.1 := by
    unfold pcS
    rw [if_neg n0, if_neg n1, if_neg n2, if_neg n3, if_neg n4, if_neg n5, if_neg n6]
  unfold MCH
  rw [hft, hpf, hpc]
  cases hb : rI u 1 100 with
  | false =>
    have hb' : (!decide (u < 1) && !decide (100 < u)) = false := hb
    refine ⟨fun h => (by rw [hb'] at h; cases h), fun _ => ?_⟩
    simp only [csN, csm_i, csm_r, Nat.reduceAdd, Nat.reduceLeDiff, wdI, wdR, wdN, clM_0, clC_0, clC_1, clC_6, clC_8, true_or, or_true, i10, i01, ob_some, ob_map, cal_v, rvs_some, rvs_none, XO_at, cal_x, m235, r235_0, r235_1, r235_2, r235_4, r235_7, r235_10, r235_11, r235_12, r235_15, r235_16, r235_17, r235_18, r235_19, r235_20, r235_21, r235_22, r235_25, r235_26, r235_27, r235_30, r235_31, r235_32, r235_35, r235_38, r235_39, r235_40, r235_43, c193, hb, bi_f, if_true, c196]
    rfl
  | true =>
    have hb' : (!decide (u < 1) && !decide (100 < u)) = true := hb
    refine ⟨fun _ => ?_, fun h => (by rw [hb'] at h; exact absurd rfl h)⟩
    rw [Bool.and_eq_true] at hb'
    obtain ⟨H, q1, q2, rfl⟩ := in_nat (lo := 1) (hi := 100) (by omega) (by omega) (v := u) (by simpa using hb'.1) (by simpa using hb'.2)
    rw [i32_cl (show H < 2147483648 by omega)]
    obtain ⟨g', f', a1, a2, a3⟩ := l235 (x := x) (n := n) (b := b) (w := w) (u := 0) (H := H) (by omega) H 0 s m c 0 (by omega) hR.1
    rw [Int32.add_zero] at a2
    refine ⟨g', f', ⟨?_, ?_⟩, ?_⟩
    · obtain ⟨b1, b2, b3, b4⟩ := a1
      unfold pdS
      dsimp only
      refine ⟨IC_s b1 (by rw [us_at, if_pos rfl, if_neg (by decide)]) (by rw [us_ne (by decide)]) (by rw [us_ne (by decide)]) (by rw [us_ne (by decide)]), RS_s b2 (fun j h5 _ => by rw [us_at, if_pos rfl, if_neg h5]) (fun a ha => by rw [us_ne (by omega)]), b3, fun j hj => RB_s (b4 j hj) (fun a h1 h2 => by rw [us_ne (by omega)]) (fun _ _ => rfl)⟩
    · unfold pdS
      dsimp only
      rw [us_at, if_pos rfl, if_pos rfl, a2, ← hR.2]
      congr 1
      exact ph_5 H s c 0
    · simp only [csN, csm_i, csm_r, Nat.reduceAdd, Nat.reduceLeDiff, wdI, wdR, wdN, clM_0, clC_0, clC_1, clC_6, clC_8, true_or, or_true, i10, i01, ob_some, ob_map, cal_v, rvs_some, rvs_none, XO_at, cal_x, m235, r235_0, r235_1, r235_2, r235_4, r235_7, r235_10, r235_11, r235_12, r235_15, r235_16, r235_17, r235_18, r235_19, r235_21, r235_22, r235_25, r235_26, r235_27, r235_30, r235_31, r235_32, r235_35, r235_38, r235_39, r235_40, r235_43, c193, hb, bi_t, if_false]
      exact a3
theorem ixA_cases {f : Nat → Int32} {v : Int32} (d : Nat) : ∀ i, i + d < 2147483648 → ixA f v d i = -1 ∨ ∃ j, i ≤ j ∧ j < i + d ∧ ixA f v d i = Int32.ofNat j ∧ f j = v := by
  induction d with
  | zero => intro i _; exact Or.inl rfl
  | succ d ih =>
    intro i hi
    unfold ixA
    by_cases h : f i = v
    · rw [if_pos h]; exact Or.inr ⟨i, by omega, by omega, rfl, h⟩
    · rw [if_neg h]
      rcases ih (i + 1) (by omega) with h1 | ⟨j, h1, h2, h3, h4⟩
      · exact Or.inl h1
      · exact Or.inr ⟨j, by omega, by omega, h3, h4⟩
theorem cntP {p m' : Nat} (hp : p < 2147483648) (hm : m' < 2147483648) : cnt (fun j => decide (¬ Int32.ofNat j = Int32.ofNat p)) m' = if p < m' then m' - 1 else m' := by
  induction m' with
  | zero => rw [if_neg (by omega)]; rfl
  | succ k ih =>
    rw [cnt_s, ih (by omega)]
    have e : (Int32.ofNat k = Int32.ofNat p) = (k = p) := i_eq (by omega) hp
    by_cases h : k = p
    · rw [decide_eq_false (by rw [e]; exact fun z => z h), cond_false, if_neg (by omega), if_pos (by omega)]
      omega
    · rw [decide_eq_true (by rw [e]; exact h), cond_true]
      by_cases h2 : p < k
      · rw [if_pos h2, if_pos (by omega)]; omega
      · rw [if_neg h2, if_neg (by omega)]
theorem Rel_rv {p : Nat} (hR : Rel s g c) (hp : p < c) : Rel (rvS s c (Int32.ofNat p)) (dpG g p) (cnt (fun j => decide (¬ Int32.ofNat j = Int32.ofNat p)) c) := by
  obtain ⟨⟨⟨⟨a1, a2, a3⟩, a4⟩, h2, h3, h4⟩, h5⟩ := hR
  have hc : cnt (fun j => decide (¬ Int32.ofNat j = Int32.ofNat p)) c = c - 1 := by rw [cntP (by omega) (by omega), if_pos hp]
  have row : ∀ a, a = 9 ∨ a = 10 ∨ a = 11 ∨ a = 12 ∨ a = 13 → ∀ j, j < c - 1 → rvS s c (Int32.ofNat p) a j = s a (if p ≤ j then j + 1 else j) := by
    intro a ha j hj
    unfold rvS
    rw [us_ne (by omega)]
    have e0 : ∀ k, (Int32.ofNat k = Int32.ofNat p) = (k = p) ∨ 2147483648 ≤ k := fun k => by
      by_cases hk : k < 2147483648
      · exact Or.inl (i_eq hk (by omega))
      · exact Or.inr (by omega)
    by_cases hpj : p ≤ j
    · have hm : cnt (fun j => decide (¬ Int32.ofNat j = Int32.ofNat p)) (j + 1) = j := by rw [cntP (by omega) (by omega), if_pos (by omega)]; omega
      rw [if_pos hpj]
      have := flA_lo (s := s) (p := fun j => decide (¬ Int32.ofNat j = Int32.ofNat p)) ha c (j + 1) (by omega) (decide_eq_true (fun z => by have := i_inj (by omega) (by omega) z; omega))
      rw [hm] at this
      exact this
    · have hm : cnt (fun j => decide (¬ Int32.ofNat j = Int32.ofNat p)) j = j := by rw [cntP (by omega) (by omega), if_neg (by omega)]
      rw [if_neg hpj]
      have := flA_lo (s := s) (p := fun j => decide (¬ Int32.ofNat j = Int32.ofNat p)) ha c j (by omega) (decide_eq_true (fun z => by have := i_inj (by omega) (by omega) z; omega))
      rw [hm] at this
      exact this
  have out : ∀ a, a < 8 → rvS s c (Int32.ofNat p) a = s a := fun a ha => by
    unfold rvS
    rw [us_ne (by omega), flA_out (by omega)]
  have o20 : ∀ j, ¬ j = 25 → rvS s c (Int32.ofNat p) 20 j = s 20 j := fun j hj => by
    unfold rvS
    rw [us_at, if_pos rfl, if_neg hj, flA_out (by decide)]
  rw [hc]
  refine ⟨⟨⟨⟨?_, by omega, fun q hq => by rw [out 2 (by omega)]; exact a3 q hq⟩, fun j hj => ?_⟩, RS_s (RS_congr h2 (fun k hk k3 _ => dpG_lo hk k3)) (fun j _ j25 => o20 j j25) out, ?_, fun j hj => ?_⟩, ?_⟩
  · unfold rvS
    rw [us_at, if_pos rfl, if_pos rfl, hc]
  · have := a4 (if p ≤ j then j + 1 else j) (by split <;> omega)
    unfold WB at this ⊢
    rw [row 12 (by simp) j hj, row 13 (by simp) j hj]
    exact this
  · rw [dpG_3, h3]
    exact i_subR (k := 1) (by omega)
  · have := h4 (if p ≤ j then j + 1 else j) (by split <;> omega)
    unfold RB at this ⊢
    rw [row 9 (by simp) j hj, row 10 (by simp) j hj, row 11 (by simp) j hj, row 12 (by simp) j hj, row 13 (by simp) j hj]
    rw [dpG_row (by simp) (by omega), dpG_row (by simp) (by omega), dpG_row (by simp) (by omega), dpG_row (by simp) (by omega), dpG_row (by simp) (by omega)]
    by_cases hpj : p ≤ j
    · simp only [hpj, if_true] at this ⊢
      exact this
    · simp only [hpj, if_false] at this ⊢
      exact this
  · rw [o20 5 (by decide), dpG_lo (by omega) (by omega)]; exact h5
theorem c219 {u v z : Int32} (hR : Rel s (m 1) c) : MCH x n b w m s c 6 u v z code0 (RM x 219 [.ref b, .int u] (setM w b m) n) := by
  obtain ⟨n0, n1, n2, n3, n4, n5⟩ := neq6
  have hft : ftS s c 6 u v z = if ixA (s 9) u c 0 = -1 then 5 else 0 := by
    unfold ftS
    rw [if_neg n0, if_neg n1, if_neg n2, if_neg n3, if_neg n4, if_neg n5, if_pos rfl]
  have hpf : pfS s c 6 u v z = (Int32.ofNat (cnt (fun j => decide (¬ Int32.ofNat j = ixA (s 9) u c 0)) c), rvS s c (ixA (s 9) u c 0)) := by
    unfold pfS
    rw [if_neg n0, if_neg n1, if_neg n2, if_neg n3, if_neg n4, if_neg n5, if_pos rfl]
  have hpc : pcS s c 6 u v z = cnt (fun j => decide (¬ Int32.ofNat j = ixA (s 9) u c 0)) c := by
    unfold pcS
    rw [if_neg n0, if_neg n1, if_neg n2, if_neg n3, if_neg n4, if_neg n5, if_pos rfl]
  have h8 := hR.1.1.1.2.1
  have h1 := c211 (x := x) (n := n) (b := b) (w := w) (v := u) hR.1
  unfold MCH
  rw [hft, hpf, hpc]
  rcases ixA_cases (f := s 9) (v := u) c 0 (by omega) with e | ⟨p, -, hp, e, -⟩
  · rw [if_pos e]
    refine ⟨fun h => absurd h (by decide), fun _ => ?_⟩
    simp only [csN, csm_i, csm_r, Nat.reduceAdd, Nat.reduceLeDiff, wdI, wdR, wdN, clM_0, clC_0, clC_1, clC_6, clC_8, true_or, or_true, i10, i01, ob_some, ob_map, cal_v, rvs_some, rvs_none, XO_at, cal_x, m219, r219_0, r219_1, r219_2, r219_5, r219_6, r219_7, r219_8, r219_11, r219_12, r219_13, r219_16, r219_17, r219_18, r219_19, r219_22, r219_23, r219_24, r219_27, r219_28, r219_29, r219_32, h1, e, if_true, c196]
    rfl
  · have hne : ¬ Int32.ofNat p = -1 := ofN_m1 (by omega)
    rw [e, if_neg hne]
    refine ⟨fun _ => ?_, fun h => absurd rfl h⟩
    have hrel := Rel_rv hR (show p < c by omega)
    refine ⟨dpG (m 1) p, m 8, hrel, ?_⟩
    have h2 := c216 (x := x) (n := n) (b := b) (w := w) (m := m) (g := m 1) (p := p) (u := Int32.ofNat p) rfl (by omega)
    rw [ua_self1] at h2
    have k3 : fin 84 3 = some 3 := fin_lit (by decide) (by decide)
    have e3 := hrel.1.2.2.1
    rw [ua8_self]
    simp only [csN, csm_i, csm_r, Nat.reduceAdd, Nat.reduceLeDiff, wdI, wdR, wdN, clM_0, clC_0, clC_1, clC_6, clC_8, true_or, or_true, i10, i01, ob_some, ob_map, cal_v, rvs_some, rvs_none, XO_at, cal_x, m219, r219_0, r219_1, r219_2, r219_5, r219_6, r219_7, r219_8, r219_11, r219_12, r219_13, r219_16, r219_17, r219_18, r219_19, r219_22, r219_23, r219_24, r219_27, r219_28, r219_29, r219_32, h1, e, hne, if_false, h2, gM_0_0, lM_1, k3, Option.map_some, ua_same, c195, m_self]
    rw [e3]
theorem c217 {u v : Int32} {d : Bool} (hR : Rel s (m 1) c) : MCH x n b w m s c 0 u v (cond d 100 117) codeB (RM x 217 [.ref b, .int u, .int v, .int (bi d)] (setM w b m) n) := by
  have hft : ftS s c 0 u v (cond d 100 117) = cond (rg u 12 && (!decide (v < 1) && !decide (9 < v))) (if c < 8 then 0 else 3) 2 := by
    unfold ftS
    rw [if_pos rfl]
  have hd : decide ((cond d 100 117 : Int32) = 100) = d := by cases d <;> decide
  have hpf : pfS s c 0 u v (cond d 100 117) = (s 20 26, lauS s c u v d) := by
    unfold pfS
    rw [if_pos rfl, hd]
  have hpc : pcS s c 0 u v (cond d 100 117) = c + 1 := by
    unfold pcS
    rw [if_pos rfl]
  obtain ⟨⟨⟨⟨a1, a2, a3⟩, a4⟩, hS, h3, h4⟩, h5⟩ := id hR
  unfold MCH
  rw [hft, hpf, hpc]
  dsimp only
  cases hu : rg u 12 with
  | false =>
    refine ⟨fun h => (by simp at h), fun _ => ?_⟩
    simp only [csN, csm_i, csm_r, Nat.reduceAdd, Nat.reduceLeDiff, wdI, wdR, wdN, clM_0, clC_0, clC_1, clC_6, clC_8, true_or, or_true, i10, i01, ob_some, ob_map, cal_v, rvs_some, rvs_none, XO_at, cal_x, m217, r217_0, r217_1, r217_4, r217_7, r217_8, r217_9, r217_11, r217_14, r217_17, r217_18, r217_19, r217_22, r217_23, r217_24, r217_27, r217_28, r217_29, r217_31, r217_33, r217_35, r217_38, r217_39, r217_40, r217_43, r217_44, r217_45, r217_48, r217_50, r217_52, r217_53, r217_54, r217_57, r217_58, r217_59, r217_60, r217_61, r217_64, r217_66, r217_68, r217_69, r217_70, r217_71, r217_72, r217_75, r217_77, r217_79, r217_80, r217_81, r217_82, r217_83, r217_86, r217_88, r217_90, r217_91, r217_92, r217_95, r217_96, r217_99, r217_100, r217_101, r217_102, r217_105, r217_107, r217_109, r217_110, r217_111, r217_114, r217_115, r217_118, r217_119, r217_120, r217_121, r217_124, r217_125, r217_126, r217_127, r217_128, r217_129, r217_130, r217_131, r217_134, r217_135, r217_136, r217_137, r217_138, r217_139, r217_140, r217_141, r217_142, r217_145, r217_147, r217_149, r217_150, r217_151, r217_154, c203, hu, bi_f, if_true, c196, Bool.false_and, cond_false]
    rfl
  | true =>
    cases hv : rI v 1 9 with
    | false =>
      have hv' : (!decide (v < 1) && !decide (9 < v)) = false := hv
      refine ⟨fun h => (by rw [hv'] at h; cases h), fun _ => ?_⟩
      simp only [csN, csm_i, csm_r, Nat.reduceAdd, Nat.reduceLeDiff, wdI, wdR, wdN, clM_0, clC_0, clC_1, clC_6, clC_8, true_or, or_true, i10, i01, ob_some, ob_map, cal_v, rvs_some, rvs_none, XO_at, cal_x, m217, r217_0, r217_1, r217_4, r217_7, r217_8, r217_9, r217_11, r217_14, r217_17, r217_18, r217_19, r217_22, r217_23, r217_24, r217_27, r217_28, r217_29, r217_31, r217_33, r217_35, r217_38, r217_39, r217_40, r217_43, r217_44, r217_45, r217_48, r217_50, r217_52, r217_53, r217_54, r217_57, r217_58, r217_59, r217_60, r217_61, r217_64, r217_66, r217_68, r217_69, r217_70, r217_71, r217_72, r217_75, r217_77, r217_79, r217_80, r217_81, r217_82, r217_83, r217_86, r217_88, r217_90, r217_91, r217_92, r217_95, r217_96, r217_99, r217_100, r217_101, r217_102, r217_105, r217_107, r217_109, r217_110, r217_111, r217_114, r217_115, r217_118, r217_119, r217_120, r217_121, r217_124, r217_125, r217_126, r217_127, r217_128, r217_129, r217_130, r217_131, r217_134, r217_135, r217_136, r217_137, r217_138, r217_139, r217_140, r217_141, r217_142, r217_145, r217_147, r217_149, r217_150, r217_151, r217_154, c203, hu, bi_t, bi_f, if_true, if_false, c193, hv, c196]
      rw [hv']
      rfl
    | true =>
      have hv' : (!decide (v < 1) && !decide (9 < v)) = true := hv
      rw [hv']
      have k3 : fin 84 3 = some 3 := fin_lit (by decide) (by decide)
      have k2 : fin 84 2 = some 2 := fin_lit (by decide) (by decide)
      by_cases hc8 : c < 8
      · refine ⟨fun _ => ?_, fun h => absurd (by simp [hc8]) h⟩
        have e0 : ¬ Int32.ofNat c = 8 := fun z => by have := i_inj (a := c) (b := 8) (by omega) (by omega) z; omega
        have e44 : (44 : Int32) + Int32.ofNat c = Int32.ofNat (44 + c) := i_add (a := 44)
        have e52 : (52 : Int32) + Int32.ofNat c = Int32.ofNat (52 + c) := i_add (a := 52)
        have e60 : (60 : Int32) + Int32.ofNat c = Int32.ofNat (60 + c) := i_add (a := 60)
        have e68 : (68 : Int32) + Int32.ofNat c = Int32.ofNat (68 + c) := i_add (a := 68)
        have e76 : (76 : Int32) + Int32.ofNat c = Int32.ofNat (76 + c) := i_add (a := 76)
        have f44 : fin 84 (Int32.ofNat (44 + c)) = some (44 + c) := fin_nat (by omega) (by omega)
        have f52 : fin 84 (Int32.ofNat (52 + c)) = some (52 + c) := fin_nat (by omega) (by omega)
        have f60 : fin 84 (Int32.ofNat (60 + c)) = some (60 + c) := fin_nat (by omega) (by omega)
        have f68 : fin 84 (Int32.ofNat (68 + c)) = some (68 + c) := fin_nat (by omega) (by omega)
        have f76 : fin 84 (Int32.ofNat (76 + c)) = some (76 + c) := fin_nat (by omega) (by omega)
        obtain ⟨G, hG⟩ : ∃ G, G = upd (upd (upd (upd (upd (upd (upd (m 1) (44 + c) (m 1 2)) (52 + c) u) (60 + c) v) (68 + c) (bi d)) (76 + c) (cond d 0 5)) 3 (Int32.ofNat c + 1)) 2 (m 1 2 + 1) := ⟨_, rfl⟩
        have g2 := hS.1.2.2.1
        have glo : ∀ k, k < 44 → ¬ k = 3 → ¬ k = 2 → G k = m 1 k := fun k hk q3 q2 => by
          rw [hG]
          simp only [upd_at]
          rw [if_neg q2, if_neg q3, if_neg (by omega), if_neg (by omega), if_neg (by omega), if_neg (by omega), if_neg (by omega)]
        have ghi : ∀ k, 44 ≤ k → ¬ k = 44 + c → ¬ k = 52 + c → ¬ k = 60 + c → ¬ k = 68 + c → ¬ k = 76 + c → G k = m 1 k := fun k hk q1 q2 q3 q4 q5 => by
          rw [hG]
          simp only [upd_at]
          rw [if_neg (by omega), if_neg (by omega), if_neg q5, if_neg q4, if_neg q3, if_neg q2, if_neg q1]
        have G3 : G 3 = Int32.ofNat (c + 1) := by
          rw [hG]
          simp only [upd_at]
          rw [if_neg (by omega), if_pos trivial]
          exact i_add (b := 1)
        have G2 : G 2 = s 20 26 + 1 := by
          rw [hG, g2, upd_at, if_pos rfl]
        have G44 : G (44 + c) = s 20 26 := by
          rw [hG, g2]
          simp only [upd_at]
          rw [if_neg (by omega), if_neg (by omega), if_neg (by omega), if_neg (by omega), if_neg (by omega), if_neg (by omega), if_pos trivial]
        have G52 : G (52 + c) = u := by
          rw [hG]
          simp only [upd_at]
          rw [if_neg (by omega), if_neg (by omega), if_neg (by omega), if_neg (by omega), if_neg (by omega), if_pos trivial]
        have G60 : G (60 + c) = v := by
          rw [hG]
          simp only [upd_at]
          rw [if_neg (by omega), if_neg (by omega), if_neg (by omega), if_neg (by omega), if_pos trivial]
        have G68 : G (68 + c) = bi d := by
          rw [hG]
          simp only [upd_at]
          rw [if_neg (by omega), if_neg (by omega), if_neg (by omega), if_pos trivial]
        have G76 : G (76 + c) = cond d 0 5 := by
          rw [hG]
          simp only [upd_at]
          rw [if_neg (by omega), if_neg (by omega), if_pos trivial]
        have L20 : ∀ j, ¬ j = 25 → ¬ j = 26 → lauS s c u v d 20 j = s 20 j := fun j q1 q2 => by
          unfold lauS
          rw [us_at, if_pos rfl, if_neg q2, us_at, if_pos rfl, if_neg q1]
          simp [us_ne]
        have L25 : lauS s c u v d 20 25 = Int32.ofNat (c + 1) := by
          unfold lauS
          rw [us_at, if_pos rfl, if_neg (by decide), us_at, if_pos rfl, if_pos rfl, a1]
          exact i_add (b := 1)
        have L26 : lauS s c u v d 20 26 = s 20 26 + 1 := by
          unfold lauS
          rw [us_at, if_pos rfl, if_pos rfl]
        have Llo : ∀ a, a < 8 → lauS s c u v d a = s a := fun a ha => by
          unfold lauS
          rw [us_ne (by omega), us_ne (by omega), us_ne (by omega), us_ne (by omega), us_ne (by omega), us_ne (by omega), us_ne (by omega)]
        have Lro : ∀ a, a = 9 ∨ a = 10 ∨ a = 11 ∨ a = 12 ∨ a = 13 → ∀ j, ¬ j = c → lauS s c u v d a j = s a j := fun a ha j hj => by
          unfold lauS
          rcases ha with rfl | rfl | rfl | rfl | rfl <;> simp [us_at, hj]
        have L9 : lauS s c u v d 9 c = s 20 26 := by unfold lauS; simp [us_at]
        have L10 : lauS s c u v d 10 c = u := by unfold lauS; simp [us_at]
        have L11 : lauS s c u v d 11 c = v := by unfold lauS; simp [us_at]
        have L12 : lauS s c u v d 12 c = cond d 0 5 := by unfold lauS; simp [us_at]
        have L13 : lauS s c u v d 13 c = cond d 1 (-1) := by unfold lauS; simp [us_at]
        have hRS : RS (lauS s c u v d) G := by
          have q1 := RS_20 (i := 26) (k := 2) (v := s 20 26 + 1) (by simp) hS
          refine RS_congr (RS_s (t := lauS s c u v d) q1 (fun j _ j25 => ?_) (fun a ha => by rw [Llo a ha, us_ne (by omega)])) (fun k hk q3 _ => ?_)
          · rw [us_at, if_pos rfl]
            by_cases h26 : j = 26
            · rw [if_pos h26, h26, L26]
            · rw [if_neg h26, L20 j j25 h26]
          · rw [upd_at]
            by_cases q2 : k = 2
            · rw [if_pos q2, q2, G2]
            · rw [if_neg q2]; exact glo k hk q3 q2
        refine ⟨G, m 8, ⟨⟨⟨⟨L25, by omega, fun q hq => by rw [Llo 2 (by omega)]; exact a3 q hq⟩, fun j hj => ?_⟩, hRS, G3, fun j hj => ?_⟩, ?_⟩, ?_⟩
        · by_cases hjc : j = c
          · unfold WB
            rw [hjc, L12, L13]
            cases d with
            | true => exact Or.inl ⟨rfl, 0, by omega, rfl⟩
            | false => exact Or.inr ⟨rfl, 4, by omega, rfl⟩
          · have := a4 j (by omega)
            unfold WB at this ⊢
            rw [Lro 12 (by simp) j hjc, Lro 13 (by simp) j hjc]
            exact this
        · by_cases hjc : j = c
          · unfold RB
            rw [hjc, L9, L10, L11, L12, L13, G44, G52, G60, G68, G76]
            refine ⟨rfl, rfl, rfl, rfl, ?_⟩
            cases d with
            | true => exact Or.inl ⟨rfl, rfl⟩
            | false => exact Or.inr ⟨rfl, rfl⟩
          · have := h4 j (by omega)
            unfold RB at this ⊢
            rw [Lro 9 (by simp) j hjc, Lro 10 (by simp) j hjc, Lro 11 (by simp) j hjc, Lro 12 (by simp) j hjc, Lro 13 (by simp) j hjc]
            rw [ghi _ (by omega) (by omega) (by omega) (by omega) (by omega) (by omega), ghi _ (by omega) (by omega) (by omega) (by omega) (by omega) (by omega), ghi _ (by omega) (by omega) (by omega) (by omega) (by omega) (by omega), ghi _ (by omega) (by omega) (by omega) (by omega) (by omega) (by omega), ghi _ (by omega) (by omega) (by omega) (by omega) (by omega) (by omega)]
            exact this
        · show lauS s c u v d 20 5 = G 7
          rw [L20 5 (by decide) (by decide), glo 7 (by omega) (by omega) (by omega)]; exact h5
        · rw [ua8_self]
          conv => lhs; rw [← ua_self1 (m := m)]
          cases d with
          | true =>
            have r3 : (upd (upd (upd (upd (upd (m 1) (44 + c) (m 1 2)) (52 + c) u) (60 + c) v) (68 + c) 1) (76 + c) 0) 3 = Int32.ofNat c := by
              simp only [upd_at]
              rw [if_neg (by omega), if_neg (by omega), if_neg (by omega), if_neg (by omega), if_neg (by omega)]
              exact h3
            have r2 : (upd (upd (upd (upd (upd (upd (m 1) (44 + c) (m 1 2)) (52 + c) u) (60 + c) v) (68 + c) 1) (76 + c) 0) 3 (Int32.ofNat c + 1)) 2 = m 1 2 := by
              simp only [upd_at]
              rw [if_neg (by omega), if_neg (by omega), if_neg (by omega), if_neg (by omega), if_neg (by omega), if_neg (by omega)]
            have r4 : (upd (upd (upd (upd (upd (upd (upd (m 1) (44 + c) (m 1 2)) (52 + c) u) (60 + c) v) (68 + c) 1) (76 + c) 0) 3 (Int32.ofNat c + 1)) 2 (m 1 2 + 1)) (44 + c) = s 20 26 := by
              have := G44
              rw [hG] at this
              exact this
            rw [hG]
            simp only [csN, csm_i, csm_r, Nat.reduceAdd, Nat.reduceLeDiff, wdI, wdR, wdN, clM_0, clC_0, clC_1, clC_6, clC_8, true_or, or_true, i10, i01, ob_some, ob_map, cal_v, rvs_some, rvs_none, XO_at, cal_x, m217, r217_0, r217_1, r217_4, r217_7, r217_8, r217_9, r217_11, r217_14, r217_17, r217_18, r217_19, r217_22, r217_23, r217_24, r217_27, r217_28, r217_29, r217_31, r217_33, r217_35, r217_38, r217_39, r217_40, r217_43, r217_44, r217_45, r217_48, r217_50, r217_52, r217_53, r217_54, r217_57, r217_58, r217_59, r217_60, r217_61, r217_64, r217_66, r217_68, r217_69, r217_70, r217_71, r217_72, r217_75, r217_77, r217_79, r217_80, r217_81, r217_82, r217_83, r217_86, r217_88, r217_90, r217_91, r217_92, r217_95, r217_96, r217_99, r217_100, r217_101, r217_102, r217_105, r217_107, r217_109, r217_110, r217_111, r217_114, r217_115, r217_118, r217_119, r217_120, r217_121, r217_124, r217_125, r217_126, r217_127, r217_128, r217_129, r217_130, r217_131, r217_134, r217_135, r217_136, r217_137, r217_138, r217_139, r217_140, r217_141, r217_142, r217_145, r217_147, r217_149, r217_150, r217_151, r217_154, c203, hu, bi_t, if_true, if_false, c193, hv, gM_0_0, lM_1, sM_1, k2, k3, e44, e52, e60, e68, e76, f44, f52, f60, f68, f76, h3, e0, Option.map_some, ua_same, us_ua, c195, m_self, r2, r3, r4]
            rfl
          | false =>
            have r3 : (upd (upd (upd (upd (upd (m 1) (44 + c) (m 1 2)) (52 + c) u) (60 + c) v) (68 + c) 0) (76 + c) 5) 3 = Int32.ofNat c := by
              simp only [upd_at]
              rw [if_neg (by omega), if_neg (by omega), if_neg (by omega), if_neg (by omega), if_neg (by omega)]
              exact h3
            have r2 : (upd (upd (upd (upd (upd (upd (m 1) (44 + c) (m 1 2)) (52 + c) u) (60 + c) v) (68 + c) 0) (76 + c) 5) 3 (Int32.ofNat c + 1)) 2 = m 1 2 := by
              simp only [upd_at]
              rw [if_neg (by omega), if_neg (by omega), if_neg (by omega), if_neg (by omega), if_neg (by omega), if_neg (by omega)]
            have r4 : (upd (upd (upd (upd (upd (upd (upd (m 1) (44 + c) (m 1 2)) (52 + c) u) (60 + c) v) (68 + c) 0) (76 + c) 5) 3 (Int32.ofNat c + 1)) 2 (m 1 2 + 1)) (44 + c) = s 20 26 := by
              have := G44
              rw [hG] at this
              exact this
            rw [hG]
            simp only [csN, csm_i, csm_r, Nat.reduceAdd, Nat.reduceLeDiff, wdI, wdR, wdN, clM_0, clC_0, clC_1, clC_6, clC_8, true_or, or_true, i10, i01, ob_some, ob_map, cal_v, rvs_some, rvs_none, XO_at, cal_x, m217, r217_0, r217_1, r217_4, r217_7, r217_8, r217_9, r217_11, r217_14, r217_17, r217_18, r217_19, r217_22, r217_23, r217_24, r217_27, r217_28, r217_29, r217_31, r217_33, r217_35, r217_38, r217_39, r217_40, r217_43, r217_44, r217_45, r217_48, r217_50, r217_52, r217_53, r217_54, r217_57, r217_58, r217_59, r217_60, r217_61, r217_64, r217_66, r217_68, r217_69, r217_70, r217_71, r217_72, r217_75, r217_77, r217_79, r217_80, r217_81, r217_82, r217_83, r217_86, r217_88, r217_90, r217_91, r217_92, r217_95, r217_96, r217_99, r217_100, r217_101, r217_102, r217_105, r217_107, r217_109, r217_110, r217_111, r217_114, r217_115, r217_118, r217_119, r217_120, r217_121, r217_124, r217_125, r217_126, r217_127, r217_128, r217_129, r217_130, r217_131, r217_134, r217_135, r217_136, r217_137, r217_138, r217_139, r217_140, r217_141, r217_142, r217_145, r217_147, r217_149, r217_150, r217_151, r217_154, c203, hu, bi_t, bi_f, if_true, if_false, c193, hv, gM_0_0, lM_1, sM_1, k2, k3, e44, e52, e60, e68, e76, f44, f52, f60, f68, f76, h3, e0, Option.map_some, ua_same, us_ua, c195, m_self, r2, r3, r4]
            rfl
      · refine ⟨fun h => (by simp [hc8] at h), fun _ => ?_⟩
        have e8 : c = 8 := by omega
        subst e8
        have q88 : (Int32.ofNat 8 = 8) = True := eq_true rfl
        simp only [csN, csm_i, csm_r, Nat.reduceAdd, Nat.reduceLeDiff, wdI, wdR, wdN, clM_0, clC_0, clC_1, clC_6, clC_8, true_or, or_true, i10, i01, ob_some, ob_map, cal_v, rvs_some, rvs_none, XO_at, cal_x, m217, r217_0, r217_1, r217_4, r217_7, r217_8, r217_9, r217_11, r217_14, r217_17, r217_18, r217_19, r217_22, r217_23, r217_24, r217_27, r217_28, r217_29, r217_31, r217_33, r217_35, r217_38, r217_39, r217_40, r217_43, r217_44, r217_45, r217_48, r217_50, r217_52, r217_53, r217_54, r217_57, r217_58, r217_59, r217_60, r217_61, r217_64, r217_66, r217_68, r217_69, r217_70, r217_71, r217_72, r217_75, r217_77, r217_79, r217_80, r217_81, r217_82, r217_83, r217_86, r217_88, r217_90, r217_91, r217_92, r217_95, r217_96, r217_99, r217_100, r217_101, r217_102, r217_105, r217_107, r217_109, r217_110, r217_111, r217_114, r217_115, r217_118, r217_119, r217_120, r217_121, r217_124, r217_125, r217_126, r217_127, r217_128, r217_129, r217_130, r217_131, r217_134, r217_135, r217_136, r217_137, r217_138, r217_139, r217_140, r217_141, r217_142, r217_145, r217_147, r217_149, r217_150, r217_151, r217_154, c203, hu, bi_t, if_true, if_false, c193, hv, gM_0_0, lM_1, k3, h3, Option.map_some, c196, q88]
        rfl
end MCB
