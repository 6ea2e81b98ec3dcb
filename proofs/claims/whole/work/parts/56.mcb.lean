/-! CHANGES of the model, the rest -/
section MCB
set_option maxRecDepth 20000
variable {x : SX} {n b c : Nat} {w : PW} {m s : NS} {g : Nat → Int32}
/-- the numbers that no change takes out of their bounds -/
def JC (s : NS) (c : Nat) : Prop := (∀ r, r < 6 → ∃ a, a < 91 ∧ s 7 r = Int32.ofNat a) ∧ sumTo (s 7) 6 = 360 + s 20 11 + s 20 12 - s 20 13 ∧ ∀ r : Nat, 0 < r → r < 5 → ctS s c (Int32.ofNat r) ≤ 3
theorem mn_all : ∀ a, a < 91 → ∀ v, v < 91 → ¬ 90 < a + v → mn (Int32.ofNat v) (90 - Int32.ofNat a) = Int32.ofNat v := by
  intro a ha v hv h
  unfold mn
  have e : (90 : Int32) - Int32.ofNat a = Int32.ofNat (90 - a) := i_subL (k := 90) (by omega)
  rw [e, if_neg]
  rw [i_lt (by omega) (by omega)]
  omega
def code5 (f : Nat) : Int32 := if f = 1 then 1 else if f = 2 then 2 else 3
theorem neq5 : ¬ (5 : Int32) = 0 ∧ ¬ (5 : Int32) = 1 ∧ ¬ (5 : Int32) = 2 ∧ ¬ (5 : Int32) = 3 ∧ ¬ (5 : Int32) = 4 := by decide
theorem neq6 : ¬ (6 : Int32) = 0 ∧ ¬ (6 : Int32) = 1 ∧ ¬ (6 : Int32) = 2 ∧ ¬ (6 : Int32) = 3 ∧ ¬ (6 : Int32) = 4 ∧ ¬ (6 : Int32) = 5 := by decide
theorem neq7 : ¬ (7 : Int32) = 0 ∧ ¬ (7 : Int32) = 1 ∧ ¬ (7 : Int32) = 2 ∧ ¬ (7 : Int32) = 3 ∧ ¬ (7 : Int32) = 4 ∧ ¬ (7 : Int32) = 5 ∧ ¬ (7 : Int32) = 6 := by decide
theorem c229 {u v z : Int32} (hR : Rel s (m 1) c) (hJ : ∀ r, r < 6 → ∃ a, a < 91 ∧ s 7 r = Int32.ofNat a) : MCH x n b w m s c 5 u v z code5 (RM x 229 [.ref b, .int u, .int v] (setM w b m) n) := by
  obtain ⟨n0, n1, n2, n3, n4⟩ := neq5
  have hft : ftS s c 5 u v z = cond (rg u 6) (cond (!decide (v < 1) && !decide (90 < v)) (if 90 < atv 6 (s 7) u + v then 4 else 0) 2) 1 := by
    unfold ftS
    rw [if_neg n0, if_neg n1, if_neg n2, if_neg n3, if_neg n4, if_pos rfl]
  have hpf : pfS s c 5 u v z = (fillS s u.toNatClampNeg v 7 u.toNatClampNeg, fillS s u.toNatClampNeg v) := by
    unfold pfS
    rw [if_neg n0, if_neg n1, if_neg n2, if_neg n3, if_neg n4, if_pos rfl]
  have hpc : pcS s c 5 u v z = c := by
    unfold pcS
    rw [if_neg n0, if_neg n1, if_neg n2, if_neg n3, if_neg n4, if_pos rfl]
  unfold MCH
  rw [hft, hpf, hpc]
  cases hb : rg u 6 with
  | false =>
    refine ⟨fun h => by simp at h, fun _ => ?_⟩
    simp only [csN, csm_i, csm_r, Nat.reduceAdd, Nat.reduceLeDiff, wdI, wdR, wdN, clM_0, clC_0, clC_1, clC_6, clC_8, true_or, or_true, i10, i01, ob_some, ob_map, cal_v, rvs_some, rvs_none, XO_at, cal_x, m229, r229_0, r229_1, r229_4, r229_7, r229_8, r229_9, r229_12, r229_13, r229_14, r229_15, r229_17, r229_20, r229_23, r229_24, r229_25, r229_28, r229_29, r229_30, r229_33, r229_35, r229_36, r229_37, r229_38, r229_39, r229_40, r229_42, r229_45, r229_46, r229_47, r229_50, r229_51, r229_52, r229_55, r229_57, r229_58, r229_59, r229_60, r229_61, r229_62, r229_63, r229_64, r229_65, r229_68, r229_69, r229_70, r229_71, r229_72, r229_73, r229_74, r229_75, r229_76, r229_79, r229_81, r229_82, r229_83, r229_84, r229_87, c202, hb, bi_f, if_true, c196, cond_false]
    rfl
  | true =>
    obtain ⟨r, hr, rfl⟩ := rg_nat (N := 6) (by omega) hb
    have hat : atv 6 (s 7) (Int32.ofNat r) = s 7 r := atv_nat hr (by omega)
    rw [hat, i32_cl (show r < 2147483648 by omega)]
    have hS := hR.1.2.1
    have e8 := hS.2.1 r hr
    have h1 : (8 : Int32) + Int32.ofNat r = Int32.ofNat (8 + r) := i_add (a := 8)
    have h3 : fin 84 (Int32.ofNat (8 + r)) = some (8 + r) := fin_nat (by omega) (by omega)
    have k5 : fin 84 5 = some 5 := fin_lit (by decide) (by decide)
    cases hv : rI v 1 90 with
    | false =>
      have hv' : (!decide (v < 1) && !decide (90 < v)) = false := hv
      refine ⟨fun h => (by rw [hv'] at h; cases h), fun _ => ?_⟩
      simp only [csN, csm_i, csm_r, Nat.reduceAdd, Nat.reduceLeDiff, wdI, wdR, wdN, clM_0, clC_0, clC_1, clC_6, clC_8, true_or, or_true, i10, i01, ob_some, ob_map, cal_v, rvs_some, rvs_none, XO_at, cal_x, m229, r229_0, r229_1, r229_4, r229_7, r229_8, r229_9, r229_12, r229_13, r229_14, r229_15, r229_17, r229_20, r229_23, r229_24, r229_25, r229_28, r229_29, r229_30, r229_33, r229_35, r229_36, r229_37, r229_38, r229_39, r229_40, r229_42, r229_45, r229_46, r229_47, r229_50, r229_51, r229_52, r229_55, r229_57, r229_58, r229_59, r229_60, r229_61, r229_62, r229_63, r229_64, r229_65, r229_68, r229_69, r229_70, r229_71, r229_72, r229_73, r229_74, r229_75, r229_76, r229_79, r229_81, r229_82, r229_83, r229_84, r229_87, c202, hb, bi_t, bi_f, if_true, if_false, c193, hv, c196, cond_true]
      rw [hv']
      rfl
    | true =>
      have hv' : (!decide (v < 1) && !decide (90 < v)) = true := hv
      rw [hv']
      by_cases h9 : 90 < s 7 r + v
      · refine ⟨fun h => (by rw [if_pos h9] at h; cases h), fun _ => ?_⟩
        rw [e8] at h9
        simp only [csN, csm_i, csm_r, Nat.reduceAdd, Nat.reduceLeDiff, wdI, wdR, wdN, clM_0, clC_0, clC_1, clC_6, clC_8, true_or, or_true, i10, i01, ob_some, ob_map, cal_v, rvs_some, rvs_none, XO_at, cal_x, m229, r229_0, r229_1, r229_4, r229_7, r229_8, r229_9, r229_12, r229_13, r229_14, r229_15, r229_17, r229_20, r229_23, r229_24, r229_25, r229_28, r229_29, r229_30, r229_33, r229_35, r229_36, r229_37, r229_38, r229_39, r229_40, r229_42, r229_45, r229_46, r229_47, r229_50, r229_51, r229_52, r229_55, r229_57, r229_58, r229_59, r229_60, r229_61, r229_62, r229_63, r229_64, r229_65, r229_68, r229_69, r229_70, r229_71, r229_72, r229_73, r229_74, r229_75, r229_76, r229_79, r229_81, r229_82, r229_83, r229_84, r229_87, c202, hb, bi_t, if_true, if_false, c193, hv, gM_0_0, lM_1, h1, h3, Option.map_some, h9, c196, cond_true]
        rw [e8, if_pos h9]
        rfl
      · refine ⟨fun _ => ?_, fun h => (by rw [if_neg h9] at h; exact absurd rfl h)⟩
        rw [Bool.and_eq_true] at hv'
        obtain ⟨a, ha, ea⟩ := hJ r hr
        obtain ⟨q, q1, q2, rfl⟩ := in_nat (lo := 1) (hi := 90) (by omega) (by omega) (v := v) (by simpa using hv'.1) (by simpa using hv'.2)
        have hq : ¬ 90 < a + q := by
          intro z
          apply h9
          rw [ea, i_add]
          exact nlt (a := 90) (by omega) (by omega) z
        have hmn : mn (Int32.ofNat q) (90 - s 7 r) = Int32.ofNat q := by rw [ea]; exact mn_all a ha q (by omega) hq
        have hfs : fillS s r (Int32.ofNat q) = us (us (us s 20 12 (s 20 12 + Int32.ofNat q)) 7 r (s 7 r + Int32.ofNat q)) 20 13 (s 20 13 + 0) := by
          unfold fillS pourS
          rw [us_ne (by decide : ¬ 7 = 20), hmn, Int32.sub_self, us_at, if_pos rfl, if_neg (by decide)]
        rw [hfs]
        dsimp only
        have hr7 : us (us (us s 20 12 (s 20 12 + Int32.ofNat q)) 7 r (s 7 r + Int32.ofNat q)) 20 13 (s 20 13 + 0) 7 r = s 7 r + Int32.ofNat q := by rw [us_ne (by decide), us_at, if_pos rfl, if_pos rfl]
        rw [hr7]
        have k1 := RS_20 (i := 12) (k := 5) (v := s 20 12 + Int32.ofNat q) (by simp) hS
        have k2 := RS_7 (r := r) (v := s 7 r + Int32.ofNat q) hr k1
        have k3 : RS (us (us (us s 20 12 (s 20 12 + Int32.ofNat q)) 7 r (s 7 r + Int32.ofNat q)) 20 13 (s 20 13 + 0)) _ := RS_s k2 (fun j _ _ => by
          rw [us_at, if_pos rfl]
          split
          · next e => rw [e, us_ne (by decide), us_at, if_pos rfl, if_neg (by decide), Int32.add_zero]
          · rfl) (fun a ha => by rw [us_ne (by omega)])
        have k4 : RS (us (us (us s 20 12 (s 20 12 + Int32.ofNat q)) 7 r (s 7 r + Int32.ofNat q)) 20 13 (s 20 13 + 0)) (upd (upd (m 1) (8 + r) (s 7 r + Int32.ofNat q)) 5 (s 20 12 + Int32.ofNat q)) := RS_congr k3 (fun k _ _ _ => by
          simp only [upd_at]
          by_cases c1 : k = 5
          · rw [if_pos c1, if_neg (by omega), if_pos c1]
          · rw [if_neg c1, if_neg c1])
        refine ⟨upd (upd (m 1) (8 + r) (s 7 r + Int32.ofNat q)) 5 (s 20 12 + Int32.ofNat q), m 8, ?_, ?_⟩
        · exact Rel_s hR (IC_s hR.1.1 (by rw [us_at, if_pos rfl, if_neg (by decide), us_ne (by decide), us_at, if_pos rfl, if_neg (by decide)]) (by rw [us_ne (by decide), us_ne (by decide), us_ne (by decide)]) (by rw [us_ne (by decide), us_ne (by decide), us_ne (by decide)]) (by rw [us_ne (by decide), us_ne (by decide), us_ne (by decide)])) k4 (by rw [upd_at, if_neg (by omega), upd_at, if_neg (by omega)]) (fun a h1 h2 => by rw [us_ne (by omega), us_ne (by omega), us_ne (by omega)]) (fun k hk => by rw [upd_at, if_neg (by omega), upd_at, if_neg (by omega)]) (by rw [us_at, if_pos rfl, if_neg (by decide), us_ne (by decide), us_at, if_pos rfl, if_neg (by decide)]) (by rw [upd_at, if_neg (by omega), upd_at, if_neg (by omega)])
        · have h9' : ¬ 90 < m 1 (8 + r) + Int32.ofNat q := by rw [← e8]; exact h9
          have n5 : ¬ 5 = 8 + r := by omega
          have n8 : ¬ 8 + r = 5 := by omega
          have e5 := hS.1.2.2.2.2.1
          rw [ua8_self]
          conv => lhs; rw [← ua_self1 (m := m)]
          simp only [csN, csm_i, csm_r, Nat.reduceAdd, Nat.reduceLeDiff, wdI, wdR, wdN, clM_0, clC_0, clC_1, clC_6, clC_8, true_or, or_true, i10, i01, ob_some, ob_map, cal_v, rvs_some, rvs_none, XO_at, cal_x, m229, r229_0, r229_1, r229_4, r229_7, r229_8, r229_9, r229_12, r229_13, r229_14, r229_15, r229_17, r229_20, r229_23, r229_24, r229_25, r229_28, r229_29, r229_30, r229_33, r229_35, r229_36, r229_37, r229_38, r229_39, r229_40, r229_42, r229_45, r229_46, r229_47, r229_50, r229_51, r229_52, r229_55, r229_57, r229_58, r229_59, r229_60, r229_61, r229_62, r229_63, r229_64, r229_65, r229_68, r229_69, r229_70, r229_71, r229_72, r229_73, r229_74, r229_75, r229_76, r229_79, r229_81, r229_82, r229_83, r229_84, r229_87, c202, hb, bi_t, if_false, c193, hv, gM_0_0, lM_1, sM_1, h1, h3, k5, Option.map_some, ua_same, us_ua, h9', c195, m_self, upd_at, n5, n8, if_true]
          rw [e8, e5]
/-- an hour leaves the number of those that have left as it was -/
theorem hr_5 : hrS s c 20 5 = s 20 5 := by
  unfold hrS arS
  rw [us_at, if_pos rfl, if_neg (by decide), flA_out (by decide)]
  have : ∀ (d i : Nat) (s : NS) (P : Int32), lpS c d i s P 20 5 = s 20 5 := by
    intro d
    induction d with
    | zero => intro i s P; rfl
    | succ d ih =>
      intro i s P
      unfold lpS
      rw [ih]
      unfold stS
      cases decide ((P >>> (Int32.ofNat (gN s i) &&& 31)) &&& 1 = 0) && mpS s c i (gN s i) (rN s i) with
      | true => rw [cond_true]; exact mvd_20 (by decide)
      | false => rfl
  unfold mdS
  rw [this, h1S_20 (by decide) (by decide) (by decide)]
theorem ph_5 (d : Nat) : ∀ (s : NS) (c : Nat) (L : Int32), (phS d s c L).1 20 5 = s 20 5 := by
  induction d with
  | zero => intro s c L; rfl
  | succ d ih => intro s c L; unfold phS; rw [ih, hr_5]
theorem c235 {u v z : Int32} (hR : Rel s (m 1) c) : MCH x n b w m s c 7 u v z code0 (RM x 235 [.ref b, .int u] (setM w b m) n) := by
  obtain ⟨n0, n1, n2, n3, n4, n5, n6⟩ := neq7
  have hft : ftS s c 7 u v z = cond (!decide (u < 1) && !decide (100 < u)) 0 2 := by
    unfold ftS
    rw [if_neg n0, if_neg n1, if_neg n2, if_neg n3, if_neg n4, if_neg n5, if_neg n6]
  have hpf : pfS s c 7 u v z = ((phS u.toNatClampNeg s c 0).2.2, pdS u.toNatClampNeg s c) := by
    unfold pfS
    rw [if_neg n0, if_neg n1, if_neg n2, if_neg n3, if_neg n4, if_neg n5, if_neg n6]
  have hpc : pcS s c 7 u v z = (phS u.toNatClampNeg s c 0).2.1 := by
    unfold pcS
    rw [if_neg n0, if_neg n1, if_neg n2, if_neg n3, if_neg n4, if_neg n5, if_neg n6]
  unfold MCH
  rw [hft, hpf, hpc]
  cases hb : rI u 1 100 with
  | false =>
    have hb' : (!decide (u < 1) && !decide (100 < u)) = false := hb
    refine ⟨fun h => (by rw [hb'] at h; cases h), fun _ => ?_⟩
    simp only [csN, csm_i, csm_r, Nat.reduceAdd, Nat.reduceLeDiff, wdI, wdR, wdN, clM_0, clC_0, clC_1, clC_6, clC_8, true_or, or_true, i10, i01, ob_some, ob_map, cal_v, rvs_some, rvs_none, XO_at, cal_x, m235, r235_0, r235_1, r235_2, r235_4, r235_7, r235_10, r235_11, r235_12, r235_15, r235_16, r235_17, r235_18, r235_19, r235_20, r235_21, r235_22, r235_25, r235_26, r235_27, r235_30, r235_31, r235_32, r235_35, r235_38, r235_39, r235_40, r235_43, c193, hb, bi_f, if_true, c196]
    rfl
  | true =>
    have hb' : (!decide (u < 1) && !decide (100 < u)) = true := hb
    refine ⟨fun _ => ?_, fun h => (by rw [hb'] at h; exact absurd rfl h)⟩
    rw [Bool.and_eq_true] at hb'
    obtain ⟨H, q1, q2, rfl⟩ := in_nat (lo := 1) (hi := 100) (by omega) (by omega) (v := u) (by simpa using hb'.1) (by simpa using hb'.2)
    rw [i32_cl (show H < 2147483648 by omega)]
    obtain ⟨g', f', a1, a2, a3⟩ := l235 (x := x) (n := n) (b := b) (w := w) (u := u) (H := H) (by omega) H 0 s m c 0 (by omega) hR.1
    rw [Int32.add_zero] at a2
    refine ⟨g', f', ⟨?_, ?_⟩, ?_⟩
    · obtain ⟨b1, b2, b3, b4⟩ := a1
      unfold pdS
      refine ⟨IC_s b1 (by rw [us_at, if_pos rfl, if_neg (by decide)]) (by rw [us_ne (by decide)]) (by rw [us_ne (by decide)]) (by rw [us_ne (by decide)]), RS_s b2 (fun j h5 _ => by rw [us_at, if_pos rfl, if_neg h5]) (fun a ha => by rw [us_ne (by omega)]), b3, fun j hj => RB_s (b4 j hj) (fun a h1 h2 => by rw [us_ne (by omega)]) (fun _ _ => rfl)⟩
    · unfold pdS
      dsimp only
      rw [us_at, if_pos rfl, if_pos rfl, a2, ← hR.2]
      congr 1
      exact ph_5 H s c 0
    · simp only [csN, csm_i, csm_r, Nat.reduceAdd, Nat.reduceLeDiff, wdI, wdR, wdN, clM_0, clC_0, clC_1, clC_6, clC_8, true_or, or_true, i10, i01, ob_some, ob_map, cal_v, rvs_some, rvs_none, XO_at, cal_x, m235, r235_0, r235_1, r235_2, r235_4, r235_7, r235_10, r235_11, r235_12, r235_15, r235_16, r235_17, r235_18, r235_19, r235_21, r235_22, r235_25, r235_26, r235_27, r235_30, r235_31, r235_32, r235_35, r235_38, r235_39, r235_40, r235_43, c193, hb, bi_t, if_false]
      exact a3
end MCB
