/-! CHANGES of the model -/
section MCH
set_option maxRecDepth 20000
variable {x : SX} {n b c : Nat} {w : PW} {m s : NS} {g : Nat → Int32}
/-- how many barges there are behind a change -/
def pcS (s : NS) (c : Nat) (k u v z : Int32) : Nat :=
  if k = 0 then c + 1 else if k = 1 then c else if k = 2 then c else if k = 3 then c else if k = 4 then c else if k = 5 then c
  else if k = 6 then cnt (fun j => decide (¬ Int32.ofNat j = ixA (s 9) u c 0)) c else (phS u.toNatClampNeg s c 0).2.1
theorem IC_s {t : NS} (h : IC s c) (h25 : t 20 25 = s 20 25) (h2 : t 2 = s 2) (h12 : t 12 = s 12) (h13 : t 13 = s 13) : IC t c := by
  obtain ⟨⟨a1, a2, a3⟩, a4⟩ := h
  refine ⟨⟨by rw [h25]; exact a1, a2, by rw [h2]; exact a3⟩, fun j hj => ?_⟩
  have := a4 j hj
  unfold WB at this ⊢
  rw [h12, h13]
  exact this
theorem RB_s {t : NS} {g' : Nat → Int32} {i j : Nat} (h : RB s g i j) (ht : ∀ a, 9 ≤ a → a < 14 → t a = s a) (hg : ∀ k, 44 ≤ k → g' k = g k) : RB t g' i j := by
  unfold RB at h ⊢
  rw [ht 9 (by omega) (by omega), ht 10 (by omega) (by omega), ht 11 (by omega) (by omega), ht 12 (by omega) (by omega), ht 13 (by omega) (by omega), hg _ (by omega), hg _ (by omega), hg _ (by omega), hg _ (by omega), hg _ (by omega)]
  exact h
/-- a change of a number that the fleet doesn't have -/
theorem Rel_s {t : NS} {g' : Nat → Int32} (h : Rel s g c) (hI : IC t c) (hS : RS t g') (h3 : g' 3 = g 3) (ht : ∀ a, 9 ≤ a → a < 14 → t a = s a) (hg : ∀ k, 44 ≤ k → g' k = g k) (h5 : t 20 5 = s 20 5) (h7 : g' 7 = g 7) : Rel t g' c := by
  obtain ⟨⟨a1, a2, a3, a4⟩, a5⟩ := h
  exact ⟨⟨hI, hS, by rw [h3]; exact a3, fun j hj => RB_s (a4 j hj) ht hg⟩, by rw [h5, h7]; exact a5⟩
theorem i_1924 {K gt t : Nat} : Int32.ofNat K + 2 * Int32.ofNat gt + Int32.ofNat t = Int32.ofNat (K + (gt * 2 + t)) := i_K2g
theorem RS_4 {r : Nat} {v : Int32} (hr : r < 10) (hv : ∃ a, a < 12 ∧ v = Int32.ofNat a) (h : RS s g) : RS (us s 4 r v) (upd g (19 + r) v) := by
  obtain ⟨⟨a1, a2, a3, a4, a5, a6⟩, h2, h3, h4, h5, h6⟩ := h
  refine ⟨⟨?_, ?_, ?_, ?_, ?_, ?_⟩, fun q hq => ?_, fun i hi => ?_, fun j hj => ?_, fun j hj => ?_, fun i hi => ?_⟩
  · rw [us_ne (by decide), upd_at, if_neg (by omega)]; exact a1
  · rw [us_ne (by decide), upd_at, if_neg (by omega)]; exact a2
  · rw [us_ne (by decide), upd_at, if_neg (by omega)]; exact a3
  · rw [us_ne (by decide), upd_at, if_neg (by omega)]; exact a4
  · rw [us_ne (by decide), upd_at, if_neg (by omega)]; exact a5
  · rw [us_ne (by decide), upd_at, if_neg (by omega)]; exact a6
  · rw [us_ne (by decide), upd_at, if_neg (by omega)]; exact h2 q hq
  · rw [us_ne (by decide), upd_at, if_neg (by omega)]; exact h3 i hi
  · rw [us_at, if_pos rfl, upd_at]
    by_cases hq2 : j = r
    · rw [if_pos hq2, if_pos (by omega)]; exact ⟨rfl, hv⟩
    · rw [if_neg hq2, if_neg (by omega)]; exact h4 j hj
  · rw [us_ne (by decide), upd_at, if_neg (by omega)]; exact h5 j hj
  · rw [us_ne (by decide), upd_at, if_neg (by omega)]; exact h6 i hi
theorem RS_2 {r k : Nat} (hr : r < 5) (hk : k < 4) (h : RS s g) : RS (us s 2 r (ltO (Int32.ofNat k))) (upd g (14 + r) (Int32.ofNat k)) := by
  obtain ⟨⟨a1, a2, a3, a4, a5, a6⟩, h2, h3, h4, h5, h6⟩ := h
  refine ⟨⟨?_, ?_, ?_, ?_, ?_, ?_⟩, fun q hq => ?_, fun i hi => ?_, fun j hj => ?_, fun j hj => ?_, fun i hi => ?_⟩
  · rw [us_ne (by decide), upd_at, if_neg (by omega)]; exact a1
  · rw [us_ne (by decide), upd_at, if_neg (by omega)]; exact a2
  · rw [us_ne (by decide), upd_at, if_neg (by omega)]; exact a3
  · rw [us_ne (by decide), upd_at, if_neg (by omega)]; exact a4
  · rw [us_ne (by decide), upd_at, if_neg (by omega)]; exact a5
  · rw [us_ne (by decide), upd_at, if_neg (by omega)]; exact a6
  · rw [us_ne (by decide), upd_at, if_neg (by omega)]; exact h2 q hq
  · rw [us_at, if_pos rfl, upd_at]
    by_cases hq2 : i = r
    · rw [if_pos hq2, if_pos (by omega)]; exact ⟨k, hk, rfl, rfl⟩
    · rw [if_neg hq2, if_neg (by omega)]; exact h3 i hi
  · rw [us_ne (by decide), upd_at, if_neg (by omega)]; exact h4 j hj
  · rw [us_ne (by decide), upd_at, if_neg (by omega)]; exact h5 j hj
  · rw [us_ne (by decide), upd_at, if_neg (by omega)]; exact h6 i hi
/-- what a change of the model owes: its answer where nothing is thrown, the new canal; what it throws -/
def MCH (x : SX) (n b : Nat) (w : PW) (m s : NS) (c : Nat) (k u v z : Int32) (code : Nat → Int32) (o : Option RR) : Prop :=
  (ftS s c k u v z = 0 → ∃ g' f', Rel (pfS s c k u v z).2 g' (pcS s c k u v z) ∧ o = some (.inl (some (.int (pfS s c k u v z).1)), setM w b (ua (ua (us m 20 13 0) 8 f') 1 g'), n)) ∧
  (¬ ftS s c k u v z = 0 → o = some (.inl (some (.int 0)), setM w b (us m 20 13 (code (ftS s c k u v z))), n))
theorem ua8_self {g : Nat → Int32} {v : Int32} : ua (ua (us m 20 13 v) 8 (m 8)) 1 g = ua (us m 20 13 v) 1 g := by
  funext a
  unfold ua us ua
  by_cases h1 : a = 1
  · subst h1; rfl
  · rw [if_neg h1, if_neg h1]
    by_cases h8 : a = 8
    · subst h8; rfl
    · rw [if_neg h8]
def code1 (f : Nat) : Int32 := if f = 1 then 1 else if f = 2 then 2 else 3
def codeB (f : Nat) : Int32 := if f = 2 then 1 else 2
def code0 (_ : Nat) : Int32 := 1
theorem m_self {v : Int32} {g : Nat → Int32} : us (ua m 1 g) 20 13 v = ua (us m 20 13 v) 1 g := us_ua20
theorem c221 {u v z : Int32} (hR : Rel s (m 1) c) : MCH x n b w m s c 1 u v z code1 (RM x 221 [.ref b, .int u, .int v, .int z] (setM w b m) n) := by
  have hft : ftS s c 1 u v z = cond (rg u 5 && rg v 2) (cond (rg z 12) 0 2) 1 := by
    unfold ftS
    rw [if_neg (by decide), if_pos rfl]
  have hpf : pfS s c 1 u v z = (s 4 (u * 2 + v).toNatClampNeg, us s 4 (u * 2 + v).toNatClampNeg z) := by
    unfold pfS
    rw [if_neg (by decide), if_pos rfl]
  have hpc : pcS s c 1 u v z = c := by
    unfold pcS
    rw [if_neg (by decide), if_pos rfl]
  unfold MCH
  rw [hft, hpf, hpc]
  cases hb : (rg u 5 && rg v 2) with
  | false =>
    refine ⟨fun h => by simp at h, fun _ => ?_⟩
    simp only [csN, csm_i, csm_r, Nat.reduceAdd, Nat.reduceLeDiff, wdI, wdR, wdN, clM_0, clC_0, clC_1, clC_6, clC_8, true_or, or_true, i10, i01, ob_some, ob_map, cal_v, rvs_some, rvs_none, XO_at, cal_x, m221, r221_0, r221_1, r221_2, r221_5, r221_8, r221_9, r221_10, r221_13, r221_14, r221_15, r221_18, r221_21, r221_22, r221_23, r221_26, r221_27, r221_28, r221_31, r221_33, r221_34, r221_35, r221_36, r221_37, r221_38, r221_39, r221_40, r221_42, r221_43, r221_46, r221_48, r221_49, r221_50, r221_51, r221_52, r221_53, r221_54, r221_55, r221_56, r221_57, r221_59, r221_62, c201, hb, bi_f, if_true, c196, cond_false]
    rfl
  | true =>
    rw [Bool.and_eq_true] at hb
    obtain ⟨gt, hg, rfl⟩ := rg_nat (N := 5) (by omega) hb.1
    obtain ⟨t, ht, rfl⟩ := rg_nat (N := 2) (by omega) hb.2
    cases hz : rg z 12 with
    | false =>
      refine ⟨fun h => by simp at h, fun _ => ?_⟩
      simp only [csN, csm_i, csm_r, Nat.reduceAdd, Nat.reduceLeDiff, wdI, wdR, wdN, clM_0, clC_0, clC_1, clC_6, clC_8, true_or, or_true, i10, i01, ob_some, ob_map, cal_v, rvs_some, rvs_none, XO_at, cal_x, m221, r221_0, r221_1, r221_2, r221_5, r221_8, r221_9, r221_10, r221_13, r221_14, r221_15, r221_18, r221_21, r221_22, r221_23, r221_26, r221_27, r221_28, r221_31, r221_33, r221_34, r221_35, r221_36, r221_37, r221_38, r221_39, r221_40, r221_42, r221_43, r221_46, r221_48, r221_49, r221_50, r221_51, r221_52, r221_53, r221_54, r221_55, r221_56, r221_57, r221_59, r221_62, c201, hb.1, hb.2, Bool.and_self, bi_t, bi_f, if_true, if_false, c203, hz, c196, cond_false, cond_true]
      rfl
    | true =>
      obtain ⟨a, ha, rfl⟩ := rg_nat (N := 12) (by omega) hz
      refine ⟨fun _ => ?_, fun h => by simp at h⟩
      have e1 : (Int32.ofNat gt * 2 + Int32.ofNat t).toNatClampNeg = gt * 2 + t := by rw [i_g2, i32_cl (by omega)]
      rw [e1]
      have hS := hR.1.2.1
      obtain ⟨e4, -⟩ := hS.2.2.2.1 (gt * 2 + t) (by omega)
      refine ⟨upd (m 1) (19 + (gt * 2 + t)) (Int32.ofNat a), m 8, ?_, ?_⟩
      · dsimp only
        exact Rel_s hR (IC_s hR.1.1 (by rw [us_ne (by decide)]) (by rw [us_ne (by decide)]) (by rw [us_ne (by decide)]) (by rw [us_ne (by decide)])) (RS_4 (by omega) ⟨a, ha, rfl⟩ hS) (by rw [upd_at, if_neg (by omega)]) (fun a h1 h2 => by rw [us_ne (by omega)]) (fun k hk => by rw [upd_at, if_neg (by omega)]) (by rw [us_ne (by decide)]) (by rw [upd_at, if_neg (by omega)])
      · have h1 : (19 : Int32) + 2 * Int32.ofNat gt + Int32.ofNat t = Int32.ofNat (19 + (gt * 2 + t)) := i_K2g (K := 19)
        have h3 : fin 84 (Int32.ofNat (19 + (gt * 2 + t))) = some (19 + (gt * 2 + t)) := fin_nat (by omega) (by omega)
        rw [ua8_self]
        conv => lhs; rw [← ua_self1 (m := m)]
        simp only [csN, csm_i, csm_r, Nat.reduceAdd, Nat.reduceLeDiff, wdI, wdR, wdN, clM_0, clC_0, clC_1, clC_6, clC_8, true_or, or_true, i10, i01, ob_some, ob_map, cal_v, rvs_some, rvs_none, XO_at, cal_x, m221, r221_0, r221_1, r221_2, r221_5, r221_8, r221_9, r221_10, r221_13, r221_14, r221_15, r221_18, r221_21, r221_22, r221_23, r221_26, r221_27, r221_28, r221_31, r221_33, r221_34, r221_35, r221_36, r221_37, r221_38, r221_39, r221_40, r221_42, r221_43, r221_46, r221_48, r221_49, r221_50, r221_51, r221_52, r221_53, r221_54, r221_55, r221_56, r221_57, r221_59, r221_62, c201, hb.1, hb.2, Bool.and_self, bi_t, if_false, c203, hz, gM_0_0, lM_1, sM_1, h1, h3, Option.map_some, ua_same, us_ua, c195, m_self]
        rw [e4]
theorem c223 {u v z : Int32} (hR : Rel s (m 1) c) : MCH x n b w m s c 2 u v z code1 (RM x 223 [.ref b, .int u, .int v] (setM w b m) n) := by
  have hft : ftS s c 2 u v z = cond (rg u 5 && rg v 2) 0 1 := by
    unfold ftS
    rw [if_neg (by decide), if_neg (by decide), if_pos rfl]
  have hpf : pfS s c 2 u v z = (s 5 (u * 2 + v).toNatClampNeg, us s 5 (u * 2 + v).toNatClampNeg 0) := by
    unfold pfS
    rw [if_neg (by decide), if_neg (by decide), if_pos rfl]
  have hpc : pcS s c 2 u v z = c := by
    unfold pcS
    rw [if_neg (by decide), if_neg (by decide), if_pos rfl]
  unfold MCH
  rw [hft, hpf, hpc]
  cases hb : (rg u 5 && rg v 2) with
  | false =>
    refine ⟨fun h => by simp at h, fun _ => ?_⟩
    simp only [csN, csm_i, csm_r, Nat.reduceAdd, Nat.reduceLeDiff, wdI, wdR, wdN, clM_0, clC_0, clC_1, clC_6, clC_8, true_or, or_true, i10, i01, ob_some, ob_map, cal_v, rvs_some, rvs_none, XO_at, cal_x, m223, r223_0, r223_1, r223_2, r223_5, r223_8, r223_9, r223_10, r223_13, r223_14, r223_15, r223_18, r223_20, r223_21, r223_22, r223_23, r223_24, r223_25, r223_26, r223_27, r223_28, r223_29, r223_32, r223_34, r223_35, r223_36, r223_37, r223_38, r223_39, r223_40, r223_41, r223_42, r223_43, r223_44, r223_47, c201, hb, bi_f, if_true, c196, cond_false]
    rfl
  | true =>
    rw [Bool.and_eq_true] at hb
    obtain ⟨gt, hg, rfl⟩ := rg_nat (N := 5) (by omega) hb.1
    obtain ⟨t, ht, rfl⟩ := rg_nat (N := 2) (by omega) hb.2
    refine ⟨fun _ => ?_, fun h => by simp at h⟩
    have e1 : (Int32.ofNat gt * 2 + Int32.ofNat t).toNatClampNeg = gt * 2 + t := by rw [i_g2, i32_cl (by omega)]
    rw [e1]
    have hS := hR.1.2.1
    obtain ⟨e4, -⟩ := hS.2.2.2.2.1 (gt * 2 + t) (by omega)
    refine ⟨upd (m 1) (29 + (gt * 2 + t)) 0, m 8, ?_, ?_⟩
    · dsimp only
      exact Rel_s hR (IC_s hR.1.1 (by rw [us_ne (by decide)]) (by rw [us_ne (by decide)]) (by rw [us_ne (by decide)]) (by rw [us_ne (by decide)])) (RS_5 (by omega) ⟨0, by omega, rfl⟩ hS) (by rw [upd_at, if_neg (by omega)]) (fun a h1 h2 => by rw [us_ne (by omega)]) (fun k hk => by rw [upd_at, if_neg (by omega)]) (by rw [us_ne (by decide)]) (by rw [upd_at, if_neg (by omega)])
    · have h1 : (29 : Int32) + 2 * Int32.ofNat gt + Int32.ofNat t = Int32.ofNat (29 + (gt * 2 + t)) := i_K2g (K := 29)
      have h3 : fin 84 (Int32.ofNat (29 + (gt * 2 + t))) = some (29 + (gt * 2 + t)) := fin_nat (by omega) (by omega)
      rw [ua8_self]
      conv => lhs; rw [← ua_self1 (m := m)]
      simp only [csN, csm_i, csm_r, Nat.reduceAdd, Nat.reduceLeDiff, wdI, wdR, wdN, clM_0, clC_0, clC_1, clC_6, clC_8, true_or, or_true, i10, i01, ob_some, ob_map, cal_v, rvs_some, rvs_none, XO_at, cal_x, m223, r223_0, r223_1, r223_2, r223_5, r223_8, r223_9, r223_10, r223_13, r223_14, r223_15, r223_18, r223_20, r223_21, r223_22, r223_23, r223_24, r223_25, r223_26, r223_27, r223_28, r223_29, r223_32, r223_34, r223_35, r223_36, r223_37, r223_38, r223_39, r223_40, r223_41, r223_42, r223_43, r223_44, r223_47, c201, hb.1, hb.2, Bool.and_self, bi_t, if_false, gM_0_0, lM_1, sM_1, h1, h3, Option.map_some, ua_same, us_ua, c195, m_self]
      rw [e4]
theorem kd_lt : ∀ k, k < 4 → kdO (ltO (Int32.ofNat k)) = Int32.ofNat k ∧ ¬ kdO (ltO (Int32.ofNat k)) = -1 := by decide +kernel
theorem isKd_k {v : Int32} (h : isKd v) : ∃ k, k < 4 ∧ v = ltO (Int32.ofNat k) := by
  rcases h with rfl | rfl | rfl | rfl
  · exact ⟨0, by omega, by decide⟩
  · exact ⟨1, by omega, by decide⟩
  · exact ⟨2, by omega, by decide⟩
  · exact ⟨3, by omega, by decide⟩
theorem kd_no {v : Int32} (h : patO v = 0) : kdO v = -1 := by
  unfold kdO
  rw [if_neg (by intro e; rw [e] at h; exact absurd h (by decide)), if_neg (by intro e; rw [e] at h; exact absurd h (by decide)), if_neg (by intro e; rw [e] at h; exact absurd h (by decide)), if_neg (by intro e; rw [e] at h; exact absurd h (by decide))]
theorem c225 {u v z : Int32} (hR : Rel s (m 1) c) : MCH x n b w m s c 3 u v z code1 (RM x 225 [.ref b, .int u, .int v] (setM w b m) n) := by
  have hft : ftS s c 3 u v z = cond (rg u 5) (cond (decide (¬ patO v = 0)) 0 2) 1 := by
    unfold ftS
    rw [if_neg (by decide), if_neg (by decide), if_neg (by decide), if_pos rfl]
  have hpf : pfS s c 3 u v z = (s 2 u.toNatClampNeg, us s 2 u.toNatClampNeg v) := by
    unfold pfS
    rw [if_neg (by decide), if_neg (by decide), if_neg (by decide), if_pos rfl]
  have hpc : pcS s c 3 u v z = c := by
    unfold pcS
    rw [if_neg (by decide), if_neg (by decide), if_neg (by decide), if_pos rfl]
  unfold MCH
  rw [hft, hpf, hpc]
  cases hb : rg u 5 with
  | false =>
    refine ⟨fun h => by simp at h, fun _ => ?_⟩
    simp only [csN, csm_i, csm_r, Nat.reduceAdd, Nat.reduceLeDiff, wdI, wdR, wdN, clM_0, clC_0, clC_1, clC_6, clC_8, true_or, or_true, i10, i01, ob_some, ob_map, cal_v, rvs_some, rvs_none, XO_at, cal_x, m225, r225_0, r225_1, r225_4, r225_7, r225_8, r225_9, r225_12, r225_13, r225_14, r225_17, r225_18, r225_21, r225_22, r225_23, r225_26, r225_27, r225_28, r225_31, r225_33, r225_34, r225_35, r225_36, r225_37, r225_38, r225_41, r225_43, r225_44, r225_45, r225_46, r225_49, r225_50, r225_51, r225_52, r225_55, r225_58, c200, hb, bi_f, if_true, c196, cond_false]
    rfl
  | true =>
    obtain ⟨gt, hg, rfl⟩ := rg_nat (N := 5) (by omega) hb
    by_cases hp : patO v = 0
    · refine ⟨fun h => by simp [hp] at h, fun _ => ?_⟩
      simp only [csN, csm_i, csm_r, Nat.reduceAdd, Nat.reduceLeDiff, wdI, wdR, wdN, clM_0, clC_0, clC_1, clC_6, clC_8, true_or, or_true, i10, i01, ob_some, ob_map, cal_v, rvs_some, rvs_none, XO_at, cal_x, m225, r225_0, r225_1, r225_4, r225_7, r225_8, r225_9, r225_12, r225_13, r225_14, r225_17, r225_18, r225_21, r225_22, r225_23, r225_26, r225_27, r225_28, r225_31, r225_33, r225_34, r225_35, r225_36, r225_37, r225_38, r225_41, r225_43, r225_44, r225_45, r225_46, r225_49, r225_50, r225_51, r225_52, r225_55, r225_58, c200, hb, bi_t, if_true, if_false, c208, kd_no, hp, c196, cond_true, not_true, decide_false, cond_false]
      rfl
    · obtain ⟨k, hk, rfl⟩ := isKd_k (patO_kd hp)
      obtain ⟨e1, e2⟩ := kd_lt k hk
      refine ⟨fun _ => ?_, fun h => by simp [hp] at h⟩
      rw [i32_cl (show gt < 2147483648 by omega)]
      have hS := hR.1.2.1
      obtain ⟨k0, hk0, e3, e4⟩ := hS.2.2.1 gt hg
      refine ⟨upd (m 1) (14 + gt) (Int32.ofNat k), m 8, ?_, ?_⟩
      · dsimp only
        refine Rel_s hR ?_ (RS_2 hg hk hS) (by rw [upd_at, if_neg (by omega)]) (fun a h1 h2 => by rw [us_ne (by omega)]) (fun k hk => by rw [upd_at, if_neg (by omega)]) (by rw [us_ne (by decide)]) (by rw [upd_at, if_neg (by omega)])
        obtain ⟨⟨a1, a2, a3⟩, a4⟩ := hR.1.1
        refine ⟨⟨by rw [us_ne (by decide)]; exact a1, a2, fun q hq => ?_⟩, fun j hj => ?_⟩
        · rw [us_at, if_pos rfl]
          split
          · exact ltO_kd _
          · exact a3 q hq
        · have := a4 j hj
          unfold WB at this ⊢
          rw [us_ne (by decide), us_ne (by decide)]
          exact this
      · have h1 : (14 : Int32) + Int32.ofNat gt = Int32.ofNat (14 + gt) := i_add (a := 14)
        have h3 : fin 84 (Int32.ofNat (14 + gt)) = some (14 + gt) := fin_nat (by omega) (by omega)
        rw [e1] at e2
        rw [ua8_self]
        conv => lhs; rw [← ua_self1 (m := m)]
        simp only [csN, csm_i, csm_r, Nat.reduceAdd, Nat.reduceLeDiff, wdI, wdR, wdN, clM_0, clC_0, clC_1, clC_6, clC_8, true_or, or_true, i10, i01, ob_some, ob_map, cal_v, rvs_some, rvs_none, XO_at, cal_x, m225, r225_0, r225_1, r225_4, r225_7, r225_8, r225_9, r225_12, r225_13, r225_14, r225_17, r225_18, r225_21, r225_22, r225_23, r225_26, r225_27, r225_28, r225_31, r225_33, r225_34, r225_35, r225_36, r225_37, r225_38, r225_41, r225_43, r225_44, r225_45, r225_46, r225_49, r225_50, r225_51, r225_52, r225_55, r225_58, c200, hb, bi_t, if_false, c208, e1, e2, gM_0_0, lM_1, sM_1, h1, h3, Option.map_some, ua_same, us_ua, c207, c195, m_self]
        rw [e3, e4]
theorem c227 {u v z : Int32} (hR : Rel s (m 1) c) : MCH x n b w m s c 4 u v z code0 (RM x 227 [.ref b, .int u] (setM w b m) n) := by
  have hft : ftS s c 4 u v z = cond (!decide (u < 0) && !decide (9 < u)) 0 2 := by
    unfold ftS
    rw [if_neg (by decide), if_neg (by decide), if_neg (by decide), if_neg (by decide), if_pos rfl]
  have hpf : pfS s c 4 u v z = (s 20 4, us s 20 4 u) := by
    unfold pfS
    rw [if_neg (by decide), if_neg (by decide), if_neg (by decide), if_neg (by decide), if_pos rfl]
  have hpc : pcS s c 4 u v z = c := by
    unfold pcS
    rw [if_neg (by decide), if_neg (by decide), if_neg (by decide), if_neg (by decide), if_pos rfl]
  unfold MCH
  rw [hft, hpf, hpc]
  cases hb : rI u 0 9 with
  | false =>
    have hb' : (!decide (u < 0) && !decide (9 < u)) = false := hb
    refine ⟨fun h => (by rw [hb'] at h; cases h), fun _ => ?_⟩
    simp only [csN, csm_i, csm_r, Nat.reduceAdd, Nat.reduceLeDiff, wdI, wdR, wdN, clM_0, clC_0, clC_1, clC_6, clC_8, true_or, or_true, i10, i01, ob_some, ob_map, cal_v, rvs_some, rvs_none, XO_at, cal_x, m227, r227_0, r227_1, r227_2, r227_4, r227_7, r227_10, r227_11, r227_12, r227_15, r227_16, r227_17, r227_20, r227_21, r227_22, r227_23, r227_24, r227_27, r227_28, r227_29, r227_30, r227_31, r227_32, r227_35, c193, hb, bi_f, if_true, c196]
    rfl
  | true =>
    have hb' : (!decide (u < 0) && !decide (9 < u)) = true := hb
    refine ⟨fun _ => ?_, fun h => by rw [hb'] at h; exact absurd rfl h⟩
    have hS := hR.1.2.1
    refine ⟨upd (m 1) 1 u, m 8, ?_, ?_⟩
    · dsimp only
      exact Rel_s hR (IC_s hR.1.1 (by rw [us_at, if_pos rfl, if_neg (by decide)]) (by rw [us_ne (by decide)]) (by rw [us_ne (by decide)]) (by rw [us_ne (by decide)])) (RS_20 (by simp) hS) (by rw [upd_at, if_neg (by omega)]) (fun a h1 h2 => by rw [us_ne (by omega)]) (fun k hk => by rw [upd_at, if_neg (by omega)]) (by rw [us_at, if_pos rfl, if_neg (by decide)]) (by rw [upd_at, if_neg (by omega)])
    · have k1 : fin 84 1 = some 1 := fin_lit (by decide) (by decide)
      rw [ua8_self]
      conv => lhs; rw [← ua_self1 (m := m)]
      simp only [csN, csm_i, csm_r, Nat.reduceAdd, Nat.reduceLeDiff, wdI, wdR, wdN, clM_0, clC_0, clC_1, clC_6, clC_8, true_or, or_true, i10, i01, ob_some, ob_map, cal_v, rvs_some, rvs_none, XO_at, cal_x, m227, r227_0, r227_1, r227_2, r227_4, r227_7, r227_10, r227_11, r227_12, r227_15, r227_16, r227_17, r227_20, r227_21, r227_22, r227_23, r227_24, r227_27, r227_28, r227_29, r227_30, r227_31, r227_32, r227_35, c193, hb, bi_t, if_false, gM_0_0, lM_1, sM_1, k1, Option.map_some, ua_same, us_ua, c195, m_self]
      rw [hS.1.2.1]
end MCH
