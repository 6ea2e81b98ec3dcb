/-! HOURS of the model; changes of the model -/
section MHA
set_option maxRecDepth 20000
variable {x : SX} {n b c : Nat} {w : PW} {m s : NS} {g : Nat → Int32}
theorem IL_end {c p : Nat} {s : NS} {g : Nat → Int32} (h : ML s c c p g) : p = cnt (ahS s) c ∧ g 3 = Int32.ofNat p ∧ RS s g ∧ ∀ k, k < c → ahS s k = true → RB s g k (cnt (ahS s) k) := by
  obtain ⟨-, -, h3, h4, h5, h6, -⟩ := h
  rw [Nat.sub_self, Nat.add_zero] at h5
  exact ⟨h4, h5, h3, h6⟩
theorem Rel_ar {p : Nat} (h : ML s c c p g) (hI : IC (arS s c) (cnt (ahS s) c)) : RelH (arS s c) g (cnt (ahS s) c) := by
  obtain ⟨h1, h2, h3, h4⟩ := IL_end h
  refine ⟨hI, RS_s h3 (fun j _ h25 => ?_) (fun a ha => ?_), by rw [h2, h1], fun j hj => ?_⟩
  · unfold arS
    rw [us_at, if_pos rfl, if_neg h25, flA_out (by decide)]
  · unfold arS
    rw [us_ne (by omega), flA_out (by omega)]
  · obtain ⟨k, k1, k2, k3⟩ := kept_ex hj
    have hb := h4 k k1 k2
    unfold RB at hb ⊢
    unfold arS
    rw [k3] at hb
    rw [us_ne (by decide), us_ne (by decide), us_ne (by decide), us_ne (by decide), us_ne (by decide)]
    have e : ∀ a, a = 9 ∨ a = 10 ∨ a = 11 ∨ a = 12 ∨ a = 13 → (flA s (ahS s) c).1 a j = s a k := by
      intro a ha
      rw [← k3]
      exact flA_lo ha c k k1 k2
    rw [e 9 (by simp), e 10 (by simp), e 11 (by simp), e 12 (by simp), e 13 (by simp)]
    exact hb
/-- a field of the class and its place in the model -/
theorem RS_20 {i k : Nat} {v : Int32} (hik : (i = 3 ∧ k = 0) ∨ (i = 4 ∧ k = 1) ∨ (i = 26 ∧ k = 2) ∨ (i = 11 ∧ k = 4) ∨ (i = 12 ∧ k = 5) ∨ (i = 13 ∧ k = 6)) (h : RS s g) : RS (us s 20 i v) (upd g k v) := by
  obtain ⟨⟨a1, a2, a3, a4, a5, a6⟩, h2, h3, h4, h5, h6⟩ := h
  refine ⟨?_, fun q hq => ?_, fun i hi => ?_, fun j hj => ?_, fun j hj => ?_, fun i hi => ?_⟩
  · simp only [us_at, upd_at]
    rcases hik with ⟨rfl, rfl⟩ | ⟨rfl, rfl⟩ | ⟨rfl, rfl⟩ | ⟨rfl, rfl⟩ | ⟨rfl, rfl⟩ | ⟨rfl, rfl⟩ <;> simp [a1, a2, a3, a4, a5, a6]
  · rw [us_ne (by decide), upd_at, if_neg (by omega)]; exact h2 q hq
  · rw [us_ne (by decide), upd_at, if_neg (by omega)]; exact h3 i hi
  · rw [us_ne (by decide), upd_at, if_neg (by omega)]; exact h4 j hj
  · rw [us_ne (by decide), upd_at, if_neg (by omega)]; exact h5 j hj
  · rw [us_ne (by decide), upd_at, if_neg (by omega)]; exact h6 i hi
theorem zero5 {f : Nat → Int32} : UP 0 (upd (upd (upd (upd (upd f 0 0) 1 0) 2 0) 3 0) 4 0) := by
  refine ⟨0, by omega, rfl, fun q hq => ?_⟩
  have : q = 0 ∨ q = 1 ∨ q = 2 ∨ q = 3 ∨ q = 4 := by omega
  rcases this with rfl | rfl | rfl | rfl | rfl <;> simp [upd_at]
theorem c234 (hR : RelH s (m 1) c) : ∃ g' f', RelH (hrS s c) g' (hrC s c) ∧ g' 7 = m 1 7 + (Int32.ofNat c - Int32.ofNat (hrC s c)) ∧
    RM x 234 [.ref b] (setM w b m) n = some (.inl (some (.int (Int32.ofNat c - Int32.ofNat (hrC s c)))), setM w b (ua (ua m 8 f') 1 g'), n) := by
  obtain ⟨hI, hS, h3, hB⟩ := hR
  have k0 : fin 84 0 = some 0 := fin_lit (by decide) (by decide)
  have k1 : fin 84 1 = some 1 := fin_lit (by decide) (by decide)
  have k4 : fin 84 4 = some 4 := fin_lit (by decide) (by decide)
  have k7 : fin 84 7 = some 7 := fin_lit (by decide) (by decide)
  have u0 : fin 5 0 = some 0 := fin_lit (by decide) (by decide)
  have u1 : fin 5 1 = some 1 := fin_lit (by decide) (by decide)
  have u2 : fin 5 2 = some 2 := fin_lit (by decide) (by decide)
  have u3 : fin 5 3 = some 3 := fin_lit (by decide) (by decide)
  have u4 : fin 5 4 = some 4 := fin_lit (by decide) (by decide)
  have ht := fun m g v => c231 (x := x) (n := n) (b := b) (w := w) (m := m) (g := g) (u := 0) (v := v) (r := 0) rfl (by omega)
  obtain ⟨e3, e4, -, e11, -⟩ := hS.1
  have hS1 := RS_20 (i := 3) (k := 0) (v := s 20 3 + 1) (by simp) hS
  have hS2 := RS_20 (i := 11) (k := 4) (v := us s 20 3 (s 20 3 + 1) 20 11 + s 20 4) (by simp) hS1
  have hS3 := RS_pour (r := 0) (u := s 20 4) (by omega) hS2
  have hM0 : ML (h1S s) c 0 0 (pourG (upd (upd (m 1) 0 (m 1 0 + 1)) 4 (m 1 4 + m 1 1)) 0 (m 1 1)) := by
    have hg : pourG (upd (upd (m 1) 0 (s 20 3 + 1)) 4 (us s 20 3 (s 20 3 + 1) 20 11 + s 20 4)) 0 (s 20 4) = pourG (upd (upd (m 1) 0 (m 1 0 + 1)) 4 (m 1 4 + m 1 1)) 0 (m 1 1) := by
      rw [us_at, if_pos rfl, if_neg (by decide), e3, e4, e11]
    rw [hg] at hS3
    refine ⟨IL_h1 hI, Nat.zero_le _, hS3, rfl, ?_, fun k hk => by omega, fun k _ hk => ?_⟩
    · rw [pourG_out (by omega) (by omega), upd_at, if_neg (by omega), upd_at, if_neg (by omega), h3, Nat.zero_add, Nat.sub_zero]
    · have hb := hB k hk
      rw [Nat.zero_add, Nat.sub_zero]
      have q : ∀ j, 44 ≤ j → pourG (upd (upd (m 1) 0 (m 1 0 + 1)) 4 (m 1 4 + m 1 1)) 0 (m 1 1) j = m 1 j := fun j hj => by rw [pourG_out (by omega) (by omega), upd_at, if_neg (by omega), upd_at, if_neg (by omega)]
      unfold RB at hb ⊢
      rw [h1S_ne (by decide) (by decide), h1S_ne (by decide) (by decide), h1S_ne (by decide) (by decide), h1S_ne (by decide) (by decide), h1S_ne (by decide) (by decide), q _ (by omega), q _ (by omega), q _ (by omega), q _ (by omega), q _ (by omega)]
      exact hb
  obtain ⟨p', g1, f', e', r1, r2, r3⟩ := l234 (x := x) (n := n) (b := b) (w := w) (m := m) c 0 0 (h1S s) _ _ 0 none (by omega) hM0 (zero5 (f := m 8))
  obtain ⟨q1, q2, q3, q4⟩ := IL_end r1
  have hle : cnt (ahS (mdS s c)) c ≤ c := cnt_le _ _
  have hp : p' = hrC s c := q1
  have hL : Int32.ofNat (c - p') = Int32.ofNat c - Int32.ofNat (hrC s c) := by rw [hp]; exact (i_sub hle).symm
  refine ⟨upd g1 7 (g1 7 + Int32.ofNat (c - p')), f', ?_, ?_, ?_⟩
  · have h9 := Rel_ar r1 (IC_hr hI)
    obtain ⟨v1, v2, v3, v4⟩ := h9
    refine ⟨v1, RS_congr v2 (fun k _ _ h7 => by rw [upd_at, if_neg h7]), by rw [upd_at, if_neg (by omega)]; exact v3, fun j hj => ?_⟩
    exact RB_congr (v4 j hj) (by rw [upd_at, if_neg (by omega)]) (by rw [upd_at, if_neg (by omega)]) (by rw [upd_at, if_neg (by omega)]) (by rw [upd_at, if_neg (by omega)]) (by rw [upd_at, if_neg (by omega)])
  · rw [upd_at, if_pos rfl, r2, hL]
    congr 1
  · have q9 : m = ua m 1 (m 1) := ua_self1.symm
    have e04 : ¬ (4 : Nat) = 0 := by omega
    have e10 : ¬ (1 : Nat) = 0 := by omega
    have e14 : ¬ (1 : Nat) = 4 := by omega
    have r3' : RC x 234 60 [some (.ref b), some (.int 0), some (.int 0), none] [] (setM w b (ua (ua m 8 (upd (upd (upd (upd (upd (m 8) 0 0) 1 0) 2 0) 3 0) 4 0)) 1 (pourG (upd (upd (m 1) 0 (m 1 0 + 1)) 4 (m 1 4 + m 1 1)) 0 (m 1 1)))) n = _ := r3
    conv => lhs; rw [q9]
    have z8 : us m 8 0 0 = ua m 8 (upd (m 8) 0 0) := rfl
    simp only [csN, csm_i, csm_r, Nat.reduceAdd, Nat.reduceLeDiff, wdI, wdR, wdN, clM_0, clC_0, clC_1, clC_6, clC_8, true_or, or_true, i10, i01, ob_some, ob_map, cal_v, rvs_some, rvs_none, XO_at, cal_x, m234, r234_0, r234_1, r234_4, r234_5, r234_6, r234_7, r234_8, r234_9, r234_10, r234_11, r234_14, r234_15, r234_16, r234_17, r234_18, r234_21, r234_22, r234_23, r234_24, r234_25, r234_26, r234_27, r234_28, r234_31, r234_32, r234_33, r234_36, r234_37, r234_38, r234_39, r234_40, r234_43, r234_44, r234_47, r234_48, r234_49, r234_50, r234_53, r234_56, r234_57, r234_58, r234_59, r234_61, r234_62, r234_65, r234_66, r234_67, r234_70, r234_71, r234_74, r234_75, r234_76, r234_79, r234_80, r234_83, r234_84, r234_85, r234_88, r234_91, r234_92, r234_93, r234_96, r234_99, r234_100, r234_103, r234_104, r234_105, r234_106, r234_109, r234_110, r234_111, r234_114, r234_117, r234_120, r234_123, r234_127, r234_130, r234_132, r234_133, r234_134, r234_135, r234_136, r234_137, r234_138, gM_0_0, gM_0_14, lM_1, sM_1, sM_8, k0, k1, k4, Option.map_some, ua_same, us_ua, us_ua8, upd_at, e04, e10, e14, if_true, if_false, ht, u0, u1, u2, u3, u4, Int32.reduceLT, Int32.reduceAdd, z8, us_ua']
    rw [r3', r234_126]
    simp only [csN, csm_i, csm_r, Nat.reduceAdd, Nat.reduceLeDiff, wdI, wdR, wdN, clM_0, clC_0, clC_1, clC_6, clC_8, true_or, or_true, i10, i01, ob_some, ob_map, cal_v, rvs_some, rvs_none, XO_at, cal_x, m234, r234_0, r234_1, r234_4, r234_5, r234_6, r234_7, r234_8, r234_9, r234_10, r234_11, r234_14, r234_15, r234_16, r234_17, r234_18, r234_21, r234_22, r234_23, r234_24, r234_25, r234_26, r234_27, r234_28, r234_31, r234_32, r234_33, r234_36, r234_37, r234_38, r234_39, r234_40, r234_43, r234_44, r234_47, r234_48, r234_49, r234_50, r234_53, r234_56, r234_57, r234_58, r234_59, r234_61, r234_62, r234_65, r234_66, r234_67, r234_70, r234_71, r234_74, r234_75, r234_76, r234_79, r234_80, r234_83, r234_84, r234_85, r234_88, r234_91, r234_92, r234_93, r234_96, r234_99, r234_100, r234_103, r234_104, r234_105, r234_106, r234_109, r234_110, r234_111, r234_114, r234_117, r234_120, r234_123, r234_127, r234_130, r234_132, r234_133, r234_134, r234_135, r234_136, r234_137, r234_138, gM_0_0, lM_1, sM_1, k7, Option.map_some, ua_same, us_ua]
    rw [hL]
theorem l235 {H : Nat} {u : Int32} (hH : H ≤ 1000) (d : Nat) : ∀ (j : Nat) (s m : NS) (c : Nat) (L : Int32), j + d = H → RelH s (m 1) c → ∃ g' f', RelH (phS d s c L).1 g' (phS d s c L).2.1 ∧ g' 7 + L = m 1 7 + (phS d s c L).2.2 ∧
    RC x 235 20 [some (.ref b), some (.int (Int32.ofNat H)), some (.int L), some (.int (Int32.ofNat j))] [] (setM w b m) n = some (.inl (some (.int (phS d s c L).2.2)), setM w b (ua (ua (us m 20 13 0) 8 f') 1 g'), n) := by
  induction d with
  | zero =>
    intro j s m c L h hR
    obtain rfl : j = H := by omega
    refine ⟨m 1, m 8, hR, rfl, ?_⟩
    have h1 : ¬ Int32.ofNat j < Int32.ofNat j := by rw [i_lt (by omega) (by omega)]; omega
    rw [r235_20]
    simp only [csN, csm_i, csm_r, Nat.reduceAdd, Nat.reduceLeDiff, wdI, wdR, wdN, clM_0, clC_0, clC_1, clC_6, clC_8, true_or, or_true, i10, i01, ob_some, ob_map, cal_v, rvs_some, rvs_none, XO_at, cal_x, m235, r235_0, r235_1, r235_2, r235_4, r235_7, r235_10, r235_11, r235_12, r235_15, r235_16, r235_17, r235_18, r235_19, r235_21, r235_22, r235_25, r235_26, r235_27, r235_30, r235_31, r235_32, r235_35, r235_38, r235_39, r235_40, r235_43, h1, if_false, c195, phS]
    have e : ua (ua (us m 20 13 0) 8 (m 8)) 1 (m 1) = us m 20 13 0 := by
      funext a
      unfold ua us ua
      by_cases h1 : a = 1
      · subst h1; rfl
      · by_cases h8 : a = 8
        · subst h8; rfl
        · rw [if_neg h1, if_neg h8]
    rw [e]
  | succ d ih =>
    intro j s m c L h hR
    obtain ⟨g1, f1, a1, a2, a3⟩ := c234 (x := x) (n := n) (b := b) (w := w) hR
    have h1 : Int32.ofNat j < Int32.ofNat H := nlt (by omega) (by omega) (by omega)
    have h2 : Int32.ofNat j + 1 = Int32.ofNat (j + 1) := i_add (b := 1)
    obtain ⟨g', f', b1, b2, b3⟩ := ih (j + 1) (hrS s c) (ua (ua m 8 f1) 1 g1) (hrC s c) (L + (Int32.ofNat c - Int32.ofNat (hrC s c))) (by omega) (by rw [ua_same]; exact a1)
    refine ⟨g', f', b1, ?_, ?_⟩
    · show g' 7 + L = m 1 7 + (phS d (hrS s c) (hrC s c) (L + (Int32.ofNat c - Int32.ofNat (hrC s c)))).2.2
      rw [ua_same, a2] at b2
      generalize (phS d (hrS s c) (hrC s c) (L + (Int32.ofNat c - Int32.ofNat (hrC s c)))).2.2 = Z at *
      generalize Int32.ofNat c - Int32.ofNat (hrC s c) = K at *
      have b3' : g' 7 + L + K = m 1 7 + Z + K := by
        rw [Int32.add_assoc, b2, Int32.add_assoc, Int32.add_assoc, Int32.add_comm K Z]
      have := congrArg (fun v => v - K) b3'
      simpa using this
    · rw [r235_20]
      simp only [csN, csm_i, csm_r, Nat.reduceAdd, Nat.reduceLeDiff, wdI, wdR, wdN, clM_0, clC_0, clC_1, clC_6, clC_8, true_or, or_true, i10, i01, ob_some, ob_map, cal_v, rvs_some, rvs_none, XO_at, cal_x, m235, r235_0, r235_1, r235_2, r235_4, r235_7, r235_10, r235_11, r235_12, r235_15, r235_16, r235_17, r235_18, r235_19, r235_21, r235_22, r235_25, r235_26, r235_27, r235_30, r235_31, r235_32, r235_35, r235_38, r235_39, r235_40, r235_43, h1, if_true, a3, h2]
      rw [b3]
      have e : ∀ f g, ua (ua (us (ua (ua m 8 f1) 1 g1) 20 13 0) 8 f) 1 g = ua (ua (us m 20 13 0) 8 f) 1 g := by
        intro f g
        funext a
        unfold ua us ua
        by_cases h1 : a = 1
        · subst h1; rfl
        · by_cases h8 : a = 8
          · subst h8; rfl
          · rw [if_neg h1, if_neg h1, if_neg h8, if_neg h8]
            by_cases h20 : a = 20
            · subst h20; rfl
            · rw [if_neg h20, if_neg h20]
              show (if a = 1 then g1 else if a = 8 then f1 else m a) = m a
              rw [if_neg h1, if_neg h8]
      rw [e]
      rfl
end MHA
