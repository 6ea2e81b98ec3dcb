/-! A SCRIPT IS RUN, on both sides -/
section RUNS
set_option maxRecDepth 20000
variable {x : SX} {n n2 c q B : Nat} {w w2 : PW} {m s t y : NS} {hs le lf hc : Int32} {F : Nat → Nat} {K : Nat → NS} {sc : NS} {cs : Nat → Nat} {v : Int32} {l b : Nat} {g f : Nat → Int32} {Q : Bool × Nat}
theorem WD_p7 (h : WD w s t y hs le lf F K hc sc) : pfd w 6 7 64 (.int v) = some (pupd w 64 (.inr (6, [.ref 65, .ref 79, .ref 93, .int hs, .ref 107, .ref 221, .ref 225, .int v, .int lf]))) := by
  rw [pfd_at (ty := .int) h.1 (by decide +kernel) ⟨by simp only [List.length_cons, List.length_nil]; decide, rfl⟩]
  rfl
theorem WD_p8 (h : WD w s t y hs le lf F K hc sc) : pfd w 6 8 64 (.int v) = some (pupd w 64 (.inr (6, [.ref 65, .ref 79, .ref 93, .int hs, .ref 107, .ref 221, .ref 225, .int le, .int v]))) := by
  rw [pfd_at (ty := .int) h.1 (by decide +kernel) ⟨by simp only [List.length_cons, List.length_nil]; decide, rfl⟩]
  rfl
theorem c178 : RM x 178 [.ref b] (setS w b sc) n = some (.inl none, setS w b (us sc 20 1 0), n) := by
  simp only [csN, csm_i, csm_r, Nat.reduceAdd, Nat.reduceLeDiff, wdI, wdR, wdN, clM_0, clC_0, clC_1, clC_6, clC_8, true_or, or_true, i10, i01, ob_some, ob_map, cal_v, rvs_some, rvs_none, XO_at, cal_x, m178, r178_0, r178_1, r178_2, r178_5, pS_0_1]
theorem MK_ini : us (us m 20 15 0) 20 16 0 = MK m (m 9) (false, 0) := by
  unfold MK
  have : ua m 9 (m 9) = m := by
    funext a
    unfold ua
    split
    · next h => rw [h]
    · rfl
  rw [this]
  rfl
theorem i_m1 {k : Nat} (h : k < 2147483648) : ¬ Int32.ofNat k = -1 := fun e => by
  have : (0 : Int32) ≤ Int32.ofNat k := by
    rw [show (0 : Int32) = Int32.ofNat 0 from rfl, i_le (by omega) h]
    omega
  rw [e] at this
  revert this
  decide
/-- the model where a script has not the form -/
theorem c71A {q0 : Nat} {z1 : Int32} (hT : m 20 8 = Int32.ofNat l) (hl : l ≤ 60) (hq : q0 ≤ l) (h : Q.2 = q0) (hb : Q.1 = true ∨ q0 < l) : RC x 292 71 [some (.ref b), some (.int z1), some (.int 0), none, none] [] (setM w b (MK m g Q)) n = some (.inl (some (.int 0)), setM w b (us (us (us (MK m g (true, q0)) 20 8 0) 20 9 (Int32.ofNat q0)) 20 13 1), n) := by
  have k1 : (1 : Int32) = 0 ∨ (1 : Int32) = 1 := Or.inr rfl
  have p1 : ∀ s : NS, pfd (setM w b s) 7 16 b (.int 1) = some (setM w b (us s 20 16 1)) := fun s => pM_0_16 k1
  have e16 : us (MK m g (true, q0)) 20 8 0 20 16 = 1 := by rw [us_at, if_pos rfl, if_neg (by decide), MK_16]; rfl
  have e15 : us (MK m g (true, q0)) 20 8 0 20 15 = Int32.ofNat q0 := by rw [us_at, if_pos rfl, if_neg (by decide), MK_15]
  have e8 : MK m g Q 20 8 = Int32.ofNat l := MK_8.trans hT
  obtain ⟨bq, q1⟩ := Q
  obtain rfl : q1 = q0 := h
  rw [r292_71]
  cases bq with
  | true =>
    simp only [csN, csm_i, csm_r, Nat.reduceAdd, Nat.reduceLeDiff, wdI, wdR, wdN, clM_0, clC_0, clC_1, clC_6, clC_8, true_or, or_true, i10, i01, ob_some, ob_map, cal_v, rvs_some, rvs_none, XO_at, cal_x, m292, r292_0, r292_1, r292_2, r292_5, r292_6, r292_7, r292_10, r292_11, r292_12, r292_13, r292_14, r292_15, r292_18, r292_19, r292_20, r292_21, r292_22, r292_25, r292_28, r292_29, r292_32, r292_35, r292_36, r292_39, r292_41, r292_44, r292_45, r292_48, r292_49, r292_50, r292_51, r292_52, r292_55, r292_56, r292_59, r292_60, r292_63, r292_64, r292_65, r292_68, r292_72, r292_73, r292_76, r292_79, r292_80, r292_83, r292_84, r292_87, r292_90, r292_91, r292_94, r292_95, r292_98, r292_99, r292_100, r292_103, r292_104, r292_107, r292_110, r292_111, r292_112, r292_115, r292_118, r292_119, r292_120, r292_123, r292_124, r292_125, r292_128, r292_129, r292_130, r292_131, r292_132, r292_135, r292_136, r292_137, r292_138, r292_139, r292_142, r292_144, r292_145, r292_148, r292_151, r292_152, r292_153, r292_156, r292_157, r292_158, r292_161, r292_162, r292_164, r292_167, r292_168, r292_171, r292_174, r292_175, r292_176, r292_177, r292_180, r292_183, gM_0_16, gM_0_15, gM_0_8, pM_0_8, pM_0_9, p1, MK_15, MK_16, bi_t, if_false, MK_w1, e16, e15, c196]
  | false =>
    have hlt : Int32.ofNat q1 < Int32.ofNat l := nlt (by omega) (by omega) (hb.resolve_left Bool.false_ne_true)
    simp only [csN, csm_i, csm_r, Nat.reduceAdd, Nat.reduceLeDiff, wdI, wdR, wdN, clM_0, clC_0, clC_1, clC_6, clC_8, true_or, or_true, i10, i01, ob_some, ob_map, cal_v, rvs_some, rvs_none, XO_at, cal_x, m292, r292_0, r292_1, r292_2, r292_5, r292_6, r292_7, r292_10, r292_11, r292_12, r292_13, r292_14, r292_15, r292_18, r292_19, r292_20, r292_21, r292_22, r292_25, r292_28, r292_29, r292_32, r292_35, r292_36, r292_39, r292_41, r292_44, r292_45, r292_48, r292_49, r292_50, r292_51, r292_52, r292_55, r292_56, r292_59, r292_60, r292_63, r292_64, r292_65, r292_68, r292_72, r292_73, r292_76, r292_79, r292_80, r292_83, r292_84, r292_87, r292_90, r292_91, r292_94, r292_95, r292_98, r292_99, r292_100, r292_103, r292_104, r292_107, r292_110, r292_111, r292_112, r292_115, r292_118, r292_119, r292_120, r292_123, r292_124, r292_125, r292_128, r292_129, r292_130, r292_131, r292_132, r292_135, r292_136, r292_137, r292_138, r292_139, r292_142, r292_144, r292_145, r292_148, r292_151, r292_152, r292_153, r292_156, r292_157, r292_158, r292_161, r292_162, r292_164, r292_167, r292_168, r292_171, r292_174, r292_175, r292_176, r292_177, r292_180, r292_183, gM_0_16, gM_0_15, gM_0_8, pM_0_8, pM_0_9, p1, MK_15, MK_16, e8, hlt, bi_f, if_true, if_false, MK_w1, e16, e15, c196]
/-- the model where a script's commands begin -/
def m1S (m : NS) (g : Nat → Int32) (l : Nat) : NS := ua (us (MK m g (false, l)) 20 8 0) 2 (cp84 (m 1) 0 (m 2) 0 84)
theorem c71B {z1 : Int32} (hT : m 20 8 = Int32.ofNat l) : RC x 292 71 [some (.ref b), some (.int z1), some (.int 0), none, none] [] (setM w b (MK m g (false, l))) n = RC x 292 130 [some (.ref b), some (.int z1), some (.int 0), some (.int 0), none] [] (setM w b (m1S m g l)) n := by
  have k0 : (0 : Int32) = 0 ∨ (0 : Int32) = 1 := Or.inl rfl
  have p0 : ∀ s : NS, pfd (setM w b s) 7 16 b (.int 0) = some (setM w b (us s 20 16 0)) := fun s => pM_0_16 k0
  have e16 : us (MK m g (false, l)) 20 8 0 20 16 = 0 := by rw [us_at, if_pos rfl, if_neg (by decide), MK_16]; rfl
  have e8 : MK m g (false, l) 20 8 = Int32.ofNat l := MK_8.trans hT
  have hlt : ¬ Int32.ofNat l < Int32.ofNat l := Int32.lt_irrefl
  have e1 : us (MK m g (false, l)) 20 8 0 1 = m 1 := by
    rw [us_ne (by decide)]
    funext j
    exact MK_o (by decide) (by omega)
  have e2 : us (MK m g (false, l)) 20 8 0 2 = m 2 := by
    rw [us_ne (by decide)]
    funext j
    exact MK_o (by decide) (by omega)
  have e198 := c198 (x := x) (n := n) (w := w) (b := b) (m := us (MK m g (false, l)) 20 8 0)
  rw [e1, e2] at e198
  rw [r292_71]
  simp only [csN, csm_i, csm_r, Nat.reduceAdd, Nat.reduceLeDiff, wdI, wdR, wdN, clM_0, clC_0, clC_1, clC_6, clC_8, true_or, or_true, i10, i01, ob_some, ob_map, cal_v, rvs_some, rvs_none, XO_at, cal_x, m292, r292_0, r292_1, r292_2, r292_5, r292_6, r292_7, r292_10, r292_11, r292_12, r292_13, r292_14, r292_15, r292_18, r292_19, r292_20, r292_21, r292_22, r292_25, r292_28, r292_29, r292_32, r292_35, r292_36, r292_39, r292_41, r292_44, r292_45, r292_48, r292_49, r292_50, r292_51, r292_52, r292_55, r292_56, r292_59, r292_60, r292_63, r292_64, r292_65, r292_68, r292_72, r292_73, r292_76, r292_79, r292_80, r292_83, r292_84, r292_87, r292_90, r292_91, r292_94, r292_95, r292_98, r292_99, r292_100, r292_103, r292_104, r292_107, r292_110, r292_111, r292_112, r292_115, r292_118, r292_119, r292_120, r292_123, r292_124, r292_125, r292_128, r292_129, r292_131, r292_132, r292_135, r292_136, r292_137, r292_138, r292_139, r292_142, r292_144, r292_145, r292_148, r292_151, r292_152, r292_153, r292_156, r292_157, r292_158, r292_161, r292_162, r292_164, r292_167, r292_168, r292_171, r292_174, r292_175, r292_176, r292_177, r292_180, r292_183, gM_0_16, gM_0_15, gM_0_8, pM_0_8, p0, MK_15, MK_16, e8, hlt, bi_f, if_true, if_false, MK_w0, e16, e198]
  rfl
theorem m1_r {r : Nat} (h2 : ¬ r = 2) (h9 : ¬ r = 9) (h20 : ¬ r = 20) : m1S m g l r = m r := by
  unfold m1S
  rw [ua_ne h2, us_ne h20]
  funext j
  exact MK_o h9 (by omega)
theorem m1_2 : m1S m g l 2 = cp84 (m 1) 0 (m 2) 0 84 := ua_same
theorem m1_9 : m1S m g l 9 = g := by
  unfold m1S
  rw [ua_ne (by decide), us_ne (by decide), MK_9]
theorem m1_8 : m1S m g l 20 8 = 0 := by
  unfold m1S
  rw [ua_ne (by decide), us_at, if_pos rfl, if_pos rfl]
theorem m1_n {j : Nat} (h8 : ¬ j = 8) (h15 : ¬ j = 15) (h16 : ¬ j = 16) : m1S m g l 20 j = m 20 j := by
  unfold m1S
  rw [ua_ne (by decide), us_at, if_pos rfl, if_neg h8]
  exact MK_o (by decide) (by omega)
theorem c292f {z1 z2 : Int32} {k : Nat} : RC x 292 151 [some (.ref b), some (.int z1), some (.int z2), some (.int (Int32.ofNat k)), some (.int v)] [] (setM w b m) n = some (.inl (some (.int 0)), setM w b (ua (us (us m 20 10 (Int32.ofNat k)) 20 13 2) 1 (cp84 (m 2) 0 (m 1) 0 84)), n) := by
  have e13 : us (us m 20 10 (Int32.ofNat k)) 20 13 2 20 13 = 2 := by rw [us_at, if_pos rfl, if_pos rfl]
  have h := c199a (x := x) (n := n) (w := w) (b := b) (m := us (us m 20 10 (Int32.ofNat k)) 20 13 2) (v := v) (by rw [e13]; decide)
  have e1 : us (us m 20 10 (Int32.ofNat k)) 20 13 2 1 = m 1 := by rw [us_ne (by decide), us_ne (by decide)]
  have e2 : us (us m 20 10 (Int32.ofNat k)) 20 13 2 2 = m 2 := by rw [us_ne (by decide), us_ne (by decide)]
  rw [e1, e2] at h
  rw [r292_151]
  simp only [csN, csm_i, csm_r, Nat.reduceAdd, Nat.reduceLeDiff, wdI, wdR, wdN, clM_0, clC_0, clC_1, clC_6, clC_8, true_or, or_true, i10, i01, ob_some, ob_map, cal_v, rvs_some, rvs_none, XO_at, cal_x, m292, r292_0, r292_1, r292_2, r292_5, r292_6, r292_7, r292_10, r292_11, r292_12, r292_13, r292_14, r292_15, r292_18, r292_19, r292_20, r292_21, r292_22, r292_25, r292_28, r292_29, r292_32, r292_35, r292_36, r292_39, r292_41, r292_44, r292_45, r292_48, r292_49, r292_50, r292_51, r292_52, r292_55, r292_56, r292_59, r292_60, r292_63, r292_64, r292_65, r292_68, r292_71, r292_72, r292_73, r292_76, r292_79, r292_80, r292_83, r292_84, r292_87, r292_90, r292_91, r292_94, r292_95, r292_98, r292_99, r292_100, r292_103, r292_104, r292_107, r292_110, r292_111, r292_112, r292_115, r292_118, r292_119, r292_120, r292_123, r292_124, r292_125, r292_128, r292_129, r292_130, r292_131, r292_132, r292_135, r292_136, r292_137, r292_138, r292_139, r292_142, r292_144, r292_145, r292_148, r292_152, r292_153, r292_156, r292_157, r292_158, r292_161, r292_162, r292_164, r292_167, r292_168, r292_171, r292_174, r292_175, r292_176, r292_177, r292_180, r292_183, pM_0_10, pM_0_13, h]
theorem c292k {z1 z2 : Int32} {a3 a4 : Option Value} {q : Nat} (h4 : m 20 4 = Int32.ofNat q) (h8 : q ≤ 8) : RC x 292 174 [some (.ref b), some (.int z1), some (.int z2), a3, a4] [] (setM w b m) n = some (.inl (some (.int z1)), setM w b (us (ua (us m 20 13 0) 4 (hiR (m 4) (m 2) q)) 20 4 (Int32.ofNat (hiN q))), n) := by
  have h := c199b (x := x) (n := n) (w := w) (b := b) (m := us m 20 13 0) (v := z1) (q := q) (by rw [us_at, if_pos rfl, if_pos rfl]) (by rw [us_at, if_pos rfl, if_neg (by decide)]; exact h4) h8
  have e1 : us m 20 13 0 4 = m 4 := us_ne (by decide)
  have e2 : us m 20 13 0 2 = m 2 := us_ne (by decide)
  rw [e1, e2] at h
  rw [r292_174]
  simp only [csN, csm_i, csm_r, Nat.reduceAdd, Nat.reduceLeDiff, wdI, wdR, wdN, clM_0, clC_0, clC_1, clC_6, clC_8, true_or, or_true, i10, i01, ob_some, ob_map, cal_v, rvs_some, rvs_none, XO_at, cal_x, m292, r292_0, r292_1, r292_2, r292_5, r292_6, r292_7, r292_10, r292_11, r292_12, r292_13, r292_14, r292_15, r292_18, r292_19, r292_20, r292_21, r292_22, r292_25, r292_28, r292_29, r292_32, r292_35, r292_36, r292_39, r292_41, r292_44, r292_45, r292_48, r292_49, r292_50, r292_51, r292_52, r292_55, r292_56, r292_59, r292_60, r292_63, r292_64, r292_65, r292_68, r292_71, r292_72, r292_73, r292_76, r292_79, r292_80, r292_83, r292_84, r292_87, r292_90, r292_91, r292_94, r292_95, r292_98, r292_99, r292_100, r292_103, r292_104, r292_107, r292_110, r292_111, r292_112, r292_115, r292_118, r292_119, r292_120, r292_123, r292_124, r292_125, r292_128, r292_129, r292_130, r292_131, r292_132, r292_135, r292_136, r292_137, r292_138, r292_139, r292_142, r292_144, r292_145, r292_148, r292_151, r292_152, r292_153, r292_156, r292_157, r292_158, r292_161, r292_162, r292_164, r292_167, r292_168, r292_171, r292_175, r292_176, r292_177, r292_180, r292_183, c195, h]
theorem p333 (hV : IV B w m s t y hs le lf F K sc c q cs) (hS : SR m sc le lf) : PAIRS B x w n 333 [.ref 64, .ref 237] 292 [.ref 227] m := by
  obtain ⟨l, hX, hT, hle, hlf⟩ := id hS
  obtain ⟨hW, hM, ⟨f37, hf⟩, ⟨g38, hg⟩, hR, hH, h6, hy, hi, hiK⟩ := id hV
  obtain ⟨⟨g0, g1, -, -, g4, g5, -, -, -⟩, c64, c65, c79, -, c107⟩ := WD_64 hW
  have c5 := (WD_5 hW).2
  have h9 := hX.1
  have hkd := hR.1.1.1.1.2.2
  obtain ⟨sc0, hsc0⟩ : ∃ sc0, sc0 = us (us sc 20 5 0) 20 4 0 := ⟨_, rfl⟩
  have hTS : TS sc sc0 := ⟨by rw [hsc0, us_ne (by decide), us_ne (by decide)], by rw [hsc0, us_at, if_pos rfl, if_neg (by decide), us_at, if_pos rfl, if_neg (by decide)]⟩
  obtain ⟨e, t', cc, g, Q, k1, k2, k3, k4⟩ := lk (x := x) (b := 221) (b2 := 227) hX hT 15 0 0 (m 9) sc0 (by omega) (by omega) (by omega) hTS (by rw [hsc0, us_at, if_pos rfl, if_pos rfl]; rfl) (by rw [hsc0, us_at, if_pos rfl, if_neg (by decide), us_at, if_pos rfl, if_pos rfl]; rfl) (fun i hi => by omega)
  have e179 : RM x 179 [.ref 221] w n = some (.inl (some (.int e)), setS w 221 t', n) := by
    have h := k1 w n
    rw [hsc0] at h
    conv => lhs; rw [← WD_sc hW]
    simp only [csN, csm_i, csm_r, Nat.reduceAdd, Nat.reduceLeDiff, wdI, wdR, wdN, clM_0, clC_0, clC_1, clC_6, clC_8, true_or, or_true, i10, i01, ob_some, ob_map, cal_v, rvs_some, rvs_none, XO_at, cal_x, m179, r179_0, r179_1, r179_2, r179_5, r179_6, r179_7, r179_10, r179_11, r179_13, r179_15, r179_18, r179_19, r179_22, r179_25, r179_26, r179_29, r179_30, r179_31, r179_34, r179_35, r179_38, r179_41, r179_42, r179_43, r179_44, r179_46, r179_49, r179_52, r179_53, r179_56, r179_57, r179_60, r179_63, r179_64, r179_67, pS_0_5, pS_0_4]
    exact h
  have e292 : ∀ w2 n2, RM x 292 [.ref 227] (setM w2 227 m) n2 = RC x 292 71 [some (.ref 227), some (.int (Int32.ofNat cc)), some (.int 0), none, none] [] (setM w2 227 (MK m g Q)) n2 := fun w2 n2 => by
    have k0 : (0 : Int32) = 0 ∨ (0 : Int32) = 1 := Or.inl rfl
    have p0 : ∀ s : NS, pfd (setM w2 227 s) 7 16 227 (.int 0) = some (setM w2 227 (us s 20 16 0)) := fun s => pM_0_16 k0
    have h := k2 w2 n2
    simp only [csN, csm_i, csm_r, Nat.reduceAdd, Nat.reduceLeDiff, wdI, wdR, wdN, clM_0, clC_0, clC_1, clC_6, clC_8, true_or, or_true, i10, i01, ob_some, ob_map, cal_v, rvs_some, rvs_none, XO_at, cal_x, m292, r292_0, r292_1, r292_2, r292_5, r292_6, r292_7, r292_10, r292_11, r292_12, r292_13, r292_15, r292_18, r292_19, r292_20, r292_21, r292_22, r292_25, r292_28, r292_29, r292_32, r292_35, r292_36, r292_39, r292_41, r292_44, r292_45, r292_48, r292_49, r292_50, r292_51, r292_52, r292_55, r292_56, r292_59, r292_60, r292_63, r292_64, r292_65, r292_68, r292_72, r292_73, r292_76, r292_79, r292_80, r292_83, r292_84, r292_87, r292_90, r292_91, r292_94, r292_95, r292_98, r292_99, r292_100, r292_103, r292_104, r292_107, r292_110, r292_111, r292_112, r292_115, r292_118, r292_119, r292_120, r292_123, r292_124, r292_125, r292_128, r292_129, r292_131, r292_132, r292_135, r292_136, r292_137, r292_138, r292_139, r292_142, r292_144, r292_145, r292_148, r292_152, r292_153, r292_156, r292_157, r292_158, r292_161, r292_162, r292_164, r292_167, r292_168, r292_171, r292_175, r292_176, r292_177, r292_180, r292_183, pM_0_15, p0, MK_ini]
    exact h
  have hWt := WD_S t' hW
  obtain ⟨g5a, c5a⟩ := WD_5 hWt
  obtain ⟨sc1, hsc1⟩ : ∃ sc1, sc1 = us t' 20 1 0 := ⟨_, rfl⟩
  have e178 := c178 (x := x) (n := n) (w := w) (b := 221) (sc := t')
  rw [← hsc1] at e178
  have hWs := WD_S sc1 hW
  have hX1 : TX sc1 0 := ⟨by omega, by rw [hsc1, us_at, if_pos rfl, if_pos rfl]; rfl, fun j hj => by omega⟩
  have oS : ∀ i, 225 ≤ i → setS w 221 sc1 i = w i := fun i hi => setS_out (by omega)
  rcases k4 with ⟨rfl, rfl, hP, hcc, h4c⟩ | ⟨q0, hq0, rfl, hQ2, hbad⟩
  · obtain ⟨W, hWd⟩ : ∃ W, W = setS w 221 sc1 := ⟨_, rfl⟩
    rw [← hWd] at e178 hWs oS
    obtain ⟨⟨g0b, g1b, -, -, g4b, g5b, -, -, -⟩, c64b, c65b, c79b, -, c107b⟩ := WD_64 hWs
    have c5b := (WD_5 hWs).2
    have e99 := c99 (x := x) (n := n) (w := W) (b := 79) (b2 := 65) (s := t) (t := s) (by omega) hWs.2.1 hkd
    rw [(WD_c hWs).2.1] at e99
    have hW1 := WD_T (cpC t s) hWs
    obtain ⟨⟨g0c, g1c, -, -, g4c, g5c, -, -, -⟩, c64c, c65c, c79c, -, c107c⟩ := WD_64 hW1
    have c5c := (WD_5 hW1).2
    have hPs : PMS cc sc1 g := fun i hi => by
      obtain ⟨cm, as, b1, b2, b3, b4, b5⟩ := hP i hi
      exact ⟨cm, as, b1, b2, by rw [hsc1, us_ne (by decide)]; exact b3, fun j hj => by rw [hsc1, us_ne (by decide)]; exact b4 j hj, b5⟩
    have h4s : sc1 20 4 = Int32.ofNat cc := by rw [hsc1, us_at, if_pos rfl, if_neg (by decide)]; exact h4c
    have hRt : RJ (cpC t s) (m 1) c := RJ_E hR EC_cp
    have hBt : IDV B (cpC t s) c := IDV_E hR.1.1.1.1.2.1 hi EC_cp
    have e180 : RM x 180 [.ref 221, .ref 79] (setC W 79 (cpC t s)) n = some (.inl (some (.int (exO (pfL sc1 cc 0 (cpC t s) c).1))), setC W 79 (pfL sc1 cc 0 (cpC t s) c).2.1, n) := by
      have h := lpC (x := x) (n := n) (w := W) (sc := sc1) hWs.2.2.2.2.2.2.2.2.2 hPs hcc h4s cc 0 (cpC t s) c (ua m 9 g) none none none none (by omega) rfl rfl rfl rfl (by rw [ua_ne (by decide)]; exact hRt) ua_same
      simp only [csN, csm_i, csm_r, Nat.reduceAdd, Nat.reduceLeDiff, wdI, wdR, wdN, clM_0, clC_0, clC_1, clC_6, clC_8, true_or, or_true, i10, i01, ob_some, ob_map, cal_v, rvs_some, rvs_none, XO_at, cal_x, m180, r180_0, r180_1, r180_3, r180_4, r180_7, r180_10, r180_11, r180_14, r180_15, r180_18, r180_19, r180_20, r180_23, r180_24, r180_25, r180_26, r180_29, r180_31, r180_32, r180_35, r180_36, r180_37, r180_38, r180_39, r180_40, r180_43, r180_45, r180_46, r180_49, r180_50, r180_51, r180_52, r180_53, r180_54, r180_57, r180_59, r180_60, r180_61, r180_63, r180_65, r180_67, r180_70, r180_73, r180_76, r180_77, r180_78, r180_79, r180_80, r180_82, r180_84, r180_86, r180_89, r180_90, r180_93, r180_96, r180_97]
      exact h
    have eM := fun w2 n2 => lpM (x := x) (n2 := n2) (w2 := w2) (b := 227) (sc := sc1) (f := g) (z2 := 0) hPs hcc cc 0 (cpC t s) c (m1S m g l) B none (by omega) rfl (by rw [m1_r (by decide) (by decide) (by decide)]; exact hRt) hBt m1_9
    have eB := fun w2 n2 => c71B (x := x) (n := n2) (w := w2) (b := 227) (g := g) (z1 := Int32.ofNat cc) hT.1
    obtain ⟨r, hr⟩ : ∃ r, r = pfL sc1 cc 0 (cpC t s) c := ⟨_, rfl⟩
    rw [← hr] at e180
    simp only [← hr] at eM
    obtain ⟨o, t2, ct⟩ := r
    dsimp only at e180 eM
    cases o with
    | some k =>
      dsimp only at eM
      have hk15 : k < 15 := by
        obtain ⟨m2, -, h, -⟩ := eM w n
        exact h
      have hne : ¬ Int32.ofNat k = -1 := i_m1 (by omega)
      have hW2 := WD_T t2 hWs
      have p8 := WD_p8 (v := Int32.ofNat k) hW2
      have hW3 := WD_o hs le (Int32.ofNat k) hW2
      have e83 : RM x 83 [.ref 64] w n = some (.inr "java/lang/IllegalStateException", pupd (setC W 79 t2) 64 (.inr (6, [.ref 65, .ref 79, .ref 93, .int hs, .ref 107, .ref 221, .ref 225, .int le, .int (Int32.ofNat k)])), n + 1) := by
        have e180' : RM x 180 [.ref 221, .ref 79] (setC W 79 (cpC t s)) n = some (.inl (some (.int (Int32.ofNat k))), setC W 79 t2, n) := e180
        simp only [csN, csm_i, csm_r, Nat.reduceAdd, Nat.reduceLeDiff, wdI, wdR, wdN, clM_0, clC_0, clC_1, clC_6, clC_8, true_or, or_true, i10, i01, ob_some, ob_map, cal_v, rvs_some, rvs_none, XO_at, cal_x, m83, r83_0, r83_1, r83_4, r83_7, r83_8, r83_9, r83_12, r83_15, r83_16, r83_17, r83_20, r83_21, r83_22, r83_25, r83_36, r83_37, r83_40, r83_41, r83_44, r83_47, r83_48, r83_51, r83_52, r83_55, r83_58, r83_59, r83_60, r83_61, r83_64, r83_65, r83_66, r83_69, r83_80, r83_81, r83_84, r83_85, r83_88, r83_91, r83_92, r83_95, r83_96, r83_99, r83_102, r83_103, r83_106, r83_109, g5, c5, e179, g5a, c5a, e178, hWd.symm, if_true, g0b, g1b, c79b, e99, g5c, g1c, c5c, e180', hne, if_false, p8]
      have E1 := lx333_2 c64 e83
      obtain ⟨w3, hw3⟩ : ∃ w3, w3 = pupd (setC W 79 t2) 64 (.inr (6, [.ref 65, .ref 79, .ref 93, .int hs, .ref 107, .ref 221, .ref 225, .int le, .int (Int32.ofNat k)])) := ⟨_, rfl⟩
      rw [← hw3] at E1 hW3
      have o3 : ∀ i, 225 ≤ i → w3 i = w i := fun i hi => by rw [hw3, pupd_ne (by omega), setC_w (by omega), oS i hi]
      have M3 : setM w3 227 m = w3 := isM_c hM (fun i h1 h2 => o3 i (by omega))
      obtain ⟨m2, hKQ, -, h13, v, em⟩ := eM w3 (n + 1 + 1)
      have E2 : RM x 292 [.ref 227] w3 (n + 1 + 1) = some (.inl (some (.int 0)), setM w3 227 (ua (us (us m2 20 10 (Int32.ofNat k)) 20 13 2) 1 (cp84 (m2 2) 0 (m2 1) 0 84)), n + 1 + 1) := by
        conv => lhs; rw [← M3]
        rw [e292, eB]
        exact em.trans c292f
      have m2r : ∀ r, ¬ r = 1 → ¬ r = 2 → ¬ r = 8 → ¬ r = 9 → ¬ r = 20 → m2 r = m r := fun r a1 a2 a8 a9 a20 => (hKQ.1 r a1 a8 a20).trans (m1_r a2 a9 a20)
      have m2n : ∀ j, ¬ j = 8 → ¬ j = 13 → ¬ j = 15 → ¬ j = 16 → m2 20 j = m 20 j := fun j a8 a13 a15 a16 => (hKQ.2 j a13).trans (m1_n a8 a15 a16)
      refine ⟨2, 0, w3, n + 1 + 1, _, n + 1 + 1, E1, E2, clM M3, by omega, by omega, by omega, fun i h1 h2 => ?_, fun h => absurd h (by decide), _, s, t2, y, hs, le, Int32.ofNat k, F, K, sc1, c, q, cs, B, by omega, IV_2 hW3 (fun _ _ => rfl) (by rw [o3 _ (by omega)]; exact hf) (by rw [o3 _ (by omega)]; exact hg) ?_ ⟨hH.1, ?_, fun j hj => ?_⟩ ?_ ?_ hi hiK, ⟨0, hX1, ⟨?_, fun j hj => by omega⟩, ?_, ?_⟩, ?_, ?_, ?_⟩
      · rw [setM_out (by omega), o3 i h1]
      · rw [ua_same]
        refine RJ_g hR (fun i hi => ?_)
        rw [cp0 i hi, hKQ.1 2 (by decide) (by decide) (by decide), m1_2, cp0 i hi]
      · rw [ua_ne (by decide), us_at, if_pos rfl, if_neg (by decide), us_at, if_pos rfl, if_neg (by decide), m2n 4 (by decide) (by decide) (by decide) (by decide)]; exact hH.2.1
      · rw [ua_ne (by decide), us_ne (by decide), us_ne (by decide), m2r 4 (by decide) (by decide) (by decide) (by decide) (by decide)]; exact hH.2.2 j hj
      · rw [ua_ne (by decide), us_at, if_pos rfl, if_neg (by decide), us_at, if_pos rfl, if_neg (by decide), m2n 6 (by decide) (by decide) (by decide) (by decide)]; exact h6
      · rw [ua_ne (by decide), us_ne (by decide), us_ne (by decide), m2r 5 (by decide) (by decide) (by decide) (by decide) (by decide)]; exact hy
      · rw [ua_ne (by decide), us_at, if_pos rfl, if_neg (by decide), us_at, if_pos rfl, if_neg (by decide), hKQ.2 8 (by decide), m1_8]; rfl
      · rw [ua_ne (by decide), us_at, if_pos rfl, if_neg (by decide), us_at, if_pos rfl, if_neg (by decide), m2n 9 (by decide) (by decide) (by decide) (by decide)]; exact hle
      · rw [ua_ne (by decide), us_at, if_pos rfl, if_neg (by decide), us_at, if_pos rfl, if_pos rfl]
      · rw [ua_ne (by decide), us_at, if_pos rfl, if_pos rfl]
      · rw [ua_ne (by decide), us_ne (by decide), us_ne (by decide), m2r 7 (by decide) (by decide) (by decide) (by decide) (by decide)]
      · rw [ua_ne (by decide), us_at, if_pos rfl, if_neg (by decide), us_at, if_pos rfl, if_neg (by decide), m2n 12 (by decide) (by decide) (by decide) (by decide)]
    | none =>
      dsimp only at eM
      have hW2 := WD_T t2 hWs
      obtain ⟨⟨g0d, -, -, -, g4d, -⟩, -, c65d, -, -, c107d⟩ := WD_64 hW2
      obtain ⟨W3, F', e161, hW3, o3⟩ := c161 (x := x) (n := n) hW2 hkd
      rw [mn8_hiN hH.1] at hW3
      obtain ⟨⟨g0e, g1e, -⟩, -, c65e, -⟩ := WD_64 hW3
      have hkt : ∀ g, g < 5 → isKd (t2 2 g) := by
        obtain ⟨m2, -, -, h, -⟩ := eM w n
        exact h.1.1.1.1.2.2
      have e99b := c99 (x := x) (n := n) (w := W3) (b := 65) (b2 := 79) (s := s) (t := t2) (by omega) hW3.2.2.1 hkt
      rw [(WD_c hW3).1] at e99b
      have hW4 := WD_C (cpC s t2) hW3
      obtain ⟨⟨-, -, -, -, -, g5f, -⟩, -⟩ := WD_64 hW4
      have g4f : gfd (setC W3 65 (cpC s t2)) 5 4 221 = some (.int (sc1 20 4)) := by rw [gfd_at (hW4.2.2.2.2.2.2.2.2.2 0 (by omega)) (by decide)]; rfl
      rw [h4s] at g4f
      have e83 : RM x 83 [.ref 64] w n = some (.inl (some (.int (Int32.ofNat cc))), setC W3 65 (cpC s t2), n) := by
        have e180' : RM x 180 [.ref 221, .ref 79] (setC W 79 (cpC t s)) n = some (.inl (some (.int (-1))), setC W 79 t2, n) := e180
        simp only [csN, csm_i, csm_r, Nat.reduceAdd, Nat.reduceLeDiff, wdI, wdR, wdN, clM_0, clC_0, clC_1, clC_6, clC_8, true_or, or_true, i10, i01, ob_some, ob_map, cal_v, rvs_some, rvs_none, XO_at, cal_x, m83, r83_0, r83_1, r83_4, r83_7, r83_8, r83_9, r83_12, r83_15, r83_16, r83_17, r83_20, r83_21, r83_22, r83_25, r83_36, r83_37, r83_40, r83_41, r83_44, r83_47, r83_48, r83_51, r83_52, r83_55, r83_58, r83_59, r83_60, r83_61, r83_64, r83_65, r83_66, r83_69, r83_80, r83_81, r83_84, r83_85, r83_88, r83_91, r83_92, r83_95, r83_96, r83_99, r83_102, r83_103, r83_106, r83_109, g5, c5, e179, g5a, c5a, e178, hWd.symm, if_true, g0b, g1b, c79b, e99, g5c, g1c, c5c, e180', g0d, g4d, c107d, e161, g0e, g1e, c65e, e99b, g5f, g4f]
      have o4 : ∀ i, 225 ≤ i → setC W3 65 (cpC s t2) i = w i := fun i hi => by rw [setC_w (by omega), o3 i hi, setC_w (by omega), oS i hi]
      have E1 := lw333 c64 e83 (by rw [o4 _ (by omega)]; exact hf)
      obtain ⟨w3, hw3⟩ : ∃ w3, w3 = pupd (setC W3 65 (cpC s t2)) 237 (lcl (vp_updL f37 0 (Int32.ofNat cc).toInt64)) := ⟨_, rfl⟩
      rw [← hw3] at E1
      have o5 : ∀ i, ¬ i = 237 → w3 i = setC W3 65 (cpC s t2) i := fun i hi => by rw [hw3, pupd_ne hi]
      have M3 : setM w3 227 m = w3 := isM_c hM (fun i h1 h2 => by rw [o5 i (by omega), o4 i (by omega)])
      obtain ⟨m2, hKQ, ⟨b4', em⟩, hR2, hB2⟩ := eM w3 n
      have m2r : ∀ r, ¬ r = 1 → ¬ r = 2 → ¬ r = 8 → ¬ r = 9 → ¬ r = 20 → m2 r = m r := fun r a1 a2 a8 a9 a20 => (hKQ.1 r a1 a8 a20).trans (m1_r a2 a9 a20)
      have m2n : ∀ j, ¬ j = 8 → ¬ j = 13 → ¬ j = 15 → ¬ j = 16 → m2 20 j = m 20 j := fun j a8 a13 a15 a16 => (hKQ.2 j a13).trans (m1_n a8 a15 a16)
      have h24 : m2 20 4 = Int32.ofNat q := (m2n 4 (by decide) (by decide) (by decide) (by decide)).trans hH.2.1
      have m24 := m2r 4 (by decide) (by decide) (by decide) (by decide) (by decide)
      have m22 : m2 2 = cp84 (m 1) 0 (m 2) 0 84 := (hKQ.1 2 (by decide) (by decide) (by decide)).trans m1_2
      have E2 : RM x 292 [.ref 227] w3 n = some (.inl (some (.int (Int32.ofNat cc))), setM w3 227 (us (ua (us m2 20 13 0) 4 (hiR (m2 4) (m2 2) q)) 20 4 (Int32.ofNat (hiN q))), n) := by
        conv => lhs; rw [← M3]
        rw [e292, eB]
        exact em.trans (c292k h24 hH.1)
      have h37 : w3 237 = some (lcl (vp_updL f37 0 (Int32.ofNat cc).toInt64)) := by rw [hw3]; exact pupd_same _ _ _
      have h38 : w3 238 = some (dcl g38) := by rw [o5 _ (by omega), o4 _ (by omega)]; exact hg
      refine ⟨0, _, w3, n, _, n, E1, E2, clM M3, by omega, by omega, by omega, fun i h1 h2 => ?_, fun _ => ⟨_, by rw [setM_out (by omega)]; exact h37, updL_0⟩, _, cpC s t2, t2, y, hs, le, lf, F', _, sc1, ct, hiN q, cs1 cs c, B + cc, by omega, IV_2 hW4 (fun i hi => o5 i (by omega)) h37 h38 ?_ (HM_1 (m := m2) (c := c) (z := cpC (K 7) s) ⟨hH.1, h24, by rw [m24]; exact hH.2.2⟩ ?_ ?_ ?_) ?_ ?_ (IDV_E hR2.1.1.1.1.2.1 hB2 EC_cp) (fun j hj => ?_), ⟨0, hX1, ⟨?_, fun j hj => by omega⟩, ?_, ?_⟩, ?_, ?_, ?_⟩
      · rw [setM_out (by omega), o5 i (by omega), o4 i h1]
      · rw [us_ne (by decide), ua_ne (by decide), us_ne (by decide)]
        exact RJ_E hR2 EC_cp
      · rw [m22]
        exact RJ_E (RJ_g hR cp0) EC_cp
      · rw [us_ne (by decide), ua_same]
      · rw [us_at, if_pos rfl, if_pos rfl]
      · rw [us_at, if_pos rfl, if_neg (by decide), ua_ne (by decide), us_at, if_pos rfl, if_neg (by decide), m2n 6 (by decide) (by decide) (by decide) (by decide)]; exact h6
      · rw [us_ne (by decide), ua_ne (by decide), us_ne (by decide), m2r 5 (by decide) (by decide) (by decide) (by decide) (by decide)]
        exact hy.imp (fun h => h) (fun ⟨cy, h1, h2⟩ => ⟨cy, h1, IDV_up h2 (by omega)⟩)
      · unfold K1 cs1
        by_cases j0 : j = 0
        · rw [if_pos j0, if_pos j0]
          exact IDV_up (IDV_E hR.1.1.1.1.2.1 hi EC_cp) (by omega)
        · rw [if_neg j0, if_neg j0]
          exact IDV_up (hiK (j - 1) (by unfold hiN at hj; split at hj <;> omega)) (by omega)
      · rw [us_at, if_pos rfl, if_neg (by decide), ua_ne (by decide), us_at, if_pos rfl, if_neg (by decide), hKQ.2 8 (by decide), m1_8]; rfl
      · rw [us_at, if_pos rfl, if_neg (by decide), ua_ne (by decide), us_at, if_pos rfl, if_neg (by decide), m2n 9 (by decide) (by decide) (by decide) (by decide)]; exact hle
      · rw [us_at, if_pos rfl, if_neg (by decide), ua_ne (by decide), us_at, if_pos rfl, if_neg (by decide), m2n 10 (by decide) (by decide) (by decide) (by decide)]; exact hlf
      · rw [us_at, if_pos rfl, if_neg (by decide), ua_ne (by decide), us_at, if_pos rfl, if_pos rfl]
      · rw [us_ne (by decide), ua_ne (by decide), us_ne (by decide), m2r 7 (by decide) (by decide) (by decide) (by decide) (by decide)]
      · rw [us_at, if_pos rfl, if_neg (by decide), ua_ne (by decide), us_at, if_pos rfl, if_neg (by decide), m2n 12 (by decide) (by decide) (by decide) (by decide)]
  · have hne : ¬ Int32.ofNat q0 = -1 := i_m1 (by omega)
    have p7 := WD_p7 (v := Int32.ofNat q0) hWs
    have hW3 := WD_o hs (Int32.ofNat q0) lf hWs
    have e83 : RM x 83 [.ref 64] w n = some (.inr "java/lang/IllegalArgumentException", pupd (setS w 221 sc1) 64 (.inr (6, [.ref 65, .ref 79, .ref 93, .int hs, .ref 107, .ref 221, .ref 225, .int (Int32.ofNat q0), .int lf])), n + 1) := by
      simp only [csN, csm_i, csm_r, Nat.reduceAdd, Nat.reduceLeDiff, wdI, wdR, wdN, clM_0, clC_0, clC_1, clC_6, clC_8, true_or, or_true, i10, i01, ob_some, ob_map, cal_v, rvs_some, rvs_none, XO_at, cal_x, m83, r83_0, r83_1, r83_4, r83_7, r83_8, r83_9, r83_12, r83_15, r83_16, r83_17, r83_20, r83_21, r83_22, r83_25, r83_36, r83_37, r83_40, r83_41, r83_44, r83_47, r83_48, r83_51, r83_52, r83_55, r83_58, r83_59, r83_60, r83_61, r83_64, r83_65, r83_66, r83_69, r83_80, r83_81, r83_84, r83_85, r83_88, r83_91, r83_92, r83_95, r83_96, r83_99, r83_102, r83_103, r83_106, r83_109, g5, c5, e179, g5a, c5a, e178, hne, if_false, p7]
    have E1 := lx333_1 c64 e83
    obtain ⟨w3, hw3⟩ : ∃ w3, w3 = pupd (setS w 221 sc1) 64 (.inr (6, [.ref 65, .ref 79, .ref 93, .int hs, .ref 107, .ref 221, .ref 225, .int (Int32.ofNat q0), .int lf])) := ⟨_, rfl⟩
    rw [← hw3] at E1 hW3
    have o3 : ∀ i, 225 ≤ i → w3 i = w i := fun i hi => by rw [hw3, pupd_ne (by omega), oS i hi]
    have M3 : setM w3 227 m = w3 := isM_c hM (fun i h1 h2 => o3 i (by omega))
    have E2 := e292 w3 (n + 1 + 1)
    rw [M3, c71A hT.1 h9 hq0 hQ2 hbad] at E2
    have mr : ∀ r, ¬ r = 9 → ¬ r = 20 → us (us (us (MK m g (true, q0)) 20 8 0) 20 9 (Int32.ofNat q0)) 20 13 1 r = m r := fun r a9 a20 => by
      rw [us_ne a20, us_ne a20, us_ne a20]
      funext j
      exact MK_o a9 (by omega)
    have mn : ∀ j, ¬ j = 8 → ¬ j = 9 → ¬ j = 13 → ¬ j = 15 → ¬ j = 16 → us (us (us (MK m g (true, q0)) 20 8 0) 20 9 (Int32.ofNat q0)) 20 13 1 20 j = m 20 j := fun j a8 a9 a13 a15 a16 => by
      rw [us_at, if_pos rfl, if_neg a13, us_at, if_pos rfl, if_neg a9, us_at, if_pos rfl, if_neg a8]
      exact MK_o (by decide) (by omega)
    refine ⟨1, 0, w3, n + 1 + 1, _, n + 1 + 1, E1, E2, clM M3, by omega, by omega, by omega, fun i h1 h2 => ?_, fun h => absurd h (by decide), _, s, t, y, hs, Int32.ofNat q0, lf, F, K, sc1, c, q, cs, B, by omega, IV_2 hW3 (fun _ _ => rfl) (by rw [o3 _ (by omega)]; exact hf) (by rw [o3 _ (by omega)]; exact hg) ?_ ⟨hH.1, ?_, fun j hj => ?_⟩ ?_ ?_ hi hiK, ⟨0, hX1, ⟨?_, fun j hj => by omega⟩, ?_, ?_⟩, ?_, ?_, ?_⟩
    · rw [setM_out (by omega), o3 i h1]
    · rw [mr 1 (by decide) (by decide)]; exact hR
    · rw [mn 4 (by decide) (by decide) (by decide) (by decide) (by decide)]; exact hH.2.1
    · rw [mr 4 (by decide) (by decide)]; exact hH.2.2 j hj
    · rw [mn 6 (by decide) (by decide) (by decide) (by decide) (by decide)]; exact h6
    · rw [mr 5 (by decide) (by decide)]; exact hy
    · rw [us_at, if_pos rfl, if_neg (by decide), us_at, if_pos rfl, if_neg (by decide), us_at, if_pos rfl, if_pos rfl]; rfl
    · rw [us_at, if_pos rfl, if_neg (by decide), us_at, if_pos rfl, if_pos rfl]
    · rw [mn 10 (by decide) (by decide) (by decide) (by decide) (by decide)]; exact hlf
    · rw [us_at, if_pos rfl, if_pos rfl]
    · rw [mr 7 (by decide) (by decide)]
    · rw [mn 12 (by decide) (by decide) (by decide) (by decide) (by decide)]
end RUNS
