/-! BOTH SIDES carry a script's commands out -/
section PFM
set_option maxRecDepth 20000
variable {x : SX} {n n2 b c : Nat} {w w2 : PW} {s m sc : NS} {f : Nat → Int32} {as : List Int32} {u v z k : Int32} {code : Nat → Int32} {o O : Option RR}
theorem MCH_ret (h : MCH x n b w m s c k u v z code o) (hO : ∀ r W, o = some (.inl (some (.int r)), W, n) → O = some (.inl (some (.int r)), W, n)) : MCH x n b w m s c k u v z code O := by
  obtain ⟨h1, h2⟩ := h
  refine ⟨fun hf => ?_, fun hf => hO _ _ (h2 hf)⟩
  obtain ⟨g', f', a1, a2⟩ := h1 hf
  exact ⟨g', f', a1, hO _ _ a2⟩
theorem c291 {kk cm : Nat} (hR : RJ s (m 1) c) (hk : kk + 3 < 240) (hP : PM cm as (m 9) kk) (hu : as.getD 0 0 = u) (hv : 1 < as.length → as.getD 1 0 = v) (hz : 2 < as.length → as.getD 2 0 = z) :
    ∃ code, (∀ f, ¬ f = 0 → ¬ code f = 0) ∧ MCH x n b w m s c (Int32.ofNat cm) u v z code (RM x 291 [.ref b, .int (Int32.ofNat kk)] (setM w b m) n) := by
  have h1 : Int32.ofNat kk + 1 = Int32.ofNat (kk + 1) := i_add (b := 1)
  have h2 : Int32.ofNat kk + 2 = Int32.ofNat (kk + 2) := i_add (b := 2)
  have h3 : Int32.ofNat kk + 3 = Int32.ofNat (kk + 3) := i_add (b := 3)
  have x0 := ix (k := kk) (d := 0) (by omega)
  have x1 := ix (k := kk) (d := 1) (by omega)
  have x2 := ix (k := kk) (d := 2) (by omega)
  have x3 := ix (k := kk) (d := 3) (by omega)
  rw [Nat.add_zero] at x0
  rcases hP with ⟨rfl, a1, a2, a3, rfl, e0, e1, e2, e3⟩ | ⟨rfl, a1, a2, a3, rfl, e0, e1, e2, e3⟩ | ⟨rfl, a1, a2, rfl, e0, e1, e2⟩ | ⟨rfl, a1, a2, rfl, e0, e1, e2⟩ | ⟨rfl, a1, rfl, e0, e1⟩ | ⟨rfl, a1, a2, rfl, e0, e1, e2⟩ | ⟨rfl, a1, rfl, e0, e1⟩ | ⟨rfl, a1, rfl, e0, e1⟩
  · obtain rfl : a1 = u := hu
    obtain rfl : a2 = v := hv (by simp)
    obtain rfl : a3 = z := hz (by simp)
    refine ⟨codeB, codeB_n, ?_⟩
    rcases e3 with ⟨rfl, e3⟩ | ⟨rfl, e3⟩
    · refine MCH_ret (c217 (d := true) hR.1) (fun r W e => ?_)
      rw [bi_t] at e
      simp only [csN, csm_i, csm_r, Nat.reduceAdd, Nat.reduceLeDiff, wdI, wdR, wdN, clM_0, clC_0, clC_1, clC_6, clC_8, true_or, or_true, i10, i01, ob_some, ob_map, cal_v, rvs_some, rvs_none, XO_at, cal_x, m291, r291_0, r291_1, r291_4, r291_5, r291_6, r291_7, r291_8, r291_9, r291_10, r291_13, r291_14, r291_15, r291_16, r291_17, r291_18, r291_19, r291_22, r291_23, r291_24, r291_128, r291_129, r291_130, r291_131, r291_132, r291_135, r291_136, r291_137, r291_138, r291_139, r291_140, r291_143, r291_144, r291_147, r291_148, r291_151, r291_152, r291_153, r291_154, r291_155, r291_156, r291_159, r291_160, r291_161, r291_162, r291_163, r291_166, r291_167, r291_168, r291_169, r291_170, r291_173, r291_174, r291_175, r291_176, r291_179, r291_180, r291_181, r291_182, r291_183, r291_186, r291_187, r291_188, r291_189, r291_190, r291_193, r291_194, r291_195, r291_196, r291_199, r291_200, r291_201, r291_202, r291_205, gM_0_17, lM_9, h1, h2, h3, x0, x1, x2, x3, Option.map_some, e0, e1, e2, e3, if_true, e]
    · refine MCH_ret (c217 (d := false) hR.1) (fun r W e => ?_)
      rw [bi_f] at e
      simp only [csN, csm_i, csm_r, Nat.reduceAdd, Nat.reduceLeDiff, wdI, wdR, wdN, clM_0, clC_0, clC_1, clC_6, clC_8, true_or, or_true, i10, i01, ob_some, ob_map, cal_v, rvs_some, rvs_none, XO_at, cal_x, m291, r291_0, r291_1, r291_4, r291_5, r291_6, r291_7, r291_8, r291_9, r291_10, r291_13, r291_14, r291_15, r291_16, r291_17, r291_18, r291_19, r291_22, r291_23, r291_24, r291_128, r291_129, r291_130, r291_131, r291_132, r291_135, r291_136, r291_137, r291_138, r291_139, r291_140, r291_143, r291_144, r291_147, r291_148, r291_151, r291_152, r291_153, r291_154, r291_155, r291_156, r291_159, r291_160, r291_161, r291_162, r291_163, r291_166, r291_167, r291_168, r291_169, r291_170, r291_173, r291_174, r291_175, r291_176, r291_179, r291_180, r291_181, r291_182, r291_183, r291_186, r291_187, r291_188, r291_189, r291_190, r291_193, r291_194, r291_195, r291_196, r291_199, r291_200, r291_201, r291_202, r291_205, gM_0_17, lM_9, h1, h2, h3, x0, x1, x2, x3, Option.map_some, e0, e1, e2, e3, if_true, if_false, e]
  · obtain rfl : a1 = u := hu
    obtain rfl : a2 = v := hv (by simp)
    obtain rfl : a3 = z := hz (by simp)
    have s98 : ((116 : Int32) = 98) = False := eq_false (by decide)
    have s100 : ((116 : Int32) = 100) = False := eq_false (by decide)
    have s102 : ((116 : Int32) = 102) = False := eq_false (by decide)
    have s105 : ((116 : Int32) = 105) = False := eq_false (by decide)
    have s108 : ((116 : Int32) = 108) = False := eq_false (by decide)
    refine ⟨code1, code1_n, MCH_ret (c221 hR.1) (fun r W e => ?_)⟩
    simp only [csN, csm_i, csm_r, Nat.reduceAdd, Nat.reduceLeDiff, wdI, wdR, wdN, clM_0, clC_0, clC_1, clC_6, clC_8, true_or, or_true, i10, i01, ob_some, ob_map, cal_v, rvs_some, rvs_none, XO_at, cal_x, m291, r291_0, r291_1, r291_4, r291_5, r291_6, r291_7, r291_8, r291_9, r291_10, r291_13, r291_14, r291_15, r291_16, r291_17, r291_18, r291_19, r291_22, r291_23, r291_24, r291_128, r291_129, r291_130, r291_131, r291_132, r291_135, r291_136, r291_137, r291_138, r291_139, r291_140, r291_143, r291_144, r291_147, r291_148, r291_151, r291_152, r291_153, r291_154, r291_155, r291_156, r291_159, r291_160, r291_161, r291_162, r291_163, r291_166, r291_167, r291_168, r291_169, r291_170, r291_173, r291_174, r291_175, r291_176, r291_179, r291_180, r291_181, r291_182, r291_183, r291_186, r291_187, r291_188, r291_189, r291_190, r291_193, r291_194, r291_195, r291_196, r291_199, r291_200, r291_201, r291_202, r291_205, gM_0_17, lM_9, h1, h2, h3, x0, x1, x2, x3, Option.map_some, e0, e1, e2, e3, if_true, if_false, s98, s100, s102, s105, s108, e]
  · obtain rfl : a1 = u := hu
    obtain rfl : a2 = v := hv (by simp)
    have s98 : ((102 : Int32) = 98) = False := eq_false (by decide)
    have s100 : ((102 : Int32) = 100) = False := eq_false (by decide)
    refine ⟨code1, code1_n, MCH_ret (c223 hR.1) (fun r W e => ?_)⟩
    simp only [csN, csm_i, csm_r, Nat.reduceAdd, Nat.reduceLeDiff, wdI, wdR, wdN, clM_0, clC_0, clC_1, clC_6, clC_8, true_or, or_true, i10, i01, ob_some, ob_map, cal_v, rvs_some, rvs_none, XO_at, cal_x, m291, r291_0, r291_1, r291_4, r291_5, r291_6, r291_7, r291_8, r291_9, r291_10, r291_13, r291_14, r291_15, r291_16, r291_17, r291_18, r291_19, r291_22, r291_23, r291_24, r291_128, r291_129, r291_130, r291_131, r291_132, r291_135, r291_136, r291_137, r291_138, r291_139, r291_140, r291_143, r291_144, r291_147, r291_148, r291_151, r291_152, r291_153, r291_154, r291_155, r291_156, r291_159, r291_160, r291_161, r291_162, r291_163, r291_166, r291_167, r291_168, r291_169, r291_170, r291_173, r291_174, r291_175, r291_176, r291_179, r291_180, r291_181, r291_182, r291_183, r291_186, r291_187, r291_188, r291_189, r291_190, r291_193, r291_194, r291_195, r291_196, r291_199, r291_200, r291_201, r291_202, r291_205, gM_0_17, lM_9, h1, h2, h3, x0, x1, x2, x3, Option.map_some, e0, e1, e2, if_true, if_false, s98, s100, e]
  · obtain rfl : a1 = u := hu
    obtain rfl : a2 = v := hv (by simp)
    have s98 : ((100 : Int32) = 98) = False := eq_false (by decide)
    refine ⟨code1, code1_n, MCH_ret (c225 hR.1) (fun r W e => ?_)⟩
    simp only [csN, csm_i, csm_r, Nat.reduceAdd, Nat.reduceLeDiff, wdI, wdR, wdN, clM_0, clC_0, clC_1, clC_6, clC_8, true_or, or_true, i10, i01, ob_some, ob_map, cal_v, rvs_some, rvs_none, XO_at, cal_x, m291, r291_0, r291_1, r291_4, r291_5, r291_6, r291_7, r291_8, r291_9, r291_10, r291_13, r291_14, r291_15, r291_16, r291_17, r291_18, r291_19, r291_22, r291_23, r291_24, r291_128, r291_129, r291_130, r291_131, r291_132, r291_135, r291_136, r291_137, r291_138, r291_139, r291_140, r291_143, r291_144, r291_147, r291_148, r291_151, r291_152, r291_153, r291_154, r291_155, r291_156, r291_159, r291_160, r291_161, r291_162, r291_163, r291_166, r291_167, r291_168, r291_169, r291_170, r291_173, r291_174, r291_175, r291_176, r291_179, r291_180, r291_181, r291_182, r291_183, r291_186, r291_187, r291_188, r291_189, r291_190, r291_193, r291_194, r291_195, r291_196, r291_199, r291_200, r291_201, r291_202, r291_205, gM_0_17, lM_9, h1, h2, h3, x0, x1, x2, x3, Option.map_some, e0, e1, e2, if_true, if_false, s98, e]
  · obtain rfl : a1 = u := hu
    have s98 : ((119 : Int32) = 98) = False := eq_false (by decide)
    have s100 : ((119 : Int32) = 100) = False := eq_false (by decide)
    have s102 : ((119 : Int32) = 102) = False := eq_false (by decide)
    have s105 : ((119 : Int32) = 105) = False := eq_false (by decide)
    have s108 : ((119 : Int32) = 108) = False := eq_false (by decide)
    have s116 : ((119 : Int32) = 116) = False := eq_false (by decide)
    refine ⟨code0, code0_n, MCH_ret (c227 hR.1) (fun r W e => ?_)⟩
    simp only [csN, csm_i, csm_r, Nat.reduceAdd, Nat.reduceLeDiff, wdI, wdR, wdN, clM_0, clC_0, clC_1, clC_6, clC_8, true_or, or_true, i10, i01, ob_some, ob_map, cal_v, rvs_some, rvs_none, XO_at, cal_x, m291, r291_0, r291_1, r291_4, r291_5, r291_6, r291_7, r291_8, r291_9, r291_10, r291_13, r291_14, r291_15, r291_16, r291_17, r291_18, r291_19, r291_22, r291_23, r291_24, r291_128, r291_129, r291_130, r291_131, r291_132, r291_135, r291_136, r291_137, r291_138, r291_139, r291_140, r291_143, r291_144, r291_147, r291_148, r291_151, r291_152, r291_153, r291_154, r291_155, r291_156, r291_159, r291_160, r291_161, r291_162, r291_163, r291_166, r291_167, r291_168, r291_169, r291_170, r291_173, r291_174, r291_175, r291_176, r291_179, r291_180, r291_181, r291_182, r291_183, r291_186, r291_187, r291_188, r291_189, r291_190, r291_193, r291_194, r291_195, r291_196, r291_199, r291_200, r291_201, r291_202, r291_205, gM_0_17, lM_9, h1, h2, h3, x0, x1, x2, x3, Option.map_some, e0, e1, if_true, if_false, s98, s100, s102, s105, s108, s116, e]
  · obtain rfl : a1 = u := hu
    obtain rfl : a2 = v := hv (by simp)
    have s98 : ((105 : Int32) = 98) = False := eq_false (by decide)
    have s100 : ((105 : Int32) = 100) = False := eq_false (by decide)
    have s102 : ((105 : Int32) = 102) = False := eq_false (by decide)
    refine ⟨code5, code5_n, MCH_ret (c229 hR.1 hR.2.1) (fun r W e => ?_)⟩
    simp only [csN, csm_i, csm_r, Nat.reduceAdd, Nat.reduceLeDiff, wdI, wdR, wdN, clM_0, clC_0, clC_1, clC_6, clC_8, true_or, or_true, i10, i01, ob_some, ob_map, cal_v, rvs_some, rvs_none, XO_at, cal_x, m291, r291_0, r291_1, r291_4, r291_5, r291_6, r291_7, r291_8, r291_9, r291_10, r291_13, r291_14, r291_15, r291_16, r291_17, r291_18, r291_19, r291_22, r291_23, r291_24, r291_128, r291_129, r291_130, r291_131, r291_132, r291_135, r291_136, r291_137, r291_138, r291_139, r291_140, r291_143, r291_144, r291_147, r291_148, r291_151, r291_152, r291_153, r291_154, r291_155, r291_156, r291_159, r291_160, r291_161, r291_162, r291_163, r291_166, r291_167, r291_168, r291_169, r291_170, r291_173, r291_174, r291_175, r291_176, r291_179, r291_180, r291_181, r291_182, r291_183, r291_186, r291_187, r291_188, r291_189, r291_190, r291_193, r291_194, r291_195, r291_196, r291_199, r291_200, r291_201, r291_202, r291_205, gM_0_17, lM_9, h1, h2, h3, x0, x1, x2, x3, Option.map_some, e0, e1, e2, if_true, if_false, s98, s100, s102, e]
  · obtain rfl : a1 = u := hu
    have s98 : ((108 : Int32) = 98) = False := eq_false (by decide)
    have s100 : ((108 : Int32) = 100) = False := eq_false (by decide)
    have s102 : ((108 : Int32) = 102) = False := eq_false (by decide)
    have s105 : ((108 : Int32) = 105) = False := eq_false (by decide)
    refine ⟨code0, code0_n, MCH_ret (c219 hR.1) (fun r W e => ?_)⟩
    simp only [csN, csm_i, csm_r, Nat.reduceAdd, Nat.reduceLeDiff, wdI, wdR, wdN, clM_0, clC_0, clC_1, clC_6, clC_8, true_or, or_true, i10, i01, ob_some, ob_map, cal_v, rvs_some, rvs_none, XO_at, cal_x, m291, r291_0, r291_1, r291_4, r291_5, r291_6, r291_7, r291_8, r291_9, r291_10, r291_13, r291_14, r291_15, r291_16, r291_17, r291_18, r291_19, r291_22, r291_23, r291_24, r291_128, r291_129, r291_130, r291_131, r291_132, r291_135, r291_136, r291_137, r291_138, r291_139, r291_140, r291_143, r291_144, r291_147, r291_148, r291_151, r291_152, r291_153, r291_154, r291_155, r291_156, r291_159, r291_160, r291_161, r291_162, r291_163, r291_166, r291_167, r291_168, r291_169, r291_170, r291_173, r291_174, r291_175, r291_176, r291_179, r291_180, r291_181, r291_182, r291_183, r291_186, r291_187, r291_188, r291_189, r291_190, r291_193, r291_194, r291_195, r291_196, r291_199, r291_200, r291_201, r291_202, r291_205, gM_0_17, lM_9, h1, h2, h3, x0, x1, x2, x3, Option.map_some, e0, e1, if_true, if_false, s98, s100, s102, s105, e]
  · obtain rfl : a1 = u := hu
    have s98 : ((104 : Int32) = 98) = False := eq_false (by decide)
    have s100 : ((104 : Int32) = 100) = False := eq_false (by decide)
    have s102 : ((104 : Int32) = 102) = False := eq_false (by decide)
    have s105 : ((104 : Int32) = 105) = False := eq_false (by decide)
    have s108 : ((104 : Int32) = 108) = False := eq_false (by decide)
    have s116 : ((104 : Int32) = 116) = False := eq_false (by decide)
    have s119 : ((104 : Int32) = 119) = False := eq_false (by decide)
    refine ⟨code0, code0_n, MCH_ret (c235 hR.1) (fun r W e => ?_)⟩
    simp only [csN, csm_i, csm_r, Nat.reduceAdd, Nat.reduceLeDiff, wdI, wdR, wdN, clM_0, clC_0, clC_1, clC_6, clC_8, true_or, or_true, i10, i01, ob_some, ob_map, cal_v, rvs_some, rvs_none, XO_at, cal_x, m291, r291_0, r291_1, r291_4, r291_5, r291_6, r291_7, r291_8, r291_9, r291_10, r291_13, r291_14, r291_15, r291_16, r291_17, r291_18, r291_19, r291_22, r291_23, r291_24, r291_128, r291_129, r291_130, r291_131, r291_132, r291_135, r291_136, r291_137, r291_138, r291_139, r291_140, r291_143, r291_144, r291_147, r291_148, r291_151, r291_152, r291_153, r291_154, r291_155, r291_156, r291_159, r291_160, r291_161, r291_162, r291_163, r291_166, r291_167, r291_168, r291_169, r291_170, r291_173, r291_174, r291_175, r291_176, r291_179, r291_180, r291_181, r291_182, r291_183, r291_186, r291_187, r291_188, r291_189, r291_190, r291_193, r291_194, r291_195, r291_196, r291_199, r291_200, r291_201, r291_202, r291_205, gM_0_17, lM_9, h1, h2, h3, x0, x1, x2, x3, Option.map_some, e0, e1, if_true, if_false, s98, s100, s102, s105, s108, s116, s119, e]
theorem PM_len {cm kk : Nat} (h : PM cm as f kk) : 0 < as.length := by
  rcases h with ⟨-, a1, a2, a3, rfl, -⟩ | ⟨-, a1, a2, a3, rfl, -⟩ | ⟨-, a1, a2, rfl, -⟩ | ⟨-, a1, a2, rfl, -⟩ | ⟨-, a1, rfl, -⟩ | ⟨-, a1, a2, rfl, -⟩ | ⟨-, a1, rfl, -⟩ | ⟨-, a1, rfl, -⟩ <;> simp
def KQ (m m' : NS) : Prop := (∀ a, ¬ a = 1 → ¬ a = 8 → ¬ a = 20 → m' a = m a) ∧ ∀ j, ¬ j = 13 → m' 20 j = m 20 j
theorem KQ_t {m1 m2 : NS} (h1 : KQ m m1) (h2 : KQ m1 m2) : KQ m m2 := ⟨fun a x y z => (h2.1 a x y z).trans (h1.1 a x y z), fun j hj => (h2.2 j hj).trans (h1.2 j hj)⟩
theorem of8 {cm : Nat} (h : cm < 8) : Int32.ofNat cm = 0 ∨ Int32.ofNat cm = 1 ∨ Int32.ofNat cm = 2 ∨ Int32.ofNat cm = 3 ∨ Int32.ofNat cm = 4 ∨ Int32.ofNat cm = 5 ∨ Int32.ofNat cm = 6 ∨ Int32.ofNat cm = 7 := by
  have : ∀ cm, cm < 8 → (Int32.ofNat cm = 0 ∨ Int32.ofNat cm = 1 ∨ Int32.ofNat cm = 2 ∨ Int32.ofNat cm = 3 ∨ Int32.ofNat cm = 4 ∨ Int32.ofNat cm = 5 ∨ Int32.ofNat cm = 6 ∨ Int32.ofNat cm = 7) := by decide +kernel
  exact this cm h
/-- the commands one after the other: where one fails, the canal there, its barges -/
def pfL (sc : NS) : Nat → Nat → NS → Nat → Option Nat × NS × Nat
  | 0, _, t, ct => (none, t, ct)
  | d + 1, i, t, ct => if ftS t ct (sc 2 i) (sc 3 (3 * i)) (sc 3 (3 * i + 1)) (sc 3 (3 * i + 2)) = 0 then pfL sc d (i + 1) (pfS t ct (sc 2 i) (sc 3 (3 * i)) (sc 3 (3 * i + 1)) (sc 3 (3 * i + 2))).2 (pcS t ct (sc 2 i) (sc 3 (3 * i)) (sc 3 (3 * i + 1)) (sc 3 (3 * i + 2))) else (some i, t, ct)
def exO (o : Option Nat) : Int32 := match o with
  | none => -1
  | some k => Int32.ofNat k
theorem lpC (hw : ∀ k, k < 4 → w (221 + k) = some (cellS 221 sc k)) (hP : PMS c sc f) (hc : c < 15) (h4 : sc 20 4 = Int32.ofNat c) (d : Nat) : ∀ i t ct (m : NS) (a3 a4 a5 a6 : Option Value), i + d = c → wd a3 = true → wd a4 = true → wd a5 = true → wd a6 = true → RJ t (m 1) ct → m 9 = f →
    RC x 180 2 [some (.ref 221), some (.ref 79), some (.int (Int32.ofNat i)), a3, a4, a5, a6] [] (setC w 79 t) n = some (.inl (some (.int (exO (pfL sc d i t ct).1))), setC w 79 (pfL sc d i t ct).2.1, n) := by
  induction d with
  | zero =>
    intro i t ct m a3 a4 a5 a6 hi w3 w4 w5 w6 hR h9
    obtain rfl : i = c := by omega
    have hW : ∀ k, k < 4 → setC w 79 t (221 + k) = some (cellS 221 sc k) := fun k hk => by rw [setC_w (by omega)]; exact hw k hk
    have g4 : gfd (setC w 79 t) 5 4 221 = some (.int (sc 20 4)) := by rw [gfd_at (hW 0 (by omega)) (by decide)]; rfl
    rw [h4] at g4
    have h0 : ¬ Int32.ofNat i < Int32.ofNat i := Int32.lt_irrefl
    rw [r180_2]
    simp only [csN, csm_i, csm_r, Nat.reduceAdd, Nat.reduceLeDiff, wdI, wdR, wdN, clM_0, clC_0, clC_1, clC_6, clC_8, true_or, or_true, i10, i01, ob_some, ob_map, cal_v, rvs_some, rvs_none, XO_at, cal_x, m180, r180_0, r180_1, r180_3, r180_4, r180_7, r180_10, r180_11, r180_14, r180_15, r180_18, r180_19, r180_20, r180_23, r180_24, r180_25, r180_26, r180_29, r180_31, r180_32, r180_35, r180_36, r180_37, r180_38, r180_39, r180_40, r180_43, r180_45, r180_46, r180_49, r180_50, r180_51, r180_52, r180_53, r180_54, r180_57, r180_59, r180_60, r180_61, r180_63, r180_65, r180_67, r180_70, r180_73, r180_76, r180_77, r180_78, r180_79, r180_80, r180_82, r180_84, r180_86, r180_89, r180_90, r180_93, r180_96, r180_97, g4, h0, if_false]
    rfl
  | succ d ih =>
    intro i t ct m a3 a4 a5 a6 hi w3 w4 w5 w6 hR h9
    have hW : ∀ k, k < 4 → setC w 79 t (221 + k) = some (cellS 221 sc k) := fun k hk => by rw [setC_w (by omega)]; exact hw k hk
    have g2 : gfd (setC w 79 t) 5 2 221 = some (.ref 223) := by rw [gfd_at (hW 0 (by omega)) (by decide)]; rfl
    have g3 : gfd (setC w 79 t) 5 3 221 = some (.ref 224) := by rw [gfd_at (hW 0 (by omega)) (by decide)]; rfl
    have g4 : gfd (setC w 79 t) 5 4 221 = some (.int (sc 20 4)) := by rw [gfd_at (hW 0 (by omega)) (by decide)]; rfl
    rw [h4] at g4
    obtain ⟨cm, as, b1, b2, b3, b5, b6⟩ := hP i (by omega)
    have c2 : ∀ v, RM x 96 [.ref 223, .int v] (setC w 79 t) n = some (.inl (some (.int (atv 15 (sc 2) v))), setC w 79 t, n) := fun v => c96 (hW 2 (by omega)) (by decide)
    have c3 : ∀ v, RM x 96 [.ref 224, .int v] (setC w 79 t) n = some (.inl (some (.int (atv 45 (sc 3) v))), setC w 79 t, n) := fun v => c96 (hW 3 (by omega)) (by decide)
    have h1 : Int32.ofNat i < Int32.ofNat c := nlt (by omega) (by omega) (by omega)
    have t0 : Int32.ofNat i * 3 = Int32.ofNat (3 * i) := by rw [show (3 : Int32) = Int32.ofNat 3 from rfl, i_mul, Nat.mul_comm]
    have t1 : Int32.ofNat (3 * i) + 1 = Int32.ofNat (3 * i + 1) := i_add (b := 1)
    have t2 : Int32.ofNat (3 * i) + 2 = Int32.ofNat (3 * i + 2) := i_add (b := 2)
    have y0 : atv 15 (sc 2) (Int32.ofNat i) = sc 2 i := atv_nat (by omega) (by omega)
    have y1 : atv 45 (sc 3) (Int32.ofNat (3 * i)) = sc 3 (3 * i) := atv_nat (by omega) (by omega)
    have y2 : atv 45 (sc 3) (Int32.ofNat (3 * i + 1)) = sc 3 (3 * i + 1) := atv_nat (by omega) (by omega)
    have y3 : atv 45 (sc 3) (Int32.ofNat (3 * i + 2)) = sc 3 (3 * i + 2) := atv_nat (by omega) (by omega)
    have ef := c100 (x := x) (n := n) (w := w) (b := 79) (k := sc 2 i) (u := sc 3 (3 * i)) (v := sc 3 (3 * i + 1)) (z := sc 3 (3 * i + 2)) hR.1.1.1.1
    have hf6 : ftS t ct (sc 2 i) (sc 3 (3 * i)) (sc 3 (3 * i + 1)) (sc 3 (3 * i + 2)) < 6 := ftS_6
    have z6 : (0 : Nat) < 6 := by decide
    have cl := PM_len b6
    obtain ⟨code, hcode, M1, M2⟩ := c291 (x := x) (n := 0) (b := 0) (w := fun _ => none) (kk := 4 * i) (u := sc 3 (3 * i)) (v := sc 3 (3 * i + 1)) (z := sc 3 (3 * i + 2)) hR (by omega) (h9 ▸ b6) (b5 0 cl).symm (fun h => (b5 1 h).symm) (fun h => (b5 2 h).symm)
    rw [← b3] at M1 M2
    have hcm : sc 2 i = 0 ∨ sc 2 i = 1 ∨ sc 2 i = 2 ∨ sc 2 i = 3 ∨ sc 2 i = 4 ∨ sc 2 i = 5 ∨ sc 2 i = 6 ∨ sc 2 i = 7 := by rw [b3]; exact of8 b1
    unfold pfL
    by_cases h0 : ftS t ct (sc 2 i) (sc 3 (3 * i)) (sc 3 (3 * i + 1)) (sc 3 (3 * i + 2)) = 0
    · have ep := c105 (x := x) (n := n) (w := w) (b := 79) hR.1.1.1 h0
      obtain ⟨g', f', r1, r2⟩ := M1 h0
      have hJ := JC_pf hcm hR.1.1.1 hR.2 h0
      rw [if_pos h0, ← ih (i + 1) (pfS t ct (sc 2 i) (sc 3 (3 * i)) (sc 3 (3 * i + 1)) (sc 3 (3 * i + 2))).2 (pcS t ct (sc 2 i) (sc 3 (3 * i)) (sc 3 (3 * i + 1)) (sc 3 (3 * i + 2))) (ua m 1 g') (some (.int (sc 2 i))) (some (.int (sc 3 (3 * i)))) (some (.int (sc 3 (3 * i + 1)))) (some (.int (sc 3 (3 * i + 2)))) (by omega) rfl rfl rfl rfl ⟨by rw [ua_same]; exact r1, hJ⟩ (by rw [ua_ne (by decide)]; exact h9)]
      conv => lhs; rw [r180_2]
      simp only [csN, csm_i, csm_r, Nat.reduceAdd, Nat.reduceLeDiff, wdI, wdR, wdN, clM_0, clC_0, clC_1, clC_6, clC_8, true_or, or_true, i10, i01, ob_some, ob_map, cal_v, rvs_some, rvs_none, XO_at, cal_x, m180, r180_0, r180_1, r180_3, r180_4, r180_7, r180_10, r180_11, r180_14, r180_15, r180_18, r180_19, r180_20, r180_23, r180_24, r180_25, r180_26, r180_29, r180_31, r180_32, r180_35, r180_36, r180_37, r180_38, r180_39, r180_40, r180_43, r180_45, r180_46, r180_49, r180_50, r180_51, r180_52, r180_53, r180_54, r180_57, r180_59, r180_60, r180_61, r180_63, r180_65, r180_67, r180_70, r180_73, r180_76, r180_77, r180_78, r180_79, r180_80, r180_82, r180_84, r180_86, r180_89, r180_90, r180_93, r180_96, r180_97, g2, g3, g4, h1, if_true, c2, c3, t0, t1, t2, y0, y1, y2, y3, ef, hf6, z6, h0, ep, i_s, w3, w4, w5, w6]
    · rw [if_neg h0]
      rw [r180_2]
      simp only [csN, csm_i, csm_r, Nat.reduceAdd, Nat.reduceLeDiff, wdI, wdR, wdN, clM_0, clC_0, clC_1, clC_6, clC_8, true_or, or_true, i10, i01, ob_some, ob_map, cal_v, rvs_some, rvs_none, XO_at, cal_x, m180, r180_0, r180_1, r180_3, r180_4, r180_7, r180_10, r180_11, r180_14, r180_15, r180_18, r180_19, r180_20, r180_23, r180_24, r180_25, r180_26, r180_29, r180_31, r180_32, r180_35, r180_36, r180_37, r180_38, r180_39, r180_40, r180_43, r180_45, r180_46, r180_49, r180_50, r180_51, r180_52, r180_53, r180_54, r180_57, r180_59, r180_60, r180_61, r180_63, r180_65, r180_67, r180_70, r180_73, r180_76, r180_77, r180_78, r180_79, r180_80, r180_82, r180_84, r180_86, r180_89, r180_90, r180_93, r180_96, r180_97, g2, g3, g4, h1, if_true, if_false, c2, c3, t0, t1, t2, y0, y1, y2, y3, ef, hf6, z6, h0, w3, w4, w5, w6]
      rfl
theorem lpM (hP : PMS c sc f) (hc : c < 15) {z2 : Int32} (d : Nat) : ∀ i t ct m B (b4 : Option Value), i + d = c → wd b4 = true → RJ t (m 1) ct → IDV B t ct → m 9 = f →
    ∃ m', KQ m m' ∧ match (pfL sc d i t ct).1 with
      | none => (∃ b4', RC x 292 130 [some (.ref b), some (.int (Int32.ofNat c)), some (.int z2), some (.int (Int32.ofNat i)), b4] [] (setM w2 b m) n2 = RC x 292 174 [some (.ref b), some (.int (Int32.ofNat c)), some (.int z2), some (.int (Int32.ofNat c)), b4'] [] (setM w2 b m') n2) ∧ RJ (pfL sc d i t ct).2.1 (m' 1) (pfL sc d i t ct).2.2 ∧ IDV (B + d) (pfL sc d i t ct).2.1 (pfL sc d i t ct).2.2
      | some k => k < 15 ∧ ¬ m' 20 13 = 0 ∧ ∃ v, RC x 292 130 [some (.ref b), some (.int (Int32.ofNat c)), some (.int z2), some (.int (Int32.ofNat i)), b4] [] (setM w2 b m) n2 = RC x 292 151 [some (.ref b), some (.int (Int32.ofNat c)), some (.int z2), some (.int (Int32.ofNat k)), some (.int v)] [] (setM w2 b m') n2 := by
  induction d with
  | zero =>
    intro i t ct m B b4 hi v4 hR hB h9
    obtain rfl : i = c := by omega
    have h0 : ¬ Int32.ofNat i < Int32.ofNat i := Int32.lt_irrefl
    refine ⟨m, ⟨fun _ _ _ _ => rfl, fun _ _ => rfl⟩, ⟨b4, ?_⟩, hR, hB⟩
    rw [r292_130]
    simp only [csN, csm_i, csm_r, Nat.reduceAdd, Nat.reduceLeDiff, wdI, wdR, wdN, clM_0, clC_0, clC_1, clC_6, clC_8, true_or, or_true, i10, i01, ob_some, ob_map, cal_v, rvs_some, rvs_none, XO_at, cal_x, m292, r292_0, r292_1, r292_2, r292_5, r292_6, r292_7, r292_10, r292_11, r292_12, r292_13, r292_14, r292_15, r292_18, r292_19, r292_20, r292_21, r292_22, r292_25, r292_28, r292_29, r292_32, r292_35, r292_36, r292_39, r292_41, r292_44, r292_45, r292_48, r292_49, r292_50, r292_51, r292_52, r292_55, r292_56, r292_59, r292_60, r292_63, r292_64, r292_65, r292_68, r292_71, r292_72, r292_73, r292_76, r292_79, r292_80, r292_83, r292_84, r292_87, r292_90, r292_91, r292_94, r292_95, r292_98, r292_99, r292_100, r292_103, r292_104, r292_107, r292_110, r292_111, r292_112, r292_115, r292_118, r292_119, r292_120, r292_123, r292_124, r292_125, r292_128, r292_129, r292_131, r292_132, r292_135, r292_136, r292_137, r292_138, r292_139, r292_142, r292_144, r292_145, r292_148, r292_151, r292_152, r292_153, r292_156, r292_157, r292_158, r292_161, r292_162, r292_164, r292_167, r292_168, r292_171, r292_175, r292_176, r292_177, r292_180, r292_183, h0, if_false]
  | succ d ih =>
    intro i t ct m B b4 hi v4 hR hB h9
    obtain ⟨cm, as, b1, b2, b3, b5, b6⟩ := hP i (by omega)
    have h1 : Int32.ofNat i < Int32.ofNat c := nlt (by omega) (by omega) (by omega)
    have cl := PM_len b6
    obtain ⟨code, hcode, M1, M2⟩ := c291 (x := x) (n := n2) (b := b) (w := w2) (kk := 4 * i) (u := sc 3 (3 * i)) (v := sc 3 (3 * i + 1)) (z := sc 3 (3 * i + 2)) hR (by omega) (h9 ▸ b6) (b5 0 cl).symm (fun h => (b5 1 h).symm) (fun h => (b5 2 h).symm)
    rw [← b3] at M1 M2
    have hcm : sc 2 i = 0 ∨ sc 2 i = 1 ∨ sc 2 i = 2 ∨ sc 2 i = 3 ∨ sc 2 i = 4 ∨ sc 2 i = 5 ∨ sc 2 i = 6 ∨ sc 2 i = 7 := by rw [b3]; exact of8 b1
    have e4i : 4 * Int32.ofNat i = Int32.ofNat (4 * i) := by rw [show (4 : Int32) = Int32.ofNat 4 from rfl, i_mul]
    unfold pfL
    by_cases h0 : ftS t ct (sc 2 i) (sc 3 (3 * i)) (sc 3 (3 * i + 1)) (sc 3 (3 * i + 2)) = 0
    · rw [if_pos h0]
      obtain ⟨g', f', r1, r2⟩ := M1 h0
      obtain ⟨mm, hmm⟩ : ∃ mm, mm = ua (ua (us m 20 13 0) 8 f') 1 g' := ⟨_, rfl⟩
      rw [← hmm] at r2
      have q1 : mm 1 = g' := by rw [hmm, ua_same]
      have q13 : mm 20 13 = 0 := by rw [hmm, ua_ne (by decide), ua_ne (by decide), us_at, if_pos rfl, if_pos rfl]
      have hK : KQ m mm := ⟨fun a h1 h8 h20 => by rw [hmm, ua_ne h1, ua_ne h8, us_ne h20], fun j hj => by rw [hmm, ua_ne (by decide), ua_ne (by decide), us_at, if_pos rfl, if_neg hj]⟩
      have hJ := JC_pf hcm hR.1.1.1 hR.2 h0
      obtain ⟨m', o2, o3⟩ := ih (i + 1) (pfS t ct (sc 2 i) (sc 3 (3 * i)) (sc 3 (3 * i + 1)) (sc 3 (3 * i + 2))).2 (pcS t ct (sc 2 i) (sc 3 (3 * i)) (sc 3 (3 * i + 1)) (sc 3 (3 * i + 2))) mm (B + 1) (some (.int (pfS t ct (sc 2 i) (sc 3 (3 * i)) (sc 3 (3 * i + 1)) (sc 3 (3 * i + 2))).1)) (by omega) rfl ⟨by rw [q1]; exact r1, hJ⟩ (IDV_pf hcm hB) (by rw [hK.1 9 (by decide) (by decide) (by decide)]; exact h9)
      have em : RC x 292 130 [some (.ref b), some (.int (Int32.ofNat c)), some (.int z2), some (.int (Int32.ofNat i)), b4] [] (setM w2 b m) n2 = RC x 292 130 [some (.ref b), some (.int (Int32.ofNat c)), some (.int z2), some (.int (Int32.ofNat (i + 1))), some (.int (pfS t ct (sc 2 i) (sc 3 (3 * i)) (sc 3 (3 * i + 1)) (sc 3 (3 * i + 2))).1)] [] (setM w2 b mm) n2 := by
        conv => lhs; rw [r292_130]
        simp only [csN, csm_i, csm_r, Nat.reduceAdd, Nat.reduceLeDiff, wdI, wdR, wdN, clM_0, clC_0, clC_1, clC_6, clC_8, true_or, or_true, i10, i01, ob_some, ob_map, cal_v, rvs_some, rvs_none, XO_at, cal_x, m292, r292_0, r292_1, r292_2, r292_5, r292_6, r292_7, r292_10, r292_11, r292_12, r292_13, r292_14, r292_15, r292_18, r292_19, r292_20, r292_21, r292_22, r292_25, r292_28, r292_29, r292_32, r292_35, r292_36, r292_39, r292_41, r292_44, r292_45, r292_48, r292_49, r292_50, r292_51, r292_52, r292_55, r292_56, r292_59, r292_60, r292_63, r292_64, r292_65, r292_68, r292_71, r292_72, r292_73, r292_76, r292_79, r292_80, r292_83, r292_84, r292_87, r292_90, r292_91, r292_94, r292_95, r292_98, r292_99, r292_100, r292_103, r292_104, r292_107, r292_110, r292_111, r292_112, r292_115, r292_118, r292_119, r292_120, r292_123, r292_124, r292_125, r292_128, r292_129, r292_131, r292_132, r292_135, r292_136, r292_137, r292_138, r292_139, r292_142, r292_144, r292_145, r292_148, r292_152, r292_153, r292_156, r292_157, r292_158, r292_161, r292_162, r292_164, r292_167, r292_168, r292_171, r292_175, r292_176, r292_177, r292_180, r292_183, h1, if_true, e4i, r2, gM_0_13, q13, i_s, v4]
      refine ⟨m', KQ_t hK o2, ?_⟩
      rw [em]
      revert o3
      cases (pfL sc d (i + 1) (pfS t ct (sc 2 i) (sc 3 (3 * i)) (sc 3 (3 * i + 1)) (sc 3 (3 * i + 2))).2 (pcS t ct (sc 2 i) (sc 3 (3 * i)) (sc 3 (3 * i + 1)) (sc 3 (3 * i + 2)))).1 with
      | none => exact fun ⟨z3, z4, z5⟩ => ⟨z3, z4, IDV_up z5 (by omega)⟩
      | some k => exact fun z => z
    · rw [if_neg h0]
      have r2 := M2 h0
      have hn := hcode _ h0
      have q13 : us m 20 13 (code (ftS t ct (sc 2 i) (sc 3 (3 * i)) (sc 3 (3 * i + 1)) (sc 3 (3 * i + 2)))) 20 13 = code (ftS t ct (sc 2 i) (sc 3 (3 * i)) (sc 3 (3 * i + 1)) (sc 3 (3 * i + 2))) := by rw [us_at, if_pos rfl, if_pos rfl]
      refine ⟨us m 20 13 (code (ftS t ct (sc 2 i) (sc 3 (3 * i)) (sc 3 (3 * i + 1)) (sc 3 (3 * i + 2)))), ⟨fun a _ _ h20 => us_ne h20, fun j hj => by rw [us_at, if_pos rfl, if_neg hj]⟩, by omega, by rw [q13]; exact hn, 0, ?_⟩
      conv => lhs; rw [r292_130]
      simp only [csN, csm_i, csm_r, Nat.reduceAdd, Nat.reduceLeDiff, wdI, wdR, wdN, clM_0, clC_0, clC_1, clC_6, clC_8, true_or, or_true, i10, i01, ob_some, ob_map, cal_v, rvs_some, rvs_none, XO_at, cal_x, m292, r292_0, r292_1, r292_2, r292_5, r292_6, r292_7, r292_10, r292_11, r292_12, r292_13, r292_14, r292_15, r292_18, r292_19, r292_20, r292_21, r292_22, r292_25, r292_28, r292_29, r292_32, r292_35, r292_36, r292_39, r292_41, r292_44, r292_45, r292_48, r292_49, r292_50, r292_51, r292_52, r292_55, r292_56, r292_59, r292_60, r292_63, r292_64, r292_65, r292_68, r292_71, r292_72, r292_73, r292_76, r292_79, r292_80, r292_83, r292_84, r292_87, r292_90, r292_91, r292_94, r292_95, r292_98, r292_99, r292_100, r292_103, r292_104, r292_107, r292_110, r292_111, r292_112, r292_115, r292_118, r292_119, r292_120, r292_123, r292_124, r292_125, r292_128, r292_129, r292_131, r292_132, r292_135, r292_136, r292_137, r292_138, r292_139, r292_142, r292_144, r292_145, r292_148, r292_152, r292_153, r292_156, r292_157, r292_158, r292_161, r292_162, r292_164, r292_167, r292_168, r292_171, r292_175, r292_176, r292_177, r292_180, r292_183, h1, if_true, if_false, e4i, r2, gM_0_13, q13, hn, v4]
end PFM
