/-! THE MODEL reads a command -/
section MPC
set_option maxRecDepth 20000
variable {x : SX} {n b p l k : Nat} {w : PW} {s m : NS} {f : Nat → Int32} {q : Bool × Nat} {v : Int32}
def wQ (s : NS) (l : Nat) (q : Bool × Nat) : Bool × Nat := if q.1 = false ∧ nx s l q.2 = 100 then nd s l 100 q else nd s l 117 q
def wV (s : NS) (l : Nat) (q : Bool × Nat) : Int32 := if q.1 = false ∧ nx s l q.2 = 100 then 1 else 0
def kQ (s : NS) (l : Nat) (q : Bool × Nat) : Bool × Nat := if q.1 = false ∧ nx s l q.2 ∈ ([77, 109, 100, 97] : List Int32) then (false, q.2 + 1) else (true, q.2)
def hQ (s : NS) (l : Nat) (q : Bool × Nat) : Bool × Nat := if q.1 = false ∧ nx s l q.2 = 32 then dgQ s l 3 q else q
def hV (s : NS) (l : Nat) (q : Bool × Nat) : Int32 := if q.1 = false ∧ nx s l q.2 = 32 then dgV s l 3 q else 1
theorem kd_all : ∀ a, a < 128 → (decide (kdO (Int32.ofNat a) = -1)) = !decide (Int32.ofNat a ∈ ([77, 109, 100, 97] : List Int32)) := by decide +kernel
theorem hm_kd (h : TX s l) : (kdO (hm s l p) = -1) = ¬ nx s l p ∈ ([77, 109, 100, 97] : List Int32) := by
  unfold hm nx
  by_cases hp : p < l
  · rw [if_pos hp, if_pos hp]
    obtain ⟨a, h1, h2, e⟩ := h.2.2 p hp
    rw [e]
    have := kd_all a (by omega)
    by_cases hm : Int32.ofNat a ∈ ([77, 109, 100, 97] : List Int32)
    · rw [decide_eq_true hm] at this
      exact propext ⟨fun h => absurd h (of_decide_eq_false this), fun h => absurd hm h⟩
    · rw [decide_eq_false hm] at this
      exact propext ⟨fun _ => hm, fun _ => of_decide_eq_true this⟩
  · rw [if_neg hp, if_neg hp]
    exact propext ⟨fun _ => by decide, fun _ => by decide⟩
theorem hm_l (h : TX s l) {a : Nat} (h1 : 0 < a) (h2 : a < 128) (e : nx s l p = Int32.ofNat a) : hm s l p = Int32.ofNat a := (hm_eq h h1 h2).symm ▸ e
theorem wQ_le (h : q.2 ≤ l) : (wQ s l q).2 ≤ l := by
  unfold wQ
  split
  · exact nd_le (by decide) h
  · exact nd_le (by decide) h
theorem kQ_le (h : q.2 ≤ l) : (kQ s l q).2 ≤ l := by
  unfold kQ
  split
  · next h2 => exact nx_l (s := s) (fun e => by rw [e] at h2; exact absurd h2.2 (by decide))
  · exact h
theorem hQ_le (h : q.2 ≤ l) : (hQ s l q).2 ≤ l := by
  unfold hQ
  split
  · exact dgQ_le h
  · exact h
theorem ix {k d : Nat} (h : k + d < 240) : fin 240 (Int32.ofNat (k + d)) = some (k + d) := fin_nat h (by omega)

theorem t287 (hX : TX s l) (hT : TM m s l) (hq : q.2 ≤ l) (hk : k + 3 < 240) : RC x 287 42 [some (.ref b), some (.int (Int32.ofNat k)), none] [] (setM w b (MK m f q)) n = some (.inl none, setM w b (MK m (upd f (k + 3) (wV s l q)) (wQ s l q)), n) := by
  have h3 : Int32.ofNat k + 3 = Int32.ofNat (k + 3) := i_add (b := 3)
  have x3 := ix (k := k) (d := 3) (by omega)
  have eh := c283 (x := x) (n := n) (w := w) (b := b) (f := f) hT hX.1 hq
  have e100 := c284 (x := x) (n := n) (w := w) (b := b) (f := f) (a := 100) hX hT (by omega) (by omega) hq
  have e117 := c284 (x := x) (n := n) (w := w) (b := b) (f := f) (a := 117) hX hT (by omega) (by omega) hq
  rw [show Int32.ofNat 100 = 100 from rfl] at e100
  rw [show Int32.ofNat 117 = 117 from rfl] at e117
  have hd := hm_eq (p := q.2) hX (a := 100) (by omega) (by omega)
  rw [show Int32.ofNat 100 = 100 from rfl] at hd
  rw [r287_42]
  unfold wV wQ
  by_cases hc : q.1 = false ∧ nx s l q.2 = 100
  · rw [if_pos hc, if_pos hc]
    have hh : hm s l q.2 = 100 := hd.mpr hc.2
    simp only [csN, csm_i, csm_r, Nat.reduceAdd, Nat.reduceLeDiff, wdI, wdR, wdN, clM_0, clC_0, clC_1, clC_6, clC_8, true_or, or_true, i10, i01, ob_some, ob_map, cal_v, rvs_some, rvs_none, XO_at, cal_x, m287, r287_0, r287_1, r287_3, r287_5, r287_7, r287_10, r287_11, r287_13, r287_16, r287_17, r287_20, r287_21, r287_22, r287_23, r287_24, r287_25, r287_28, r287_29, r287_30, r287_33, r287_34, r287_35, r287_36, r287_37, r287_38, r287_41, r287_43, r287_46, r287_49, r287_50, r287_53, r287_55, r287_58, r287_59, r287_62, r287_63, r287_64, r287_65, r287_66, r287_69, r287_71, r287_74, r287_76, r287_79, r287_80, r287_83, r287_84, r287_85, r287_86, r287_87, r287_90, r287_91, r287_94, r287_95, r287_96, gM_0_17, gM_0_16, sM_9, h3, x3, Option.map_some, MK_f, MK_16, hc.1, bi_f, if_true, eh, hh, e100, if_false]
  · rw [if_neg hc, if_neg hc]
    cases hb : q.1 with
    | true =>
      simp only [csN, csm_i, csm_r, Nat.reduceAdd, Nat.reduceLeDiff, wdI, wdR, wdN, clM_0, clC_0, clC_1, clC_6, clC_8, true_or, or_true, i10, i01, ob_some, ob_map, cal_v, rvs_some, rvs_none, XO_at, cal_x, m287, r287_0, r287_1, r287_3, r287_5, r287_7, r287_10, r287_11, r287_13, r287_16, r287_17, r287_20, r287_21, r287_22, r287_23, r287_24, r287_25, r287_28, r287_29, r287_30, r287_33, r287_34, r287_35, r287_36, r287_37, r287_38, r287_41, r287_43, r287_46, r287_49, r287_50, r287_53, r287_55, r287_58, r287_59, r287_62, r287_63, r287_64, r287_65, r287_66, r287_69, r287_71, r287_74, r287_76, r287_79, r287_80, r287_83, r287_84, r287_85, r287_86, r287_87, r287_90, r287_91, r287_94, r287_95, r287_96, gM_0_17, gM_0_16, sM_9, h3, x3, Option.map_some, MK_f, MK_16, hb, bi_t, if_true, e117, if_false]
    | false =>
      have hh : ¬ hm s l q.2 = 100 := fun z => hc ⟨hb, hd.mp z⟩
      simp only [csN, csm_i, csm_r, Nat.reduceAdd, Nat.reduceLeDiff, wdI, wdR, wdN, clM_0, clC_0, clC_1, clC_6, clC_8, true_or, or_true, i10, i01, ob_some, ob_map, cal_v, rvs_some, rvs_none, XO_at, cal_x, m287, r287_0, r287_1, r287_3, r287_5, r287_7, r287_10, r287_11, r287_13, r287_16, r287_17, r287_20, r287_21, r287_22, r287_23, r287_24, r287_25, r287_28, r287_29, r287_30, r287_33, r287_34, r287_35, r287_36, r287_37, r287_38, r287_41, r287_43, r287_46, r287_49, r287_50, r287_53, r287_55, r287_58, r287_59, r287_62, r287_63, r287_64, r287_65, r287_66, r287_69, r287_71, r287_74, r287_76, r287_79, r287_80, r287_83, r287_84, r287_85, r287_86, r287_87, r287_90, r287_91, r287_94, r287_95, r287_96, gM_0_17, gM_0_16, sM_9, h3, x3, Option.map_some, MK_f, MK_16, hb, bi_f, if_true, eh, hh, e117, if_false]
theorem t288 (hX : TX s l) (hT : TM m s l) (hq : q.2 ≤ l) (hk : k + 3 < 240) : RC x 288 41 [some (.ref b), some (.int (Int32.ofNat k))] [] (setM w b (MK m f q)) n = some (.inl none, setM w b (MK m (upd f (k + 2) (hm s l q.2)) (kQ s l q)), n) := by
  have h2 : Int32.ofNat k + 2 = Int32.ofNat (k + 2) := i_add (b := 2)
  have x2 := ix (k := k) (d := 2) (by omega)
  have k1 : (1 : Int32) = 0 ∨ (1 : Int32) = 1 := Or.inr rfl
  have k0 : (0 : Int32) = 0 ∨ (0 : Int32) = 1 := Or.inl rfl
  have p1 : ∀ s : NS, pfd (setM w b s) 7 16 b (.int 1) = some (setM w b (us s 20 16 1)) := fun s => pM_0_16 k1
  have p0 : ∀ s : NS, pfd (setM w b s) 7 16 b (.int 0) = some (setM w b (us s 20 16 0)) := fun s => pM_0_16 k0
  have eh := fun (f : Nat → Int32) (c : Bool) => c283 (x := x) (n := n) (w := w) (b := b) (f := f) (q := (c, q.2)) hT hX.1 hq
  have hd := hm_kd (p := q.2) hX
  rw [r288_41]
  obtain ⟨c, p⟩ := q
  unfold kQ
  dsimp only at eh hd ⊢
  cases c with
  | true =>
    rw [if_neg (by simp)]
    simp only [csN, csm_i, csm_r, Nat.reduceAdd, Nat.reduceLeDiff, wdI, wdR, wdN, clM_0, clC_0, clC_1, clC_6, clC_8, true_or, or_true, i10, i01, ob_some, ob_map, cal_v, rvs_some, rvs_none, XO_at, cal_x, m288, r288_0, r288_1, r288_3, r288_5, r288_7, r288_10, r288_11, r288_13, r288_16, r288_17, r288_19, r288_22, r288_23, r288_26, r288_27, r288_28, r288_29, r288_30, r288_31, r288_34, r288_35, r288_36, r288_38, r288_42, r288_43, r288_46, r288_49, r288_50, r288_53, r288_56, r288_57, r288_60, r288_61, r288_64, r288_65, r288_68, r288_69, r288_72, r288_73, r288_74, r288_75, r288_76, r288_79, r288_80, r288_81, r288_82, r288_85, r288_86, r288_89, r288_92, r288_93, r288_96, r288_97, r288_98, r288_101, gM_0_17, gM_0_16, gM_0_15, pM_0_15, p1, sM_9, h2, x2, Option.map_some, MK_f, MK_15, MK_16, MK_w1, MK_p, bi_t, if_true, if_false, eh, i_s0]
  | false =>
    by_cases hc : nx s l p ∈ ([77, 109, 100, 97] : List Int32)
    · rw [if_pos ⟨rfl, hc⟩]
      have hh : ¬ kdO (hm s l p) = -1 := fun z => (hd.mp z) hc
      simp only [csN, csm_i, csm_r, Nat.reduceAdd, Nat.reduceLeDiff, wdI, wdR, wdN, clM_0, clC_0, clC_1, clC_6, clC_8, true_or, or_true, i10, i01, ob_some, ob_map, cal_v, rvs_some, rvs_none, XO_at, cal_x, m288, r288_0, r288_1, r288_3, r288_5, r288_7, r288_10, r288_11, r288_13, r288_16, r288_17, r288_19, r288_22, r288_23, r288_26, r288_27, r288_28, r288_29, r288_30, r288_31, r288_34, r288_35, r288_36, r288_38, r288_42, r288_43, r288_46, r288_49, r288_50, r288_53, r288_56, r288_57, r288_60, r288_61, r288_64, r288_65, r288_68, r288_69, r288_72, r288_73, r288_74, r288_75, r288_76, r288_79, r288_80, r288_81, r288_82, r288_85, r288_86, r288_89, r288_92, r288_93, r288_96, r288_97, r288_98, r288_101, gM_0_17, gM_0_16, gM_0_15, pM_0_15, p0, sM_9, h2, x2, Option.map_some, MK_f, MK_15, MK_16, MK_w0, MK_p, bi_f, if_true, if_false, eh, c208, hh, i_s]
    · rw [if_neg (fun h => hc h.2)]
      have hh : kdO (hm s l p) = -1 := hd.mpr hc
      simp only [csN, csm_i, csm_r, Nat.reduceAdd, Nat.reduceLeDiff, wdI, wdR, wdN, clM_0, clC_0, clC_1, clC_6, clC_8, true_or, or_true, i10, i01, ob_some, ob_map, cal_v, rvs_some, rvs_none, XO_at, cal_x, m288, r288_0, r288_1, r288_3, r288_5, r288_7, r288_10, r288_11, r288_13, r288_16, r288_17, r288_19, r288_22, r288_23, r288_26, r288_27, r288_28, r288_29, r288_30, r288_31, r288_34, r288_35, r288_36, r288_38, r288_42, r288_43, r288_46, r288_49, r288_50, r288_53, r288_56, r288_57, r288_60, r288_61, r288_64, r288_65, r288_68, r288_69, r288_72, r288_73, r288_74, r288_75, r288_76, r288_79, r288_80, r288_81, r288_82, r288_85, r288_86, r288_89, r288_92, r288_93, r288_96, r288_97, r288_98, r288_101, gM_0_17, gM_0_16, gM_0_15, pM_0_15, p1, sM_9, h2, x2, Option.map_some, MK_f, MK_15, MK_16, MK_w1, MK_p, bi_f, bi_t, if_true, if_false, eh, c208, hh, i_s0]
theorem t290 {a2 : Option Value} (hX : TX s l) (hT : TM m s l) (hq : q.2 ≤ l) (hk : k + 3 < 240) : RC x 290 230 [some (.ref b), some (.int (Int32.ofNat k)), a2] [] (setM w b (MK m f q)) n = some (.inl none, setM w b (MK m (upd f (k + 1) (hV s l q)) (hQ s l q)), n) := by
  have h1 : Int32.ofNat k + 1 = Int32.ofNat (k + 1) := i_add (b := 1)
  have x1 := ix (k := k) (d := 1) (by omega)
  have eh := c283 (x := x) (n := n) (w := w) (b := b) (f := f) hT hX.1 hq
  have ed := c286 (x := x) (n := n) (w := w) (b := b) (f := f) (d := 3) hX hT (by omega) hq
  rw [show Int32.ofNat 3 = 3 from rfl] at ed
  have hd := hm_eq (p := q.2) hX (a := 32) (by omega) (by omega)
  rw [show Int32.ofNat 32 = 32 from rfl] at hd
  rw [r290_230]
  unfold hV hQ
  by_cases hc : q.1 = false ∧ nx s l q.2 = 32
  · rw [if_pos hc, if_pos hc]
    have hh : hm s l q.2 = 32 := hd.mpr hc.2
    simp only [csN, csm_i, csm_r, Nat.reduceAdd, Nat.reduceLeDiff, wdI, wdR, wdN, clM_0, clC_0, clC_1, clC_6, clC_8, true_or, or_true, i10, i01, ob_some, ob_map, cal_v, rvs_some, rvs_none, XO_at, cal_x, m290, r290_0, r290_1, r290_4, r290_5, r290_6, r290_7, r290_10, r290_11, r290_12, r290_15, r290_16, r290_19, r290_20, r290_21, r290_22, r290_23, r290_112, r290_113, r290_114, r290_117, r290_120, r290_121, r290_123, r290_125, r290_127, r290_130, r290_131, r290_134, r290_135, r290_136, r290_137, r290_138, r290_139, r290_142, r290_143, r290_144, r290_147, r290_148, r290_149, r290_150, r290_151, r290_152, r290_155, r290_156, r290_157, r290_160, r290_161, r290_162, r290_163, r290_164, r290_165, r290_168, r290_169, r290_172, r290_173, r290_174, r290_177, r290_180, r290_181, r290_182, r290_185, r290_188, r290_189, r290_191, r290_193, r290_195, r290_198, r290_199, r290_201, r290_204, r290_205, r290_208, r290_209, r290_210, r290_211, r290_212, r290_213, r290_216, r290_217, r290_220, r290_221, r290_223, r290_225, r290_227, r290_231, r290_234, r290_235, r290_236, r290_237, r290_238, r290_241, r290_244, r290_245, r290_248, r290_250, r290_253, r290_254, r290_255, r290_258, r290_261, r290_262, r290_263, r290_266, r290_267, r290_268, r290_271, r290_272, r290_273, r290_276, r290_277, r290_278, r290_281, gM_0_17, gM_0_16, sM_9, h1, x1, Option.map_some, MK_f, MK_16, hc.1, bi_f, if_true, eh, hh, ed, if_false]
  · rw [if_neg hc, if_neg hc]
    cases hb : q.1 with
    | true =>
      simp only [csN, csm_i, csm_r, Nat.reduceAdd, Nat.reduceLeDiff, wdI, wdR, wdN, clM_0, clC_0, clC_1, clC_6, clC_8, true_or, or_true, i10, i01, ob_some, ob_map, cal_v, rvs_some, rvs_none, XO_at, cal_x, m290, r290_0, r290_1, r290_4, r290_5, r290_6, r290_7, r290_10, r290_11, r290_12, r290_15, r290_16, r290_19, r290_20, r290_21, r290_22, r290_23, r290_112, r290_113, r290_114, r290_117, r290_120, r290_121, r290_123, r290_125, r290_127, r290_130, r290_131, r290_134, r290_135, r290_136, r290_137, r290_138, r290_139, r290_142, r290_143, r290_144, r290_147, r290_148, r290_149, r290_150, r290_151, r290_152, r290_155, r290_156, r290_157, r290_160, r290_161, r290_162, r290_163, r290_164, r290_165, r290_168, r290_169, r290_172, r290_173, r290_174, r290_177, r290_180, r290_181, r290_182, r290_185, r290_188, r290_189, r290_191, r290_193, r290_195, r290_198, r290_199, r290_201, r290_204, r290_205, r290_208, r290_209, r290_210, r290_211, r290_212, r290_213, r290_216, r290_217, r290_220, r290_221, r290_223, r290_225, r290_227, r290_231, r290_234, r290_235, r290_236, r290_237, r290_238, r290_241, r290_244, r290_245, r290_248, r290_250, r290_253, r290_254, r290_255, r290_258, r290_261, r290_262, r290_263, r290_266, r290_267, r290_268, r290_271, r290_272, r290_273, r290_276, r290_277, r290_278, r290_281, gM_0_17, gM_0_16, sM_9, h1, x1, Option.map_some, MK_f, MK_16, hb, bi_t, if_true, if_false]
    | false =>
      have hh : ¬ hm s l q.2 = 32 := fun z => hc ⟨hb, hd.mp z⟩
      simp only [csN, csm_i, csm_r, Nat.reduceAdd, Nat.reduceLeDiff, wdI, wdR, wdN, clM_0, clC_0, clC_1, clC_6, clC_8, true_or, or_true, i10, i01, ob_some, ob_map, cal_v, rvs_some, rvs_none, XO_at, cal_x, m290, r290_0, r290_1, r290_4, r290_5, r290_6, r290_7, r290_10, r290_11, r290_12, r290_15, r290_16, r290_19, r290_20, r290_21, r290_22, r290_23, r290_112, r290_113, r290_114, r290_117, r290_120, r290_121, r290_123, r290_125, r290_127, r290_130, r290_131, r290_134, r290_135, r290_136, r290_137, r290_138, r290_139, r290_142, r290_143, r290_144, r290_147, r290_148, r290_149, r290_150, r290_151, r290_152, r290_155, r290_156, r290_157, r290_160, r290_161, r290_162, r290_163, r290_164, r290_165, r290_168, r290_169, r290_172, r290_173, r290_174, r290_177, r290_180, r290_181, r290_182, r290_185, r290_188, r290_189, r290_191, r290_193, r290_195, r290_198, r290_199, r290_201, r290_204, r290_205, r290_208, r290_209, r290_210, r290_211, r290_212, r290_213, r290_216, r290_217, r290_220, r290_221, r290_223, r290_225, r290_227, r290_231, r290_234, r290_235, r290_236, r290_237, r290_238, r290_241, r290_244, r290_245, r290_248, r290_250, r290_253, r290_254, r290_255, r290_258, r290_261, r290_262, r290_263, r290_266, r290_267, r290_268, r290_271, r290_272, r290_273, r290_276, r290_277, r290_278, r290_281, gM_0_17, gM_0_16, sM_9, h1, x1, Option.map_some, MK_f, MK_16, hb, bi_f, if_true, eh, hh, if_false]
theorem c287 (hX : TX s l) (hT : TM m s l) (hq : q.2 ≤ l) (hk : k + 3 < 240) : RM x 287 [.ref b, .int (Int32.ofNat k)] (setM w b (MK m f q)) n = some (.inl none, setM w b (MK m (upd (upd (upd f (k + 1) (dgV s l 3 (nd s l 101 (nd s l 103 (nd s l 114 (nd s l 97 q)))))) (k + 2) (dgV s l 1 (dgQ s l 3 (nd s l 101 (nd s l 103 (nd s l 114 (nd s l 97 q))))))) (k + 3) (wV s l (dgQ s l 1 (dgQ s l 3 (nd s l 101 (nd s l 103 (nd s l 114 (nd s l 97 q)))))))) (wQ s l (dgQ s l 1 (dgQ s l 3 (nd s l 101 (nd s l 103 (nd s l 114 (nd s l 97 q)))))))), n) := by
  have h1 : Int32.ofNat k + 1 = Int32.ofNat (k + 1) := i_add (b := 1)
  have h2 : Int32.ofNat k + 2 = Int32.ofNat (k + 2) := i_add (b := 2)
  have h3 : Int32.ofNat k + 3 = Int32.ofNat (k + 3) := i_add (b := 3)
  have x1 := ix (k := k) (d := 1) (by omega)
  have x2 := ix (k := k) (d := 2) (by omega)
  have x3 := ix (k := k) (d := 3) (by omega)
  have e1 := c285 (x := x) (n := n) (w := w) (b := b) (f := f) (a1 := 97) (a2 := 114) (a3 := 103) hX hT (by omega) (by omega) (by omega) hq
  have l1 := nd_le (s := s) (l := l) (v := 103) (by decide) (nd_le (s := s) (l := l) (v := 114) (by decide) (nd_le (s := s) (l := l) (v := 97) (by decide) hq))
  rw [show Int32.ofNat 97 = 97 from rfl, show Int32.ofNat 114 = 114 from rfl, show Int32.ofNat 103 = 103 from rfl] at e1
  have e2 := c284 (x := x) (n := n) (w := w) (b := b) (f := f) (a := 101) hX hT (by omega) (by omega) l1
  have l2 := nd_le (s := s) (l := l) (v := 101) (by decide) l1
  rw [show Int32.ofNat 101 = 101 from rfl] at e2
  have e3 := c286 (x := x) (n := n) (w := w) (b := b) (f := f) (d := 3) hX hT (by omega) l2
  have l3 := dgQ_le (s := s) (l := l) (d := 3) l2
  rw [show Int32.ofNat 3 = 3 from rfl] at e3
  have e4 := c286 (x := x) (n := n) (w := w) (b := b) (f := (upd f (k + 1) (dgV s l 3 (nd s l 101 (nd s l 103 (nd s l 114 (nd s l 97 q))))))) (d := 1) hX hT (by omega) l3
  have l4 := dgQ_le (s := s) (l := l) (d := 1) l3
  rw [show Int32.ofNat 1 = 1 from rfl] at e4
  have et := t287 (x := x) (n := n) (w := w) (b := b) (f := (upd (upd f (k + 1) (dgV s l 3 (nd s l 101 (nd s l 103 (nd s l 114 (nd s l 97 q)))))) (k + 2) (dgV s l 1 (dgQ s l 3 (nd s l 101 (nd s l 103 (nd s l 114 (nd s l 97 q)))))))) hX hT l4 hk
  simp only [csN, csm_i, csm_r, Nat.reduceAdd, Nat.reduceLeDiff, wdI, wdR, wdN, clM_0, clC_0, clC_1, clC_6, clC_8, true_or, or_true, i10, i01, ob_some, ob_map, cal_v, rvs_some, rvs_none, XO_at, cal_x, m287, r287_0, r287_1, r287_3, r287_5, r287_7, r287_10, r287_11, r287_13, r287_16, r287_17, r287_20, r287_21, r287_22, r287_23, r287_24, r287_25, r287_28, r287_29, r287_30, r287_33, r287_34, r287_35, r287_36, r287_37, r287_38, r287_41, r287_43, r287_46, r287_49, r287_50, r287_53, r287_55, r287_58, r287_59, r287_62, r287_63, r287_64, r287_65, r287_66, r287_69, r287_71, r287_74, r287_76, r287_79, r287_80, r287_83, r287_84, r287_85, r287_86, r287_87, r287_90, r287_91, r287_94, r287_95, r287_96, gM_0_17, sM_9, h1, h2, x1, x2, Option.map_some, MK_f, e1, e2, e3, e4]
  exact et
theorem c288 (hX : TX s l) (hT : TM m s l) (hq : q.2 ≤ l) (hk : k + 3 < 240) : RM x 288 [.ref b, .int (Int32.ofNat k)] (setM w b (MK m f q)) n = some (.inl none, setM w b (MK m (upd (upd f (k + 1) (dgV s l 1 (nd s l 100 (nd s l 110 (nd s l 97 (nd s l 109 (nd s l 101 q))))))) (k + 2) (hm s l (nd s l 32 (dgQ s l 1 (nd s l 100 (nd s l 110 (nd s l 97 (nd s l 109 (nd s l 101 q))))))).2)) (kQ s l (nd s l 32 (dgQ s l 1 (nd s l 100 (nd s l 110 (nd s l 97 (nd s l 109 (nd s l 101 q))))))))), n) := by
  have h1 : Int32.ofNat k + 1 = Int32.ofNat (k + 1) := i_add (b := 1)
  have h2 : Int32.ofNat k + 2 = Int32.ofNat (k + 2) := i_add (b := 2)
  have h3 : Int32.ofNat k + 3 = Int32.ofNat (k + 3) := i_add (b := 3)
  have x1 := ix (k := k) (d := 1) (by omega)
  have x2 := ix (k := k) (d := 2) (by omega)
  have x3 := ix (k := k) (d := 3) (by omega)
  have e1 := c285 (x := x) (n := n) (w := w) (b := b) (f := f) (a1 := 101) (a2 := 109) (a3 := 97) hX hT (by omega) (by omega) (by omega) hq
  have l1 := nd_le (s := s) (l := l) (v := 97) (by decide) (nd_le (s := s) (l := l) (v := 109) (by decide) (nd_le (s := s) (l := l) (v := 101) (by decide) hq))
  rw [show Int32.ofNat 101 = 101 from rfl, show Int32.ofNat 109 = 109 from rfl, show Int32.ofNat 97 = 97 from rfl] at e1
  have e2 := c284 (x := x) (n := n) (w := w) (b := b) (f := f) (a := 110) hX hT (by omega) (by omega) l1
  have l2 := nd_le (s := s) (l := l) (v := 110) (by decide) l1
  rw [show Int32.ofNat 110 = 110 from rfl] at e2
  have e3 := c284 (x := x) (n := n) (w := w) (b := b) (f := f) (a := 100) hX hT (by omega) (by omega) l2
  have l3 := nd_le (s := s) (l := l) (v := 100) (by decide) l2
  rw [show Int32.ofNat 100 = 100 from rfl] at e3
  have e4 := c286 (x := x) (n := n) (w := w) (b := b) (f := f) (d := 1) hX hT (by omega) l3
  have l4 := dgQ_le (s := s) (l := l) (d := 1) l3
  rw [show Int32.ofNat 1 = 1 from rfl] at e4
  have e5 := c284 (x := x) (n := n) (w := w) (b := b) (f := (upd f (k + 1) (dgV s l 1 (nd s l 100 (nd s l 110 (nd s l 97 (nd s l 109 (nd s l 101 q)))))))) (a := 32) hX hT (by omega) (by omega) l4
  have l5 := nd_le (s := s) (l := l) (v := 32) (by decide) l4
  rw [show Int32.ofNat 32 = 32 from rfl] at e5
  have et := t288 (x := x) (n := n) (w := w) (b := b) (f := (upd f (k + 1) (dgV s l 1 (nd s l 100 (nd s l 110 (nd s l 97 (nd s l 109 (nd s l 101 q)))))))) hX hT l5 hk
  simp only [csN, csm_i, csm_r, Nat.reduceAdd, Nat.reduceLeDiff, wdI, wdR, wdN, clM_0, clC_0, clC_1, clC_6, clC_8, true_or, or_true, i10, i01, ob_some, ob_map, cal_v, rvs_some, rvs_none, XO_at, cal_x, m288, r288_0, r288_1, r288_3, r288_5, r288_7, r288_10, r288_11, r288_13, r288_16, r288_17, r288_19, r288_22, r288_23, r288_26, r288_27, r288_28, r288_29, r288_30, r288_31, r288_34, r288_35, r288_36, r288_38, r288_42, r288_43, r288_46, r288_49, r288_50, r288_53, r288_56, r288_57, r288_60, r288_61, r288_64, r288_65, r288_68, r288_69, r288_72, r288_73, r288_74, r288_75, r288_76, r288_79, r288_80, r288_81, r288_82, r288_85, r288_86, r288_89, r288_92, r288_93, r288_96, r288_97, r288_98, r288_101, gM_0_17, sM_9, h1, x1, Option.map_some, MK_f, e1, e2, e3, e4, e5]
  exact et
theorem c289_w (hX : TX s l) (hT : TM m s l) (hq : q.2 ≤ l) (hk : k + 3 < 240) (hc : nx s l q.2 = 108) : RM x 289 [.ref b, .int (Int32.ofNat k)] (setM w b (MK m f q)) n = some (.inl none, setM w b (MK m (upd (upd f k 119) (k + 1) (dgV s l 1 (nd s l 119 (nd s l 111 (nd s l 108 q))))) (dgQ s l 1 (nd s l 119 (nd s l 111 (nd s l 108 q))))), n) := by
  have h1 : Int32.ofNat k + 1 = Int32.ofNat (k + 1) := i_add (b := 1)
  have h2 : Int32.ofNat k + 2 = Int32.ofNat (k + 2) := i_add (b := 2)
  have h3 : Int32.ofNat k + 3 = Int32.ofNat (k + 3) := i_add (b := 3)
  have x1 := ix (k := k) (d := 1) (by omega)
  have x2 := ix (k := k) (d := 2) (by omega)
  have x3 := ix (k := k) (d := 3) (by omega)
  have x0 := ix (k := k) (d := 0) (by omega)
  rw [Nat.add_zero] at x0
  have e1 := c285 (x := x) (n := n) (w := w) (b := b) (f := (upd f k 119)) (a1 := 108) (a2 := 111) (a3 := 119) hX hT (by omega) (by omega) (by omega) hq
  have l1 := nd_le (s := s) (l := l) (v := 119) (by decide) (nd_le (s := s) (l := l) (v := 111) (by decide) (nd_le (s := s) (l := l) (v := 108) (by decide) hq))
  rw [show Int32.ofNat 108 = 108 from rfl, show Int32.ofNat 111 = 111 from rfl, show Int32.ofNat 119 = 119 from rfl] at e1
  have e2 := c286 (x := x) (n := n) (w := w) (b := b) (f := (upd f k 119)) (d := 1) hX hT (by omega) l1
  have l2 := dgQ_le (s := s) (l := l) (d := 1) l1
  rw [show Int32.ofNat 1 = 1 from rfl] at e2
  have eh := c283 (x := x) (n := n) (w := w) (b := b) (f := f) hT hX.1 hq
  have hh : hm s l q.2 = 108 := hm_l (a := 108) hX (by omega) (by omega) hc
  simp only [csN, csm_i, csm_r, Nat.reduceAdd, Nat.reduceLeDiff, wdI, wdR, wdN, clM_0, clC_0, clC_1, clC_6, clC_8, true_or, or_true, i10, i01, ob_some, ob_map, cal_v, rvs_some, rvs_none, XO_at, cal_x, m289, r289_0, r289_1, r289_4, r289_6, r289_9, r289_10, r289_13, r289_14, r289_16, r289_17, r289_18, r289_20, r289_22, r289_24, r289_27, r289_28, r289_31, r289_32, r289_33, r289_34, r289_35, r289_36, r289_39, r289_40, r289_41, r289_42, r289_44, r289_47, r289_48, r289_51, r289_54, r289_55, r289_58, r289_60, r289_63, r289_64, r289_67, r289_68, r289_70, r289_71, r289_72, r289_74, r289_77, r289_78, r289_80, r289_83, r289_84, r289_87, r289_88, r289_89, r289_90, r289_91, r289_92, r289_95, r289_96, r289_97, r289_100, r289_101, r289_102, r289_103, r289_104, r289_105, r289_108, r289_109, r289_112, r289_113, r289_115, r289_118, r289_119, r289_122, r289_123, r289_124, r289_125, r289_126, r289_127, r289_130, r289_131, r289_132, r289_135, r289_136, r289_137, r289_138, r289_139, r289_140, r289_143, r289_144, gM_0_17, sM_9, h1, x0, x1, Option.map_some, MK_f, eh, hh, if_true, e1, e2]
theorem c289_i (hX : TX s l) (hT : TM m s l) (hq : q.2 ≤ l) (hk : k + 3 < 240) (hc0 : ¬ nx s l q.2 = 108) (h1c : (nd s l 105 q).1 = false) (hc : nx s l (nd s l 105 q).2 = 108) : RM x 289 [.ref b, .int (Int32.ofNat k)] (setM w b (MK m f q)) n = some (.inl none, setM w b (MK m (upd (upd (upd f k 105) (k + 1) (dgV s l 1 (nd s l 108 (nd s l 108 (nd s l 105 q))))) (k + 2) (dgV s l 3 (dgQ s l 1 (nd s l 108 (nd s l 108 (nd s l 105 q)))))) (dgQ s l 3 (dgQ s l 1 (nd s l 108 (nd s l 108 (nd s l 105 q)))))), n) := by
  have h1 : Int32.ofNat k + 1 = Int32.ofNat (k + 1) := i_add (b := 1)
  have h2 : Int32.ofNat k + 2 = Int32.ofNat (k + 2) := i_add (b := 2)
  have h3 : Int32.ofNat k + 3 = Int32.ofNat (k + 3) := i_add (b := 3)
  have x1 := ix (k := k) (d := 1) (by omega)
  have x2 := ix (k := k) (d := 2) (by omega)
  have x3 := ix (k := k) (d := 3) (by omega)
  have x0 := ix (k := k) (d := 0) (by omega)
  rw [Nat.add_zero] at x0
  have i1 := c284 (x := x) (n := n) (w := w) (b := b) (f := f) (a := 105) hX hT (by omega) (by omega) hq
  have m1 := nd_le (s := s) (l := l) (v := 105) (by decide) hq
  rw [show Int32.ofNat 105 = 105 from rfl] at i1
  have e1 := c284 (x := x) (n := n) (w := w) (b := b) (f := (upd f k 105)) (a := 108) hX hT (by omega) (by omega) m1
  have l1 := nd_le (s := s) (l := l) (v := 108) (by decide) m1
  rw [show Int32.ofNat 108 = 108 from rfl] at e1
  have e2 := c284 (x := x) (n := n) (w := w) (b := b) (f := (upd f k 105)) (a := 108) hX hT (by omega) (by omega) l1
  have l2 := nd_le (s := s) (l := l) (v := 108) (by decide) l1
  rw [show Int32.ofNat 108 = 108 from rfl] at e2
  have e3 := c286 (x := x) (n := n) (w := w) (b := b) (f := (upd f k 105)) (d := 1) hX hT (by omega) l2
  have l3 := dgQ_le (s := s) (l := l) (d := 1) l2
  rw [show Int32.ofNat 1 = 1 from rfl] at e3
  have e4 := c286 (x := x) (n := n) (w := w) (b := b) (f := (upd (upd f k 105) (k + 1) (dgV s l 1 (nd s l 108 (nd s l 108 (nd s l 105 q)))))) (d := 3) hX hT (by omega) l3
  have l4 := dgQ_le (s := s) (l := l) (d := 3) l3
  rw [show Int32.ofNat 3 = 3 from rfl] at e4
  have eh := c283 (x := x) (n := n) (w := w) (b := b) (f := f) hT hX.1 hq
  have hh : ¬ hm s l q.2 = 108 := fun z => hc0 ((hm_eq (a := 108) hX (by omega) (by omega)).mp z)
  have eh2 := c283 (x := x) (n := n) (w := w) (b := b) (f := f) hT hX.1 m1
  have hh2 : hm s l (nd s l 105 q).2 = 108 := hm_l (a := 108) hX (by omega) (by omega) hc
  simp only [csN, csm_i, csm_r, Nat.reduceAdd, Nat.reduceLeDiff, wdI, wdR, wdN, clM_0, clC_0, clC_1, clC_6, clC_8, true_or, or_true, i10, i01, ob_some, ob_map, cal_v, rvs_some, rvs_none, XO_at, cal_x, m289, r289_0, r289_1, r289_4, r289_6, r289_9, r289_10, r289_13, r289_14, r289_16, r289_17, r289_18, r289_20, r289_22, r289_24, r289_27, r289_28, r289_31, r289_32, r289_33, r289_34, r289_35, r289_36, r289_39, r289_40, r289_41, r289_42, r289_44, r289_47, r289_48, r289_51, r289_54, r289_55, r289_58, r289_60, r289_63, r289_64, r289_67, r289_68, r289_70, r289_71, r289_72, r289_74, r289_77, r289_78, r289_80, r289_83, r289_84, r289_87, r289_88, r289_89, r289_90, r289_91, r289_92, r289_95, r289_96, r289_97, r289_100, r289_101, r289_102, r289_103, r289_104, r289_105, r289_108, r289_109, r289_112, r289_113, r289_115, r289_118, r289_119, r289_122, r289_123, r289_124, r289_125, r289_126, r289_127, r289_130, r289_131, r289_132, r289_135, r289_136, r289_137, r289_138, r289_139, r289_140, r289_143, r289_144, gM_0_17, gM_0_16, sM_9, h1, h2, x0, x1, x2, Option.map_some, MK_f, MK_16, h1c, bi_f, eh, hh, i1, eh2, hh2, if_true, if_false, e1, e2, e3, e4]
theorem c289_x (hX : TX s l) (hT : TM m s l) (hq : q.2 ≤ l) (hk : k + 3 < 240) (hc0 : ¬ nx s l q.2 = 108) (hc : (nd s l 105 q).1 = true ∨ ¬ nx s l (nd s l 105 q).2 = 108) : RM x 289 [.ref b, .int (Int32.ofNat k)] (setM w b (MK m f q)) n = some (.inl none, setM w b (MK m (upd (upd f (k + 1) (dgV s l 1 (nd s l 120 (nd s l 105 q)))) (k + 2) (dgV s l 1 (dgQ s l 1 (nd s l 120 (nd s l 105 q))))) (dgQ s l 1 (dgQ s l 1 (nd s l 120 (nd s l 105 q))))), n) := by
  have h1 : Int32.ofNat k + 1 = Int32.ofNat (k + 1) := i_add (b := 1)
  have h2 : Int32.ofNat k + 2 = Int32.ofNat (k + 2) := i_add (b := 2)
  have h3 : Int32.ofNat k + 3 = Int32.ofNat (k + 3) := i_add (b := 3)
  have x1 := ix (k := k) (d := 1) (by omega)
  have x2 := ix (k := k) (d := 2) (by omega)
  have x3 := ix (k := k) (d := 3) (by omega)
  have x0 := ix (k := k) (d := 0) (by omega)
  rw [Nat.add_zero] at x0
  have i1 := c284 (x := x) (n := n) (w := w) (b := b) (f := f) (a := 105) hX hT (by omega) (by omega) hq
  have m1 := nd_le (s := s) (l := l) (v := 105) (by decide) hq
  rw [show Int32.ofNat 105 = 105 from rfl] at i1
  have e1 := c284 (x := x) (n := n) (w := w) (b := b) (f := f) (a := 120) hX hT (by omega) (by omega) m1
  have l1 := nd_le (s := s) (l := l) (v := 120) (by decide) m1
  rw [show Int32.ofNat 120 = 120 from rfl] at e1
  have e2 := c286 (x := x) (n := n) (w := w) (b := b) (f := f) (d := 1) hX hT (by omega) l1
  have l2 := dgQ_le (s := s) (l := l) (d := 1) l1
  rw [show Int32.ofNat 1 = 1 from rfl] at e2
  have e3 := c286 (x := x) (n := n) (w := w) (b := b) (f := (upd f (k + 1) (dgV s l 1 (nd s l 120 (nd s l 105 q))))) (d := 1) hX hT (by omega) l2
  have l3 := dgQ_le (s := s) (l := l) (d := 1) l2
  rw [show Int32.ofNat 1 = 1 from rfl] at e3
  have eh := c283 (x := x) (n := n) (w := w) (b := b) (f := f) hT hX.1 hq
  have hh : ¬ hm s l q.2 = 108 := fun z => hc0 ((hm_eq (a := 108) hX (by omega) (by omega)).mp z)
  have eh2 := c283 (x := x) (n := n) (w := w) (b := b) (f := f) hT hX.1 m1
  cases hb : (nd s l 105 q).1 with
  | true =>
    simp only [csN, csm_i, csm_r, Nat.reduceAdd, Nat.reduceLeDiff, wdI, wdR, wdN, clM_0, clC_0, clC_1, clC_6, clC_8, true_or, or_true, i10, i01, ob_some, ob_map, cal_v, rvs_some, rvs_none, XO_at, cal_x, m289, r289_0, r289_1, r289_4, r289_6, r289_9, r289_10, r289_13, r289_14, r289_16, r289_17, r289_18, r289_20, r289_22, r289_24, r289_27, r289_28, r289_31, r289_32, r289_33, r289_34, r289_35, r289_36, r289_39, r289_40, r289_41, r289_42, r289_44, r289_47, r289_48, r289_51, r289_54, r289_55, r289_58, r289_60, r289_63, r289_64, r289_67, r289_68, r289_70, r289_71, r289_72, r289_74, r289_77, r289_78, r289_80, r289_83, r289_84, r289_87, r289_88, r289_89, r289_90, r289_91, r289_92, r289_95, r289_96, r289_97, r289_100, r289_101, r289_102, r289_103, r289_104, r289_105, r289_108, r289_109, r289_112, r289_113, r289_115, r289_118, r289_119, r289_122, r289_123, r289_124, r289_125, r289_126, r289_127, r289_130, r289_131, r289_132, r289_135, r289_136, r289_137, r289_138, r289_139, r289_140, r289_143, r289_144, gM_0_17, gM_0_16, sM_9, h1, h2, x0, x1, x2, Option.map_some, MK_f, MK_16, hb, bi_t, eh, hh, i1, if_true, if_false, e1, e2, e3]
  | false =>
    have hh2 : ¬ hm s l (nd s l 105 q).2 = 108 := fun z => (hc.resolve_left (by rw [hb]; decide)) ((hm_eq (a := 108) hX (by omega) (by omega)).mp z)
    simp only [csN, csm_i, csm_r, Nat.reduceAdd, Nat.reduceLeDiff, wdI, wdR, wdN, clM_0, clC_0, clC_1, clC_6, clC_8, true_or, or_true, i10, i01, ob_some, ob_map, cal_v, rvs_some, rvs_none, XO_at, cal_x, m289, r289_0, r289_1, r289_4, r289_6, r289_9, r289_10, r289_13, r289_14, r289_16, r289_17, r289_18, r289_20, r289_22, r289_24, r289_27, r289_28, r289_31, r289_32, r289_33, r289_34, r289_35, r289_36, r289_39, r289_40, r289_41, r289_42, r289_44, r289_47, r289_48, r289_51, r289_54, r289_55, r289_58, r289_60, r289_63, r289_64, r289_67, r289_68, r289_70, r289_71, r289_72, r289_74, r289_77, r289_78, r289_80, r289_83, r289_84, r289_87, r289_88, r289_89, r289_90, r289_91, r289_92, r289_95, r289_96, r289_97, r289_100, r289_101, r289_102, r289_103, r289_104, r289_105, r289_108, r289_109, r289_112, r289_113, r289_115, r289_118, r289_119, r289_122, r289_123, r289_124, r289_125, r289_126, r289_127, r289_130, r289_131, r289_132, r289_135, r289_136, r289_137, r289_138, r289_139, r289_140, r289_143, r289_144, gM_0_17, gM_0_16, sM_9, h1, h2, x0, x1, x2, Option.map_some, MK_f, MK_16, hb, bi_f, eh, hh, i1, eh2, hh2, if_true, if_false, e1, e2, e3]
end MPC
