/-! BOTH READERS: a command -/
section CMD
set_option maxRecDepth 20000
variable {x : SX} {b p l k : Nat} {s m : NS} {f : Nat → Int32}
/-- one command, read by the model at p -/
def CM (x : SX) (b : Nat) (m s : NS) (l p k : Nat) (f : Nat → Int32) : Prop := ∃ g Q, (∀ j, j < k → g j = f j) ∧ (∀ w n, RM x 290 [.ref b, .int (Int32.ofNat k)] (setM w b (MK m f (false, p))) n = some (.inl none, setM w b (MK m g Q), n)) ∧ CMDR (tryF s l p 8 0 p) g k Q
theorem c290_t (hX : TX s l) (hT : TM m s l) (hp : p ≤ l) (hk : k + 3 < 240) (hc : nx s l p = 116) : CM x b m s l p k f := by
  have h1 : Int32.ofNat k + 1 = Int32.ofNat (k + 1) := i_add (b := 1)
  have h2 : Int32.ofNat k + 2 = Int32.ofNat (k + 2) := i_add (b := 2)
  have h3 : Int32.ofNat k + 3 = Int32.ofNat (k + 3) := i_add (b := 3)
  have x0 := ix (k := k) (d := 0) (by omega)
  have x1 := ix (k := k) (d := 1) (by omega)
  have x2 := ix (k := k) (d := 2) (by omega)
  have x3 := ix (k := k) (d := 3) (by omega)
  rw [Nat.add_zero] at x0
  have hq : ((false, p + 1) : Bool × Nat).2 ≤ l := nx_l (s := s) (p := p) (fun e => by rw [hc] at e; revert e; decide)
  have hh : hm s l p = 116 := hm_l (a := 116) hX (by omega) (by omega) hc
  have s98 : ((116 : Int32) = 98) = False := eq_false (by decide)
  have s100 : ((116 : Int32) = 100) = False := eq_false (by decide)
  have s102 : ((116 : Int32) = 102) = False := eq_false (by decide)
  have s104 : ((116 : Int32) = 104) = False := eq_false (by decide)
  have s108 : ((116 : Int32) = 108) = False := eq_false (by decide)
  have l1 := nd_le (s := s) (l := l) (v := 101) (by decide) (nd_le (s := s) (l := l) (v := 110) (by decide) (nd_le (s := s) (l := l) (v := 117) (by decide) hq))
  have l2 := dgQ_le (s := s) (l := l) (d := 1) l1
  have l3 := dgQ_le (s := s) (l := l) (d := 1) l2
  have l4 := dgQ_le (s := s) (l := l) (d := 3) l3
  have ho : ∀ j, j < 8 → ¬ j = 1 → ¬ (116 : Int32) = fl j := by decide +kernel
  refine ⟨(upd (upd (upd (upd f k 116) (k + 1) (dgV s l 1 (nd s l 101 (nd s l 110 (nd s l 117 (false, p + 1)))))) (k + 2) (dgV s l 1 (dgQ s l 1 (nd s l 101 (nd s l 110 (nd s l 117 (false, p + 1))))))) (k + 3) (dgV s l 3 (dgQ s l 1 (dgQ s l 1 (nd s l 101 (nd s l 110 (nd s l 117 (false, p + 1)))))))), (dgQ s l 3 (dgQ s l 1 (dgQ s l 1 (nd s l 101 (nd s l 110 (nd s l 117 (false, p + 1))))))), fun j hj => ?_, ?_, cmdr_of (c := 1) (by decide) (by rw [FF1 hc, rq_c (v := 117) (by decide), rq_c (v := 110) (by decide), rq_c (v := 101) (by decide), rq_d1, rq_d1, rq_d3, rq_nil]) (fun j hj h => ?_) (fun hQ => ?_)⟩
  · simp only [upd_at]
    repeat rw [if_neg (by omega)]
  · intro w n
    have eh := c283 (x := x) (n := n) (w := w) (b := b) (f := f) (q := (false, p)) hT hX.1 hp
    dsimp only at eh
    rw [hh] at eh
    have e1 := c285 (x := x) (n := n) (w := w) (b := b) (f := (upd f k 116)) (a1 := 117) (a2 := 110) (a3 := 101) hX hT (by omega) (by omega) (by omega) hq
    rw [show Int32.ofNat 117 = 117 from rfl, show Int32.ofNat 110 = 110 from rfl, show Int32.ofNat 101 = 101 from rfl] at e1
    have e2 := c286 (x := x) (n := n) (w := w) (b := b) (f := (upd f k 116)) (d := 1) hX hT (by omega) l1
    rw [show Int32.ofNat 1 = 1 from rfl] at e2
    have e3 := c286 (x := x) (n := n) (w := w) (b := b) (f := (upd (upd f k 116) (k + 1) (dgV s l 1 (nd s l 101 (nd s l 110 (nd s l 117 (false, p + 1))))))) (d := 1) hX hT (by omega) l2
    rw [show Int32.ofNat 1 = 1 from rfl] at e3
    have e4 := c286 (x := x) (n := n) (w := w) (b := b) (f := (upd (upd (upd f k 116) (k + 1) (dgV s l 1 (nd s l 101 (nd s l 110 (nd s l 117 (false, p + 1)))))) (k + 2) (dgV s l 1 (dgQ s l 1 (nd s l 101 (nd s l 110 (nd s l 117 (false, p + 1)))))))) (d := 3) hX hT (by omega) l3
    rw [show Int32.ofNat 3 = 3 from rfl] at e4
    simp only [csN, csm_i, csm_r, Nat.reduceAdd, Nat.reduceLeDiff, wdI, wdR, wdN, clM_0, clC_0, clC_1, clC_6, clC_8, true_or, or_true, i10, i01, ob_some, ob_map, cal_v, rvs_some, rvs_none, XO_at, cal_x, m290, r290_0, r290_1, r290_4, r290_5, r290_6, r290_7, r290_10, r290_11, r290_12, r290_15, r290_16, r290_19, r290_20, r290_21, r290_22, r290_23, r290_112, r290_113, r290_114, r290_117, r290_120, r290_121, r290_123, r290_125, r290_127, r290_130, r290_131, r290_134, r290_135, r290_136, r290_137, r290_138, r290_139, r290_142, r290_143, r290_144, r290_147, r290_148, r290_149, r290_150, r290_151, r290_152, r290_155, r290_156, r290_157, r290_160, r290_161, r290_162, r290_163, r290_164, r290_165, r290_168, r290_169, r290_172, r290_173, r290_174, r290_177, r290_180, r290_181, r290_182, r290_185, r290_188, r290_189, r290_191, r290_193, r290_195, r290_198, r290_199, r290_201, r290_204, r290_205, r290_208, r290_209, r290_210, r290_211, r290_212, r290_213, r290_216, r290_217, r290_220, r290_221, r290_223, r290_225, r290_227, r290_230, r290_231, r290_234, r290_235, r290_236, r290_237, r290_238, r290_241, r290_244, r290_245, r290_248, r290_250, r290_253, r290_254, r290_255, r290_258, r290_261, r290_262, r290_263, r290_266, r290_267, r290_268, r290_271, r290_272, r290_273, r290_276, r290_277, r290_278, r290_281, gM_0_15, gM_0_16, gM_0_17, pM_0_15, sM_9, MK_15, MK_p, i_s, MK_f, h1, h2, h3, x0, x1, x2, x3, Option.map_some, if_true, if_false, eh, s98, s100, s102, s104, s108, e1, e2, e3, e4]
  · exact FNo hj (by rw [hc]; exact ho j hj h) (Nat.le_trans (Nat.le_succ p) (Nat.le_trans (nd_ge (q := (false, p + 1))) (Nat.le_trans nd_ge (Nat.le_trans nd_ge (Nat.le_trans dgQ_ge (Nat.le_trans dgQ_ge dgQ_ge))))))
  · have q2 := dgQ_f hQ
    have q1 := dgQ_f q2
    rw [if_pos hQ, if_pos q2, if_pos q1]
    exact Or.inr (Or.inl ⟨rfl, _, _, _, rfl, by simp [upd_at], by simp [upd_at], by simp [upd_at], by simp [upd_at]⟩)
theorem c290_l (hX : TX s l) (hT : TM m s l) (hp : p ≤ l) (hk : k + 3 < 240) (hc : nx s l p = 108) : CM x b m s l p k f := by
  have h1 : Int32.ofNat k + 1 = Int32.ofNat (k + 1) := i_add (b := 1)
  have h2 : Int32.ofNat k + 2 = Int32.ofNat (k + 2) := i_add (b := 2)
  have h3 : Int32.ofNat k + 3 = Int32.ofNat (k + 3) := i_add (b := 3)
  have x0 := ix (k := k) (d := 0) (by omega)
  have x1 := ix (k := k) (d := 1) (by omega)
  have x2 := ix (k := k) (d := 2) (by omega)
  have x3 := ix (k := k) (d := 3) (by omega)
  rw [Nat.add_zero] at x0
  have hq : ((false, p + 1) : Bool × Nat).2 ≤ l := nx_l (s := s) (p := p) (fun e => by rw [hc] at e; revert e; decide)
  have hh : hm s l p = 108 := hm_l (a := 108) hX (by omega) (by omega) hc
  have s98 : ((108 : Int32) = 98) = False := eq_false (by decide)
  have s100 : ((108 : Int32) = 100) = False := eq_false (by decide)
  have s102 : ((108 : Int32) = 102) = False := eq_false (by decide)
  have s104 : ((108 : Int32) = 104) = False := eq_false (by decide)
  have l1 := nd_le (s := s) (l := l) (v := 118) (by decide) (nd_le (s := s) (l := l) (v := 97) (by decide) (nd_le (s := s) (l := l) (v := 101) (by decide) hq))
  have l2 := nd_le (s := s) (l := l) (v := 101) (by decide) l1
  have l3 := dgQ_le (s := s) (l := l) (d := 3) l2
  have ho : ∀ j, j < 8 → ¬ j = 6 → ¬ (108 : Int32) = fl j := by decide +kernel
  refine ⟨(upd (upd f k 108) (k + 1) (dgV s l 3 (nd s l 101 (nd s l 118 (nd s l 97 (nd s l 101 (false, p + 1))))))), (dgQ s l 3 (nd s l 101 (nd s l 118 (nd s l 97 (nd s l 101 (false, p + 1)))))), fun j hj => ?_, ?_, cmdr_of (c := 6) (by decide) (by rw [FF6 hc, rq_c (v := 101) (by decide), rq_c (v := 97) (by decide), rq_c (v := 118) (by decide), rq_c (v := 101) (by decide), rq_d3, rq_nil]) (fun j hj h => ?_) (fun hQ => ?_)⟩
  · simp only [upd_at]
    repeat rw [if_neg (by omega)]
  · intro w n
    have eh := c283 (x := x) (n := n) (w := w) (b := b) (f := f) (q := (false, p)) hT hX.1 hp
    dsimp only at eh
    rw [hh] at eh
    have e1 := c285 (x := x) (n := n) (w := w) (b := b) (f := (upd f k 108)) (a1 := 101) (a2 := 97) (a3 := 118) hX hT (by omega) (by omega) (by omega) hq
    rw [show Int32.ofNat 101 = 101 from rfl, show Int32.ofNat 97 = 97 from rfl, show Int32.ofNat 118 = 118 from rfl] at e1
    have e2 := c284 (x := x) (n := n) (w := w) (b := b) (f := (upd f k 108)) (a := 101) hX hT (by omega) (by omega) l1
    rw [show Int32.ofNat 101 = 101 from rfl] at e2
    have e3 := c286 (x := x) (n := n) (w := w) (b := b) (f := (upd f k 108)) (d := 3) hX hT (by omega) l2
    rw [show Int32.ofNat 3 = 3 from rfl] at e3
    simp only [csN, csm_i, csm_r, Nat.reduceAdd, Nat.reduceLeDiff, wdI, wdR, wdN, clM_0, clC_0, clC_1, clC_6, clC_8, true_or, or_true, i10, i01, ob_some, ob_map, cal_v, rvs_some, rvs_none, XO_at, cal_x, m290, r290_0, r290_1, r290_4, r290_5, r290_6, r290_7, r290_10, r290_11, r290_12, r290_15, r290_16, r290_19, r290_20, r290_21, r290_22, r290_23, r290_112, r290_113, r290_114, r290_117, r290_120, r290_121, r290_123, r290_125, r290_127, r290_130, r290_131, r290_134, r290_135, r290_136, r290_137, r290_138, r290_139, r290_142, r290_143, r290_144, r290_147, r290_148, r290_149, r290_150, r290_151, r290_152, r290_155, r290_156, r290_157, r290_160, r290_161, r290_162, r290_163, r290_164, r290_165, r290_168, r290_169, r290_172, r290_173, r290_174, r290_177, r290_180, r290_181, r290_182, r290_185, r290_188, r290_189, r290_191, r290_193, r290_195, r290_198, r290_199, r290_201, r290_204, r290_205, r290_208, r290_209, r290_210, r290_211, r290_212, r290_213, r290_216, r290_217, r290_220, r290_221, r290_223, r290_225, r290_227, r290_230, r290_231, r290_234, r290_235, r290_236, r290_237, r290_238, r290_241, r290_244, r290_245, r290_248, r290_250, r290_253, r290_254, r290_255, r290_258, r290_261, r290_262, r290_263, r290_266, r290_267, r290_268, r290_271, r290_272, r290_273, r290_276, r290_277, r290_278, r290_281, gM_0_15, gM_0_16, gM_0_17, pM_0_15, sM_9, MK_15, MK_p, i_s, MK_f, h1, h2, h3, x0, x1, x2, x3, Option.map_some, if_true, if_false, eh, s98, s100, s102, s104, e1, e2, e3]
  · exact FNo hj (by rw [hc]; exact ho j hj h) (Nat.le_trans (Nat.le_succ p) (Nat.le_trans (nd_ge (q := (false, p + 1))) (Nat.le_trans nd_ge (Nat.le_trans nd_ge (Nat.le_trans nd_ge dgQ_ge)))))
  · rw [if_pos hQ]
    exact Or.inr (Or.inr (Or.inr (Or.inr (Or.inr (Or.inr (Or.inl ⟨rfl, _, rfl, by simp [upd_at], by simp [upd_at]⟩))))))
theorem c290_h (hX : TX s l) (hT : TM m s l) (hp : p ≤ l) (hk : k + 3 < 240) (hc : nx s l p = 104) : CM x b m s l p k f := by
  have h1 : Int32.ofNat k + 1 = Int32.ofNat (k + 1) := i_add (b := 1)
  have h2 : Int32.ofNat k + 2 = Int32.ofNat (k + 2) := i_add (b := 2)
  have h3 : Int32.ofNat k + 3 = Int32.ofNat (k + 3) := i_add (b := 3)
  have x0 := ix (k := k) (d := 0) (by omega)
  have x1 := ix (k := k) (d := 1) (by omega)
  have x2 := ix (k := k) (d := 2) (by omega)
  have x3 := ix (k := k) (d := 3) (by omega)
  rw [Nat.add_zero] at x0
  have hq : ((false, p + 1) : Bool × Nat).2 ≤ l := nx_l (s := s) (p := p) (fun e => by rw [hc] at e; revert e; decide)
  have hh : hm s l p = 104 := hm_l (a := 104) hX (by omega) (by omega) hc
  have s98 : ((104 : Int32) = 98) = False := eq_false (by decide)
  have s100 : ((104 : Int32) = 100) = False := eq_false (by decide)
  have s102 : ((104 : Int32) = 102) = False := eq_false (by decide)
  have l1 := nd_le (s := s) (l := l) (v := 114) (by decide) (nd_le (s := s) (l := l) (v := 117) (by decide) (nd_le (s := s) (l := l) (v := 111) (by decide) hq))
  have ho : ∀ j, j < 8 → ¬ j = 7 → ¬ (104 : Int32) = fl j := by decide +kernel
  refine ⟨(upd (upd f k 104) (k + 1) (hV s l (nd s l 114 (nd s l 117 (nd s l 111 (false, p + 1)))))), (hQ s l (nd s l 114 (nd s l 117 (nd s l 111 (false, p + 1))))), fun j hj => ?_, ?_, cmdr_of (c := 7) (by decide) (by rw [FF7 hc, rq_c (v := 111) (by decide), rq_c (v := 117) (by decide), rq_c (v := 114) (by decide), rq_h]) (fun j hj h => ?_) (fun hQ => ?_)⟩
  · simp only [upd_at]
    repeat rw [if_neg (by omega)]
  · intro w n
    have eh := c283 (x := x) (n := n) (w := w) (b := b) (f := f) (q := (false, p)) hT hX.1 hp
    dsimp only at eh
    rw [hh] at eh
    have e1 := c285 (x := x) (n := n) (w := w) (b := b) (f := (upd f k 104)) (a1 := 111) (a2 := 117) (a3 := 114) hX hT (by omega) (by omega) (by omega) hq
    rw [show Int32.ofNat 111 = 111 from rfl, show Int32.ofNat 117 = 117 from rfl, show Int32.ofNat 114 = 114 from rfl] at e1
    have et := t290 (x := x) (n := n) (w := w) (b := b) (f := (upd f k 104)) (a2 := some (.int 104)) hX hT l1 hk
    simp only [csN, csm_i, csm_r, Nat.reduceAdd, Nat.reduceLeDiff, wdI, wdR, wdN, clM_0, clC_0, clC_1, clC_6, clC_8, true_or, or_true, i10, i01, ob_some, ob_map, cal_v, rvs_some, rvs_none, XO_at, cal_x, m290, r290_0, r290_1, r290_4, r290_5, r290_6, r290_7, r290_10, r290_11, r290_12, r290_15, r290_16, r290_19, r290_20, r290_21, r290_22, r290_23, r290_112, r290_113, r290_114, r290_117, r290_120, r290_121, r290_123, r290_125, r290_127, r290_130, r290_131, r290_134, r290_135, r290_136, r290_137, r290_138, r290_139, r290_142, r290_143, r290_144, r290_147, r290_148, r290_149, r290_150, r290_151, r290_152, r290_155, r290_156, r290_157, r290_160, r290_161, r290_162, r290_163, r290_164, r290_165, r290_168, r290_169, r290_172, r290_173, r290_174, r290_177, r290_180, r290_181, r290_182, r290_185, r290_188, r290_189, r290_191, r290_193, r290_195, r290_198, r290_199, r290_201, r290_204, r290_205, r290_208, r290_209, r290_210, r290_211, r290_212, r290_213, r290_216, r290_217, r290_220, r290_221, r290_223, r290_225, r290_227, r290_231, r290_234, r290_235, r290_236, r290_237, r290_238, r290_241, r290_244, r290_245, r290_248, r290_250, r290_253, r290_254, r290_255, r290_258, r290_261, r290_262, r290_263, r290_266, r290_267, r290_268, r290_271, r290_272, r290_273, r290_276, r290_277, r290_278, r290_281, gM_0_15, gM_0_16, gM_0_17, pM_0_15, sM_9, MK_15, MK_p, i_s, MK_f, h1, h2, h3, x0, x1, x2, x3, Option.map_some, if_true, if_false, eh, s98, s100, s102, e1]
    exact et
  · have hge : ∀ q : Bool × Nat, q.2 ≤ (hQ s l q).2 := fun q => by
      unfold hQ
      split
      · exact dgQ_ge
      · exact Nat.le_refl _
    exact FNo hj (by rw [hc]; exact ho j hj h) (Nat.le_trans (Nat.le_succ p) (Nat.le_trans (nd_ge (q := (false, p + 1))) (Nat.le_trans nd_ge (Nat.le_trans nd_ge (hge _)))))
  · rw [if_pos hQ]
    exact Or.inr (Or.inr (Or.inr (Or.inr (Or.inr (Or.inr (Or.inr ⟨rfl, _, rfl, by simp [upd_at], by simp [upd_at]⟩))))))
theorem c290_b (hX : TX s l) (hT : TM m s l) (hp : p ≤ l) (hk : k + 3 < 240) (hc : nx s l p = 98) : CM x b m s l p k f := by
  have h1 : Int32.ofNat k + 1 = Int32.ofNat (k + 1) := i_add (b := 1)
  have h2 : Int32.ofNat k + 2 = Int32.ofNat (k + 2) := i_add (b := 2)
  have h3 : Int32.ofNat k + 3 = Int32.ofNat (k + 3) := i_add (b := 3)
  have x0 := ix (k := k) (d := 0) (by omega)
  have x1 := ix (k := k) (d := 1) (by omega)
  have x2 := ix (k := k) (d := 2) (by omega)
  have x3 := ix (k := k) (d := 3) (by omega)
  rw [Nat.add_zero] at x0
  have hq : ((false, p + 1) : Bool × Nat).2 ≤ l := nx_l (s := s) (p := p) (fun e => by rw [hc] at e; revert e; decide)
  have hh : hm s l p = 98 := hm_l (a := 98) hX (by omega) (by omega) hc
  have ho : ∀ j, j < 8 → ¬ j = 0 → ¬ (98 : Int32) = fl j := by decide +kernel
  refine ⟨(upd (upd (upd (upd f k 98) (k + 1) (dgV s l 3 (nd s l 101 (nd s l 103 (nd s l 114 (nd s l 97 (false, p + 1))))))) (k + 2) (dgV s l 1 (dgQ s l 3 (nd s l 101 (nd s l 103 (nd s l 114 (nd s l 97 (false, p + 1)))))))) (k + 3) (wV s l (dgQ s l 1 (dgQ s l 3 (nd s l 101 (nd s l 103 (nd s l 114 (nd s l 97 (false, p + 1))))))))), (wQ s l (dgQ s l 1 (dgQ s l 3 (nd s l 101 (nd s l 103 (nd s l 114 (nd s l 97 (false, p + 1)))))))), fun j hj => ?_, ?_, cmdr_of (c := 0) (by decide) (by rw [FF0 hc, rq_c (v := 97) (by decide), rq_c (v := 114) (by decide), rq_c (v := 103) (by decide), rq_c (v := 101) (by decide), rq_d3, rq_d1, rq_w]) (fun j hj h => ?_) (fun hQ => ?_)⟩
  · simp only [upd_at]
    repeat rw [if_neg (by omega)]
  · intro w n
    have eh := c283 (x := x) (n := n) (w := w) (b := b) (f := f) (q := (false, p)) hT hX.1 hp
    dsimp only at eh
    rw [hh] at eh
    have et := c287 (x := x) (n := n) (w := w) (b := b) (f := (upd f k 98)) hX hT hq hk
    simp only [csN, csm_i, csm_r, Nat.reduceAdd, Nat.reduceLeDiff, wdI, wdR, wdN, clM_0, clC_0, clC_1, clC_6, clC_8, true_or, or_true, i10, i01, ob_some, ob_map, cal_v, rvs_some, rvs_none, XO_at, cal_x, m290, r290_0, r290_1, r290_4, r290_5, r290_6, r290_7, r290_10, r290_11, r290_12, r290_15, r290_16, r290_19, r290_20, r290_21, r290_22, r290_23, r290_112, r290_113, r290_114, r290_117, r290_120, r290_121, r290_123, r290_125, r290_127, r290_130, r290_131, r290_134, r290_135, r290_136, r290_137, r290_138, r290_139, r290_142, r290_143, r290_144, r290_147, r290_148, r290_149, r290_150, r290_151, r290_152, r290_155, r290_156, r290_157, r290_160, r290_161, r290_162, r290_163, r290_164, r290_165, r290_168, r290_169, r290_172, r290_173, r290_174, r290_177, r290_180, r290_181, r290_182, r290_185, r290_188, r290_189, r290_191, r290_193, r290_195, r290_198, r290_199, r290_201, r290_204, r290_205, r290_208, r290_209, r290_210, r290_211, r290_212, r290_213, r290_216, r290_217, r290_220, r290_221, r290_223, r290_225, r290_227, r290_230, r290_231, r290_234, r290_235, r290_236, r290_237, r290_238, r290_241, r290_244, r290_245, r290_248, r290_250, r290_253, r290_254, r290_255, r290_258, r290_261, r290_262, r290_263, r290_266, r290_267, r290_268, r290_271, r290_272, r290_273, r290_276, r290_277, r290_278, r290_281, gM_0_15, gM_0_16, gM_0_17, pM_0_15, sM_9, MK_15, MK_p, i_s, MK_f, h1, h2, h3, x0, x1, x2, x3, Option.map_some, if_true, if_false, eh, et]
  · have hge : ∀ q : Bool × Nat, q.2 ≤ (wQ s l q).2 := fun q => by
      unfold wQ
      split
      · exact nd_ge
      · exact nd_ge
    exact FNo hj (by rw [hc]; exact ho j hj h) (Nat.le_trans (Nat.le_succ p) (Nat.le_trans (nd_ge (q := (false, p + 1))) (Nat.le_trans nd_ge (Nat.le_trans nd_ge (Nat.le_trans nd_ge (Nat.le_trans dgQ_ge (Nat.le_trans dgQ_ge (hge _))))))))
  · obtain ⟨q2, q9⟩ := wQ_f hQ
    have q1 := dgQ_f q2
    rw [if_pos hQ, if_pos q2, if_pos q1]
    exact Or.inl ⟨rfl, _, _, _, rfl, by simp [upd_at], by simp [upd_at], by simp [upd_at], q9.imp (fun z => ⟨z.1, by simp [upd_at, z.2]⟩) (fun z => ⟨z.1, by simp [upd_at, z.2]⟩)⟩
theorem c290_d (hX : TX s l) (hT : TM m s l) (hp : p ≤ l) (hk : k + 3 < 240) (hc : nx s l p = 100) : CM x b m s l p k f := by
  have h1 : Int32.ofNat k + 1 = Int32.ofNat (k + 1) := i_add (b := 1)
  have h2 : Int32.ofNat k + 2 = Int32.ofNat (k + 2) := i_add (b := 2)
  have h3 : Int32.ofNat k + 3 = Int32.ofNat (k + 3) := i_add (b := 3)
  have x0 := ix (k := k) (d := 0) (by omega)
  have x1 := ix (k := k) (d := 1) (by omega)
  have x2 := ix (k := k) (d := 2) (by omega)
  have x3 := ix (k := k) (d := 3) (by omega)
  rw [Nat.add_zero] at x0
  have hq : ((false, p + 1) : Bool × Nat).2 ≤ l := nx_l (s := s) (p := p) (fun e => by rw [hc] at e; revert e; decide)
  have hh : hm s l p = 100 := hm_l (a := 100) hX (by omega) (by omega) hc
  have s98 : ((100 : Int32) = 98) = False := eq_false (by decide)
  have ho : ∀ j, j < 8 → ¬ j = 3 → ¬ (100 : Int32) = fl j := by decide +kernel
  refine ⟨(upd (upd (upd f k 100) (k + 1) (dgV s l 1 (nd s l 100 (nd s l 110 (nd s l 97 (nd s l 109 (nd s l 101 (false, p + 1)))))))) (k + 2) (hm s l (nd s l 32 (dgQ s l 1 (nd s l 100 (nd s l 110 (nd s l 97 (nd s l 109 (nd s l 101 (false, p + 1)))))))).2)), (kQ s l (nd s l 32 (dgQ s l 1 (nd s l 100 (nd s l 110 (nd s l 97 (nd s l 109 (nd s l 101 (false, p + 1))))))))), fun j hj => ?_, ?_, cmdr_of (c := 3) (by decide) (by rw [FF3 hc, rq_c (v := 101) (by decide), rq_c (v := 109) (by decide), rq_c (v := 97) (by decide), rq_c (v := 110) (by decide), rq_c (v := 100) (by decide), rq_d1, rq_c (v := 32) (by decide), rq_k]) (fun j hj h => ?_) (fun hQ => ?_)⟩
  · simp only [upd_at]
    repeat rw [if_neg (by omega)]
  · intro w n
    have eh := c283 (x := x) (n := n) (w := w) (b := b) (f := f) (q := (false, p)) hT hX.1 hp
    dsimp only at eh
    rw [hh] at eh
    have et := c288 (x := x) (n := n) (w := w) (b := b) (f := (upd f k 100)) hX hT hq hk
    simp only [csN, csm_i, csm_r, Nat.reduceAdd, Nat.reduceLeDiff, wdI, wdR, wdN, clM_0, clC_0, clC_1, clC_6, clC_8, true_or, or_true, i10, i01, ob_some, ob_map, cal_v, rvs_some, rvs_none, XO_at, cal_x, m290, r290_0, r290_1, r290_4, r290_5, r290_6, r290_7, r290_10, r290_11, r290_12, r290_15, r290_16, r290_19, r290_20, r290_21, r290_22, r290_23, r290_112, r290_113, r290_114, r290_117, r290_120, r290_121, r290_123, r290_125, r290_127, r290_130, r290_131, r290_134, r290_135, r290_136, r290_137, r290_138, r290_139, r290_142, r290_143, r290_144, r290_147, r290_148, r290_149, r290_150, r290_151, r290_152, r290_155, r290_156, r290_157, r290_160, r290_161, r290_162, r290_163, r290_164, r290_165, r290_168, r290_169, r290_172, r290_173, r290_174, r290_177, r290_180, r290_181, r290_182, r290_185, r290_188, r290_189, r290_191, r290_193, r290_195, r290_198, r290_199, r290_201, r290_204, r290_205, r290_208, r290_209, r290_210, r290_211, r290_212, r290_213, r290_216, r290_217, r290_220, r290_221, r290_223, r290_225, r290_227, r290_230, r290_231, r290_234, r290_235, r290_236, r290_237, r290_238, r290_241, r290_244, r290_245, r290_248, r290_250, r290_253, r290_254, r290_255, r290_258, r290_261, r290_262, r290_263, r290_266, r290_267, r290_268, r290_271, r290_272, r290_273, r290_276, r290_277, r290_278, r290_281, gM_0_15, gM_0_16, gM_0_17, pM_0_15, sM_9, MK_15, MK_p, i_s, MK_f, h1, h2, h3, x0, x1, x2, x3, Option.map_some, if_true, if_false, eh, s98, et]
  · have hge : ∀ q : Bool × Nat, q.2 ≤ (kQ s l q).2 := fun q => by
      unfold kQ
      split <;> simp
    exact FNo hj (by rw [hc]; exact ho j hj h) (Nat.le_trans (Nat.le_succ p) (Nat.le_trans (nd_ge (q := (false, p + 1))) (Nat.le_trans nd_ge (Nat.le_trans nd_ge (Nat.le_trans nd_ge (Nat.le_trans nd_ge (Nat.le_trans dgQ_ge (Nat.le_trans nd_ge (hge _)))))))))
  · obtain ⟨q3, q9⟩ := kQ_f hQ
    have q1 := nd_f q3
    have q8 := hm_nx (s := s) (l := l) (nx_l (s := s) (l := l) (fun e => by rw [e] at q9; exact absurd q9 (by decide)))
    rw [if_pos hQ, if_pos q1]
    exact Or.inr (Or.inr (Or.inr (Or.inl ⟨rfl, _, _, rfl, by simp [upd_at], by simp [upd_at], by rw [← q8]; simp [upd_at]⟩)))
theorem c290_fw (hX : TX s l) (hT : TM m s l) (hp : p ≤ l) (hk : k + 3 < 240) (hc : nx s l p = 102) (hd : nx s l (p + 1) = 108) : CM x b m s l p k f := by
  have h1 : Int32.ofNat k + 1 = Int32.ofNat (k + 1) := i_add (b := 1)
  have h2 : Int32.ofNat k + 2 = Int32.ofNat (k + 2) := i_add (b := 2)
  have h3 : Int32.ofNat k + 3 = Int32.ofNat (k + 3) := i_add (b := 3)
  have x0 := ix (k := k) (d := 0) (by omega)
  have x1 := ix (k := k) (d := 1) (by omega)
  have x2 := ix (k := k) (d := 2) (by omega)
  have x3 := ix (k := k) (d := 3) (by omega)
  rw [Nat.add_zero] at x0
  have hq : ((false, p + 1) : Bool × Nat).2 ≤ l := nx_l (s := s) (p := p) (fun e => by rw [hc] at e; revert e; decide)
  have hh : hm s l p = 102 := hm_l (a := 102) hX (by omega) (by omega) hc
  have s98 : ((102 : Int32) = 98) = False := eq_false (by decide)
  have s100 : ((102 : Int32) = 100) = False := eq_false (by decide)
  have ho : ∀ j, j < 8 → ¬ j = 2 → ¬ j = 4 → ¬ j = 5 → ¬ (102 : Int32) = fl j := by decide +kernel
  refine ⟨(upd (upd (upd f k 102) k 119) (k + 1) (dgV s l 1 (nd s l 119 (nd s l 111 (nd s l 108 (false, p + 1)))))), (dgQ s l 1 (nd s l 119 (nd s l 111 (nd s l 108 (false, p + 1))))), fun j hj => ?_, ?_, cmdr_of (c := 4) (by decide) (by rw [FF4 hc, rq_c (v := 108) (by decide), rq_c (v := 111) (by decide), rq_c (v := 119) (by decide), rq_d1, rq_nil]) (fun j hj h => ?_) (fun hQ => ?_)⟩
  · simp only [upd_at]
    repeat rw [if_neg (by omega)]
  · intro w n
    have eh := c283 (x := x) (n := n) (w := w) (b := b) (f := f) (q := (false, p)) hT hX.1 hp
    dsimp only at eh
    rw [hh] at eh
    have et := c289_w (x := x) (n := n) (w := w) (b := b) (f := (upd f k 102)) (q := (false, p + 1)) hX hT hq hk hd
    simp only [csN, csm_i, csm_r, Nat.reduceAdd, Nat.reduceLeDiff, wdI, wdR, wdN, clM_0, clC_0, clC_1, clC_6, clC_8, true_or, or_true, i10, i01, ob_some, ob_map, cal_v, rvs_some, rvs_none, XO_at, cal_x, m290, r290_0, r290_1, r290_4, r290_5, r290_6, r290_7, r290_10, r290_11, r290_12, r290_15, r290_16, r290_19, r290_20, r290_21, r290_22, r290_23, r290_112, r290_113, r290_114, r290_117, r290_120, r290_121, r290_123, r290_125, r290_127, r290_130, r290_131, r290_134, r290_135, r290_136, r290_137, r290_138, r290_139, r290_142, r290_143, r290_144, r290_147, r290_148, r290_149, r290_150, r290_151, r290_152, r290_155, r290_156, r290_157, r290_160, r290_161, r290_162, r290_163, r290_164, r290_165, r290_168, r290_169, r290_172, r290_173, r290_174, r290_177, r290_180, r290_181, r290_182, r290_185, r290_188, r290_189, r290_191, r290_193, r290_195, r290_198, r290_199, r290_201, r290_204, r290_205, r290_208, r290_209, r290_210, r290_211, r290_212, r290_213, r290_216, r290_217, r290_220, r290_221, r290_223, r290_225, r290_227, r290_230, r290_231, r290_234, r290_235, r290_236, r290_237, r290_238, r290_241, r290_244, r290_245, r290_248, r290_250, r290_253, r290_254, r290_255, r290_258, r290_261, r290_262, r290_263, r290_266, r290_267, r290_268, r290_271, r290_272, r290_273, r290_276, r290_277, r290_278, r290_281, gM_0_15, gM_0_16, gM_0_17, pM_0_15, sM_9, MK_15, MK_p, i_s, MK_f, h1, h2, h3, x0, x1, x2, x3, Option.map_some, if_true, if_false, eh, s98, s100, et]
  · have hge : p + 1 ≤ (dgQ s l 1 (nd s l 119 (nd s l 111 (nd s l 108 (false, p + 1))))).2 := Nat.le_trans (nd_ge (q := (false, p + 1))) (Nat.le_trans nd_ge (Nat.le_trans nd_ge dgQ_ge))
    by_cases j2 : j = 2
    · rw [j2, FF2 hc, rq_f, rd_n (by decide) (by rw [hd]; decide)]
      exact ⟨rfl, hge⟩
    · by_cases j5 : j = 5
      · rw [j5, FF5 hc, rq_f, rd_n (by decide) (by rw [hd]; decide)]
        exact ⟨rfl, hge⟩
      · exact FNo hj (by rw [hc]; exact ho j hj j2 h j5) (by omega)
  · rw [if_pos hQ]
    exact Or.inr (Or.inr (Or.inr (Or.inr (Or.inl ⟨rfl, _, rfl, by simp [upd_at], by simp [upd_at]⟩))))
theorem c290_fi (hX : TX s l) (hT : TM m s l) (hp : p ≤ l) (hk : k + 3 < 240) (hc : nx s l p = 102) (hd0 : nx s l (p + 1) = 105) (hd : nx s l (p + 2) = 108) : CM x b m s l p k f := by
  have h1 : Int32.ofNat k + 1 = Int32.ofNat (k + 1) := i_add (b := 1)
  have h2 : Int32.ofNat k + 2 = Int32.ofNat (k + 2) := i_add (b := 2)
  have h3 : Int32.ofNat k + 3 = Int32.ofNat (k + 3) := i_add (b := 3)
  have x0 := ix (k := k) (d := 0) (by omega)
  have x1 := ix (k := k) (d := 1) (by omega)
  have x2 := ix (k := k) (d := 2) (by omega)
  have x3 := ix (k := k) (d := 3) (by omega)
  rw [Nat.add_zero] at x0
  have hq : ((false, p + 1) : Bool × Nat).2 ≤ l := nx_l (s := s) (p := p) (fun e => by rw [hc] at e; revert e; decide)
  have hh : hm s l p = 102 := hm_l (a := 102) hX (by omega) (by omega) hc
  have s98 : ((102 : Int32) = 98) = False := eq_false (by decide)
  have s100 : ((102 : Int32) = 100) = False := eq_false (by decide)
  have ho : ∀ j, j < 8 → ¬ j = 2 → ¬ j = 4 → ¬ j = 5 → ¬ (102 : Int32) = fl j := by decide +kernel
  have hn : nd s l 105 (false, p + 1) = (false, p + 2) := nd_y hd0
  refine ⟨(upd (upd (upd (upd f k 102) k 105) (k + 1) (dgV s l 1 (nd s l 108 (nd s l 108 (nd s l 105 (false, p + 1)))))) (k + 2) (dgV s l 3 (dgQ s l 1 (nd s l 108 (nd s l 108 (nd s l 105 (false, p + 1))))))), (dgQ s l 3 (dgQ s l 1 (nd s l 108 (nd s l 108 (nd s l 105 (false, p + 1)))))), fun j hj => ?_, ?_, cmdr_of (c := 5) (by decide) (by rw [FF5 hc, rq_c (v := 105) (by decide), rq_c (v := 108) (by decide), rq_c (v := 108) (by decide), rq_d1, rq_d3, rq_nil]) (fun j hj h => ?_) (fun hQ => ?_)⟩
  · simp only [upd_at]
    repeat rw [if_neg (by omega)]
  · intro w n
    have eh := c283 (x := x) (n := n) (w := w) (b := b) (f := f) (q := (false, p)) hT hX.1 hp
    dsimp only at eh
    rw [hh] at eh
    have et := c289_i (x := x) (n := n) (w := w) (b := b) (f := (upd f k 102)) (q := (false, p + 1)) hX hT hq hk (by dsimp only; rw [hd0]; decide) (by rw [hn]) (by rw [hn]; exact hd)
    simp only [csN, csm_i, csm_r, Nat.reduceAdd, Nat.reduceLeDiff, wdI, wdR, wdN, clM_0, clC_0, clC_1, clC_6, clC_8, true_or, or_true, i10, i01, ob_some, ob_map, cal_v, rvs_some, rvs_none, XO_at, cal_x, m290, r290_0, r290_1, r290_4, r290_5, r290_6, r290_7, r290_10, r290_11, r290_12, r290_15, r290_16, r290_19, r290_20, r290_21, r290_22, r290_23, r290_112, r290_113, r290_114, r290_117, r290_120, r290_121, r290_123, r290_125, r290_127, r290_130, r290_131, r290_134, r290_135, r290_136, r290_137, r290_138, r290_139, r290_142, r290_143, r290_144, r290_147, r290_148, r290_149, r290_150, r290_151, r290_152, r290_155, r290_156, r290_157, r290_160, r290_161, r290_162, r290_163, r290_164, r290_165, r290_168, r290_169, r290_172, r290_173, r290_174, r290_177, r290_180, r290_181, r290_182, r290_185, r290_188, r290_189, r290_191, r290_193, r290_195, r290_198, r290_199, r290_201, r290_204, r290_205, r290_208, r290_209, r290_210, r290_211, r290_212, r290_213, r290_216, r290_217, r290_220, r290_221, r290_223, r290_225, r290_227, r290_230, r290_231, r290_234, r290_235, r290_236, r290_237, r290_238, r290_241, r290_244, r290_245, r290_248, r290_250, r290_253, r290_254, r290_255, r290_258, r290_261, r290_262, r290_263, r290_266, r290_267, r290_268, r290_271, r290_272, r290_273, r290_276, r290_277, r290_278, r290_281, gM_0_15, gM_0_16, gM_0_17, pM_0_15, sM_9, MK_15, MK_p, i_s, MK_f, h1, h2, h3, x0, x1, x2, x3, Option.map_some, if_true, if_false, eh, s98, s100, et]
  · have hge : p + 2 ≤ (dgQ s l 3 (dgQ s l 1 (nd s l 108 (nd s l 108 (nd s l 105 (false, p + 1)))))).2 := by
      rw [hn]
      exact Nat.le_trans (nd_ge (q := (false, p + 2))) (Nat.le_trans nd_ge (Nat.le_trans dgQ_ge dgQ_ge))
    by_cases j2 : j = 2
    · rw [j2, FF2 hc, rq_c (v := 105) (by decide), hn, rq_f, rd_n (by decide) (by rw [hd]; decide)]
      exact ⟨rfl, by rw [hn] at hge; exact hge⟩
    · by_cases j4 : j = 4
      · rw [j4, FF4 hc, rq_f, rd_n (by decide) (by rw [hd0]; decide)]
        exact ⟨rfl, by dsimp only; omega⟩
      · exact FNo hj (by rw [hc]; exact ho j hj j2 j4 h) (by omega)
  · have q1 := dgQ_f hQ
    rw [if_pos hQ, if_pos q1]
    exact Or.inr (Or.inr (Or.inr (Or.inr (Or.inr (Or.inl ⟨rfl, _, _, rfl, by simp [upd_at], by simp [upd_at], by simp [upd_at]⟩)))))
theorem c290_fx (hX : TX s l) (hT : TM m s l) (hp : p ≤ l) (hk : k + 3 < 240) (hc : nx s l p = 102) (hd0 : ¬ nx s l (p + 1) = 108) (hd : (nd s l 105 (false, p + 1)).1 = true ∨ ¬ nx s l (nd s l 105 (false, p + 1)).2 = 108) : CM x b m s l p k f := by
  have h1 : Int32.ofNat k + 1 = Int32.ofNat (k + 1) := i_add (b := 1)
  have h2 : Int32.ofNat k + 2 = Int32.ofNat (k + 2) := i_add (b := 2)
  have h3 : Int32.ofNat k + 3 = Int32.ofNat (k + 3) := i_add (b := 3)
  have x0 := ix (k := k) (d := 0) (by omega)
  have x1 := ix (k := k) (d := 1) (by omega)
  have x2 := ix (k := k) (d := 2) (by omega)
  have x3 := ix (k := k) (d := 3) (by omega)
  rw [Nat.add_zero] at x0
  have hq : ((false, p + 1) : Bool × Nat).2 ≤ l := nx_l (s := s) (p := p) (fun e => by rw [hc] at e; revert e; decide)
  have hh : hm s l p = 102 := hm_l (a := 102) hX (by omega) (by omega) hc
  have s98 : ((102 : Int32) = 98) = False := eq_false (by decide)
  have s100 : ((102 : Int32) = 100) = False := eq_false (by decide)
  have ho : ∀ j, j < 8 → ¬ j = 2 → ¬ j = 4 → ¬ j = 5 → ¬ (102 : Int32) = fl j := by decide +kernel
  refine ⟨(upd (upd (upd f k 102) (k + 1) (dgV s l 1 (nd s l 120 (nd s l 105 (false, p + 1))))) (k + 2) (dgV s l 1 (dgQ s l 1 (nd s l 120 (nd s l 105 (false, p + 1)))))), (dgQ s l 1 (dgQ s l 1 (nd s l 120 (nd s l 105 (false, p + 1))))), fun j hj => ?_, ?_, cmdr_of (c := 2) (by decide) (by rw [FF2 hc, rq_c (v := 105) (by decide), rq_c (v := 120) (by decide), rq_d1, rq_d1, rq_nil]) (fun j hj h => ?_) (fun hQ => ?_)⟩
  · simp only [upd_at]
    repeat rw [if_neg (by omega)]
  · intro w n
    have eh := c283 (x := x) (n := n) (w := w) (b := b) (f := f) (q := (false, p)) hT hX.1 hp
    dsimp only at eh
    rw [hh] at eh
    have et := c289_x (x := x) (n := n) (w := w) (b := b) (f := (upd f k 102)) (q := (false, p + 1)) hX hT hq hk hd0 hd
    simp only [csN, csm_i, csm_r, Nat.reduceAdd, Nat.reduceLeDiff, wdI, wdR, wdN, clM_0, clC_0, clC_1, clC_6, clC_8, true_or, or_true, i10, i01, ob_some, ob_map, cal_v, rvs_some, rvs_none, XO_at, cal_x, m290, r290_0, r290_1, r290_4, r290_5, r290_6, r290_7, r290_10, r290_11, r290_12, r290_15, r290_16, r290_19, r290_20, r290_21, r290_22, r290_23, r290_112, r290_113, r290_114, r290_117, r290_120, r290_121, r290_123, r290_125, r290_127, r290_130, r290_131, r290_134, r290_135, r290_136, r290_137, r290_138, r290_139, r290_142, r290_143, r290_144, r290_147, r290_148, r290_149, r290_150, r290_151, r290_152, r290_155, r290_156, r290_157, r290_160, r290_161, r290_162, r290_163, r290_164, r290_165, r290_168, r290_169, r290_172, r290_173, r290_174, r290_177, r290_180, r290_181, r290_182, r290_185, r290_188, r290_189, r290_191, r290_193, r290_195, r290_198, r290_199, r290_201, r290_204, r290_205, r290_208, r290_209, r290_210, r290_211, r290_212, r290_213, r290_216, r290_217, r290_220, r290_221, r290_223, r290_225, r290_227, r290_230, r290_231, r290_234, r290_235, r290_236, r290_237, r290_238, r290_241, r290_244, r290_245, r290_248, r290_250, r290_253, r290_254, r290_255, r290_258, r290_261, r290_262, r290_263, r290_266, r290_267, r290_268, r290_271, r290_272, r290_273, r290_276, r290_277, r290_278, r290_281, gM_0_15, gM_0_16, gM_0_17, pM_0_15, sM_9, MK_15, MK_p, i_s, MK_f, h1, h2, h3, x0, x1, x2, x3, Option.map_some, if_true, if_false, eh, s98, s100, et]
  · have hge : (nd s l 105 (false, p + 1)).2 ≤ (dgQ s l 1 (dgQ s l 1 (nd s l 120 (nd s l 105 (false, p + 1))))).2 := Nat.le_trans nd_ge (Nat.le_trans dgQ_ge dgQ_ge)
    have hg1 : p + 1 ≤ (nd s l 105 (false, p + 1)).2 := nd_ge (q := (false, p + 1))
    by_cases j5 : j = 5
    · rw [j5, FF5 hc, rq_c (v := 105) (by decide)]
      obtain ⟨r, hr⟩ : ∃ r, r = nd s l 105 (false, p + 1) := ⟨_, rfl⟩
      rw [← hr] at hge hd ⊢
      obtain ⟨c, r⟩ := r
      cases c with
      | true =>
        rw [rq_t]
        exact ⟨rfl, hge⟩
      | false =>
        rw [rq_f, rd_n (by decide) (hd.resolve_left Bool.false_ne_true)]
        exact ⟨rfl, hge⟩
    · by_cases j4 : j = 4
      · rw [j4, FF4 hc, rq_f, rd_n (by decide) hd0]
        exact ⟨rfl, by dsimp only; omega⟩
      · exact FNo hj (by rw [hc]; exact ho j hj h j4 j5) (by omega)
  · have q1 := dgQ_f hQ
    rw [if_pos hQ, if_pos q1]
    exact Or.inr (Or.inr (Or.inl ⟨rfl, _, _, rfl, by simp [upd_at], by simp [upd_at], by simp [upd_at]⟩))
theorem c290_o (hX : TX s l) (hT : TM m s l) (hp : p ≤ l) (hk : k + 3 < 240) (hc : ∀ j, j < 8 → ¬ nx s l p = fl j) : CM x b m s l p k f := by
  have h1 : Int32.ofNat k + 1 = Int32.ofNat (k + 1) := i_add (b := 1)
  have h2 : Int32.ofNat k + 2 = Int32.ofNat (k + 2) := i_add (b := 2)
  have h3 : Int32.ofNat k + 3 = Int32.ofNat (k + 3) := i_add (b := 3)
  have x0 := ix (k := k) (d := 0) (by omega)
  have x1 := ix (k := k) (d := 1) (by omega)
  have x2 := ix (k := k) (d := 2) (by omega)
  have x3 := ix (k := k) (d := 3) (by omega)
  rw [Nat.add_zero] at x0
  have s98 : ¬ hm s l p = 98 := fun z => hc 0 (by decide) ((hm_eq (a := 98) hX (by omega) (by omega)).mp z)
  have s100 : ¬ hm s l p = 100 := fun z => hc 3 (by decide) ((hm_eq (a := 100) hX (by omega) (by omega)).mp z)
  have s102 : ¬ hm s l p = 102 := fun z => hc 2 (by decide) ((hm_eq (a := 102) hX (by omega) (by omega)).mp z)
  have s104 : ¬ hm s l p = 104 := fun z => hc 7 (by decide) ((hm_eq (a := 104) hX (by omega) (by omega)).mp z)
  have s108 : ¬ hm s l p = 108 := fun z => hc 6 (by decide) ((hm_eq (a := 108) hX (by omega) (by omega)).mp z)
  have s116 : ¬ hm s l p = 116 := fun z => hc 1 (by decide) ((hm_eq (a := 116) hX (by omega) (by omega)).mp z)
  have k1 : (1 : Int32) = 0 ∨ (1 : Int32) = 1 := Or.inr rfl
  have p1 : ∀ (w : PW) (s : NS), pfd (setM w b s) 7 16 b (.int 1) = some (setM w b (us s 20 16 1)) := fun w s => pM_0_16 k1
  have e0 : Int32.ofNat (p + 1) - 1 = Int32.ofNat p := i_subN (u := p + 1) (k := 1) (by omega)
  refine ⟨upd f k (hm s l p), (true, p), fun j hj => ?_, ?_, ?_⟩
  · simp only [upd_at]
    rw [if_neg (by omega)]
  · intro w n
    have eh := c283 (x := x) (n := n) (w := w) (b := b) (f := f) (q := (false, p)) hT hX.1 hp
    dsimp only at eh
    simp only [csN, csm_i, csm_r, Nat.reduceAdd, Nat.reduceLeDiff, wdI, wdR, wdN, clM_0, clC_0, clC_1, clC_6, clC_8, true_or, or_true, i10, i01, ob_some, ob_map, cal_v, rvs_some, rvs_none, XO_at, cal_x, m290, r290_0, r290_1, r290_4, r290_5, r290_6, r290_7, r290_10, r290_11, r290_12, r290_15, r290_16, r290_19, r290_20, r290_21, r290_22, r290_23, r290_112, r290_113, r290_114, r290_117, r290_120, r290_121, r290_123, r290_125, r290_127, r290_130, r290_131, r290_134, r290_135, r290_136, r290_137, r290_138, r290_139, r290_142, r290_143, r290_144, r290_147, r290_148, r290_149, r290_150, r290_151, r290_152, r290_155, r290_156, r290_157, r290_160, r290_161, r290_162, r290_163, r290_164, r290_165, r290_168, r290_169, r290_172, r290_173, r290_174, r290_177, r290_180, r290_181, r290_182, r290_185, r290_188, r290_189, r290_191, r290_193, r290_195, r290_198, r290_199, r290_201, r290_204, r290_205, r290_208, r290_209, r290_210, r290_211, r290_212, r290_213, r290_216, r290_217, r290_220, r290_221, r290_223, r290_225, r290_227, r290_230, r290_231, r290_234, r290_235, r290_236, r290_237, r290_238, r290_241, r290_244, r290_245, r290_248, r290_250, r290_253, r290_254, r290_255, r290_258, r290_261, r290_262, r290_263, r290_266, r290_267, r290_268, r290_271, r290_272, r290_273, r290_276, r290_277, r290_278, r290_281, gM_0_15, gM_0_16, gM_0_17, pM_0_15, sM_9, MK_15, MK_p, i_s, MK_f, h1, h2, h3, x0, x1, x2, x3, Option.map_some, if_true, if_false, eh, p1, MK_w1, e0, s98, s100, s102, s104, s108, s116]
  · rw [try_none (fun j _ hj => FNo (Q := (true, p)) (by omega) (hc j (by omega)) (Nat.le_refl _))]
    exact rfl
theorem c290 (hX : TX s l) (hT : TM m s l) (hp : p ≤ l) (hk : k + 3 < 240) : CM x b m s l p k f := by
  by_cases h98 : nx s l p = 98
  · exact c290_b hX hT hp hk h98
  by_cases h100 : nx s l p = 100
  · exact c290_d hX hT hp hk h100
  by_cases h104 : nx s l p = 104
  · exact c290_h hX hT hp hk h104
  by_cases h108 : nx s l p = 108
  · exact c290_l hX hT hp hk h108
  by_cases h116 : nx s l p = 116
  · exact c290_t hX hT hp hk h116
  by_cases h102 : nx s l p = 102
  · by_cases d1 : nx s l (p + 1) = 108
    · exact c290_fw hX hT hp hk h102 d1
    · by_cases d2 : nx s l (p + 1) = 105
      · by_cases d3 : nx s l (p + 2) = 108
        · exact c290_fi hX hT hp hk h102 d2 d3
        · exact c290_fx hX hT hp hk h102 d1 (Or.inr (by rw [nd_y d2]; exact d3))
      · exact c290_fx hX hT hp hk h102 d1 (Or.inl (by rw [nd_n d2]))
  · refine c290_o hX hT hp hk (fun j hj => ?_)
    have : ∀ j, j < 8 → fl j = 98 ∨ fl j = 100 ∨ fl j = 104 ∨ fl j = 108 ∨ fl j = 116 ∨ fl j = 102 := by decide +kernel
    rcases this j hj with e | e | e | e | e | e <;> rw [e] <;> assumption
end CMD
