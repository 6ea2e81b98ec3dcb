/-! THE STRING BUILDER: a row of bytes that grows once -/
section SBD
set_option maxRecDepth 20000
variable {x : SX} {n bp cap cnt : Nat} {w : PW} {ml : Int32} {T : Nat → Int32} {c : Int32}
def sbo (bp : Nat) (ml cnt : Int32) : PE := .inr (8, [.ref bp, .int 0, .int ml, .int cnt])
/-- n: the next free place; bp: where the bytes lie; cap: how many; cnt: how many count; T: what they are -/
def SBP (w : PW) (n bp cap cnt : Nat) (ml : Int32) (T : Nat → Int32) : Prop :=
  w 225 = some (sbo bp ml (Int32.ofNat cnt)) ∧ (ml = 0 ∨ ml = 1) ∧ (∃ f, w bp = some (.inl (2, cap, .inl f)) ∧ (∀ j, CH (f j)) ∧ ∀ j, j < cnt → f j = T j) ∧ (bp = 226 ∨ 239 ≤ bp) ∧ bp < n ∧ 239 ≤ n ∧ (cap = 16 ∨ cap = 34) ∧ cnt ≤ cap
def FB (w w' : PW) : Prop := ∀ i, i < 225 ∨ (227 ≤ i ∧ i < 239) → w' i = w i
def GR (n cap n' cap' : Nat) : Prop := (n' = n ∧ cap' = cap) ∨ (n' = n + 1 ∧ cap = 16 ∧ cap' = 34)
theorem GR_t {n1 c1 n2 c2 n3 c3 : Nat} (h1 : GR n1 c1 n2 c2) (h2 : GR n2 c2 n3 c3) : GR n1 c1 n3 c3 := by
  unfold GR at *
  omega
theorem FB_t {w1 w2 w3 : PW} (h1 : FB w1 w2) (h2 : FB w2 w3) : FB w1 w3 := fun i hi => (h2 i hi).trans (h1 i hi)
theorem FB_r : FB w w := fun _ _ => rfl
theorem SB_g (h : SBP w n bp cap cnt ml T) : gfd w 8 0 225 = some (.ref bp) ∧ gfd w 8 1 225 = some (.int 0) ∧ gfd w 8 3 225 = some (.int (Int32.ofNat cnt)) ∧ clo w 225 = some 8 ∧ aln x w 0 bp = some (Int32.ofNat cap) := by
  obtain ⟨h1, h2, ⟨f, h3, h4⟩, h5⟩ := h
  have e : ∀ k, gfd w 8 k 225 = [Value.ref bp, .int 0, .int ml, .int (Int32.ofNat cnt)][k]? := fun k => gfd_at h1 (by decide)
  exact ⟨by rw [e]; rfl, by rw [e]; rfl, by rw [e]; rfl, clo_of h1, aln_at (by decide) h3⟩
theorem pf_0 {b2 : Nat} {cn : Int32} (h : w 225 = some (sbo bp ml cn)) : pfd w 8 0 225 (.ref b2) = some (pupd w 225 (sbo b2 ml cn)) := by
  rw [pfd_at (ty := .array .byte) h (by decide +kernel) ⟨by simp only [List.length_cons, List.length_nil]; decide, rfl⟩]
  rfl
theorem pf_2 {cn : Int32} (h : w 225 = some (sbo bp ml cn)) : pfd w 8 2 225 (.int 1) = some (pupd w 225 (sbo bp 1 cn)) := by
  rw [pfd_at (ty := .boolean) h (by decide +kernel) ⟨by simp only [List.length_cons, List.length_nil]; decide, rfl⟩]
  rfl
theorem pf_3 {cn v : Int32} (h : w 225 = some (sbo bp ml cn)) : pfd w 8 3 225 (.int v) = some (pupd w 225 (sbo bp ml v)) := by
  rw [pfd_at (ty := .int) h (by decide +kernel) ⟨by simp only [List.length_cons, List.length_nil]; decide, rfl⟩]
  rfl
theorem dif_all : ∀ k, k < 40 → ∀ c, c < 40 → (decide (0 < Int32.ofNat k - Int32.ofNat c)) = decide (c < k) := by decide +kernel
theorem dif_p {k c : Nat} (hk : k < 40) (hc : c < 40) : (0 < Int32.ofNat k - Int32.ofNat c) = (c < k) := by
  have := dif_all k hk c hc
  by_cases h : c < k
  · rw [decide_eq_true h] at this
    exact propext ⟨fun _ => h, fun _ => of_decide_eq_true this⟩
  · rw [decide_eq_false h] at this
    exact propext ⟨fun z => absurd z (of_decide_eq_false this), fun z => absurd z h⟩
theorem sl0 {a : Nat} (h : a < 100) : Int32.ofNat a <<< (0 &&& 31 : Int32) = Int32.ofNat a := by
  have : ∀ a, a < 100 → Int32.ofNat a <<< (0 &&& 31 : Int32) = Int32.ofNat a := by decide +kernel
  exact this a h
theorem fit_all : ∀ a, a < 128 → fits (tyT 2) (.int (Int32.ofNat a)) = true := by decide +kernel
theorem fit_c (h : CH c) : fits (tyT 2) (.int c) = true := by
  obtain ⟨a, ha, rfl⟩ := h
  exact fit_all a ha
theorem c31 {f : Nat → Int32} (hb : w bp = some (.inl (2, 16, .inl f))) (hf : ∀ j, CH (f j)) (hn : ¬ bp = n) : RM x 31 [.ref bp, .int 34] w n = some (.inl (some (.ref n)), pupd w n (.inl (2, 34, .inl (va_cpy f (fun _ => 0) 0 0 16))), n + 1) := by
  have g1 : aln x w 0 bp = some (Int32.ofNat 16) := aln_at (by decide) hb
  have hb2 : pupd w n (zA 2 34) bp = some (.inl (2, 16, .inl f)) := by rw [pupd_ne hn]; exact hb
  have g2 : aln x (pupd w n (zA 2 34)) 0 bp = some (Int32.ofNat 16) := aln_at (by decide) hb2
  have n1 : ¬ (34 : Int32) = Int32.ofNat 16 := by decide
  have n2 : ¬ (34 : Int32) < 0 := by decide
  have n3 : (34 : Int32).toNatClampNeg = 34 := by decide
  have n4 : (34 : Nat) ≤ 1000 := by decide
  have em : (if (34 : Int32) < Int32.ofNat 16 then (34 : Int32) else Int32.ofNat 16) = Int32.ofNat 16 := by decide
  have e15 := r31_15 (x := x) (n := n) (w := w) (v := 34) (N := 34) (lv := [some (.ref bp), some (.int 34), none]) (st := []) n2 n3 n4
  simp only [csN, csm_i, csm_r, Nat.reduceAdd, Nat.reduceLeDiff, wdI, wdR, wdN, clM_0, clC_0, clC_1, clC_6, clC_8, true_or, or_true, i10, i01, ob_some, ob_map, cal_v, rvs_some, rvs_none, XO_at, cal_x, m31, r31_0, r31_1, r31_2, r31_3, r31_6, r31_13, r31_14, r31_17, r31_18, r31_19, r31_20, r31_21, r31_22, r31_23, r31_24, r31_25, r31_31, r31_32, g1, g2, n1, e15, em, if_false]
  have k := r31_28 (x := x) (n := n + 1) (w := pupd w n (zA 2 34)) (a0 := bp) (a1 := n) (t := 2) (n0 := 16) (n1 := 34) (sp := 0) (dp := 0) (v := Int32.ofNat 16) (f0 := f) (f1 := fun _ => 0) (st := []) (lv := [some (.ref bp), some (.int 34), some (.ref n)]) hb2 (pupd_same _ _ _) (by decide) (by decide) (by decide) (by decide) (by decide) (by decide) (by decide) (fun i _ => by
    have := fit_c (hf (0 + i))
    exact this)
  rw [k, pupd_pupd]
  simp only [csN, csm_i, csm_r, Nat.reduceAdd, Nat.reduceLeDiff, wdI, wdR, wdN, clM_0, clC_0, clC_1, clC_6, clC_8, true_or, or_true, i10, i01, ob_some, ob_map, cal_v, rvs_some, rvs_none, XO_at, cal_x, m31, r31_0, r31_1, r31_2, r31_3, r31_6, r31_13, r31_14, r31_15, r31_17, r31_18, r31_19, r31_20, r31_21, r31_22, r31_23, r31_24, r31_25, r31_31, r31_32]
  rfl
theorem c32 {k : Nat} (h1 : 16 < k) (h2 : k ≤ 27) : RM x 32 [.int (Int32.ofNat 16), .int (Int32.ofNat k - Int32.ofNat 16), .int (Int32.ofNat 16 + 2)] w n = some (.inl (some (.int 34)), w, n) := by
  have e1 : (if Int32.ofNat k - Int32.ofNat 16 < Int32.ofNat 16 + 2 then Int32.ofNat 16 + 2 else Int32.ofNat k - Int32.ofNat 16) = 18 := by
    have : ∀ k, k < 28 → 16 < k → (if Int32.ofNat k - Int32.ofNat 16 < Int32.ofNat 16 + 2 then Int32.ofNat 16 + 2 else Int32.ofNat k - Int32.ofNat 16) = 18 := by decide +kernel
    exact this k (by omega) h1
  have e2 : Int32.ofNat 16 + 18 = 34 := by decide
  have n1 : (0 : Int32) < 34 := by decide
  have n2 : ¬ (2147483639 : Int32) < 34 := by decide
  simp only [csN, csm_i, csm_r, Nat.reduceAdd, Nat.reduceLeDiff, wdI, wdR, wdN, clM_0, clC_0, clC_1, clC_6, clC_8, true_or, or_true, i10, i01, ob_some, ob_map, cal_v, rvs_some, rvs_none, XO_at, cal_x, m32, r32_0, r32_1, r32_2, r32_3, r32_6, r32_7, r32_8, r32_9, r32_10, r32_13, r32_14, r32_16, r32_19, r32_20, r32_21, r32_22, r32_26, e1, e2, n1, n2, if_true, if_false]
theorem c3 {k : Nat} (h : SBP w n bp 16 cnt ml T) (h1 : 16 < k) (h2 : k ≤ 27) : RM x 3 [.ref 225, .int (Int32.ofNat k)] w n = some (.inl (some (.int 34)), w, n) := by
  obtain ⟨g0, g1, g3, -, gn⟩ := SB_g (x := x) h
  have s1 := sl0 (a := k) (by omega)
  have s2 : (2 : Int32) <<< (0 &&& 31 : Int32) = 2 := by decide
  have s3 : (34 : Int32) >>> (0 &&& 31 : Int32) = 34 := by decide
  have e := c32 (x := x) (n := n) (w := w) h1 h2
  have n1 : ¬ (34 : Int32) = 2147483647 := by decide
  simp only [csN, csm_i, csm_r, Nat.reduceAdd, Nat.reduceLeDiff, wdI, wdR, wdN, clM_0, clC_0, clC_1, clC_6, clC_8, true_or, or_true, i10, i01, ob_some, ob_map, cal_v, rvs_some, rvs_none, XO_at, cal_x, m3, r3_0, r3_1, r3_4, r3_5, r3_6, r3_7, r3_8, r3_11, r3_12, r3_13, r3_14, r3_15, r3_16, r3_18, r3_19, r3_21, r3_22, r3_23, r3_24, r3_27, r3_28, r3_29, r3_32, r3_34, r3_36, r3_38, r3_44, r3_51, r3_53, r3_54, r3_57, r3_58, g0, g1, gn, s1, s2, e, n1, if_false, s3]
theorem c2 {k : Nat} (h : SBP w n bp cap cnt ml T) (hk : k ≤ 27) : ∃ w' n' bp' cap', RM x 2 [.ref 225, .int (Int32.ofNat k)] w n = some (.inl none, w', n') ∧ SBP w' n' bp' cap' cnt ml T ∧ FB w w' ∧ GR n cap n' cap' ∧ k ≤ cap' := by
  obtain ⟨g0, g1, g3, c225, gn⟩ := SB_g (x := x) h
  have hcap := h.2.2.2.2.2.2.1
  have s1 := sh0 (a := cap) (by omega)
  have d := dif_p (k := k) (c := cap) (by omega) (by omega)
  by_cases hc : cap < k
  · obtain rfl : cap = 16 := by omega
    have n1 : 0 < Int32.ofNat k - Int32.ofNat 16 := by rw [d]; exact hc
    have e3 := c3 (x := x) h hc hk
    obtain ⟨h1, h2, ⟨f, h3, h4, h5⟩, h6, h7, h8, h9, h10⟩ := h
    have e31 := c31 (x := x) (n := n) (w := w) (bp := bp) h3 h4 (by omega)
    have s2 : (34 : Int32) <<< (0 &&& 31 : Int32) = 34 := by decide
    have hw1 : pupd w n (.inl (2, 34, .inl (va_cpy f (fun _ => 0) 0 0 16))) 225 = some (sbo bp ml (Int32.ofNat cnt)) := by rw [pupd_ne (by omega)]; exact h1
    have p0 := pf_0 (b2 := n) hw1
    refine ⟨pupd (pupd w n (.inl (2, 34, .inl (va_cpy f (fun _ => 0) 0 0 16)))) 225 (sbo n ml (Int32.ofNat cnt)), n + 1, n, 34, ?_, ⟨pupd_same _ _ _, h2, ⟨va_cpy f (fun _ => 0) 0 0 16, by rw [pupd_ne (by omega)]; exact pupd_same _ _ _, fun j => ?_, fun j hj => ?_⟩, Or.inr h8, by omega, by omega, Or.inr rfl, by omega⟩, fun i hi => by rw [pupd_ne (by omega), pupd_ne (by omega)], Or.inr ⟨rfl, rfl, rfl⟩, by omega⟩
    · simp only [csN, csm_i, csm_r, Nat.reduceAdd, Nat.reduceLeDiff, wdI, wdR, wdN, clM_0, clC_0, clC_1, clC_6, clC_8, true_or, or_true, i10, i01, ob_some, ob_map, cal_v, rvs_some, rvs_none, XO_at, cal_x, m2, r2_0, r2_1, r2_4, r2_5, r2_6, r2_9, r2_10, r2_11, r2_12, r2_13, r2_14, r2_17, r2_18, r2_19, r2_22, r2_23, r2_24, r2_27, r2_28, r2_31, r2_32, r2_35, r2_38, g0, g1, gn, s1, n1, if_true, c225, e3, s2, e31, p0]
    · unfold va_cpy
      split
      · exact h4 _
      · exact ch_0
    · unfold va_cpy
      rw [if_pos (by omega), show 0 + (j - 0) = j by omega]
      exact h5 j hj
  · have n1 : ¬ 0 < Int32.ofNat k - Int32.ofNat cap := by rw [d]; exact hc
    refine ⟨w, n, bp, cap, ?_, h, FB_r, Or.inl ⟨rfl, rfl⟩, by omega⟩
    simp only [csN, csm_i, csm_r, Nat.reduceAdd, Nat.reduceLeDiff, wdI, wdR, wdN, clM_0, clC_0, clC_1, clC_6, clC_8, true_or, or_true, i10, i01, ob_some, ob_map, cal_v, rvs_some, rvs_none, XO_at, cal_x, m2, r2_0, r2_1, r2_4, r2_5, r2_6, r2_9, r2_10, r2_11, r2_12, r2_13, r2_14, r2_17, r2_18, r2_19, r2_22, r2_23, r2_24, r2_27, r2_28, r2_31, r2_32, r2_35, r2_38, g0, g1, gn, s1, n1, if_false]
theorem c8 (h : SBP w n bp cap cnt ml T) : RM x 8 [.ref 225] w n = some (.inl (some (.int 1)), w, n) := by
  obtain ⟨g0, g1, g3, c225, gn⟩ := SB_g (x := x) h
  simp only [csN, csm_i, csm_r, Nat.reduceAdd, Nat.reduceLeDiff, wdI, wdR, wdN, clM_0, clC_0, clC_1, clC_6, clC_8, true_or, or_true, i10, i01, ob_some, ob_map, cal_v, rvs_some, rvs_none, XO_at, cal_x, m8, r8_0, r8_3, r8_6, r8_7, r8_10, r8_13, r8_14, r8_17, r8_18, g1, if_true, if_false]
theorem nb_all : ∀ a, a < 128 → vp_nar .byte (Int32.ofNat a) = Int32.ofNat a := by decide +kernel
theorem nb_c (h : CH c) : vp_nar .byte c = c := by
  obtain ⟨a, ha, rfl⟩ := h
  exact nb_all a ha
/-- a character is written at a place -/
theorem SB_st {i : Nat} {f : Nat → Int32} (hb : w bp = some (.inl (2, cap, .inl f))) (hi : i < cap) (hc : cap ≤ 34) : ast 2 w bp (Int32.ofNat i) c = some (pupd w bp (.inl (2, cap, .inl (upd f i c)))) := by
  rw [ast_at hb, fin_nat hi (by omega)]
  rfl
theorem CH_u {f : Nat → Int32} {i : Nat} (h : ∀ j, CH (f j)) (hc : CH c) : ∀ j, CH (upd f i c j) := fun j => by
  rw [upd_at]
  split
  · exact hc
  · exact h j
theorem c21 (h : SBP w n bp cap cnt ml T) (hcnt : cnt < 27) (hc : CH c) : ∃ w' n' bp' cap', RM x 21 [.ref 225, .int c] w n = some (.inl (some (.ref 225)), w', n') ∧ SBP w' n' bp' cap' (cnt + 1) ml (upd T cnt c) ∧ FB w w' ∧ GR n cap n' cap' := by
  obtain ⟨g0, g1, g3, c225, gn⟩ := SB_g (x := x) h
  obtain ⟨w1, n1, b1, cp, e2, h', hF, hG, hk⟩ := c2 (x := x) (k := cnt + 1) h (by omega)
  obtain ⟨k0, k1, k3, k225, kn⟩ := SB_g (x := x) h'
  have e8 := c8 (x := x) h'
  obtain ⟨h1, h2, ⟨f, h3, h4, h5⟩, h6, h7, h8, h9, h10⟩ := h'
  have p3 := pf_3 (v := Int32.ofNat (cnt + 1)) h1
  have hb2 : pupd w1 225 (sbo b1 ml (Int32.ofNat (cnt + 1))) b1 = some (.inl (2, cp, .inl f)) := by rw [pupd_ne (by omega)]; exact h3
  have st := SB_st (i := cnt) (c := c) hb2 (by omega) (by omega)
  obtain ⟨q1, -, -, q4, q5, q6⟩ := ch_f hc
  have q7 := nb_c hc
  have e27 : RM x 27 [.int c] w1 n1 = some (.inl (some (.int 1)), w1, n1) := by
    simp only [csN, csm_i, csm_r, Nat.reduceAdd, Nat.reduceLeDiff, wdI, wdR, wdN, clM_0, clC_0, clC_1, clC_6, clC_8, true_or, or_true, i10, i01, ob_some, ob_map, cal_v, rvs_some, rvs_none, XO_at, cal_x, m27, r27_0, r27_1, r27_4, r27_7, r27_8, r27_11, r27_12, q6, if_false]
  have e6 : RM x 6 [.ref 225, .int c] w n = some (.inl (some (.ref 225)), pupd (pupd w1 225 (sbo b1 ml (Int32.ofNat (cnt + 1)))) b1 (.inl (2, cp, .inl (upd f cnt c))), n1) := by
    simp only [csN, csm_i, csm_r, Nat.reduceAdd, Nat.reduceLeDiff, wdI, wdR, wdN, clM_0, clC_0, clC_1, clC_6, clC_8, true_or, or_true, i10, i01, ob_some, ob_map, cal_v, rvs_some, rvs_none, XO_at, cal_x, m6, r6_0, r6_1, r6_2, r6_5, r6_6, r6_7, r6_10, r6_11, r6_14, r6_17, r6_18, r6_21, r6_24, r6_25, r6_28, r6_29, r6_30, r6_33, r6_34, r6_35, r6_36, r6_39, r6_40, r6_41, r6_42, r6_45, r6_46, r6_49, r6_52, r6_56, r6_57, r6_60, r6_61, r6_62, r6_65, r6_66, r6_67, r6_68, r6_71, r6_75, r6_76, g3, c225, i_s, e2, k225, e8, if_false, e27, k0, k3, p3, q4, q7, st]
  refine ⟨pupd (pupd w1 225 (sbo b1 ml (Int32.ofNat (cnt + 1)))) b1 (.inl (2, cp, .inl (upd f cnt c))), n1, b1, cp, ?_, ⟨by rw [pupd_ne (by omega)]; exact pupd_same _ _ _, h2, ⟨upd f cnt c, pupd_same _ _ _, CH_u h4 hc, fun j hj => ?_⟩, h6, h7, h8, h9, by omega⟩, fun i hi => ?_, hG⟩
  · simp only [csN, csm_i, csm_r, Nat.reduceAdd, Nat.reduceLeDiff, wdI, wdR, wdN, clM_0, clC_0, clC_1, clC_6, clC_8, true_or, or_true, i10, i01, ob_some, ob_map, cal_v, rvs_some, rvs_none, XO_at, cal_x, m21, r21_0, r21_1, r21_2, r21_5, r21_6, r21_7, c225, e6]
  · rw [upd_at, upd_at]
    by_cases hj2 : j = cnt
    · rw [if_pos hj2, if_pos hj2]
    · rw [if_neg hj2, if_neg hj2]; exact h5 j (by omega)
  · rw [pupd_ne (by omega), pupd_ne (by omega)]
    exact hF i hi
theorem num_all : ∀ a, a < 100 → (¬ Int32.ofNat a < 0 ∧ (decide ((-10 : Int32) < -Int32.ofNat a)) = decide (a < 10) ∧ (-100 : Int32) < -Int32.ofNat a ∧ (decide (-Int32.ofNat a < (-9 : Int32))) = !decide (a < 10) ∧ -(-Int32.ofNat a) = Int32.ofNat a) := by decide +kernel
def szI (a : Nat) : Nat := if a < 10 then 1 else 2
theorem c10 {a : Nat} (ha : a < 100) : RM x 10 [.int (Int32.ofNat a)] w n = some (.inl (some (.int (Int32.ofNat (szI a)))), w, n) := by
  obtain ⟨n0, n1, n2, -, -⟩ := num_all a ha
  have z1 : (1 : Int32) < 10 := by decide
  have z2 : (1 + 1 : Int32) < 10 := by decide
  have z3 : (10 : Int32) * (-10) = -100 := by decide
  unfold szI
  by_cases h : a < 10
  · have n1' : (-10 : Int32) < -Int32.ofNat a := of_decide_eq_true (n1.trans (decide_eq_true h))
    rw [if_pos h]
    simp only [csN, csm_i, csm_r, Nat.reduceAdd, Nat.reduceLeDiff, wdI, wdR, wdN, clM_0, clC_0, clC_1, clC_6, clC_8, true_or, or_true, i10, i01, ob_some, ob_map, cal_v, rvs_some, rvs_none, XO_at, cal_x, m10, r10_0, r10_1, r10_2, r10_3, r10_6, r10_7, r10_8, r10_9, r10_10, r10_11, r10_13, r10_14, r10_15, r10_16, r10_17, r10_19, r10_22, r10_23, r10_24, r10_27, r10_28, r10_29, r10_30, r10_31, r10_33, r10_34, r10_35, r10_36, r10_39, r10_42, r10_44, r10_45, r10_46, n0, n1', z1, ↓reduceIte]
    rfl
  · have n1' : ¬ (-10 : Int32) < -Int32.ofNat a := of_decide_eq_false (n1.trans (decide_eq_false h))
    rw [if_neg h]
    simp only [csN, csm_i, csm_r, Nat.reduceAdd, Nat.reduceLeDiff, wdI, wdR, wdN, clM_0, clC_0, clC_1, clC_6, clC_8, true_or, or_true, i10, i01, ob_some, ob_map, cal_v, rvs_some, rvs_none, XO_at, cal_x, m10, r10_0, r10_1, r10_2, r10_3, r10_6, r10_7, r10_8, r10_9, r10_10, r10_11, r10_13, r10_14, r10_15, r10_16, r10_17, r10_19, r10_22, r10_23, r10_24, r10_27, r10_28, r10_29, r10_30, r10_31, r10_33, r10_34, r10_35, r10_36, r10_39, r10_42, r10_44, r10_45, r10_46, n0, n1', z1, z2, z3, n2, ↓reduceIte]
    rfl
theorem dg_l7 {a : Nat} (ha : a < 100) : ald 2 x w 1 7 (Int32.ofNat a) = some (Int32.ofNat (48 + a % 10)) := by
  unfold ald rowI
  rw [if_pos rfl, show extA x 7 = some (2, 100, fun j => Int32.ofNat (48 + j % 10)) from rfl]
  dsimp only
  rw [if_pos rfl, fin_nat ha (by omega)]
  rfl
theorem dg_l8 {a : Nat} (ha : a < 100) : ald 2 x w 1 8 (Int32.ofNat a) = some (Int32.ofNat (48 + a / 10)) := by
  unfold ald rowI
  rw [if_pos rfl, show extA x 8 = some (2, 100, fun j => Int32.ofNat (48 + j / 10)) from rfl]
  dsimp only
  rw [if_pos rfl, fin_nat ha (by omega)]
  rfl
/-- the text with a number behind it -/
def apI (T : Nat → Int32) (cnt a : Nat) : Nat → Int32 := if a < 10 then upd T cnt (Int32.ofNat (48 + a % 10)) else upd (upd T cnt (Int32.ofNat (48 + a / 10))) (cnt + 1) (Int32.ofNat (48 + a % 10))
theorem c9 {a k : Nat} {f : Nat → Int32} (ha : a < 100) (hb : w bp = some (.inl (2, cap, .inl f))) (hk : k + szI a ≤ cap) (hc : cap ≤ 34) : ∃ r g, RM x 9 [.int (Int32.ofNat a), .int (Int32.ofNat (k + szI a)), .ref bp] w n = some (.inl (some (.int r)), pupd w bp (.inl (2, cap, .inl g)), n) ∧ ((∀ j, CH (f j)) → ∀ j, CH (g j)) ∧ ∀ j, j < k + szI a → g j = apI f k a j := by
  obtain ⟨n0, n1, n2, n3, n4⟩ := num_all a ha
  have l7 := dg_l7 (x := x) (w := w) ha
  have c7 : CH (Int32.ofNat (48 + a % 10)) := ⟨48 + a % 10, by omega, rfl⟩
  have c8 : CH (Int32.ofNat (48 + a / 10)) := ⟨48 + a / 10, by omega, rfl⟩
  have b7 := nb_c c7
  have b8 := nb_c c8
  unfold szI at hk ⊢
  unfold apI
  by_cases h : a < 10
  · have n3' : ¬ -Int32.ofNat a < (-9 : Int32) := of_decide_eq_false (n3.trans (by rw [decide_eq_true h]; rfl))
    rw [if_pos h] at hk ⊢
    rw [if_pos h]
    have e1 : Int32.ofNat (k + 1) + (-1) = Int32.ofNat k := by rw [← Int32.sub_eq_add_neg]; exact i_subN (u := k + 1) (k := 1) (by omega)
    have st := SB_st (i := k) (c := Int32.ofNat (48 + a % 10)) hb (by omega) hc
    refine ⟨Int32.ofNat k, upd f k (Int32.ofNat (48 + a % 10)), ?_, fun hf => CH_u hf c7, fun j hj => rfl⟩
    simp only [csN, csm_i, csm_r, Nat.reduceAdd, Nat.reduceLeDiff, wdI, wdR, wdN, clM_0, clC_0, clC_1, clC_6, clC_8, true_or, or_true, i10, i01, ob_some, ob_map, cal_v, rvs_some, rvs_none, XO_at, cal_x, m9, r9_0, r9_1, r9_3, r9_4, r9_7, r9_8, r9_11, r9_12, r9_14, r9_16, r9_19, r9_20, r9_21, r9_22, r9_23, r9_25, r9_28, r9_29, r9_31, r9_32, r9_33, r9_34, r9_36, r9_37, r9_38, r9_39, r9_41, r9_42, r9_43, r9_44, r9_47, r9_49, r9_52, r9_54, r9_55, r9_56, r9_57, r9_60, r9_62, r9_65, r9_67, r9_68, r9_69, r9_72, r9_73, r9_76, r9_78, r9_81, r9_82, r9_83, r9_84, r9_85, r9_86, r9_88, r9_91, r9_92, r9_95, r9_97, r9_100, r9_101, r9_102, r9_103, r9_104, r9_106, r9_109, r9_110, r9_113, r9_115, r9_117, r9_118, r9_120, n0, if_false, if_true, n2, n4, e1, l7, b7, st, n3']
  · have n3' : -Int32.ofNat a < (-9 : Int32) := of_decide_eq_true (n3.trans (by rw [decide_eq_false h]; rfl))
    rw [if_neg h] at hk ⊢
    rw [if_neg h]
    have e1 : Int32.ofNat (k + 2) + (-1) = Int32.ofNat (k + 1) := by rw [← Int32.sub_eq_add_neg]; exact i_subN (u := k + 2) (k := 1) (by omega)
    have e2 : Int32.ofNat (k + 1) + (-1) = Int32.ofNat k := by rw [← Int32.sub_eq_add_neg]; exact i_subN (u := k + 1) (k := 1) (by omega)
    have st := SB_st (i := k + 1) (c := Int32.ofNat (48 + a % 10)) hb (by omega) hc
    have l8 := dg_l8 (x := x) (w := pupd w bp (.inl (2, cap, .inl (upd f (k + 1) (Int32.ofNat (48 + a % 10)))))) ha
    have st2 := SB_st (i := k) (c := Int32.ofNat (48 + a / 10)) (pupd_same w bp (.inl (2, cap, .inl (upd f (k + 1) (Int32.ofNat (48 + a % 10)))))) (by omega) hc
    rw [pupd_pupd] at st2
    refine ⟨Int32.ofNat k, upd (upd f (k + 1) (Int32.ofNat (48 + a % 10))) k (Int32.ofNat (48 + a / 10)), ?_, fun hf => CH_u (CH_u hf c7) c8, fun j hj => ?_⟩
    · simp only [csN, csm_i, csm_r, Nat.reduceAdd, Nat.reduceLeDiff, wdI, wdR, wdN, clM_0, clC_0, clC_1, clC_6, clC_8, true_or, or_true, i10, i01, ob_some, ob_map, cal_v, rvs_some, rvs_none, XO_at, cal_x, m9, r9_0, r9_1, r9_3, r9_4, r9_7, r9_8, r9_11, r9_12, r9_14, r9_16, r9_19, r9_20, r9_21, r9_22, r9_23, r9_25, r9_28, r9_29, r9_31, r9_32, r9_33, r9_34, r9_36, r9_37, r9_38, r9_39, r9_41, r9_42, r9_43, r9_44, r9_47, r9_49, r9_52, r9_54, r9_55, r9_56, r9_57, r9_60, r9_62, r9_65, r9_67, r9_68, r9_69, r9_72, r9_73, r9_76, r9_78, r9_81, r9_82, r9_83, r9_84, r9_85, r9_86, r9_88, r9_91, r9_92, r9_95, r9_97, r9_100, r9_101, r9_102, r9_103, r9_104, r9_106, r9_109, r9_110, r9_113, r9_115, r9_117, r9_118, r9_120, n0, if_false, if_true, n2, n4, e1, l7, b7, st, n3', e2, l8, b8, st2]
    · rw [upd_at, upd_at, upd_at, upd_at]
      by_cases h1 : j = k
      · rw [if_pos h1, if_neg (by omega), if_pos h1]
      · rw [if_neg h1, if_neg h1]
theorem c22 {a : Nat} (h : SBP w n bp cap cnt ml T) (ha : a < 100) (hcnt : cnt + szI a ≤ 27) : ∃ w' n' bp' cap', RM x 22 [.ref 225, .int (Int32.ofNat a)] w n = some (.inl (some (.ref 225)), w', n') ∧ SBP w' n' bp' cap' (cnt + szI a) ml (apI T cnt a) ∧ FB w w' ∧ GR n cap n' cap' := by
  obtain ⟨g0, g1, g3, c225, gn⟩ := SB_g (x := x) h
  obtain ⟨w1, n1, b1, cp, e2, h', hF, hG, hk⟩ := c2 (x := x) (k := cnt + szI a) h hcnt
  obtain ⟨k0, k1, k3, k225, kn⟩ := SB_g (x := x) h'
  have e8 := c8 (x := x) h'
  have e10 := c10 (x := x) (n := n) (w := w) ha
  obtain ⟨h1, h2, ⟨f, h3, h4, h5⟩, h6, h7, h8, h9, h10⟩ := h'
  obtain ⟨r, g, e9, q1, q2⟩ := c9 (x := x) (n := n1) (w := w1) (k := cnt) ha h3 hk (by omega)
  have hs : Int32.ofNat cnt + Int32.ofNat (szI a) = Int32.ofNat (cnt + szI a) := i_add
  have p3 := pf_3 (w := pupd w1 b1 (.inl (2, cp, .inl g))) (bp := b1) (ml := ml) (cn := Int32.ofNat cnt) (v := Int32.ofNat (cnt + szI a)) (by rw [pupd_ne (by omega)]; exact h1)
  have e7 : RM x 7 [.ref 225, .int (Int32.ofNat a)] w n = some (.inl (some (.ref 225)), pupd (pupd w1 b1 (.inl (2, cp, .inl g))) 225 (sbo b1 ml (Int32.ofNat (cnt + szI a))), n1) := by
    simp only [csN, csm_i, csm_r, Nat.reduceAdd, Nat.reduceLeDiff, wdI, wdR, wdN, clM_0, clC_0, clC_1, clC_6, clC_8, true_or, or_true, i10, i01, ob_some, ob_map, cal_v, rvs_some, rvs_none, XO_at, cal_x, m7, r7_0, r7_1, r7_4, r7_5, r7_6, r7_7, r7_10, r7_11, r7_12, r7_13, r7_14, r7_17, r7_18, r7_21, r7_24, r7_25, r7_26, r7_27, r7_30, r7_33, r7_34, r7_37, r7_38, r7_39, r7_40, r7_41, r7_47, r7_48, r7_49, r7_50, r7_53, r7_54, g3, e10, hs, c225, e2, k225, e8, if_false, k0, e9, p3]
  refine ⟨pupd (pupd w1 b1 (.inl (2, cp, .inl g))) 225 (sbo b1 ml (Int32.ofNat (cnt + szI a))), n1, b1, cp, ?_, ⟨pupd_same _ _ _, h2, ⟨g, by rw [pupd_ne (by omega)]; exact pupd_same _ _ _, q1 h4, fun j hj => ?_⟩, h6, h7, h8, h9, hk⟩, fun i hi => ?_, hG⟩
  · simp only [csN, csm_i, csm_r, Nat.reduceAdd, Nat.reduceLeDiff, wdI, wdR, wdN, clM_0, clC_0, clC_1, clC_6, clC_8, true_or, or_true, i10, i01, ob_some, ob_map, cal_v, rvs_some, rvs_none, XO_at, cal_x, m22, r22_0, r22_1, r22_2, r22_5, r22_6, r22_7, c225, e7]
  · rw [q2 j hj]
    unfold szI at hj
    unfold apI
    by_cases h : a < 10
    · rw [if_pos h] at hj
      rw [if_pos h, if_pos h, upd_at, upd_at]
      by_cases h2 : j = cnt
      · rw [if_pos h2, if_pos h2]
      · rw [if_neg h2, if_neg h2]; exact h5 j (by omega)
    · rw [if_neg h] at hj
      rw [if_neg h, if_neg h, upd_at, upd_at, upd_at, upd_at]
      by_cases h3 : j = cnt + 1
      · rw [if_pos h3, if_pos h3]
      · rw [if_neg h3, if_neg h3]
        by_cases h2 : j = cnt
        · rw [if_pos h2, if_pos h2]
        · rw [if_neg h2, if_neg h2]; exact h5 j (by omega)
  · rw [pupd_ne (by omega), pupd_ne (by omega)]
    exact hF i hi
theorem c24 (h : SBP w n bp cap cnt ml T) : ∃ w' ml', RM x 24 [.ref 225, .int 0] w n = some (.inl none, w', n) ∧ SBP w' n bp cap 0 ml' T ∧ FB w w' := by
  obtain ⟨g0, g1, g3, c225, gn⟩ := SB_g (x := x) h
  have hcap := h.2.2.2.2.2.2.1
  have hcnt := h.2.2.2.2.2.2.2
  have n1 : ¬ 0 < (0 : Int32) - Int32.ofNat cap := by
    have := dif_p (k := 0) (c := cap) (by omega) (by omega)
    rw [show Int32.ofNat 0 = 0 from rfl] at this
    rw [this]
    omega
  have e2 : RM x 2 [.ref 225, .int 0] w n = some (.inl none, w, n) := by
    have s1 := sh0 (a := cap) (by omega)
    simp only [csN, csm_i, csm_r, Nat.reduceAdd, Nat.reduceLeDiff, wdI, wdR, wdN, clM_0, clC_0, clC_1, clC_6, clC_8, true_or, or_true, i10, i01, ob_some, ob_map, cal_v, rvs_some, rvs_none, XO_at, cal_x, m2, r2_0, r2_1, r2_4, r2_5, r2_6, r2_9, r2_10, r2_11, r2_12, r2_13, r2_14, r2_17, r2_18, r2_19, r2_22, r2_23, r2_24, r2_27, r2_28, r2_31, r2_32, r2_35, r2_38, g0, g1, gn, s1, n1, if_false]
  have n0 : ¬ (0 : Int32) < 0 := by decide
  have n2 : ¬ Int32.ofNat cnt < 0 := by
    have := i_lt (a := cnt) (b := 0) (by omega) (by omega)
    rw [show (0 : Int32) = Int32.ofNat 0 from rfl, this]
    omega
  obtain ⟨h1, h2, ⟨f, h3, h4, h5⟩, h6, h7, h8, h9, h10⟩ := h
  by_cases hz : cnt = 0
  · subst hz
    have n3 : ¬ (0 : Int32) < Int32.ofNat 0 := by decide
    have p3 := pf_3 (v := 0) h1
    refine ⟨pupd w 225 (sbo bp ml 0), ml, ?_, ⟨pupd_same _ _ _, h2, ⟨f, by rw [pupd_ne (by omega)]; exact h3, h4, fun j hj => by omega⟩, h6, h7, h8, h9, by omega⟩, fun i hi => by rw [pupd_ne (by omega)]⟩
    have e4 : RM x 4 [.ref 225, .int 0] w n = some (.inl none, pupd w 225 (sbo bp ml 0), n) := by
      simp only [csN, csm_i, csm_r, Nat.reduceAdd, Nat.reduceLeDiff, wdI, wdR, wdN, clM_0, clC_0, clC_1, clC_6, clC_8, true_or, or_true, i10, i01, ob_some, ob_map, cal_v, rvs_some, rvs_none, XO_at, cal_x, m4, r4_0, r4_1, r4_7, r4_8, r4_13, r4_14, r4_15, r4_18, r4_19, r4_22, r4_23, r4_26, r4_27, r4_30, r4_33, r4_34, r4_37, r4_38, r4_41, r4_45, r4_48, r4_49, r4_52, r4_53, r4_56, r4_60, r4_63, r4_64, r4_67, r4_68, r4_71, r4_72, r4_73, r4_76, r4_77, r4_78, r4_81, n0, if_false, c225, e2, g3, n2, n3, p3]
    simp only [csN, csm_i, csm_r, Nat.reduceAdd, Nat.reduceLeDiff, wdI, wdR, wdN, clM_0, clC_0, clC_1, clC_6, clC_8, true_or, or_true, i10, i01, ob_some, ob_map, cal_v, rvs_some, rvs_none, XO_at, cal_x, m24, r24_0, r24_1, r24_2, r24_5, c225, e4]
  · have n3 : (0 : Int32) < Int32.ofNat cnt := nlt (a := 0) (by omega) (by omega) (by omega)
    have p2 := pf_2 h1
    have p3 := pf_3 (v := 0) (pupd_same w 225 (sbo bp 1 (Int32.ofNat cnt)))
    rw [pupd_pupd] at p3
    refine ⟨pupd w 225 (sbo bp 1 0), 1, ?_, ⟨pupd_same _ _ _, Or.inr rfl, ⟨f, by rw [pupd_ne (by omega)]; exact h3, h4, fun j hj => by omega⟩, h6, h7, h8, h9, by omega⟩, fun i hi => by rw [pupd_ne (by omega)]⟩
    have e4 : RM x 4 [.ref 225, .int 0] w n = some (.inl none, pupd w 225 (sbo bp 1 0), n) := by
      simp only [csN, csm_i, csm_r, Nat.reduceAdd, Nat.reduceLeDiff, wdI, wdR, wdN, clM_0, clC_0, clC_1, clC_6, clC_8, true_or, or_true, i10, i01, ob_some, ob_map, cal_v, rvs_some, rvs_none, XO_at, cal_x, m4, r4_0, r4_1, r4_7, r4_8, r4_13, r4_14, r4_15, r4_18, r4_19, r4_22, r4_23, r4_26, r4_27, r4_30, r4_33, r4_34, r4_37, r4_38, r4_41, r4_45, r4_48, r4_49, r4_52, r4_53, r4_56, r4_60, r4_63, r4_64, r4_67, r4_68, r4_71, r4_72, r4_73, r4_76, r4_77, r4_78, r4_81, n0, if_false, if_true, c225, e2, g3, n2, n3, p2, p3]
    simp only [csN, csm_i, csm_r, Nat.reduceAdd, Nat.reduceLeDiff, wdI, wdR, wdN, clM_0, clC_0, clC_1, clC_6, clC_8, true_or, or_true, i10, i01, ob_some, ob_map, cal_v, rvs_some, rvs_none, XO_at, cal_x, m24, r24_0, r24_1, r24_2, r24_5, c225, e4]
theorem c25 (h : SBP w n bp cap cnt ml T) : RM x 25 [.ref 225] w n = some (.inl (some (.int (Int32.ofNat cnt))), w, n) := by
  obtain ⟨g0, g1, g3, c225, gn⟩ := SB_g (x := x) h
  simp only [csN, csm_i, csm_r, Nat.reduceAdd, Nat.reduceLeDiff, wdI, wdR, wdN, clM_0, clC_0, clC_1, clC_6, clC_8, true_or, or_true, i10, i01, ob_some, ob_map, cal_v, rvs_some, rvs_none, XO_at, cal_x, m25, r25_0, r25_1, r25_4, m1, r1_0, r1_1, r1_4, c225, g3]
theorem c23 {i : Nat} (h : SBP w n bp cap cnt ml T) (hi : i < cnt) : RM x 23 [.ref 225, .int (Int32.ofNat i)] w n = some (.inl (some (.int (T i))), w, n) := by
  obtain ⟨g0, g1, g3, c225, gn⟩ := SB_g (x := x) h
  obtain ⟨h1, h2, ⟨f, h3, h4, h5⟩, h6, h7, h8, h9, h10⟩ := h
  have s1 := sh0 (a := cap) (by omega)
  have em : (if Int32.ofNat cap < Int32.ofNat cnt then Int32.ofNat cap else Int32.ofNat cnt) = Int32.ofNat cnt := if_neg (by rw [i_lt (by omega) (by omega)]; omega)
  have n0 : ¬ Int32.ofNat i < 0 := by
    have := i_lt (a := i) (b := 0) (by omega) (by omega)
    rw [show (0 : Int32) = Int32.ofNat 0 from rfl, this]
    omega
  have n1 : Int32.ofNat i < Int32.ofNat cnt := nlt (by omega) (by omega) hi
  have gl : ald 2 x w 0 bp (Int32.ofNat i) = some (f i) := by rw [ald_at h3, fin_nat (by omega) (by omega)]; rfl
  obtain ⟨q1, q2, q3, -⟩ := ch_f (h4 i)
  have e := h5 i hi
  rw [← e]
  have e5 : RM x 5 [.ref 225, .int (Int32.ofNat i)] w n = some (.inl (some (.int (f i))), w, n) := by
    simp only [csN, csm_i, csm_r, Nat.reduceAdd, Nat.reduceLeDiff, wdI, wdR, wdN, clM_0, clC_0, clC_1, clC_6, clC_8, true_or, or_true, i10, i01, ob_some, ob_map, cal_v, rvs_some, rvs_none, XO_at, cal_x, m5, r5_0, r5_1, r5_4, r5_5, r5_6, r5_9, r5_10, r5_11, r5_14, r5_15, r5_16, r5_17, r5_18, r5_21, r5_23, r5_24, r5_26, r5_29, r5_30, r5_33, r5_34, r5_35, r5_36, r5_39, r5_40, r5_42, r5_43, r5_47, m19, r19_0, r19_1, r19_2, r19_5, r19_8, r19_9, m33, r33_0, r33_1, r33_4, r33_5, r33_6, r33_9, r33_10, r33_11, r33_16, r33_17, r19_5u, m33u, g0, g1, g3, gn, s1, em, n0, n1, if_true, if_false, gl, q1, q2]
    exact r5_41 q3
  simp only [csN, csm_i, csm_r, Nat.reduceAdd, Nat.reduceLeDiff, wdI, wdR, wdN, clM_0, clC_0, clC_1, clC_6, clC_8, true_or, or_true, i10, i01, ob_some, ob_map, cal_v, rvs_some, rvs_none, XO_at, cal_x, m23, r23_0, r23_1, r23_2, c225, e5]
  exact r23_5 q3
end SBD
