/-! THE SHARE OF PASSAGES on both sides -/
section PSH
set_option maxRecDepth 20000
variable {x : SX} {n n' b c q B : Nat} {w w' : PW} {m s t y : NS} {hs le lf hc : Int32} {F : Nat → Nat} {K : Nat → NS} {sc : NS} {cs : Nat → Nat} {u v : Int32} {fv : UInt32} {dv : UInt64}
theorem dst_at {g : Nat → UInt64} (hf : w 238 = some (dcl g)) {d : UInt64} : dst w 238 0 d = some (pupd w 238 (dcl (vf_upd g 0 d))) := by
  unfold dst
  rw [hf]
  have k0 : fin 1 0 = some 0 := fin_lit (by decide) (by decide)
  show (fin 1 0).map _ = _
  rw [k0]
  rfl
theorem lw329 {g : Nat → UInt64} (h1 : clo w 64 = some 6) (e : RM x 77 [.ref 64, .int u] w n = some (.inl (some (.float fv)), w', n')) (hv : fv &&& 0x7fffffff ≤ 0x7f800000) (hf : w' 238 = some (dcl g)) : RM x 329 [.ref 64, .int u, .ref 238] w n = some (.inl (some (.int 0)), pupd w' 238 (dcl (vf_upd g 0 (FP.f2d fv))), n') := by
  have l := fun d => dst_at (d := d) hf
  have h2 := f2_ok hv
  simp only [csN, csm_i, csm_r, Nat.reduceAdd, Nat.reduceLeDiff, wdI, wdR, wdN, clM_0, clC_0, clC_1, clC_6, clC_8, true_or, or_true, i10, i01, ob_some, ob_map, cal_v, rvs_some, rvs_none, XO_at, cal_x, m329, r329_0, r329_1, r329_2, r329_3, r329_4, r329_7, r329_8, r329_9, r329_12, r329_13, r329_14, r329_15, r329_16, r329_17, r329_18, r329_19, h1, e, h2, l]
theorem lx329_1 (h1 : clo w 64 = some 6) (e : RM x 77 [.ref 64, .int u] w n = some (.inr "java/lang/IndexOutOfBoundsException", w', n')) : RM x 329 [.ref 64, .int u, .ref 238] w n = some (.inl (some (.int 1)), w', n' + 1) := by
  have hx : ∀ lv w n, xat 329 4 0 lv x "java/lang/IndexOutOfBoundsException" w n = RC x 329 12 lv [.ref n] w (n + 1) := fun _ _ _ => xat_h rfl (by decide +kernel) (by decide +kernel)
  simp only [csN, csm_i, csm_r, Nat.reduceAdd, Nat.reduceLeDiff, wdI, wdR, wdN, clM_0, clC_0, clC_1, clC_6, clC_8, true_or, or_true, i10, i01, ob_some, ob_map, cal_v, rvs_some, rvs_none, XO_at, cal_x, m329, r329_0, r329_1, r329_2, r329_3, r329_4, r329_7, r329_8, r329_9, r329_12, r329_13, r329_14, r329_15, r329_16, r329_17, r329_18, r329_19, h1, e, hx]
theorem lx329_2 (h1 : clo w 64 = some 6) (e : RM x 77 [.ref 64, .int u] w n = some (.inr "java/lang/ArithmeticException", w', n')) : RM x 329 [.ref 64, .int u, .ref 238] w n = some (.inl (some (.int 2)), w', n' + 1) := by
  have hx : ∀ lv w n, xat 329 4 0 lv x "java/lang/ArithmeticException" w n = RC x 329 15 lv [.ref n] w (n + 1) := fun _ _ _ => xat_h rfl (by decide +kernel) (by decide +kernel)
  simp only [csN, csm_i, csm_r, Nat.reduceAdd, Nat.reduceLeDiff, wdI, wdR, wdN, clM_0, clC_0, clC_1, clC_6, clC_8, true_or, or_true, i10, i01, ob_some, ob_map, cal_v, rvs_some, rvs_none, XO_at, cal_x, m329, r329_0, r329_1, r329_2, r329_3, r329_4, r329_7, r329_8, r329_9, r329_12, r329_13, r329_14, r329_15, r329_16, r329_17, r329_18, r329_19, h1, e, hx]
theorem l275 (hR : RS s (m 1)) (d : Nat) : ∀ i, i + d = 5 → RC x 275 4 [some (.ref b), some (.int u), some (.int (sumTo (s 3) i)), some (.int (Int32.ofNat i))] [] (setM w b m) n = RC x 275 27 [some (.ref b), some (.int u), some (.int (sumTo (s 3) 5)), some (.int 5)] [] (setM w b m) n := by
  induction d with
  | zero =>
    intro i hi
    obtain rfl : i = 5 := by omega
    rw [r275_4]
    have h1 : ¬ Int32.ofNat 5 < (5 : Int32) := by decide
    simp only [csN, csm_i, csm_r, Nat.reduceAdd, Nat.reduceLeDiff, wdI, wdR, wdN, clM_0, clC_0, clC_1, clC_6, clC_8, true_or, or_true, i10, i01, ob_some, ob_map, cal_v, rvs_some, rvs_none, XO_at, cal_x, m275, r275_0, r275_1, r275_2, r275_3, r275_5, r275_6, r275_9, r275_10, r275_11, r275_14, r275_16, r275_17, r275_18, r275_19, r275_20, r275_21, r275_24, r275_28, r275_29, r275_32, r275_35, r275_36, r275_39, r275_40, r275_43, r275_44, r275_47, r275_48, r275_51, r275_52, r275_55, r275_58, r275_59, r275_62, r275_64, r275_65, r275_66, r275_67, r275_68, r275_69, r275_70, r275_71, r275_74, r275_75, h1, if_false]
    rfl
  | succ d ih =>
    intro i hi
    conv => lhs; rw [r275_4]
    have h1 : Int32.ofNat i < (5 : Int32) := nlt (N := 5) (by omega) (by omega) (by omega)
    have h3 : (39 : Int32) + Int32.ofNat i = Int32.ofNat (39 + i) := i_add (a := 39)
    have h4 : fin 84 (Int32.ofNat (39 + i)) = some (39 + i) := fin_nat (by omega) (by omega)
    have e := (hR.2.2.2.2.2 i (by omega)).symm
    have hh := ih (i + 1) (by omega)
    simp only [csN, csm_i, csm_r, Nat.reduceAdd, Nat.reduceLeDiff, wdI, wdR, wdN, clM_0, clC_0, clC_1, clC_6, clC_8, true_or, or_true, i10, i01, ob_some, ob_map, cal_v, rvs_some, rvs_none, XO_at, cal_x, m275, r275_0, r275_1, r275_2, r275_3, r275_5, r275_6, r275_9, r275_10, r275_11, r275_14, r275_16, r275_17, r275_18, r275_19, r275_20, r275_21, r275_24, r275_28, r275_29, r275_32, r275_35, r275_36, r275_39, r275_40, r275_43, r275_44, r275_47, r275_48, r275_51, r275_52, r275_55, r275_58, r275_59, r275_62, r275_64, r275_65, r275_66, r275_67, r275_68, r275_69, r275_70, r275_71, r275_74, r275_75, h1, if_true, gM_0_0, lM_1, i_s, h3, h4, Option.map_some, e]
    exact hh
theorem c275h (hR : RS s (m 1)) : RM x 275 [.ref b, .int u] (setM w b m) n = RC x 275 27 [some (.ref b), some (.int u), some (.int (sumTo (s 3) 5)), some (.int 5)] [] (setM w b m) n := by
  rw [← l275 hR 5 0 rfl]
  simp only [csN, csm_i, csm_r, Nat.reduceAdd, Nat.reduceLeDiff, wdI, wdR, wdN, clM_0, clC_0, clC_1, clC_6, clC_8, true_or, or_true, i10, i01, ob_some, ob_map, cal_v, rvs_some, rvs_none, XO_at, cal_x, m275, r275_0, r275_1, r275_2, r275_3, r275_5, r275_6, r275_9, r275_10, r275_11, r275_14, r275_16, r275_17, r275_18, r275_19, r275_20, r275_21, r275_24, r275_28, r275_29, r275_32, r275_35, r275_36, r275_39, r275_40, r275_43, r275_44, r275_47, r275_48, r275_51, r275_52, r275_55, r275_58, r275_59, r275_62, r275_64, r275_65, r275_66, r275_67, r275_68, r275_69, r275_70, r275_71, r275_74, r275_75]
  rfl
theorem c275_1 (hR : RS s (m 1)) (h : rg u 5 = false) : RM x 275 [.ref b, .int u] (setM w b m) n = some (.inl (some (.float FP.fconst0)), setM w b (us m 20 13 1), n) := by
  have e13 : us m 20 13 1 20 13 = 1 := by rw [us_at, if_pos rfl, if_pos rfl]
  rw [c275h hR, r275_27]
  simp only [csN, csm_i, csm_r, Nat.reduceAdd, Nat.reduceLeDiff, wdI, wdR, wdN, clM_0, clC_0, clC_1, clC_6, clC_8, true_or, or_true, i10, i01, ob_some, ob_map, cal_v, rvs_some, rvs_none, XO_at, cal_x, m275, r275_0, r275_1, r275_2, r275_3, r275_5, r275_6, r275_9, r275_10, r275_11, r275_14, r275_16, r275_17, r275_18, r275_19, r275_20, r275_21, r275_24, r275_28, r275_29, r275_32, r275_35, r275_36, r275_39, r275_40, r275_43, r275_44, r275_47, r275_48, r275_51, r275_52, r275_55, r275_74, r275_75, c200, h, bi_f, if_true, pM_0_13, gM_0_13, e13, if_false]
theorem c275_2 (hR : RS s (m 1)) (h : rg u 5 = true) (h0 : sumTo (s 3) 5 = 0) : RM x 275 [.ref b, .int u] (setM w b m) n = some (.inl (some (.float FP.fconst0)), setM w b (us m 20 13 2), n) := by
  have e13 : us m 20 13 2 20 13 = 2 := by rw [us_at, if_pos rfl, if_pos rfl]
  have z2 : ¬ (2 : Int32) = 0 := by decide
  rw [c275h hR, r275_27]
  simp only [csN, csm_i, csm_r, Nat.reduceAdd, Nat.reduceLeDiff, wdI, wdR, wdN, clM_0, clC_0, clC_1, clC_6, clC_8, true_or, or_true, i10, i01, ob_some, ob_map, cal_v, rvs_some, rvs_none, XO_at, cal_x, m275, r275_0, r275_1, r275_2, r275_3, r275_5, r275_6, r275_9, r275_10, r275_11, r275_14, r275_16, r275_17, r275_18, r275_19, r275_20, r275_21, r275_24, r275_28, r275_29, r275_32, r275_35, r275_36, r275_39, r275_40, r275_43, r275_44, r275_47, r275_48, r275_51, r275_52, r275_55, r275_74, r275_75, c200, h, bi_t, h0, if_true, pM_0_13, gM_0_13, e13, z2, if_false]
theorem c275_0 {g : Nat} (hR : RS s (m 1)) (hg : g < 5) (h0 : ¬ sumTo (s 3) 5 = 0) : RM x 275 [.ref b, .int (Int32.ofNat g)] (setM w b m) n = some (.inl (some (.float (FP.fdiv (FP.i2f (m 1 (39 + g))) (FP.i2f (sumTo (s 3) 5))))), setM w b (us m 20 13 0), n) := by
  have h : rg (Int32.ofNat g) 5 = true := nat_rg (N := 5) (by omega) hg
  have e13 : us m 20 13 0 20 13 = 0 := by rw [us_at, if_pos rfl, if_pos rfl]
  have e1 : us m 20 13 0 1 = m 1 := us_ne (by decide)
  have h3 : (39 : Int32) + Int32.ofNat g = Int32.ofNat (39 + g) := i_add (a := 39)
  have h4 : fin 84 (Int32.ofNat (39 + g)) = some (39 + g) := fin_nat (by omega) (by omega)
  have h5 : FP.fdiv (FP.i2f (m 1 (39 + g))) (FP.i2f (sumTo (s 3) 5)) &&& 0x7fffffff ≤ 0x7f800000 := fd_ok h0
  rw [c275h hR, r275_27]
  simp only [csN, csm_i, csm_r, Nat.reduceAdd, Nat.reduceLeDiff, wdI, wdR, wdN, clM_0, clC_0, clC_1, clC_6, clC_8, true_or, or_true, i10, i01, ob_some, ob_map, cal_v, rvs_some, rvs_none, XO_at, cal_x, m275, r275_0, r275_1, r275_2, r275_3, r275_5, r275_6, r275_9, r275_10, r275_11, r275_14, r275_16, r275_17, r275_18, r275_19, r275_20, r275_21, r275_24, r275_28, r275_29, r275_32, r275_35, r275_36, r275_39, r275_40, r275_43, r275_44, r275_47, r275_48, r275_51, r275_52, r275_55, r275_58, r275_59, r275_62, r275_64, r275_65, r275_66, r275_67, r275_68, r275_69, r275_70, r275_71, r275_75, c200, h, bi_t, h0, if_true, if_false, pM_0_13, gM_0_13, gM_0_0, lM_1, e13, e1, h3, h4, Option.map_some, h5]
def PAIRD (B : Nat) (x : SX) (w : PW) (n : Nat) (u : Int32) (m : NS) (le lf : Int32) (sc : NS) : Prop :=
  ∃ e fv w1 n1 w2 n2, RM x 329 [.ref 64, .int u, .ref 238] w n = some (.inl (some (.int e)), w1, n1) ∧ RM x 275 [.ref 227, .int u] w1 n1 = some (.inl (some (.float fv)), w2, n2) ∧ clo w1 227 = some 7 ∧ n ≤ n1 ∧ n1 ≤ n2 ∧ n2 ≤ n + 2 ∧ Fr w w2 ∧ (e = 0 → FP.f2d fv &&& 0x7fffffffffffffff ≤ 0x7ff0000000000000 ∧ ∃ g, w2 238 = some (dcl g) ∧ g 0 = FP.f2d fv) ∧
    ∃ m' s t y hs F K c q cs B', B' ≤ B + 64 ∧ IV B' w2 m' s t y hs le lf F K sc c q cs ∧ m' 20 13 = e ∧ Kp m m'
theorem p329 (hV : IV B w m s t y hs le lf F K sc c q cs) : PAIRD B x w n u m le lf sc := by
  have hW := hV.1
  have hS := hV.2.2.2.2.1.1.1.2.1
  obtain ⟨f, hf⟩ := hV.2.2.1
  obtain ⟨g38, hg38⟩ := hV.2.2.2.1
  obtain ⟨⟨g0, -⟩, c64, -⟩ := WD_64 hW
  obtain ⟨k0, -, -, -, -, -, -, -, -, l1, -⟩ := WD_r hW
  have ex : ∀ e : Int32, ¬ e = 0 → RM x 329 [.ref 64, .int u, .ref 238] w n = some (.inl (some (.int e)), w, n + 2) → (∀ w' n', RM x 275 [.ref 227, .int u] (setM w' 227 m) n' = some (.inl (some (.float FP.fconst0)), setM w' 227 (us m 20 13 e), n')) → PAIRD B x w n u m le lf sc := fun e he E1 E2 => by
    have E' := E2 w (n + 2)
    rw [hV.2.1] at E'
    exact ⟨e, _, w, n + 2, _, n + 2, E1, E', clM hV.2.1, by omega, by omega, by omega, fun i h1 h2 => by rw [setM_out (by omega)], fun h => absurd h he, _, s, t, y, hs, F, K, c, q, cs, B, by omega, IVq hV (fun _ _ => rfl) hf, by rw [us_at, if_pos rfl, if_pos rfl], Kp13⟩
  cases h : rg u 5 with
  | false =>
    have e1 := c92_f (x := x) (n := n) (w := w) h
    have e3 : RM x 77 [.ref 64, .int u] w n = some (.inr "java/lang/IndexOutOfBoundsException", w, n + 1) := by
      simp only [csN, csm_i, csm_r, Nat.reduceAdd, Nat.reduceLeDiff, wdI, wdR, wdN, clM_0, clC_0, clC_1, clC_6, clC_8, true_or, or_true, i10, i01, ob_some, ob_map, cal_v, rvs_some, rvs_none, XO_at, cal_x, m77, r77_0, r77_1, r77_4, r77_5, r77_8, r77_11, r77_14, r77_15, r77_16, r77_19, r77_29, r77_30, r77_33, r77_36, r77_37, r77_40, r77_41, r77_42, r77_44, e1]
    exact ex 1 (by decide) (lx329_1 c64 e3) (fun w' n' => c275_1 hS h)
  | true =>
    have e1 := c92_t (x := x) (n := n) (w := w) h
    have e2 : RM x 156 [.ref 66] w n = some (.inl (some (.int (sumTo (s 3) 5))), w, n) := by
      have k := c156 (x := x) (n := n) (b := 65) (w := w) (s := s)
      rw [(WD_c hW).1] at k
      exact k
    by_cases h0 : sumTo (s 3) 5 = 0
    · have e3 : RM x 77 [.ref 64, .int u] w n = some (.inr "java/lang/ArithmeticException", w, n + 1) := by
        simp only [csN, csm_i, csm_r, Nat.reduceAdd, Nat.reduceLeDiff, wdI, wdR, wdN, clM_0, clC_0, clC_1, clC_6, clC_8, true_or, or_true, i10, i01, ob_some, ob_map, cal_v, rvs_some, rvs_none, XO_at, cal_x, m77, r77_0, r77_1, r77_4, r77_5, r77_8, r77_11, r77_14, r77_15, r77_16, r77_19, r77_29, r77_30, r77_33, r77_36, r77_37, r77_40, r77_41, r77_42, r77_44, e1, g0, k0, l1, e2, h0, if_true]
      exact ex 2 (by decide) (lx329_2 c64 e3) (fun w' n' => c275_2 hS h h0)
    · obtain ⟨g, hg, rfl⟩ := rg_nat (N := 5) (by omega) h
      have e4 : RM x 146 [.ref 66, .int (Int32.ofNat g)] w n = some (.inl (some (.int (m 1 (39 + g)))), w, n) := by
        have k := c146 (x := x) (n := n) (b := 65) (w := w) (s := s) (u := Int32.ofNat g)
        rw [(WD_c hW).1, atv_nat hg (by omega), hS.2.2.2.2.2 g hg] at k
        exact k
      have h5 : FP.fdiv (FP.i2f (m 1 (39 + g))) (FP.i2f (sumTo (s 3) 5)) &&& 0x7fffffff ≤ 0x7f800000 := fd_ok h0
      have e3 : RM x 77 [.ref 64, .int (Int32.ofNat g)] w n = some (.inl (some (.float (FP.fdiv (FP.i2f (m 1 (39 + g))) (FP.i2f (sumTo (s 3) 5))))), w, n) := by
        simp only [csN, csm_i, csm_r, Nat.reduceAdd, Nat.reduceLeDiff, wdI, wdR, wdN, clM_0, clC_0, clC_1, clC_6, clC_8, true_or, or_true, i10, i01, ob_some, ob_map, cal_v, rvs_some, rvs_none, XO_at, cal_x, m77, r77_0, r77_1, r77_4, r77_5, r77_8, r77_11, r77_14, r77_15, r77_16, r77_19, r77_29, r77_30, r77_33, r77_36, r77_37, r77_40, r77_41, r77_42, r77_43, r77_44, e1, g0, k0, l1, e2, h0, if_false, e4, h5]
      have E1 := lw329 c64 e3 h5 hg38
      obtain ⟨w2, hw2⟩ : ∃ w2, w2 = pupd w 238 (dcl (vf_upd g38 0 (FP.f2d (FP.fdiv (FP.i2f (m 1 (39 + g))) (FP.i2f (sumTo (s 3) 5)))))) := ⟨_, rfl⟩
      rw [← hw2] at E1
      have o2 : ∀ i, ¬ i = 238 → w2 i = w i := fun i hi => by rw [hw2, pupd_ne hi]
      have h38 : w2 238 = some (dcl (vf_upd g38 0 (FP.f2d (FP.fdiv (FP.i2f (m 1 (39 + g))) (FP.i2f (sumTo (s 3) 5)))))) := by rw [hw2]; exact pupd_same _ _ _
      have M2 : setM w2 227 m = w2 := isM_c hV.2.1 (fun i h1 h2 => o2 i (by omega))
      have E' := c275_0 (x := x) (n := n) (b := 227) (w := w2) hS hg h0
      rw [M2] at E'
      obtain ⟨hW0, hM, -, -, hR, hH, h6, hy, hi, hiK⟩ := id hV
      refine ⟨0, _, w2, n, _, n, E1, E', clM M2, by omega, by omega, by omega, fun i h1 h2 => by rw [setM_out (by omega), o2 i (by omega)], fun _ => ⟨f2_ok h5, _, by rw [setM_out (by omega)]; exact h38, if_pos rfl⟩, _, s, t, y, hs, F, K, c, q, cs, B, by omega, IV_2 hW (fun i hi => o2 i (by omega)) (by rw [o2 _ (by omega)]; exact hf) h38 ?_ ⟨hH.1, ?_, fun j hj => ?_⟩ ?_ ?_ hi hiK, by rw [us_at, if_pos rfl, if_pos rfl], Kp13⟩
      · rw [us_ne (by decide)]; exact hR
      · rw [us_at, if_pos rfl, if_neg (by decide)]; exact hH.2.1
      · rw [us_ne (by decide)]; exact hH.2.2 j hj
      · rw [us_at, if_pos rfl, if_neg (by decide)]; exact h6
      · rw [us_ne (by decide)]; exact hy
end PSH
