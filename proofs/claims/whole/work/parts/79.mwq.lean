/-! THE MEAN WEAR on both sides -/
section MWQ
set_option maxRecDepth 20000
variable {x : SX} {n b c q B : Nat} {w w' : PW} {m s t y : NS} {hs le lf hc : Int32} {F : Nat → Nat} {K : Nat → NS} {sc : NS} {cs : Nat → Nat} {u v : Int32}
theorem dv_all : ∀ a, a < 201 → FP.ddiv (FP.i2d (Int32.ofNat a)) (UInt64.ofNat 4621819117588971520) &&& 0x7fffffffffffffff ≤ 0x7ff0000000000000 := by decide +kernel
theorem sum_20 {f : Nat → Int32} {N : Nat} (h : ∀ j, j < N → ∃ a, a < 21 ∧ f j = Int32.ofNat a) : ∃ a, a ≤ 20 * N ∧ sumTo f N = Int32.ofNat a := by
  induction N with
  | zero => exact ⟨0, by omega, rfl⟩
  | succ N ih =>
    obtain ⟨a, ha, e⟩ := ih (fun j hj => h j (by omega))
    obtain ⟨b', hb, e'⟩ := h N (by omega)
    refine ⟨a + b', by omega, ?_⟩
    unfold sumTo
    rw [e, e', i_add]
def mwD (s : NS) : UInt64 := FP.ddiv (FP.i2d (sumTo (s 5) 10)) (UInt64.ofNat 4621819117588971520)
theorem mw_ok {g : Nat → Int32} (hR : RS s g) : FP.ddiv (FP.i2d (sumTo (s 5) 10)) (UInt64.ofNat 4621819117588971520) &&& 0x7fffffffffffffff ≤ 0x7ff0000000000000 := by
  obtain ⟨a, ha, e⟩ := sum_20 (f := s 5) (N := 10) (fun j hj => (hR.2.2.2.2.1 j hj).2)
  rw [e]
  exact dv_all a (by omega)
theorem l274 (hR : RS s (m 1)) (d : Nat) : ∀ i, i + d = 10 → RC x 274 5 [some (.ref b), some (.int (sumTo (s 5) i)), some (.int (Int32.ofNat (29 + i)))] [] (setM w b m) n = some (.inl (some (.double (mwD s))), setM w b (us m 20 13 0), n) := by
  induction d with
  | zero =>
    intro i hi
    obtain rfl : i = 10 := by omega
    rw [r274_5]
    have h1 : ¬ Int32.ofNat (29 + 10) < (39 : Int32) := by decide
    have h2 := mw_ok hR
    simp only [csN, csm_i, csm_r, Nat.reduceAdd, Nat.reduceLeDiff, wdI, wdR, wdN, clM_0, clC_0, clC_1, clC_6, clC_8, true_or, or_true, i10, i01, ob_some, ob_map, cal_v, rvs_some, rvs_none, XO_at, cal_x, m274, r274_0, r274_1, r274_2, r274_4, r274_6, r274_8, r274_11, r274_12, r274_13, r274_16, r274_17, r274_18, r274_19, r274_20, r274_23, r274_26, r274_27, r274_28, r274_31, r274_32, r274_33, r274_36, r274_37, h1, if_false, pM_0_13, h2]
    rfl
  | succ d ih =>
    intro i hi
    rw [r274_5]
    have h1 : Int32.ofNat (29 + i) < (39 : Int32) := nlt (N := 39) (by omega) (by omega) (by omega)
    have h2 : Int32.ofNat (29 + i) + 1 = Int32.ofNat (29 + (i + 1)) := i_add (b := 1)
    have h4 : fin 84 (Int32.ofNat (29 + i)) = some (29 + i) := fin_nat (by omega) (by omega)
    have e := (hR.2.2.2.2.1 i (by omega)).1.symm
    have hh := ih (i + 1) (by omega)
    simp only [csN, csm_i, csm_r, Nat.reduceAdd, Nat.reduceLeDiff, wdI, wdR, wdN, clM_0, clC_0, clC_1, clC_6, clC_8, true_or, or_true, i10, i01, ob_some, ob_map, cal_v, rvs_some, rvs_none, XO_at, cal_x, m274, r274_0, r274_1, r274_2, r274_4, r274_6, r274_8, r274_11, r274_12, r274_13, r274_16, r274_17, r274_18, r274_19, r274_20, r274_23, r274_26, r274_27, r274_28, r274_31, r274_32, r274_33, r274_36, r274_37, h1, if_true, gM_0_0, lM_1, h2, h4, Option.map_some, e]
    exact hh
theorem c274 (hR : RS s (m 1)) : RM x 274 [.ref b] (setM w b m) n = some (.inl (some (.double (mwD s))), setM w b (us m 20 13 0), n) := by
  simp only [csN, csm_i, csm_r, Nat.reduceAdd, Nat.reduceLeDiff, wdI, wdR, wdN, clM_0, clC_0, clC_1, clC_6, clC_8, true_or, or_true, i10, i01, ob_some, ob_map, cal_v, rvs_some, rvs_none, XO_at, cal_x, m274, r274_0, r274_1, r274_2, r274_4, r274_6, r274_8, r274_11, r274_12, r274_13, r274_16, r274_17, r274_18, r274_19, r274_20, r274_23, r274_26, r274_27, r274_28, r274_31, r274_32, r274_33, r274_36, r274_37]
  exact l274 hR 10 0 rfl
theorem c76 (hV : IV B w m s t y hs le lf F K sc c q cs) : RM x 76 [.ref 64] w n = some (.inl (some (.double (mwD s))), w, n) := by
  have hW := hV.1
  obtain ⟨⟨g0, -⟩, -⟩ := WD_64 hW
  obtain ⟨k0, -, -, -, -, -, -, -, -, l1, -⟩ := WD_r hW
  have e : RM x 155 [.ref 66] w n = some (.inl (some (.int (sumTo (s 5) 10))), w, n) := by
    have k := c155 (x := x) (n := n) (b := 65) (w := w) (s := s)
    rw [(WD_c hW).1] at k
    exact k
  have h2 := mw_ok hV.2.2.2.2.1.1.1.2.1
  simp only [csN, csm_i, csm_r, Nat.reduceAdd, Nat.reduceLeDiff, wdI, wdR, wdN, clM_0, clC_0, clC_1, clC_6, clC_8, true_or, or_true, i10, i01, ob_some, ob_map, cal_v, rvs_some, rvs_none, XO_at, cal_x, m76, r76_0, r76_1, r76_4, r76_7, r76_10, r76_11, r76_14, r76_15, g0, k0, l1, e, h2]
  rfl
end MWQ
