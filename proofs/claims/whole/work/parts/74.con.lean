/-! CONSISTENT on both sides -/
section CON
set_option maxRecDepth 20000
variable {x : SX} {n b c q B : Nat} {w w' : PW} {m s t y : NS} {hs le lf hc : Int32} {F : Nat → Nat} {K : Nat → NS} {sc : NS} {cs : Nat → Nat} {u v N : Int32}
theorem setN_all : ∀ a, a < 12 → ∀ b, b < 12 → ∀ c, c < 12 → (setN (Int32.ofNat a) (Int32.ofNat b) (Int32.ofNat c)).toNatClampNeg < 4096 ∧ setN (Int32.ofNat a) (Int32.ofNat b) (Int32.ofNat c) = Int32.ofNat (setN (Int32.ofNat a) (Int32.ofNat b) (Int32.ofNat c)).toNatClampNeg := by decide +kernel
theorem snd_all : ∀ a, a < 12 → ∀ k, k < 21 → (snd (Int32.ofNat a) (Int32.ofNat k)).toNatClampNeg < 12 ∧ snd (Int32.ofNat a) (Int32.ofNat k) = Int32.ofNat (snd (Int32.ofNat a) (Int32.ofNat k)).toNatClampNeg := by decide +kernel
theorem sn_lt {g : Nat → Int32} {gt r : Nat} (hR : RS s g) (hg : gt < 5) (hr : r < 2) : ∃ a, a < 12 ∧ snS s gt r = Int32.ofNat a := by
  obtain ⟨-, a, ha, e4⟩ := hR.2.2.2.1 (gt * 2 + r) (by omega)
  obtain ⟨-, k, hk, e5⟩ := hR.2.2.2.2.1 (gt * 2 + r) (by omega)
  unfold snS
  rw [e4, e5]
  exact ⟨_, snd_all a ha k hk⟩
theorem c109' {z : Int32} : RM x 109 [.int u, .int v, .int z] w n = some (.inl (some (.int (setN u v z))), w, n) := c109
theorem l150i {g : Nat} {s0 s1 : Int32} (l1 : clo w 66 = some 2) (E0 : RM x 148 [.ref 66, .int (Int32.ofNat g), .int 0] w n = some (.inl (some (.int s0)), w, n)) (E1 : RM x 148 [.ref 66, .int (Int32.ofNat g), .int 1] w n = some (.inl (some (.int s1)), w, n))
    (hN : ∀ i, i < 12 → kdS (setN (Int32.ofNat i) s0 s1) = kdC (setN (Int32.ofNat i) s0 s1)) (d : Nat) : ∀ (i : Nat) (e : Option Value), i + d = 12 → wd e = true → ∃ e', wd e' = true ∧
    RC x 150 9 [some (.ref 66), some (.int (Int32.ofNat g)), some (.int (Int32.ofNat i)), e] [] w n = RC x 150 51 [some (.ref 66), some (.int (Int32.ofNat g)), some (.int 12), e'] [] w n := by
  induction d with
  | zero =>
    intro i e h we
    obtain rfl : i = 12 := by omega
    have h0 : ¬ Int32.ofNat 12 < (12 : Int32) := by decide
    refine ⟨e, we, ?_⟩
    rw [r150_9]
    simp only [csN, csm_i, csm_r, Nat.reduceAdd, Nat.reduceLeDiff, wdI, wdR, wdN, clM_0, clC_0, clC_1, clC_6, clC_8, true_or, or_true, i10, i01, ob_some, ob_map, cal_v, rvs_some, rvs_none, XO_at, cal_x, m150, r150_0, r150_1, r150_2, r150_3, r150_4, r150_7, r150_8, r150_10, r150_12, r150_15, r150_16, r150_17, r150_18, r150_19, r150_22, r150_23, r150_24, r150_25, r150_28, r150_31, r150_32, r150_33, r150_36, r150_37, r150_40, r150_43, r150_44, r150_45, r150_48, r150_54, r150_57, r150_58, h0, if_false]
    rfl
  | succ d ih =>
    intro i e h we
    have h1 : Int32.ofNat i < (12 : Int32) := nlt (N := 12) (by omega) (by omega) (by omega)
    have h2 : Int32.ofNat i + 1 = Int32.ofNat (i + 1) := i_add (b := 1)
    obtain ⟨e', w1, hh⟩ := ih (i + 1) (some (.int (setN (Int32.ofNat i) s0 s1))) (by omega) rfl
    refine ⟨e', w1, ?_⟩
    rw [r150_9]
    have k := hN i (by omega)
    simp only [csN, csm_i, csm_r, Nat.reduceAdd, Nat.reduceLeDiff, wdI, wdR, wdN, clM_0, clC_0, clC_1, clC_6, clC_8, true_or, or_true, i10, i01, ob_some, ob_map, cal_v, rvs_some, rvs_none, XO_at, cal_x, m150, r150_0, r150_1, r150_2, r150_3, r150_4, r150_7, r150_8, r150_10, r150_12, r150_15, r150_16, r150_17, r150_18, r150_19, r150_22, r150_23, r150_24, r150_25, r150_28, r150_31, r150_32, r150_33, r150_36, r150_37, r150_40, r150_43, r150_44, r150_45, r150_48, r150_54, r150_57, r150_58, h1, if_true, l1, E0, E1, c109', c114, c115, k, we, h2]
    exact hh
theorem l150 (hR : RS s (m 1)) (l1 : clo w 66 = some 2) (E : ∀ g r : Nat, ∀ v : Int32, v = Int32.ofNat r → g < 5 → r < 2 → RM x 148 [.ref 66, .int (Int32.ofNat g), .int v] w n = some (.inl (some (.int (snS s g r))), w, n)) (d : Nat) : ∀ (g : Nat) (e1 e2 : Option Value), g + d = 5 → wd e1 = true → wd e2 = true →
    RC x 150 2 [some (.ref 66), some (.int (Int32.ofNat g)), e1, e2] [] w n = some (.inl (some (.int 1)), w, n) := by
  induction d with
  | zero =>
    intro g e1 e2 h w1 w2
    obtain rfl : g = 5 := by omega
    rw [r150_2]
    have h0 : ¬ Int32.ofNat 5 < (5 : Int32) := by decide
    simp only [csN, csm_i, csm_r, Nat.reduceAdd, Nat.reduceLeDiff, wdI, wdR, wdN, clM_0, clC_0, clC_1, clC_6, clC_8, true_or, or_true, i10, i01, ob_some, ob_map, cal_v, rvs_some, rvs_none, XO_at, cal_x, m150, r150_0, r150_1, r150_3, r150_4, r150_7, r150_8, r150_10, r150_12, r150_15, r150_16, r150_17, r150_18, r150_19, r150_22, r150_23, r150_24, r150_25, r150_28, r150_31, r150_32, r150_33, r150_36, r150_37, r150_40, r150_43, r150_44, r150_45, r150_48, r150_54, r150_57, h0, if_false]
    exact r150_58 (by decide)
  | succ d ih =>
    intro g e1 e2 h w1 w2
    have h1 : Int32.ofNat g < (5 : Int32) := nlt (N := 5) (by omega) (by omega) (by omega)
    have h2 : Int32.ofNat g + 1 = Int32.ofNat (g + 1) := i_add (b := 1)
    obtain ⟨a0, ha0, s0⟩ := sn_lt hR (show g < 5 by omega) (show 0 < 2 by omega)
    obtain ⟨a1, ha1, s1⟩ := sn_lt hR (show g < 5 by omega) (show 1 < 2 by omega)
    obtain ⟨e', w3, hl⟩ := l150i (x := x) (n := n) l1 (E g 0 0 rfl (by omega) (by omega)) (E g 1 1 rfl (by omega) (by omega)) (fun i hi => by
      rw [s0, s1, (setN_all i hi a0 ha0 a1 ha1).2]
      exact kdS_eq (setN_all i hi a0 ha0 a1 ha1).1) 12 0 e2 rfl w2
    have hh := ih (g + 1) (some (.int 12)) e' (by omega) rfl w3
    rw [r150_2]
    simp only [csN, csm_i, csm_r, Nat.reduceAdd, Nat.reduceLeDiff, wdI, wdR, wdN, clM_0, clC_0, clC_1, clC_6, clC_8, true_or, or_true, i10, i01, ob_some, ob_map, cal_v, rvs_some, rvs_none, XO_at, cal_x, m150, r150_0, r150_1, r150_3, r150_4, r150_7, r150_8, r150_10, r150_12, r150_15, r150_16, r150_17, r150_18, r150_19, r150_22, r150_23, r150_24, r150_25, r150_28, r150_31, r150_32, r150_33, r150_36, r150_37, r150_40, r150_43, r150_44, r150_45, r150_48, r150_54, r150_57, h1, if_true, w1]
    refine Eq.trans hl ?_
    rw [r150_51 (a0 := some (.ref 66)) rfl]
    simp only [csN, csm_i, csm_r, Nat.reduceAdd, Nat.reduceLeDiff, wdI, wdR, wdN, clM_0, clC_0, clC_1, clC_6, clC_8, true_or, or_true, i10, i01, ob_some, ob_map, cal_v, rvs_some, rvs_none, XO_at, cal_x, m150, r150_0, r150_1, r150_3, r150_4, r150_7, r150_8, r150_10, r150_12, r150_15, r150_16, r150_17, r150_18, r150_19, r150_22, r150_23, r150_24, r150_25, r150_28, r150_31, r150_32, r150_33, r150_36, r150_37, r150_40, r150_43, r150_44, r150_45, r150_48, r150_54, r150_57, h2]
    exact hh
theorem c276 : RM x 276 [.ref b] (setM w b m) n = some (.inl (some (.int 1)), setM w b (us m 20 13 0), n) := by
  simp only [csN, csm_i, csm_r, Nat.reduceAdd, Nat.reduceLeDiff, wdI, wdR, wdN, clM_0, clC_0, clC_1, clC_6, clC_8, true_or, or_true, i10, i01, ob_some, ob_map, cal_v, rvs_some, rvs_none, XO_at, cal_x, m276, r276_0, r276_1, r276_2, r276_5, pM_0_13]
  exact r276_6 (by decide)
theorem p78 (hV : IV B w m s t y hs le lf F K sc c q cs) : SAME B x w n 78 [.ref 64] 276 [.ref 227] m le lf sc := by
  have hW := hV.1
  have hRH := hV.2.2.2.2.1.1.1
  have hJ := hV.2.2.2.2.1.2
  obtain ⟨⟨g0, -⟩, -⟩ := WD_64 hW
  obtain ⟨k0, k1, k2, -, -, -, -, -, -, l1, l4, l8⟩ := WD_r hW
  have E : ∀ g r : Nat, ∀ v : Int32, v = Int32.ofNat r → g < 5 → r < 2 → RM x 148 [.ref 66, .int (Int32.ofNat g), .int v] w n = some (.inl (some (.int (snS s g r))), w, n) := fun g r v hv hg hr => by
    have k := c148 (x := x) (n := n) (b := 65) (w := w) (s := s) (g := g) (t := r) rfl hv hg hr
    rw [(WD_c hW).1] at k
    exact k
  have e1 : RM x 150 [.ref 66] w n = some (.inl (some (.int 1)), w, n) := by
    simp only [csN, csm_i, csm_r, Nat.reduceAdd, Nat.reduceLeDiff, wdI, wdR, wdN, clM_0, clC_0, clC_1, clC_6, clC_8, true_or, or_true, i10, i01, ob_some, ob_map, cal_v, rvs_some, rvs_none, XO_at, cal_x, m150, r150_0, r150_1, r150_3, r150_4, r150_7, r150_8, r150_10, r150_12, r150_15, r150_16, r150_17, r150_18, r150_19, r150_22, r150_23, r150_24, r150_25, r150_28, r150_31, r150_32, r150_33, r150_36, r150_37, r150_40, r150_43, r150_44, r150_45, r150_48, r150_54, r150_57]
    exact l150 hRH.2.1 l1 E 5 0 none none rfl rfl rfl
  have e2 : RM x 172 [.ref 71] w n = some (.inl (some (.int (sumTo (s 7) 6))), w, n) := by
    have k := c172 (x := x) (n := n) (b := 65) (w := w) (s := s)
    rw [(WD_c hW).1] at k
    exact k
  have e3 : RM x 173 [.ref 71] w n = some (.inl (some (.int (sumTo (s 7) 6))), w, n) := by
    have k := c173 (x := x) (n := n) (b := 65) (w := w) (s := s)
    rw [(WD_c hW).1, acc_eq hJ] at k
    exact k
  have e4 : RM x 174 [.ref 71] w n = some (.inl (some (.int 1)), w, n) := by
    have k := c174 (x := x) (n := n) (b := 65) (w := w) (s := s) (fun r hr => by
      obtain ⟨a, ha, e⟩ := hJ.1 r hr
      rw [e]
      exact fun z => by
        have : (Int32.ofNat 90 < Int32.ofNat a) := z
        rw [i_lt (by omega) (by omega)] at this
        omega)
    rw [(WD_c hW).1] at k
    exact k
  have e5 : RM x 137 [.ref 73] w n = some (.inl (some (.int 1)), w, n) := by
    have k := c137 (x := x) (n := n) (b := 65) (w := w) hRH.1.1.1 hRH.1.1.2.1 hJ.2.2.1
    rw [(WD_c hW).1] at k
    exact k
  refine q_same (r := 1) hV ?_ (fun w' n' => c276)
  simp only [csN, csm_i, csm_r, Nat.reduceAdd, Nat.reduceLeDiff, wdI, wdR, wdN, clM_0, clC_0, clC_1, clC_6, clC_8, true_or, or_true, i10, i01, ob_some, ob_map, cal_v, rvs_some, rvs_none, XO_at, cal_x, m78, r78_0, r78_1, r78_4, r78_7, r78_10, r78_13, r78_14, r78_17, r78_20, r78_23, r78_24, r78_27, r78_30, r78_33, r78_36, r78_37, r78_40, r78_43, r78_46, r78_49, r78_50, r78_53, r78_56, r78_59, r78_62, r78_63, r78_66, g0, k0, k1, k2, l1, l4, l8, e1, e2, e3, e4, e5, if_true, if_false]
  exact r78_67 (by decide)
end CON
