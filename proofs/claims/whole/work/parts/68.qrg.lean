/-! QUESTIONS about gates and reaches -/
section QRG
set_option maxRecDepth 20000
variable {x : SX} {n b c q B : Nat} {w w' : PW} {m s t y : NS} {hs le lf hc : Int32} {F : Nat → Nat} {K : Nat → NS} {sc : NS} {cs : Nat → Nat} {u v : Int32}
def PAIRB (B : Nat) (x : SX) (w : PW) (n : Nat) (j1 : Nat) (A1 : List Value) (j2 : Nat) (A2 : List Value) (m : NS) (le lf : Int32) (sc : NS) : Prop :=
  ∃ e d w1 n1 w2 n2, RM x j1 A1 w n = some (.inl (some (.int e)), w1, n1) ∧ RM x j2 A2 w1 n1 = some (.inl (some (.int (bi d))), w2, n2) ∧ clo w1 227 = some 7 ∧ n ≤ n1 ∧ n1 ≤ n2 ∧ n2 ≤ n + 2 ∧ Fr w w2 ∧ (e = 0 → ∃ f, w2 237 = some (lcl f) ∧ f 0 = cond d 1 0) ∧
    ∃ m' s t y hs F K c q cs B', B' ≤ B + 64 ∧ IV B' w2 m' s t y hs le lf F K sc c q cs ∧ m' 20 13 = e ∧ Kp m m'
theorem qb_ok {d : Bool} {j1 j2 : Nat} {A1 A2 : List Value} (hV : IV B w m s t y hs le lf F K sc c q cs) (E1 : ∀ f, w 237 = some (lcl f) → RM x j1 A1 w n = some (.inl (some (.int 0)), pupd w 237 (lcl (vp_updL f 0 (cond d 1 0))), n))
    (E2 : ∀ w' n', RM x j2 A2 (setM w' 227 m) n' = some (.inl (some (.int (bi d))), setM w' 227 (us m 20 13 0), n')) : PAIRB B x w n j1 A1 j2 A2 m le lf sc := by
  obtain ⟨f, hf⟩ := hV.2.2.1
  have E := E1 f hf
  obtain ⟨w2, hw2⟩ : ∃ w2, w2 = pupd w 237 (lcl (vp_updL f 0 (cond d 1 0))) := ⟨_, rfl⟩
  rw [← hw2] at E
  have o2 : ∀ i, ¬ i = 237 → w2 i = w i := fun i hi => by rw [hw2, pupd_ne hi]
  have h37 : w2 237 = some (lcl (vp_updL f 0 (cond d 1 0))) := by rw [hw2]; exact pupd_same _ _ _
  have M2 : setM w2 227 m = w2 := isM_c hV.2.1 (fun i h1 h2 => o2 i (by omega))
  have E' := E2 w2 n
  rw [M2] at E'
  exact ⟨0, d, w2, n, _, n, E, E', clM M2, by omega, by omega, by omega, fun i h1 h2 => by rw [setM_out (by omega), o2 i (by omega)], fun _ => ⟨_, by rw [setM_out (by omega)]; exact h37, updL_0⟩, _, s, t, y, hs, F, K, c, q, cs, B, by omega, IVq hV o2 h37, by rw [us_at, if_pos rfl, if_pos rfl], Kp13⟩
theorem qb_ex {e : Int32} {j1 j2 : Nat} {A1 A2 : List Value} (hV : IV B w m s t y hs le lf F K sc c q cs) (he : ¬ e = 0) (E1 : RM x j1 A1 w n = some (.inl (some (.int e)), w, n + 2))
    (E2 : ∀ w' n', RM x j2 A2 (setM w' 227 m) n' = some (.inl (some (.int 0)), setM w' 227 (us m 20 13 e), n')) : PAIRB B x w n j1 A1 j2 A2 m le lf sc := by
  obtain ⟨f, hf⟩ := hV.2.2.1
  have E' := E2 w (n + 2)
  rw [hV.2.1] at E'
  exact ⟨e, false, w, n + 2, _, n + 2, E1, E', clM hV.2.1, by omega, by omega, by omega, fun i h1 h2 => by rw [setM_out (by omega)], fun h => absurd h he, _, s, t, y, hs, F, K, c, q, cs, B, by omega, IVq hV (fun _ _ => rfl) hf, by rw [us_at, if_pos rfl, if_pos rfl], Kp13⟩
/-! opening notes -/
theorem l47 {g : Nat} (g0 : gfd w 6 0 64 = some (.ref 65)) (k0 : gfd w 0 0 65 = some (.ref 66)) (l1 : clo w 66 = some 2) (E : ∀ v, RM x 149 [.ref 66, .int (Int32.ofNat g), .int v] w n = some (.inl (some (.int (bi (opS s g v)))), w, n)) (d : Nat) : ∀ i, i + d = 12 →
    RC x 47 8 [some (.ref 64), some (.int (Int32.ofNat g)), some (.int (Int32.ofNat (cnt (fun j => opS s g (Int32.ofNat j)) i))), some (.int (Int32.ofNat i))] [] w n = some (.inl (some (.int (Int32.ofNat (cnt (fun j => opS s g (Int32.ofNat j)) 12)))), w, n) := by
  induction d with
  | zero =>
    intro i hi
    obtain rfl : i = 12 := by omega
    rw [r47_8]
    have h0 : ¬ Int32.ofNat 12 < (12 : Int32) := by decide
    simp only [csN, csm_i, csm_r, Nat.reduceAdd, Nat.reduceLeDiff, wdI, wdR, wdN, clM_0, clC_0, clC_1, clC_6, clC_8, true_or, or_true, i10, i01, ob_some, ob_map, cal_v, rvs_some, rvs_none, XO_at, cal_x, m47, r47_0, r47_1, r47_4, r47_5, r47_6, r47_7, r47_9, r47_11, r47_14, r47_15, r47_18, r47_21, r47_22, r47_23, r47_26, r47_29, r47_32, r47_35, r47_38, r47_39, h0, if_false]
  | succ d ih =>
    intro i hi
    rw [r47_8]
    have h1 : Int32.ofNat i < (12 : Int32) := nlt (N := 12) (by omega) (by omega) (by omega)
    have h2 : Int32.ofNat i + 1 = Int32.ofNat (i + 1) := i_add (b := 1)
    have h3 : ∀ a, Int32.ofNat a + 1 = Int32.ofNat (a + 1) := fun a => i_add (b := 1)
    have hh := ih (i + 1) (by omega)
    cases hp : opS s g (Int32.ofNat i) with
    | true =>
      have hs : cnt (fun j => opS s g (Int32.ofNat j)) (i + 1) = cnt (fun j => opS s g (Int32.ofNat j)) i + 1 := by rw [cnt_s, hp, cond_true]
      rw [hs] at hh
      simp only [csN, csm_i, csm_r, Nat.reduceAdd, Nat.reduceLeDiff, wdI, wdR, wdN, clM_0, clC_0, clC_1, clC_6, clC_8, true_or, or_true, i10, i01, ob_some, ob_map, cal_v, rvs_some, rvs_none, XO_at, cal_x, m47, r47_0, r47_1, r47_4, r47_5, r47_6, r47_7, r47_9, r47_11, r47_14, r47_15, r47_18, r47_21, r47_22, r47_23, r47_26, r47_29, r47_32, r47_35, r47_38, r47_39, h1, if_true, g0, k0, l1, E, hp, bi_t, if_false, h3]
      exact hh
    | false =>
      have hs : cnt (fun j => opS s g (Int32.ofNat j)) (i + 1) = cnt (fun j => opS s g (Int32.ofNat j)) i := by rw [cnt_s, hp, cond_false]
      rw [hs] at hh
      simp only [csN, csm_i, csm_r, Nat.reduceAdd, Nat.reduceLeDiff, wdI, wdR, wdN, clM_0, clC_0, clC_1, clC_6, clC_8, true_or, or_true, i10, i01, ob_some, ob_map, cal_v, rvs_some, rvs_none, XO_at, cal_x, m47, r47_0, r47_1, r47_4, r47_5, r47_6, r47_7, r47_9, r47_11, r47_14, r47_15, r47_18, r47_21, r47_22, r47_23, r47_26, r47_29, r47_32, r47_35, r47_38, r47_39, h1, if_true, g0, k0, l1, E, hp, bi_f, h2]
      exact hh
theorem l241 {g : Nat} (hR : RS s (m 1)) (hg : g < 5) (d : Nat) : ∀ i, i + d = 12 →
    RC x 241 17 [some (.ref b), some (.int (Int32.ofNat g)), some (.int (Int32.ofNat (cnt (fun j => opS s g (Int32.ofNat j)) i))), some (.int (Int32.ofNat i))] [] (setM w b m) n = some (.inl (some (.int (Int32.ofNat (cnt (fun j => opS s g (Int32.ofNat j)) 12)))), setM w b (us m 20 13 0), n) := by
  have E := fun v => c210 (x := x) (n := n) (b := b) (w := w) (gt := g) (v := v) hR rfl hg
  induction d with
  | zero =>
    intro i hi
    obtain rfl : i = 12 := by omega
    rw [r241_17]
    have h0 : ¬ Int32.ofNat 12 < (12 : Int32) := by decide
    simp only [csN, csm_i, csm_r, Nat.reduceAdd, Nat.reduceLeDiff, wdI, wdR, wdN, clM_0, clC_0, clC_1, clC_6, clC_8, true_or, or_true, i10, i01, ob_some, ob_map, cal_v, rvs_some, rvs_none, XO_at, cal_x, m241, r241_0, r241_1, r241_4, r241_7, r241_8, r241_9, r241_12, r241_13, r241_14, r241_15, r241_16, r241_18, r241_20, r241_23, r241_24, r241_25, r241_26, r241_27, r241_30, r241_33, r241_34, r241_37, r241_38, r241_39, r241_40, r241_43, r241_46, r241_47, r241_48, r241_51, h0, if_false, c195]
  | succ d ih =>
    intro i hi
    rw [r241_17]
    have h1 : Int32.ofNat i < (12 : Int32) := nlt (N := 12) (by omega) (by omega) (by omega)
    have h3 : ∀ a, Int32.ofNat a + 1 = Int32.ofNat (a + 1) := fun a => i_add (b := 1)
    have hh := ih (i + 1) (by omega)
    cases hp : opS s g (Int32.ofNat i) with
    | true =>
      have hs : cnt (fun j => opS s g (Int32.ofNat j)) (i + 1) = cnt (fun j => opS s g (Int32.ofNat j)) i + 1 := by rw [cnt_s, hp, cond_true]
      rw [hs] at hh
      simp only [csN, csm_i, csm_r, Nat.reduceAdd, Nat.reduceLeDiff, wdI, wdR, wdN, clM_0, clC_0, clC_1, clC_6, clC_8, true_or, or_true, i10, i01, ob_some, ob_map, cal_v, rvs_some, rvs_none, XO_at, cal_x, m241, r241_0, r241_1, r241_4, r241_7, r241_8, r241_9, r241_12, r241_13, r241_14, r241_15, r241_16, r241_18, r241_20, r241_23, r241_24, r241_25, r241_26, r241_27, r241_30, r241_33, r241_34, r241_37, r241_38, r241_39, r241_40, r241_43, r241_46, r241_47, r241_48, r241_51, h1, if_true, E, hp, bi_t, if_false, h3]
      exact hh
    | false =>
      have hs : cnt (fun j => opS s g (Int32.ofNat j)) (i + 1) = cnt (fun j => opS s g (Int32.ofNat j)) i := by rw [cnt_s, hp, cond_false]
      rw [hs] at hh
      simp only [csN, csm_i, csm_r, Nat.reduceAdd, Nat.reduceLeDiff, wdI, wdR, wdN, clM_0, clC_0, clC_1, clC_6, clC_8, true_or, or_true, i10, i01, ob_some, ob_map, cal_v, rvs_some, rvs_none, XO_at, cal_x, m241, r241_0, r241_1, r241_4, r241_7, r241_8, r241_9, r241_12, r241_13, r241_14, r241_15, r241_16, r241_18, r241_20, r241_23, r241_24, r241_25, r241_26, r241_27, r241_30, r241_33, r241_34, r241_37, r241_38, r241_39, r241_40, r241_43, r241_46, r241_47, r241_48, r241_51, h1, if_true, E, hp, bi_f, Int32.add_zero, h3]
      exact hh
theorem c241_f (h : rg u 5 = false) : RM x 241 [.ref b, .int u] (setM w b m) n = some (.inl (some (.int 0)), setM w b (us m 20 13 1), n) := by
  simp only [csN, csm_i, csm_r, Nat.reduceAdd, Nat.reduceLeDiff, wdI, wdR, wdN, clM_0, clC_0, clC_1, clC_6, clC_8, true_or, or_true, i10, i01, ob_some, ob_map, cal_v, rvs_some, rvs_none, XO_at, cal_x, m241, r241_0, r241_1, r241_4, r241_7, r241_8, r241_9, r241_12, r241_13, r241_14, r241_15, r241_16, r241_18, r241_20, r241_23, r241_24, r241_25, r241_26, r241_27, r241_30, r241_33, r241_34, r241_37, r241_38, r241_39, r241_40, r241_43, r241_46, r241_47, r241_48, r241_51, c200, h, bi_f, if_true, c196]
theorem c241_t {g : Nat} (hR : RS s (m 1)) (hg : g < 5) : RM x 241 [.ref b, .int (Int32.ofNat g)] (setM w b m) n = some (.inl (some (.int (Int32.ofNat (cnt (fun j => opS s g (Int32.ofNat j)) 12)))), setM w b (us m 20 13 0), n) := by
  have h1 : rg (Int32.ofNat g) 5 = true := nat_rg (N := 5) (by omega) hg
  simp only [csN, csm_i, csm_r, Nat.reduceAdd, Nat.reduceLeDiff, wdI, wdR, wdN, clM_0, clC_0, clC_1, clC_6, clC_8, true_or, or_true, i10, i01, ob_some, ob_map, cal_v, rvs_some, rvs_none, XO_at, cal_x, m241, r241_0, r241_1, r241_4, r241_7, r241_8, r241_9, r241_12, r241_13, r241_14, r241_15, r241_16, r241_18, r241_20, r241_23, r241_24, r241_25, r241_26, r241_27, r241_30, r241_33, r241_34, r241_37, r241_38, r241_39, r241_40, r241_43, r241_46, r241_47, r241_48, r241_51, c200, h1, bi_t, if_false]
  exact l241 hR hg 12 0 rfl
theorem WD_op {g : Nat} (hW : WD w s t y hs le lf F K hc sc) (hg : g < 5) (hk : isCh (s 2 g)) (v : Int32) : RM x 149 [.ref 66, .int (Int32.ofNat g), .int v] w n = some (.inl (some (.int (bi (opS s g v)))), w, n) := by
  have k := c149 (x := x) (n := n) (b := 65) (w := w) (s := s) (v := v) rfl hg hk
  rw [(WD_c hW).1] at k
  exact k
theorem p310 (hV : IV B w m s t y hs le lf F K sc c q cs) : PAIR B x w n 310 [.ref 64, .int u, .ref 237] 241 [.ref 227, .int u] m le lf sc := by
  have hW := hV.1
  have hS := hV.2.2.2.2.1.1.1.2.1
  have hk := hV.2.2.2.2.1.1.1.1.1.2.2
  obtain ⟨⟨g0, -⟩, c64, -⟩ := WD_64 hW
  obtain ⟨k0, -, -, -, -, -, -, -, -, l1, -⟩ := WD_r hW
  cases h : rg u 5 with
  | true =>
    obtain ⟨g, hg, rfl⟩ := rg_nat (N := 5) (by omega) h
    have e1 := c92_t (x := x) (n := n) (w := w) h
    have e2 := l47 (x := x) (n := n) g0 k0 l1 (WD_op hW hg (isKd_ch (hk g hg))) 12 0 rfl
    have e3 : RM x 47 [.ref 64, .int (Int32.ofNat g)] w n = some (.inl (some (.int (Int32.ofNat (cnt (fun j => opS s g (Int32.ofNat j)) 12)))), w, n) := by
      simp only [csN, csm_i, csm_r, Nat.reduceAdd, Nat.reduceLeDiff, wdI, wdR, wdN, clM_0, clC_0, clC_1, clC_6, clC_8, true_or, or_true, i10, i01, ob_some, ob_map, cal_v, rvs_some, rvs_none, XO_at, cal_x, m47, r47_0, r47_1, r47_4, r47_5, r47_6, r47_7, r47_9, r47_11, r47_14, r47_15, r47_18, r47_21, r47_22, r47_23, r47_26, r47_29, r47_32, r47_35, r47_38, r47_39, e1]
      exact e2
    exact q_ok hV (fun f hf => lw310 c64 e3 hf) (fun w' n' => c241_t hS hg)
  | false =>
    have e1 := c92_f (x := x) (n := n) (w := w) h
    have e3 : RM x 47 [.ref 64, .int u] w n = some (.inr "java/lang/IndexOutOfBoundsException", w, n + 1) := by
      simp only [csN, csm_i, csm_r, Nat.reduceAdd, Nat.reduceLeDiff, wdI, wdR, wdN, clM_0, clC_0, clC_1, clC_6, clC_8, true_or, or_true, i10, i01, ob_some, ob_map, cal_v, rvs_some, rvs_none, XO_at, cal_x, m47, r47_0, r47_1, r47_4, r47_5, r47_6, r47_7, r47_9, r47_11, r47_14, r47_15, r47_18, r47_21, r47_22, r47_23, r47_26, r47_29, r47_32, r47_35, r47_38, r47_39, e1]
    exact q_ex hV (by decide) (lx310_1 c64 e3) (fun w' n' => c241_f h)
/-! lowest opening note -/
def loA (p : Nat → Bool) : Nat → Nat → Nat
  | 0, i => i
  | d + 1, i => cond (p i) i (loA p d (i + 1))
theorem loA_le {p : Nat → Bool} (d : Nat) : ∀ i, loA p d i ≤ i + d := by
  induction d with
  | zero => intro i; exact Nat.le_refl _
  | succ d ih =>
    intro i
    have := ih (i + 1)
    unfold loA
    cases p i <;> simp only [cond_true, cond_false] <;> omega
theorem l48 {g : Nat} (g0 : gfd w 6 0 64 = some (.ref 65)) (k0 : gfd w 0 0 65 = some (.ref 66)) (l1 : clo w 66 = some 2) (E : ∀ v, RM x 149 [.ref 66, .int (Int32.ofNat g), .int v] w n = some (.inl (some (.int (bi (opS s g v)))), w, n)) (d : Nat) : ∀ i, i + d = 12 →
    RC x 48 6 [some (.ref 64), some (.int (Int32.ofNat g)), some (.int (Int32.ofNat i))] [] w n = if loA (fun j => opS s g (Int32.ofNat j)) d i = 12 then some (.inr "java/util/NoSuchElementException", w, n + 1) else some (.inl (some (.int (Int32.ofNat (loA (fun j => opS s g (Int32.ofNat j)) d i)))), w, n) := by
  induction d with
  | zero =>
    intro i hi
    obtain rfl : i = 12 := by omega
    rw [r48_6]
    have h0 : ¬ Int32.ofNat 12 < (12 : Int32) := by decide
    unfold loA
    simp only [csN, csm_i, csm_r, Nat.reduceAdd, Nat.reduceLeDiff, wdI, wdR, wdN, clM_0, clC_0, clC_1, clC_6, clC_8, true_or, or_true, i10, i01, ob_some, ob_map, cal_v, rvs_some, rvs_none, XO_at, cal_x, m48, r48_0, r48_1, r48_4, r48_5, r48_7, r48_9, r48_12, r48_13, r48_16, r48_19, r48_20, r48_21, r48_24, r48_27, r48_28, r48_29, r48_32, r48_35, h0, if_false, if_true]
  | succ d ih =>
    intro i hi
    rw [r48_6]
    have h1 : Int32.ofNat i < (12 : Int32) := nlt (N := 12) (by omega) (by omega) (by omega)
    have h3 : ∀ a, Int32.ofNat a + 1 = Int32.ofNat (a + 1) := fun a => i_add (b := 1)
    have hi12 : ¬ i = 12 := by omega
    have hh := ih (i + 1) (by omega)
    unfold loA
    cases hp : opS s g (Int32.ofNat i) with
    | true =>
      simp only [csN, csm_i, csm_r, Nat.reduceAdd, Nat.reduceLeDiff, wdI, wdR, wdN, clM_0, clC_0, clC_1, clC_6, clC_8, true_or, or_true, i10, i01, ob_some, ob_map, cal_v, rvs_some, rvs_none, XO_at, cal_x, m48, r48_0, r48_1, r48_4, r48_5, r48_7, r48_9, r48_12, r48_13, r48_16, r48_19, r48_20, r48_21, r48_24, r48_27, r48_28, r48_29, r48_32, r48_35, h1, if_true, g0, k0, l1, E, hp, bi_t, if_false, cond_true, hi12]
    | false =>
      simp only [csN, csm_i, csm_r, Nat.reduceAdd, Nat.reduceLeDiff, wdI, wdR, wdN, clM_0, clC_0, clC_1, clC_6, clC_8, true_or, or_true, i10, i01, ob_some, ob_map, cal_v, rvs_some, rvs_none, XO_at, cal_x, m48, r48_0, r48_1, r48_4, r48_5, r48_7, r48_9, r48_12, r48_13, r48_16, r48_19, r48_20, r48_21, r48_24, r48_27, r48_28, r48_29, r48_32, r48_35, h1, if_true, g0, k0, l1, E, hp, bi_f, h3, cond_false]
      exact hh
theorem l242 {g : Nat} (hR : RS s (m 1)) (hg : g < 5) (d : Nat) : ∀ i, i + d = 12 →
    RC x 242 15 [some (.ref b), some (.int (Int32.ofNat g)), some (.int (Int32.ofNat i))] [] (setM w b m) n = RC x 242 36 [some (.ref b), some (.int (Int32.ofNat g)), some (.int (Int32.ofNat (loA (fun j => opS s g (Int32.ofNat j)) d i)))] [] (setM w b m) n := by
  have E := fun v => c210 (x := x) (n := n) (b := b) (w := w) (gt := g) (v := v) hR rfl hg
  induction d with
  | zero =>
    intro i hi
    obtain rfl : i = 12 := by omega
    rw [r242_15]
    have h0 : ¬ Int32.ofNat 12 < (12 : Int32) := by decide
    unfold loA
    simp only [csN, csm_i, csm_r, Nat.reduceAdd, Nat.reduceLeDiff, wdI, wdR, wdN, clM_0, clC_0, clC_1, clC_6, clC_8, true_or, or_true, i10, i01, ob_some, ob_map, cal_v, rvs_some, rvs_none, XO_at, cal_x, m242, r242_0, r242_1, r242_4, r242_7, r242_8, r242_9, r242_12, r242_13, r242_14, r242_16, r242_18, r242_21, r242_22, r242_23, r242_24, r242_27, r242_30, r242_33, r242_37, r242_39, r242_42, r242_43, r242_44, r242_47, r242_50, r242_51, r242_52, r242_55, h0, if_false]
  | succ d ih =>
    intro i hi
    rw [r242_15]
    have h1 : Int32.ofNat i < (12 : Int32) := nlt (N := 12) (by omega) (by omega) (by omega)
    have h3 : ∀ a, Int32.ofNat a + 1 = Int32.ofNat (a + 1) := fun a => i_add (b := 1)
    have hh := ih (i + 1) (by omega)
    unfold loA
    cases hp : opS s g (Int32.ofNat i) with
    | true =>
      simp only [csN, csm_i, csm_r, Nat.reduceAdd, Nat.reduceLeDiff, wdI, wdR, wdN, clM_0, clC_0, clC_1, clC_6, clC_8, true_or, or_true, i10, i01, ob_some, ob_map, cal_v, rvs_some, rvs_none, XO_at, cal_x, m242, r242_0, r242_1, r242_4, r242_7, r242_8, r242_9, r242_12, r242_13, r242_14, r242_16, r242_18, r242_21, r242_22, r242_23, r242_24, r242_27, r242_30, r242_33, r242_37, r242_39, r242_42, r242_43, r242_44, r242_47, r242_50, r242_51, r242_52, r242_55, h1, if_true, E, hp, bi_t, if_false, cond_true]
    | false =>
      simp only [csN, csm_i, csm_r, Nat.reduceAdd, Nat.reduceLeDiff, wdI, wdR, wdN, clM_0, clC_0, clC_1, clC_6, clC_8, true_or, or_true, i10, i01, ob_some, ob_map, cal_v, rvs_some, rvs_none, XO_at, cal_x, m242, r242_0, r242_1, r242_4, r242_7, r242_8, r242_9, r242_12, r242_13, r242_14, r242_16, r242_18, r242_21, r242_22, r242_23, r242_24, r242_27, r242_30, r242_33, r242_37, r242_39, r242_42, r242_43, r242_44, r242_47, r242_50, r242_51, r242_52, r242_55, h1, if_true, E, hp, bi_f, h3, cond_false]
      exact hh
theorem c242_f (h : rg u 5 = false) : RM x 242 [.ref b, .int u] (setM w b m) n = some (.inl (some (.int 0)), setM w b (us m 20 13 1), n) := by
  simp only [csN, csm_i, csm_r, Nat.reduceAdd, Nat.reduceLeDiff, wdI, wdR, wdN, clM_0, clC_0, clC_1, clC_6, clC_8, true_or, or_true, i10, i01, ob_some, ob_map, cal_v, rvs_some, rvs_none, XO_at, cal_x, m242, r242_0, r242_1, r242_4, r242_7, r242_8, r242_9, r242_12, r242_13, r242_14, r242_16, r242_18, r242_21, r242_22, r242_23, r242_24, r242_27, r242_30, r242_33, r242_37, r242_39, r242_42, r242_43, r242_44, r242_47, r242_50, r242_51, r242_52, r242_55, c200, h, bi_f, if_true, c196]
theorem c242_t {g : Nat} (hR : RS s (m 1)) (hg : g < 5) : RM x 242 [.ref b, .int (Int32.ofNat g)] (setM w b m) n = if loA (fun j => opS s g (Int32.ofNat j)) 12 0 = 12 then some (.inl (some (.int 0)), setM w b (us m 20 13 2), n) else some (.inl (some (.int (Int32.ofNat (loA (fun j => opS s g (Int32.ofNat j)) 12 0)))), setM w b (us m 20 13 0), n) := by
  have h1 : rg (Int32.ofNat g) 5 = true := nat_rg (N := 5) (by omega) hg
  have hl := l242 (x := x) (n := n) (b := b) (w := w) hR hg 12 0 rfl
  have hle := loA_le (p := fun j => opS s g (Int32.ofNat j)) 12 0
  have e : (Int32.ofNat (loA (fun j => opS s g (Int32.ofNat j)) 12 0) = 12) = (loA (fun j => opS s g (Int32.ofNat j)) 12 0 = 12) := i_eq (b := 12) (by omega) (by omega)
  simp only [csN, csm_i, csm_r, Nat.reduceAdd, Nat.reduceLeDiff, wdI, wdR, wdN, clM_0, clC_0, clC_1, clC_6, clC_8, true_or, or_true, i10, i01, ob_some, ob_map, cal_v, rvs_some, rvs_none, XO_at, cal_x, m242, r242_0, r242_1, r242_4, r242_7, r242_8, r242_9, r242_12, r242_13, r242_14, r242_16, r242_18, r242_21, r242_22, r242_23, r242_24, r242_27, r242_30, r242_33, r242_37, r242_39, r242_42, r242_43, r242_44, r242_47, r242_50, r242_51, r242_52, r242_55, c200, h1, bi_t, if_false]
  refine hl.trans ?_
  rw [r242_36]
  by_cases h12 : loA (fun j => opS s g (Int32.ofNat j)) 12 0 = 12
  · have k12 : (Int32.ofNat 12 = (12 : Int32)) = True := eq_true rfl
    simp only [csN, csm_i, csm_r, Nat.reduceAdd, Nat.reduceLeDiff, wdI, wdR, wdN, clM_0, clC_0, clC_1, clC_6, clC_8, true_or, or_true, i10, i01, ob_some, ob_map, cal_v, rvs_some, rvs_none, XO_at, cal_x, m242, r242_0, r242_1, r242_4, r242_7, r242_8, r242_9, r242_12, r242_13, r242_14, r242_16, r242_18, r242_21, r242_22, r242_23, r242_24, r242_27, r242_30, r242_33, r242_37, r242_39, r242_42, r242_43, r242_44, r242_47, r242_50, r242_51, r242_52, r242_55, h12, k12, if_true, c196]
  · simp only [csN, csm_i, csm_r, Nat.reduceAdd, Nat.reduceLeDiff, wdI, wdR, wdN, clM_0, clC_0, clC_1, clC_6, clC_8, true_or, or_true, i10, i01, ob_some, ob_map, cal_v, rvs_some, rvs_none, XO_at, cal_x, m242, r242_0, r242_1, r242_4, r242_7, r242_8, r242_9, r242_12, r242_13, r242_14, r242_16, r242_18, r242_21, r242_22, r242_23, r242_24, r242_27, r242_30, r242_33, r242_37, r242_39, r242_42, r242_43, r242_44, r242_47, r242_50, r242_51, r242_52, r242_55, e, h12, if_false, c195]
theorem p311 (hV : IV B w m s t y hs le lf F K sc c q cs) : PAIR B x w n 311 [.ref 64, .int u, .ref 237] 242 [.ref 227, .int u] m le lf sc := by
  have hW := hV.1
  have hS := hV.2.2.2.2.1.1.1.2.1
  have hk := hV.2.2.2.2.1.1.1.1.1.2.2
  obtain ⟨⟨g0, -⟩, c64, -⟩ := WD_64 hW
  obtain ⟨k0, -, -, -, -, -, -, -, -, l1, -⟩ := WD_r hW
  cases h : rg u 5 with
  | true =>
    obtain ⟨g, hg, rfl⟩ := rg_nat (N := 5) (by omega) h
    have e1 := c92_t (x := x) (n := n) (w := w) h
    have e2 := l48 (x := x) (n := n) g0 k0 l1 (WD_op hW hg (isKd_ch (hk g hg))) 12 0 rfl
    have e3 : RM x 48 [.ref 64, .int (Int32.ofNat g)] w n = if loA (fun j => opS s g (Int32.ofNat j)) 12 0 = 12 then some (.inr "java/util/NoSuchElementException", w, n + 1) else some (.inl (some (.int (Int32.ofNat (loA (fun j => opS s g (Int32.ofNat j)) 12 0)))), w, n) := by
      simp only [csN, csm_i, csm_r, Nat.reduceAdd, Nat.reduceLeDiff, wdI, wdR, wdN, clM_0, clC_0, clC_1, clC_6, clC_8, true_or, or_true, i10, i01, ob_some, ob_map, cal_v, rvs_some, rvs_none, XO_at, cal_x, m48, r48_0, r48_1, r48_4, r48_5, r48_7, r48_9, r48_12, r48_13, r48_16, r48_19, r48_20, r48_21, r48_24, r48_27, r48_28, r48_29, r48_32, r48_35, e1]
      exact e2
    by_cases h12 : loA (fun j => opS s g (Int32.ofNat j)) 12 0 = 12
    · rw [if_pos h12] at e3
      exact q_ex hV (by decide) (lx311_2 c64 e3) (fun w' n' => by rw [c242_t hS hg, if_pos h12])
    · rw [if_neg h12] at e3
      exact q_ok hV (fun f hf => lw311 c64 e3 hf) (fun w' n' => by rw [c242_t hS hg, if_neg h12])
  | false =>
    have e1 := c92_f (x := x) (n := n) (w := w) h
    have e3 : RM x 48 [.ref 64, .int u] w n = some (.inr "java/lang/IndexOutOfBoundsException", w, n + 1) := by
      simp only [csN, csm_i, csm_r, Nat.reduceAdd, Nat.reduceLeDiff, wdI, wdR, wdN, clM_0, clC_0, clC_1, clC_6, clC_8, true_or, or_true, i10, i01, ob_some, ob_map, cal_v, rvs_some, rvs_none, XO_at, cal_x, m48, r48_0, r48_1, r48_4, r48_5, r48_7, r48_9, r48_12, r48_13, r48_16, r48_19, r48_20, r48_21, r48_24, r48_27, r48_28, r48_29, r48_32, r48_35, e1]
    exact q_ex hV (by decide) (lx311_1 c64 e3) (fun w' n' => c242_f h)
/-! opens to -/
theorem c243_t {g : Nat} (hR : RS s (m 1)) (hg : g < 5) (hv : rg v 12 = true) : RM x 243 [.ref b, .int (Int32.ofNat g), .int v] (setM w b m) n = some (.inl (some (.int (bi (opS s g v)))), setM w b (us m 20 13 0), n) := by
  have h1 : rg (Int32.ofNat g) 5 = true := nat_rg (N := 5) (by omega) hg
  have E := c210 (x := x) (n := n) (b := b) (w := w) (m := us m 20 13 0) (gt := g) (v := v) (by rw [us_ne (by decide)]; exact hR) rfl hg
  have e0 : us m 20 13 0 20 13 = 0 := by rw [us_at, if_pos rfl, if_pos rfl]
  cases hp : opS s g v with
  | true =>
    rw [hp, bi_t] at E
    simp only [csN, csm_i, csm_r, Nat.reduceAdd, Nat.reduceLeDiff, wdI, wdR, wdN, clM_0, clC_0, clC_1, clC_6, clC_8, true_or, or_true, i10, i01, ob_some, ob_map, cal_v, rvs_some, rvs_none, XO_at, cal_x, m243, r243_0, r243_1, r243_2, r243_5, r243_8, r243_9, r243_12, r243_13, r243_16, r243_19, r243_20, r243_23, r243_24, r243_27, r243_28, r243_31, r243_34, r243_35, r243_36, r243_37, r243_40, r243_43, r243_44, r243_47, c200, c203, h1, hv, bi_t, if_false, pM_0_13, gM_0_13, e0, if_true, E]
    exact r243_48 (by decide)
  | false =>
    rw [hp, bi_f] at E
    simp only [csN, csm_i, csm_r, Nat.reduceAdd, Nat.reduceLeDiff, wdI, wdR, wdN, clM_0, clC_0, clC_1, clC_6, clC_8, true_or, or_true, i10, i01, ob_some, ob_map, cal_v, rvs_some, rvs_none, XO_at, cal_x, m243, r243_0, r243_1, r243_2, r243_5, r243_8, r243_9, r243_12, r243_13, r243_16, r243_19, r243_20, r243_23, r243_24, r243_27, r243_28, r243_31, r243_34, r243_35, r243_36, r243_37, r243_40, r243_43, r243_44, r243_47, c200, c203, h1, hv, bi_t, bi_f, if_false, pM_0_13, gM_0_13, e0, if_true, E]
    exact r243_48 (by decide)
theorem c243_1 (h : rg u 5 = false) : RM x 243 [.ref b, .int u, .int v] (setM w b m) n = some (.inl (some (.int 0)), setM w b (us m 20 13 1), n) := by
  have e0 : us m 20 13 1 20 13 = 1 := by rw [us_at, if_pos rfl, if_pos rfl]
  simp only [csN, csm_i, csm_r, Nat.reduceAdd, Nat.reduceLeDiff, wdI, wdR, wdN, clM_0, clC_0, clC_1, clC_6, clC_8, true_or, or_true, i10, i01, ob_some, ob_map, cal_v, rvs_some, rvs_none, XO_at, cal_x, m243, r243_0, r243_1, r243_2, r243_5, r243_8, r243_9, r243_12, r243_13, r243_16, r243_19, r243_20, r243_23, r243_24, r243_27, r243_28, r243_31, r243_34, r243_35, r243_36, r243_37, r243_40, r243_43, r243_44, r243_47, c200, h, bi_f, if_true, pM_0_13, gM_0_13, e0, if_false]
  exact r243_48 (by decide)
theorem c243_2 (h : rg u 5 = true) (hv : rg v 12 = false) : RM x 243 [.ref b, .int u, .int v] (setM w b m) n = some (.inl (some (.int 0)), setM w b (us m 20 13 2), n) := by
  have e0 : us m 20 13 2 20 13 = 2 := by rw [us_at, if_pos rfl, if_pos rfl]
  have e1 : ¬ (2 : Int32) = 0 := by decide
  simp only [csN, csm_i, csm_r, Nat.reduceAdd, Nat.reduceLeDiff, wdI, wdR, wdN, clM_0, clC_0, clC_1, clC_6, clC_8, true_or, or_true, i10, i01, ob_some, ob_map, cal_v, rvs_some, rvs_none, XO_at, cal_x, m243, r243_0, r243_1, r243_2, r243_5, r243_8, r243_9, r243_12, r243_13, r243_16, r243_19, r243_20, r243_23, r243_24, r243_27, r243_28, r243_31, r243_34, r243_35, r243_36, r243_37, r243_40, r243_43, r243_44, r243_47, c200, c203, h, hv, bi_t, bi_f, if_true, if_false, pM_0_13, gM_0_13, e0, e1]
  exact r243_48 (by decide)
theorem p312 (hV : IV B w m s t y hs le lf F K sc c q cs) : PAIRB B x w n 312 [.ref 64, .int u, .int v, .ref 237] 243 [.ref 227, .int u, .int v] m le lf sc := by
  have hW := hV.1
  have hS := hV.2.2.2.2.1.1.1.2.1
  have hk := hV.2.2.2.2.1.1.1.1.1.2.2
  obtain ⟨⟨g0, -⟩, c64, -⟩ := WD_64 hW
  obtain ⟨k0, -, -, -, -, -, -, -, -, l1, -⟩ := WD_r hW
  cases h : rg u 5 with
  | true =>
    obtain ⟨g, hg, rfl⟩ := rg_nat (N := 5) (by omega) h
    have e1 := c92_t (x := x) (n := n) (w := w) h
    cases hv : rg v 12 with
    | true =>
      have e2 := WD_op (x := x) (n := n) hW hg (isKd_ch (hk g hg)) v
      have e3 : RM x 49 [.ref 64, .int (Int32.ofNat g), .int v] w n = some (.inl (some (.int (bi (opS s g v)))), w, n) := by
        simp only [csN, csm_i, csm_r, Nat.reduceAdd, Nat.reduceLeDiff, wdI, wdR, wdN, clM_0, clC_0, clC_1, clC_6, clC_8, true_or, or_true, i10, i01, ob_some, ob_map, cal_v, rvs_some, rvs_none, XO_at, cal_x, m49, r49_0, r49_1, r49_4, r49_5, r49_8, r49_11, r49_21, r49_22, r49_25, r49_28, r49_29, r49_30, e1, c110, hv, bi_t, if_false, g0, k0, l1, e2]
        exact r49_33 (of_eq_true bi_01)
      exact qb_ok hV (fun f hf => lw312 c64 e3 hf) (fun w' n' => c243_t hS hg hv)
    | false =>
      have e3 : RM x 49 [.ref 64, .int (Int32.ofNat g), .int v] w n = some (.inr "java/lang/IllegalArgumentException", w, n + 1) := by
        simp only [csN, csm_i, csm_r, Nat.reduceAdd, Nat.reduceLeDiff, wdI, wdR, wdN, clM_0, clC_0, clC_1, clC_6, clC_8, true_or, or_true, i10, i01, ob_some, ob_map, cal_v, rvs_some, rvs_none, XO_at, cal_x, m49, r49_0, r49_1, r49_4, r49_5, r49_8, r49_11, r49_21, r49_22, r49_25, r49_28, r49_29, r49_30, e1, c110, hv, bi_f, if_true]
      exact qb_ex hV (by decide) (lx312_2 c64 e3) (fun w' n' => c243_2 h hv)
  | false =>
    have e1 := c92_f (x := x) (n := n) (w := w) h
    have e3 : RM x 49 [.ref 64, .int u, .int v] w n = some (.inr "java/lang/IndexOutOfBoundsException", w, n + 1) := by
      simp only [csN, csm_i, csm_r, Nat.reduceAdd, Nat.reduceLeDiff, wdI, wdR, wdN, clM_0, clC_0, clC_1, clC_6, clC_8, true_or, or_true, i10, i01, ob_some, ob_map, cal_v, rvs_some, rvs_none, XO_at, cal_x, m49, r49_0, r49_1, r49_4, r49_5, r49_8, r49_11, r49_21, r49_22, r49_25, r49_28, r49_29, r49_30, e1]
    exact qb_ex hV (by decide) (lx312_1 c64 e3) (fun w' n' => c243_1 h)
end QRG
