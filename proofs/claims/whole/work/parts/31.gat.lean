/-! GATES of the class, the rest; REACHES -/
section GAT
set_option maxRecDepth 20000
variable {x : SX} {n b : Nat} {w : PW} {s : NS}
theorem nz {a : Nat} (h : a < 2147483648) : ¬ Int32.ofNat a < 0 := by
  rw [show (0 : Int32) = Int32.ofNat 0 from rfl, i_lt h (by omega)]; omega
theorem nlt {a N : Nat} (h : a < 2147483648) (hN : N < 2147483648) (h1 : a < N) : Int32.ofNat a < Int32.ofNat N := by
  rw [i_lt h hN]; exact h1
theorem i_g2 {g t : Nat} : Int32.ofNat g * 2 + Int32.ofNat t = Int32.ofNat (g * 2 + t) := by
  rw [show (2 : Int32) = Int32.ofNat 2 from rfl, i_mul, i_add]
theorem i_g20 {g : Nat} : Int32.ofNat g * 2 + 0 = Int32.ofNat (g * 2) := by
  rw [show (2 : Int32) = Int32.ofNat 2 from rfl, i_mul, Int32.add_zero]
theorem i_g21 {g : Nat} : Int32.ofNat g * 2 + 1 = Int32.ofNat (g * 2 + 1) := i_g2 (t := 1)
abbrev isCh (v : Int32) : Prop := v.toUInt32.toUInt16.toUInt32.toInt32 = v
def isKd (v : Int32) : Prop := v = 77 ∨ v = 109 ∨ v = 100 ∨ v = 97
theorem isKd_ch {v : Int32} (h : isKd v) : isCh v := by
  rcases h with rfl | rfl | rfl | rfl <;> decide
theorem isKd_nar {v : Int32} (h : isKd v) : vp_nar .char ((v.toUInt32 % 65536).toInt32) = v := by
  rcases h with rfl | rfl | rfl | rfl <;> decide
theorem c145 {g : Nat} {u : Int32} (hu : u = Int32.ofNat g) (hg : g < 5) (hk : isCh (s 2 g)) : RM x 145 [.ref (b + 1), .int u] (setC w b s) n = some (.inl (some (.int (s 2 g))), setC w b s, n) := by
  subst hu
  have h1 := nz (a := g) (by omega)
  have h2 : Int32.ofNat g < 5 := nlt (N := 5) (by omega) (by omega) hg
  have h3 : fin 5 (Int32.ofNat g) = some g := fin_nat hg (by omega)
  simp only [csN, csm_i, csm_r, Nat.reduceAdd, Nat.reduceLeDiff, wdI, wdR, wdN, clM_0, clC_0, clC_1, clC_6, clC_8, true_or, or_true, i10, i01, ob_some, ob_map, cal_v, rvs_some, rvs_none, XO_at, cal_x, m145, r145_0, r145_1, r145_4, r145_5, r145_6, r145_9, r145_10, r145_13, r145_14, r145_17, r145_18, r145_19, r145_22, r145_24, gC_1_0, nC_2, lC_2, h1, h2, h3, if_true, if_false, Option.map_some, hk]
def setN (u v z : Int32) : Int32 := 1 <<< (u &&& 31) ||| 1 <<< (v &&& 31) ||| 1 <<< (z &&& 31)
def snS (s : NS) (g t : Nat) : Int32 := snd (s 4 (g * 2 + t)) (s 5 (g * 2 + t))
def opS (s : NS) (g : Nat) (note : Int32) : Bool := decide (¬ rt (patO (s 2 g)) (setN note (snS s g 0) (snS s g 1)) = -1)
theorem c149 {g : Nat} {u v : Int32} (hu : u = Int32.ofNat g) (hg : g < 5) (hk : isCh (s 2 g)) : RM x 149 [.ref (b + 1), .int u, .int v] (setC w b s) n = some (.inl (some (.int (bi (opS s g v)))), setC w b s, n) := by
  subst hu
  have h1 := c148 (x := x) (n := n) (b := b) (w := w) (s := s) (u := Int32.ofNat g) (v := 0) (g := g) (t := 0) rfl rfl hg (by omega)
  have h2 := c148 (x := x) (n := n) (b := b) (w := w) (s := s) (u := Int32.ofNat g) (v := 1) (g := g) (t := 1) rfl rfl hg (by omega)
  have h3 := c145 (x := x) (n := n) (b := b) (w := w) (s := s) (u := Int32.ofNat g) rfl hg hk
  simp only [csN, csm_i, csm_r, Nat.reduceAdd, Nat.reduceLeDiff, wdI, wdR, wdN, clM_0, clC_0, clC_1, clC_6, clC_8, true_or, or_true, i10, i01, ob_some, ob_map, cal_v, rvs_some, rvs_none, XO_at, cal_x, m149, r149_0, r149_1, r149_2, r149_3, r149_4, r149_7, r149_8, r149_9, r149_10, r149_13, r149_16, r149_17, r149_18, r149_19, r149_22, r149_25, r149_26, r149_29, r149_30, r149_33, r149_34, r149_37, h1, h2, c109, h3, c112, c113]
  unfold opS setN snS
  split
  · next h => simp only [h, not_true, decide_false, bi_f]; exact r149_38 (v := 0) (by decide)
  · next h => simp only [h, not_false_eq_true, decide_true, bi_t]; exact r149_38 (v := 1) (by decide)
theorem c146 {u : Int32} : RM x 146 [.ref (b + 1), .int u] (setC w b s) n = some (.inl (some (.int (atv 5 (s 3) u))), setC w b s, n) := by
  simp only [csN, csm_i, csm_r, Nat.reduceAdd, Nat.reduceLeDiff, wdI, wdR, wdN, clM_0, clC_0, clC_1, clC_6, clC_8, true_or, or_true, i10, i01, ob_some, ob_map, cal_v, rvs_some, rvs_none, XO_at, cal_x, m146, r146_0, r146_1, r146_4, r146_5, r146_8, gC_1_1]
  rw [c96 setC_3 (by decide)]
  simp only [csN, csm_i, csm_r, Nat.reduceAdd, Nat.reduceLeDiff, wdI, wdR, wdN, clM_0, clC_0, clC_1, clC_6, clC_8, true_or, or_true, i10, i01, ob_some, ob_map, cal_v, rvs_some, rvs_none, XO_at, cal_x, m146, r146_0, r146_1, r146_4, r146_5, r146_8]
theorem c147 {u v : Int32} : RM x 147 [.ref (b + 1), .int u, .int v] (setC w b s) n = some (.inl (some (.int (bi (decide (¬ atv 10 (s 5) (u * 2 + v) < 10))))), setC w b s, n) := by
  simp only [csN, csm_i, csm_r, Nat.reduceAdd, Nat.reduceLeDiff, wdI, wdR, wdN, clM_0, clC_0, clC_1, clC_6, clC_8, true_or, or_true, i10, i01, ob_some, ob_map, cal_v, rvs_some, rvs_none, XO_at, cal_x, m147, r147_0, r147_1, r147_2, r147_3, r147_6, r147_8, r147_11, r147_12, r147_15, c144]
  split
  · next h => simp only [h, not_true, decide_false, bi_f]; exact r147_16 (v := 0) (by decide)
  · next h => simp only [h, not_false_eq_true, decide_true, bi_t]; exact r147_16 (v := 1) (by decide)
theorem c151 {g t : Nat} {u v z : Int32} (hu : u = Int32.ofNat g) (hv : v = Int32.ofNat t) (hg : g < 5) (ht : t < 2) : RM x 151 [.ref (b + 1), .int u, .int v, .int z] (setC w b s) n = some (.inl (some (.int (s 4 (g * 2 + t)))), setC w b (us s 4 (g * 2 + t) z), n) := by
  subst hu
  subst hv
  have h0 : rg (Int32.ofNat g) 5 = true := nat_rg (N := 5) (by omega) hg
  have h1 : rg (Int32.ofNat t) 2 = true := nat_rg (N := 2) (by omega) ht
  have h2 : atv 10 (s 4) (Int32.ofNat (g * 2 + t)) = s 4 (g * 2 + t) := atv_nat (by omega) (by omega)
  have h3 : fin 10 (Int32.ofNat (g * 2 + t)) = some (g * 2 + t) := fin_nat (by omega) (by omega)
  simp only [csN, csm_i, csm_r, Nat.reduceAdd, Nat.reduceLeDiff, wdI, wdR, wdN, clM_0, clC_0, clC_1, clC_6, clC_8, true_or, or_true, i10, i01, ob_some, ob_map, cal_v, rvs_some, rvs_none, XO_at, cal_x, m151, r151_0, r151_1, r151_2, r151_3, r151_6, r151_8, r151_9, r151_10, r151_13, r151_16, r151_17, r151_20, r151_21, r151_22, r151_25, r151_26, r151_27, r151_29, c143, i_g2, h2, c141, h0, h1, Bool.and_self, bi_t, c142, gC_1_2, sC_4, h3, Option.map_some, if_false]
theorem c152 {g t : Nat} {u v : Int32} (hu : u = Int32.ofNat g) (hv : v = Int32.ofNat t) (hg : g < 5) (ht : t < 2) : RM x 152 [.ref (b + 1), .int u, .int v] (setC w b s) n = some (.inl (some (.int (s 5 (g * 2 + t)))), setC w b (us s 5 (g * 2 + t) 0), n) := by
  subst hu
  subst hv
  have h0 : rg (Int32.ofNat g) 5 = true := nat_rg (N := 5) (by omega) hg
  have h1 : rg (Int32.ofNat t) 2 = true := nat_rg (N := 2) (by omega) ht
  have h2 : atv 10 (s 5) (Int32.ofNat (g * 2 + t)) = s 5 (g * 2 + t) := atv_nat (by omega) (by omega)
  have h3 : fin 10 (Int32.ofNat (g * 2 + t)) = some (g * 2 + t) := fin_nat (by omega) (by omega)
  simp only [csN, csm_i, csm_r, Nat.reduceAdd, Nat.reduceLeDiff, wdI, wdR, wdN, clM_0, clC_0, clC_1, clC_6, clC_8, true_or, or_true, i10, i01, ob_some, ob_map, cal_v, rvs_some, rvs_none, XO_at, cal_x, m152, r152_0, r152_1, r152_2, r152_3, r152_6, r152_7, r152_8, r152_9, r152_12, r152_15, r152_16, r152_19, r152_20, r152_21, r152_24, r152_25, r152_26, r152_27, c144, i_g2, h2, c141, h0, h1, Bool.and_self, bi_t, c142, gC_1_3, sC_5, h3, Option.map_some, if_false]
theorem c153 {g : Nat} {u v : Int32} (hu : u = Int32.ofNat g) (hg : g < 5) (hk : isCh (s 2 g)) (hv : isKd v) : RM x 153 [.ref (b + 1), .int u, .int v] (setC w b s) n = some (.inl (some (.int (s 2 g))), setC w b (us s 2 g v), n) := by
  subst hu
  have h0 : rg (Int32.ofNat g) 5 = true := nat_rg (N := 5) (by omega) hg
  have h1 := c145 (x := x) (n := n) (b := b) (w := w) (s := s) (u := Int32.ofNat g) rfl hg hk
  have h3 : fin 5 (Int32.ofNat g) = some g := fin_nat hg (by omega)
  have h4 := isKd_nar hv
  simp only [csN, csm_i, csm_r, Nat.reduceAdd, Nat.reduceLeDiff, wdI, wdR, wdN, clM_0, clC_0, clC_1, clC_6, clC_8, true_or, or_true, i10, i01, ob_some, ob_map, cal_v, rvs_some, rvs_none, XO_at, cal_x, m153, r153_0, r153_1, r153_2, r153_5, r153_6, r153_7, r153_10, r153_13, r153_14, r153_17, r153_18, r153_19, r153_20, r153_21, r153_22, h1, c140, h0, bi_t, gC_1_0, sC_2, h3, Option.map_some, h4, if_false]
def mn20 (v : Int32) : Int32 := if (20 : Int32) < v + 1 then 20 else v + 1
def cpS (s : NS) (g : Nat) : NS := us (us (us s 3 g (s 3 g + 1)) 5 (g * 2) (mn20 (s 5 (g * 2)))) 5 (g * 2 + 1) (mn20 (s 5 (g * 2 + 1)))
theorem c154 {g : Nat} {u : Int32} (hu : u = Int32.ofNat g) (hg : g < 5) : RM x 154 [.ref (b + 1), .int u] (setC w b s) n = some (.inl none, setC w b (cpS s g), n) := by
  subst hu
  have h0 : rg (Int32.ofNat g) 5 = true := nat_rg (N := 5) (by omega) hg
  have h3 : fin 5 (Int32.ofNat g) = some g := fin_nat hg (by omega)
  have h4 : fin 10 (Int32.ofNat (g * 2)) = some (g * 2) := fin_nat (by omega) (by omega)
  have h5 : fin 10 (Int32.ofNat (g * 2 + 1)) = some (g * 2 + 1) := fin_nat (by omega) (by omega)
  have h6 : ∀ f : Nat → Int32, atv 10 f (Int32.ofNat (g * 2)) = f (g * 2) := fun f => atv_nat (by omega) (by omega)
  have h7 : ∀ f : Nat → Int32, atv 10 f (Int32.ofNat (g * 2 + 1)) = f (g * 2 + 1) := fun f => atv_nat (by omega) (by omega)
  have h8 : ¬ (g * 2 + 1 = g * 2) := by omega
  simp only [csN, csm_i, csm_r, Nat.reduceAdd, Nat.reduceLeDiff, wdI, wdR, wdN, clM_0, clC_0, clC_1, clC_6, clC_8, true_or, or_true, i10, i01, ob_some, ob_map, cal_v, rvs_some, rvs_none, XO_at, cal_x, m154, r154_0, r154_1, r154_4, r154_7, r154_8, r154_9, r154_12, r154_13, r154_14, r154_15, r154_16, r154_17, r154_18, r154_19, r154_20, r154_21, r154_22, r154_25, r154_26, r154_29, r154_30, r154_31, r154_34, r154_35, r154_36, r154_37, r154_40, r154_41, r154_42, r154_44, r154_47, r154_48, r154_51, r154_54, c140, h0, bi_t, gC_1_1, lC_3, sC_3, h3, Option.map_some, if_false, gC_1_3, c142, c144, i_g20, i_g21, h6, h7, sC_5, h4, h5, Int32.reduceLT, Int32.reduceAdd, if_true]
  have e1 : us s 3 g (s 3 g + 1) 5 = s 5 := us_ne (by decide)
  have e2 : ∀ v, us (us s 3 g (s 3 g + 1)) 5 (g * 2) v 5 (g * 2 + 1) = s 5 (g * 2 + 1) := by
    intro v
    rw [us_at, if_pos rfl, if_neg h8, e1]
  simp only [e1, e2]
  rfl
def sumTo (f : Nat → Int32) : Nat → Int32
  | 0 => 0
  | k + 1 => sumTo f k + f k
def acA (f : Nat → Int32) : Nat → Nat → Int32 → Int32
  | 0, _, v => v
  | d + 1, i, v => acA f d (i + 1) (v + f i)
theorem l155 (d : Nat) : ∀ (i : Nat) (v : Int32) (e : Option Value), i + d = 10 → RC x 155 13 [some (.ref (b + 1)), some (.int v), some (.ref (b + 5)), some (.int 10), some (.int (Int32.ofNat i)), e] [] (setC w b s) n = some (.inl (some (.int (acA (s 5) d i v))), setC w b s, n) := by
  induction d with
  | zero =>
    intro i v e h
    obtain rfl : i = 10 := by omega
    rw [r155_13]
    simp only [csN, csm_i, csm_r, Nat.reduceAdd, Nat.reduceLeDiff, wdI, wdR, wdN, clM_0, clC_0, clC_1, clC_6, clC_8, true_or, or_true, i10, i01, ob_some, ob_map, cal_v, rvs_some, rvs_none, XO_at, cal_x, m155, r155_0, r155_1, r155_2, r155_3, r155_6, r155_7, r155_8, r155_9, r155_10, r155_11, r155_15, r155_16, r155_19, r155_20, r155_22, r155_23, r155_25, r155_26, r155_28, r155_29, r155_30, r155_33, r155_36, r155_37, Int32.reduceOfNat, Int32.reduceLT, if_false, acA]
  | succ d ih =>
    intro i v e h
    rw [r155_13]
    have h1 : Int32.ofNat i < 10 := nlt (N := 10) (by omega) (by omega) (by omega)
    have h2 : Int32.ofNat i + 1 = Int32.ofNat (i + 1) := i_add (b := 1)
    have h3 : fin 10 (Int32.ofNat i) = some i := fin_nat (by omega) (by omega)
    simp only [csN, csm_i, csm_r, Nat.reduceAdd, Nat.reduceLeDiff, wdI, wdR, wdN, clM_0, clC_0, clC_1, clC_6, clC_8, true_or, or_true, i10, i01, ob_some, ob_map, cal_v, rvs_some, rvs_none, XO_at, cal_x, m155, r155_0, r155_1, r155_2, r155_3, r155_6, r155_7, r155_8, r155_9, r155_10, r155_11, r155_15, r155_16, r155_19, r155_20, r155_22, r155_23, r155_25, r155_26, r155_28, r155_29, r155_30, r155_33, r155_36, r155_37, lC_5, h1, h2, h3, if_true, Option.map_some, acA]
    exact ih (i + 1) _ _ (by omega)
theorem c155 : RM x 155 [.ref (b + 1)] (setC w b s) n = some (.inl (some (.int (sumTo (s 5) 10))), setC w b s, n) := by
  simp only [csN, csm_i, csm_r, Nat.reduceAdd, Nat.reduceLeDiff, wdI, wdR, wdN, clM_0, clC_0, clC_1, clC_6, clC_8, true_or, or_true, i10, i01, ob_some, ob_map, cal_v, rvs_some, rvs_none, XO_at, cal_x, m155, r155_0, r155_1, r155_2, r155_3, r155_6, r155_7, r155_8, r155_9, r155_10, r155_11, r155_15, r155_16, r155_19, r155_20, r155_22, r155_23, r155_25, r155_26, r155_28, r155_29, r155_30, r155_33, r155_36, r155_37, gC_1_3, nC_5]
  exact l155 10 0 0 _ rfl
theorem l156 (d : Nat) : ∀ (i : Nat) (v : Int32) (e : Option Value), i + d = 5 → RC x 156 13 [some (.ref (b + 1)), some (.int v), some (.ref (b + 3)), some (.int 5), some (.int (Int32.ofNat i)), e] [] (setC w b s) n = some (.inl (some (.int (acA (s 3) d i v))), setC w b s, n) := by
  induction d with
  | zero =>
    intro i v e h
    obtain rfl : i = 5 := by omega
    rw [r156_13]
    simp only [csN, csm_i, csm_r, Nat.reduceAdd, Nat.reduceLeDiff, wdI, wdR, wdN, clM_0, clC_0, clC_1, clC_6, clC_8, true_or, or_true, i10, i01, ob_some, ob_map, cal_v, rvs_some, rvs_none, XO_at, cal_x, m156, r156_0, r156_1, r156_2, r156_3, r156_6, r156_7, r156_8, r156_9, r156_10, r156_11, r156_15, r156_16, r156_19, r156_20, r156_22, r156_23, r156_25, r156_26, r156_28, r156_29, r156_30, r156_33, r156_36, r156_37, Int32.reduceOfNat, Int32.reduceLT, if_false, acA]
  | succ d ih =>
    intro i v e h
    rw [r156_13]
    have h1 : Int32.ofNat i < 5 := nlt (N := 5) (by omega) (by omega) (by omega)
    have h2 : Int32.ofNat i + 1 = Int32.ofNat (i + 1) := i_add (b := 1)
    have h3 : fin 5 (Int32.ofNat i) = some i := fin_nat (by omega) (by omega)
    simp only [csN, csm_i, csm_r, Nat.reduceAdd, Nat.reduceLeDiff, wdI, wdR, wdN, clM_0, clC_0, clC_1, clC_6, clC_8, true_or, or_true, i10, i01, ob_some, ob_map, cal_v, rvs_some, rvs_none, XO_at, cal_x, m156, r156_0, r156_1, r156_2, r156_3, r156_6, r156_7, r156_8, r156_9, r156_10, r156_11, r156_15, r156_16, r156_19, r156_20, r156_22, r156_23, r156_25, r156_26, r156_28, r156_29, r156_30, r156_33, r156_36, r156_37, lC_3, h1, h2, h3, if_true, Option.map_some, acA]
    exact ih (i + 1) _ _ (by omega)
theorem c156 : RM x 156 [.ref (b + 1)] (setC w b s) n = some (.inl (some (.int (sumTo (s 3) 5))), setC w b s, n) := by
  simp only [csN, csm_i, csm_r, Nat.reduceAdd, Nat.reduceLeDiff, wdI, wdR, wdN, clM_0, clC_0, clC_1, clC_6, clC_8, true_or, or_true, i10, i01, ob_some, ob_map, cal_v, rvs_some, rvs_none, XO_at, cal_x, m156, r156_0, r156_1, r156_2, r156_3, r156_6, r156_7, r156_8, r156_9, r156_10, r156_11, r156_15, r156_16, r156_19, r156_20, r156_22, r156_23, r156_25, r156_26, r156_28, r156_29, r156_30, r156_33, r156_36, r156_37, gC_1_1, nC_3]
  exact l156 5 0 0 _ rfl
def mx (u v : Int32) : Int32 := if u < v then v else u
def gwS (s : NS) (g : Nat) : Int32 := mx (s 5 (g * 2)) (s 5 (g * 2 + 1))
theorem c159 {g : Nat} {u : Int32} (hu : u = Int32.ofNat g) (hg : g < 5) : RM x 159 [.ref (b + 1), .int u] (setC w b s) n = some (.inl (some (.int (gwS s g))), setC w b s, n) := by
  subst hu
  have h6 : ∀ f : Nat → Int32, atv 10 f (Int32.ofNat (g * 2)) = f (g * 2) := fun f => atv_nat (by omega) (by omega)
  have h7 : ∀ f : Nat → Int32, atv 10 f (Int32.ofNat (g * 2 + 1)) = f (g * 2 + 1) := fun f => atv_nat (by omega) (by omega)
  simp only [csN, csm_i, csm_r, Nat.reduceAdd, Nat.reduceLeDiff, wdI, wdR, wdN, clM_0, clC_0, clC_1, clC_6, clC_8, true_or, or_true, i10, i01, ob_some, ob_map, cal_v, rvs_some, rvs_none, XO_at, cal_x, m159, r159_0, r159_1, r159_2, r159_3, r159_6, r159_7, r159_8, r159_9, r159_12, r159_15, c144, i_g20, i_g21, h6, h7]
  rfl
/-- the order of gates by traffic -/
def cbS (s : NS) (g o : Nat) : Bool :=
  if s 3 g - s 3 o = 0 then (if gwS s g - gwS s o = 0 then decide (g < o) else decide (0 < gwS s g - gwS s o)) else decide (0 < s 3 g - s 3 o)
theorem c158 {g o : Nat} {u v : Int32} (hu : u = Int32.ofNat g) (hv : v = Int32.ofNat o) (hg : g < 5) (ho : o < 5) : RM x 158 [.ref (b + 1), .int u, .int v] (setC w b s) n = some (.inl (some (.int (bi (cbS s g o)))), setC w b s, n) := by
  subst hu
  subst hv
  have h1 : ∀ f : Nat → Int32, atv 5 f (Int32.ofNat g) = f g := fun f => atv_nat (by omega) (by omega)
  have h2 : ∀ f : Nat → Int32, atv 5 f (Int32.ofNat o) = f o := fun f => atv_nat (by omega) (by omega)
  have h3 := c159 (x := x) (n := n) (b := b) (w := w) (s := s) (u := Int32.ofNat g) rfl hg
  have h4 := c159 (x := x) (n := n) (b := b) (w := w) (s := s) (u := Int32.ofNat o) rfl ho
  have h5 : (Int32.ofNat g < Int32.ofNat o) = (g < o) := i_lt (by omega) (by omega)
  simp only [csN, csm_i, csm_r, Nat.reduceAdd, Nat.reduceLeDiff, wdI, wdR, wdN, clM_0, clC_0, clC_1, clC_6, clC_8, true_or, or_true, i10, i01, ob_some, ob_map, cal_v, rvs_some, rvs_none, XO_at, cal_x, m158, r158_0, r158_1, r158_2, r158_5, r158_6, r158_7, r158_10, r158_11, r158_12, r158_13, r158_16, r158_17, r158_20, r158_21, r158_24, r158_26, r158_27, r158_28, r158_31, r158_32, r158_33, r158_36, r158_37, r158_39, r158_41, r158_44, r158_46, r158_49, r158_50, r158_53, r158_54, r158_57, r158_58, r158_59, r158_62, r158_63, r158_66, c146, h1, h2, h3, h4, h5]
  unfold cbS
  by_cases a1 : s 3 g - s 3 o = 0
  · simp only [a1, if_true]
    by_cases a2 : gwS s g - gwS s o = 0
    · simp only [a2, if_true]
      by_cases a3 : g < o
      · simp only [a3, if_true, decide_true, bi_t]; exact r158_67 (v := 1) (by decide)
      · simp only [a3, if_false, decide_false, bi_f]; exact r158_67 (v := 0) (by decide)
    · simp only [a2, if_false]
      by_cases a3 : 0 < gwS s g - gwS s o
      · simp only [a3, if_true, decide_true, bi_t]; exact r158_67 (v := 1) (by decide)
      · simp only [a3, if_false, decide_false, bi_f]; exact r158_67 (v := 0) (by decide)
  · simp only [a1, if_false]
    by_cases a3 : 0 < s 3 g - s 3 o
    · simp only [a3, if_true, decide_true, bi_t]; exact r158_25 (v := 1) (by decide)
    · simp only [a3, if_false, decide_false, bi_f]; exact r158_25 (v := 0) (by decide)
/-! reaches -/
theorem c166 {v : Int32} : RM x 166 [.int v] w n = some (.inl (some (.int (bi (rg v 6)))), w, n) := by
  simp only [csN, csm_i, csm_r, Nat.reduceAdd, Nat.reduceLeDiff, wdI, wdR, wdN, clM_0, clC_0, clC_1, clC_6, clC_8, true_or, or_true, i10, i01, ob_some, ob_map, cal_v, rvs_some, rvs_none, XO_at, cal_x, m166, r166_0, r166_1, r166_4, r166_5, r166_7, r166_10, r166_11, r166_14, r166_15]
  by_cases h : v < 0 <;> by_cases h9 : v < 6 <;> simp [h, h9, rg, bi]
theorem c167 {u : Int32} : RM x 167 [.ref (b + 6), .int u] (setC w b s) n = some (.inl (some (.int (atv 6 (s 7) u))), setC w b s, n) := by
  simp only [csN, csm_i, csm_r, Nat.reduceAdd, Nat.reduceLeDiff, wdI, wdR, wdN, clM_0, clC_0, clC_1, clC_6, clC_8, true_or, or_true, i10, i01, ob_some, ob_map, cal_v, rvs_some, rvs_none, XO_at, cal_x, m167, r167_0, r167_1, r167_4, r167_5, r167_8, gC_6_0]
  rw [c96 setC_7 (by decide)]
  simp only [csN, csm_i, csm_r, Nat.reduceAdd, Nat.reduceLeDiff, wdI, wdR, wdN, clM_0, clC_0, clC_1, clC_6, clC_8, true_or, or_true, i10, i01, ob_some, ob_map, cal_v, rvs_some, rvs_none, XO_at, cal_x, m167, r167_0, r167_1, r167_4, r167_5, r167_8]
def mn (u v : Int32) : Int32 := if v < u then v else u
/-- what a reach takes of so many units; the rest is lost -/
def pourS (s : NS) (r : Nat) (units : Int32) : NS := us (us s 7 r (s 7 r + mn units (90 - s 7 r))) 20 13 (s 20 13 + (units - mn units (90 - s 7 r)))
theorem c171 {r : Nat} {u v : Int32} (hu : u = Int32.ofNat r) (hr : r < 6) : RM x 171 [.ref (b + 6), .int u, .int v] (setC w b s) n = some (.inl none, setC w b (pourS s r v), n) := by
  subst hu
  have h0 : rg (Int32.ofNat r) 6 = true := nat_rg (N := 6) (by omega) hr
  have h3 : fin 6 (Int32.ofNat r) = some r := fin_nat hr (by omega)
  simp only [csN, csm_i, csm_r, Nat.reduceAdd, Nat.reduceLeDiff, wdI, wdR, wdN, clM_0, clC_0, clC_1, clC_6, clC_8, true_or, or_true, i10, i01, ob_some, ob_map, cal_v, rvs_some, rvs_none, XO_at, cal_x, m171, r171_0, r171_1, r171_4, r171_7, r171_8, r171_9, r171_11, r171_12, r171_15, r171_16, r171_17, r171_18, r171_21, r171_22, r171_23, r171_26, r171_27, r171_28, r171_29, r171_30, r171_31, r171_32, r171_33, r171_34, r171_37, r171_38, r171_39, r171_40, r171_41, r171_44, c166, h0, bi_t, gC_6_0, lC_7, h3, Option.map_some, if_false, sC_7, gC_6_3, pC_6_3]
  have e1 : ∀ v, us s 7 r v 20 = s 20 := fun v => us_ne (by decide)
  simp only [e1]
  rfl
def fillS (s : NS) (r : Nat) (units : Int32) : NS := pourS (us s 20 12 (s 20 12 + units)) r units
theorem c168 {r : Nat} {u v : Int32} (hu : u = Int32.ofNat r) (hr : r < 6) : RM x 168 [.ref (b + 6), .int u, .int v] (setC w b s) n = some (.inl (some (.int (fillS s r v 7 r))), setC w b (fillS s r v), n) := by
  subst hu
  have h1 := fun s => c171 (x := x) (n := n) (b := b) (w := w) (s := s) (u := Int32.ofNat r) (v := v) rfl hr
  have h2 : ∀ f : Nat → Int32, atv 6 f (Int32.ofNat r) = f r := fun f => atv_nat (by omega) (by omega)
  simp only [csN, csm_i, csm_r, Nat.reduceAdd, Nat.reduceLeDiff, wdI, wdR, wdN, clM_0, clC_0, clC_1, clC_6, clC_8, true_or, or_true, i10, i01, ob_some, ob_map, cal_v, rvs_some, rvs_none, XO_at, cal_x, m168, r168_0, r168_1, r168_2, r168_5, r168_6, r168_7, r168_10, r168_11, r168_12, r168_13, r168_16, r168_17, r168_18, r168_21, gC_6_2, pC_6_2, h1, c167, h2]
  rfl
def flowS (s : NS) (units : Int32) : NS := pourS (us s 20 11 (s 20 11 + units)) 0 units
theorem c169 {v : Int32} : RM x 169 [.ref (b + 6), .int v] (setC w b s) n = some (.inl none, setC w b (flowS s v), n) := by
  have h1 := fun s => c171 (x := x) (n := n) (b := b) (w := w) (s := s) (u := 0) (v := v) (r := 0) rfl (by omega)
  simp only [csN, csm_i, csm_r, Nat.reduceAdd, Nat.reduceLeDiff, wdI, wdR, wdN, clM_0, clC_0, clC_1, clC_6, clC_8, true_or, or_true, i10, i01, ob_some, ob_map, cal_v, rvs_some, rvs_none, XO_at, cal_x, m169, r169_0, r169_1, r169_2, r169_5, r169_6, r169_7, r169_10, r169_11, r169_12, r169_13, r169_16, gC_6_1, pC_6_1, h1]
  rfl
def thruS (s : NS) (g : Nat) : NS := pourS (us s 7 g (s 7 g - mn 6 (s 7 g))) (g + 1) (mn 6 (s 7 g))
theorem c170 {g : Nat} {u : Int32} (hu : u = Int32.ofNat g) (hg : g < 5) : RM x 170 [.ref (b + 6), .int u] (setC w b s) n = some (.inl none, setC w b (thruS s g), n) := by
  subst hu
  have h0 : rg (Int32.ofNat g) 5 = true := nat_rg (N := 5) (by omega) hg
  have h3 : fin 6 (Int32.ofNat g) = some g := fin_nat (by omega) (by omega)
  have h4 : Int32.ofNat g + 1 = Int32.ofNat (g + 1) := i_add (b := 1)
  have h1 := fun s v => c171 (x := x) (n := n) (b := b) (w := w) (s := s) (u := Int32.ofNat (g + 1)) (v := v) (r := g + 1) rfl (by omega)
  simp only [csN, csm_i, csm_r, Nat.reduceAdd, Nat.reduceLeDiff, wdI, wdR, wdN, clM_0, clC_0, clC_1, clC_6, clC_8, true_or, or_true, i10, i01, ob_some, ob_map, cal_v, rvs_some, rvs_none, XO_at, cal_x, m170, r170_0, r170_1, r170_4, r170_7, r170_8, r170_10, r170_11, r170_14, r170_15, r170_16, r170_19, r170_20, r170_21, r170_24, r170_25, r170_26, r170_27, r170_28, r170_29, r170_30, r170_31, r170_32, r170_33, r170_34, r170_35, r170_38, c140, h0, bi_t, gC_6_0, lC_7, h3, Option.map_some, if_false, sC_7, h4, h1]
  rfl
theorem l172 (d : Nat) : ∀ (i : Nat) (v : Int32) (e : Option Value), i + d = 6 → RC x 172 13 [some (.ref (b + 6)), some (.int v), some (.ref (b + 7)), some (.int 6), some (.int (Int32.ofNat i)), e] [] (setC w b s) n = some (.inl (some (.int (acA (s 7) d i v))), setC w b s, n) := by
  induction d with
  | zero =>
    intro i v e h
    obtain rfl : i = 6 := by omega
    rw [r172_13]
    simp only [csN, csm_i, csm_r, Nat.reduceAdd, Nat.reduceLeDiff, wdI, wdR, wdN, clM_0, clC_0, clC_1, clC_6, clC_8, true_or, or_true, i10, i01, ob_some, ob_map, cal_v, rvs_some, rvs_none, XO_at, cal_x, m172, r172_0, r172_1, r172_2, r172_3, r172_6, r172_7, r172_8, r172_9, r172_10, r172_11, r172_15, r172_16, r172_19, r172_20, r172_22, r172_23, r172_25, r172_26, r172_28, r172_29, r172_30, r172_33, r172_36, r172_37, Int32.reduceOfNat, Int32.reduceLT, if_false, acA]
  | succ d ih =>
    intro i v e h
    rw [r172_13]
    have h1 : Int32.ofNat i < 6 := nlt (N := 6) (by omega) (by omega) (by omega)
    have h2 : Int32.ofNat i + 1 = Int32.ofNat (i + 1) := i_add (b := 1)
    have h3 : fin 6 (Int32.ofNat i) = some i := fin_nat (by omega) (by omega)
    simp only [csN, csm_i, csm_r, Nat.reduceAdd, Nat.reduceLeDiff, wdI, wdR, wdN, clM_0, clC_0, clC_1, clC_6, clC_8, true_or, or_true, i10, i01, ob_some, ob_map, cal_v, rvs_some, rvs_none, XO_at, cal_x, m172, r172_0, r172_1, r172_2, r172_3, r172_6, r172_7, r172_8, r172_9, r172_10, r172_11, r172_15, r172_16, r172_19, r172_20, r172_22, r172_23, r172_25, r172_26, r172_28, r172_29, r172_30, r172_33, r172_36, r172_37, lC_7, h1, h2, h3, if_true, Option.map_some, acA]
    exact ih (i + 1) _ _ (by omega)
theorem c172 : RM x 172 [.ref (b + 6)] (setC w b s) n = some (.inl (some (.int (sumTo (s 7) 6))), setC w b s, n) := by
  simp only [csN, csm_i, csm_r, Nat.reduceAdd, Nat.reduceLeDiff, wdI, wdR, wdN, clM_0, clC_0, clC_1, clC_6, clC_8, true_or, or_true, i10, i01, ob_some, ob_map, cal_v, rvs_some, rvs_none, XO_at, cal_x, m172, r172_0, r172_1, r172_2, r172_3, r172_6, r172_7, r172_8, r172_9, r172_10, r172_11, r172_15, r172_16, r172_19, r172_20, r172_22, r172_23, r172_25, r172_26, r172_28, r172_29, r172_30, r172_33, r172_36, r172_37, gC_6_0, nC_7]
  exact l172 6 0 0 _ rfl
theorem c173 : RM x 173 [.ref (b + 6)] (setC w b s) n = some (.inl (some (.int (360 + s 20 11 + s 20 12 - s 20 13))), setC w b s, n) := by
  simp only [csN, csm_i, csm_r, Nat.reduceAdd, Nat.reduceLeDiff, wdI, wdR, wdN, clM_0, clC_0, clC_1, clC_6, clC_8, true_or, or_true, i10, i01, ob_some, ob_map, cal_v, rvs_some, rvs_none, XO_at, cal_x, m173, r173_0, r173_3, r173_4, r173_7, r173_8, r173_9, r173_12, r173_13, r173_14, r173_17, r173_18, gC_6_1, gC_6_2, gC_6_3]
theorem l174 (hw : ∀ r, r < 6 → ¬ 90 < s 7 r) (d : Nat) : ∀ (i : Nat) (e : Option Value), i + d = 6 → RC x 174 10 [some (.ref (b + 6)), some (.ref (b + 7)), some (.int 6), some (.int (Int32.ofNat i)), e] [] (setC w b s) n = some (.inl (some (.int 1)), setC w b s, n) := by
  induction d with
  | zero =>
    intro i e h
    obtain rfl : i = 6 := by omega
    rw [r174_10]
    simp only [csN, csm_i, csm_r, Nat.reduceAdd, Nat.reduceLeDiff, wdI, wdR, wdN, clM_0, clC_0, clC_1, clC_6, clC_8, true_or, or_true, i10, i01, ob_some, ob_map, cal_v, rvs_some, rvs_none, XO_at, cal_x, m174, r174_0, r174_1, r174_4, r174_5, r174_6, r174_7, r174_8, r174_9, r174_11, r174_12, r174_15, r174_16, r174_17, r174_18, r174_20, r174_22, r174_24, r174_27, r174_28, r174_29, r174_32, r174_35, r174_36, Int32.reduceOfNat, Int32.reduceLT, if_false]
  | succ d ih =>
    intro i e h
    rw [r174_10]
    have h1 : Int32.ofNat i < 6 := nlt (N := 6) (by omega) (by omega) (by omega)
    have h2 : Int32.ofNat i + 1 = Int32.ofNat (i + 1) := i_add (b := 1)
    have h3 : fin 6 (Int32.ofNat i) = some i := fin_nat (by omega) (by omega)
    have h4 := hw i (by omega)
    simp only [csN, csm_i, csm_r, Nat.reduceAdd, Nat.reduceLeDiff, wdI, wdR, wdN, clM_0, clC_0, clC_1, clC_6, clC_8, true_or, or_true, i10, i01, ob_some, ob_map, cal_v, rvs_some, rvs_none, XO_at, cal_x, m174, r174_0, r174_1, r174_4, r174_5, r174_6, r174_7, r174_8, r174_9, r174_11, r174_12, r174_15, r174_16, r174_17, r174_18, r174_20, r174_22, r174_24, r174_27, r174_28, r174_29, r174_32, r174_35, r174_36, lC_7, h1, h2, h3, h4, if_true, if_false, Option.map_some]
    exact ih (i + 1) _ (by omega)
theorem c174 (hw : ∀ r, r < 6 → ¬ 90 < s 7 r) : RM x 174 [.ref (b + 6)] (setC w b s) n = some (.inl (some (.int 1)), setC w b s, n) := by
  simp only [csN, csm_i, csm_r, Nat.reduceAdd, Nat.reduceLeDiff, wdI, wdR, wdN, clM_0, clC_0, clC_1, clC_6, clC_8, true_or, or_true, i10, i01, ob_some, ob_map, cal_v, rvs_some, rvs_none, XO_at, cal_x, m174, r174_0, r174_1, r174_4, r174_5, r174_6, r174_7, r174_8, r174_9, r174_11, r174_12, r174_15, r174_16, r174_17, r174_18, r174_20, r174_22, r174_24, r174_27, r174_28, r174_29, r174_32, r174_35, r174_36, gC_6_0, nC_7]
  exact l174 hw 6 0 _ rfl
end GAT
