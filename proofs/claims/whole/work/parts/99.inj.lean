/-! THE BEGINNING: history, the class's object, the model, the law's own rows -/
section INJ
set_option maxRecDepth 20000
variable {x : SX} {n p a : Nat} {w W V : PW}
def kpi (i : Nat) : Nat → Option Nat := fun j => if j < i then some (109 + 14 * j) else none
theorem kpi_s {i : Nat} : va_up (kpi i) i (some (109 + 14 * i)) = kpi (i + 1) := by
  funext j
  unfold va_up kpi
  by_cases h : j = i
  · rw [if_pos h, if_pos (by omega), h]
  · rw [if_neg h]
    by_cases h2 : j < i
    · rw [if_pos h2, if_pos (by omega)]
    · rw [if_neg h2, if_neg (by omega)]
theorem aln_q {f : Nat → Option Nat} (h : w a = some (rowQ f)) : aln x w 0 a = some (Int32.ofNat 8) := by
  unfold aln
  rw [if_neg (by decide), h]
  rfl
theorem l160 (d : Nat) : ∀ i (V : PW), i + d = 8 → V 107 = some (.inr (3, [.ref 108, .int 0])) → V 108 = some (rowQ (kpi i)) → (∀ j, j < i → isC V (109 + 14 * j) s0C) →
    ∃ V', RC x 160 15 [some (.ref 107), some (.int (Int32.ofNat i))] [] V (109 + 14 * i) = some (.inl none, V', 221) ∧ V' 107 = some (.inr (3, [.ref 108, .int 0])) ∧ V' 108 = some (rowQ (kpi 8)) ∧ (∀ j, j < 8 → isC V' (109 + 14 * j) s0C) ∧ ∀ k, k < 107 → V' k = V k := by
  induction d with
  | zero =>
    intro i V hi h1 h2 h3
    obtain rfl : i = 8 := by omega
    have g1 : gfd V 3 0 107 = some (.ref 108) := by rw [gfd_at h1 (by decide)]; rfl
    have g2 : aln x V 0 108 = some (Int32.ofNat 8) := aln_q h2
    have h0 : ¬ Int32.ofNat 8 < Int32.ofNat 8 := Int32.lt_irrefl
    refine ⟨V, ?_, h1, h2, h3, fun _ _ => rfl⟩
    rw [r160_15]
    simp only [csN, csm_i, csm_r, Nat.reduceAdd, Nat.reduceLeDiff, wdI, wdR, wdN, clM_0, clC_0, clC_1, clC_6, clC_8, true_or, or_true, i10, i01, ob_some, ob_map, cal_v, rvs_some, rvs_none, XO_at, cal_x, m160, r160_0, r160_1, r160_4, r160_5, r160_10, r160_13, r160_14, r160_16, r160_17, r160_20, r160_21, r160_24, r160_25, r160_28, r160_32, r160_33, r160_36, r160_37, r160_40, r160_43, g1, g2, h0, if_false]
  | succ d ih =>
    intro i V hi h1 h2 h3
    have g1 : gfd V 3 0 107 = some (.ref 108) := by rw [gfd_at h1 (by decide)]; rfl
    have g2 : aln x V 0 108 = some (Int32.ofNat 8) := aln_q h2
    have hl : Int32.ofNat i < Int32.ofNat 8 := nlt (by omega) (by omega) (by omega)
    obtain ⟨A, hA⟩ : ∃ A, A = pupd V (109 + 14 * i) (.inr (0, fs0)) := ⟨_, rfl⟩
    have a1 : A (109 + 14 * i) = some (.inr (0, fs0)) := by rw [hA]; exact pupd_same _ _ _
    have k1 : clo A (109 + 14 * i) = some 0 := clo_of a1
    obtain ⟨B, e1, c1, c2⟩ := i98 (x := x) a1
    have b2 : B 108 = some (rowQ (kpi i)) := by rw [c2 108 (by omega), hA, pupd_ne (by omega)]; exact h2
    have b3 : B (109 + 14 * i) = some (cellC (109 + 14 * i) s0C 0) := c1 0 (by omega)
    have st : qst B 108 (Int32.ofNat i) (109 + 14 * i) = some (pupd B 108 (rowQ (kpi (i + 1)))) := by
      rw [qst_at b2 b3, fin_nat (by omega) (by omega)]
      show some (pupd B 108 (.inl (5, 8, .inr (.inr (.inr (.inr (va_up (kpi i) i (some (109 + 14 * i)))))))))  = _
      rw [kpi_s]
      rfl
    have s29 : ∀ (lv : LV) st (w : PW), RC x 160 29 lv st w (109 + 14 * i) = RC x 160 32 lv (.ref (109 + 14 * i) :: st) (pupd w (109 + 14 * i) (.inr (0, fs0))) (109 + 14 * i + 1) := fun lv st w => r160_29
    have hn : 109 + 14 * i + 14 = 109 + 14 * (i + 1) := by omega
    obtain ⟨V', e2, d1, d2, d3, d4⟩ := ih (i + 1) (pupd B 108 (rowQ (kpi (i + 1)))) (by omega) (by rw [pupd_ne (by omega), c2 107 (by omega), hA, pupd_ne (by omega)]; exact h1) (pupd_same _ _ _) (fun j hj k hk => by
      rw [pupd_ne (by omega)]
      by_cases hji : j = i
      · rw [hji]; exact c1 k hk
      · rw [c2 _ (by omega), hA, pupd_ne (by omega)]; exact h3 j (by omega) k hk)
    refine ⟨V', ?_, d1, d2, d3, fun k hk => by rw [d4 k hk, pupd_ne (by omega), c2 k (by omega), hA, pupd_ne (by omega)]⟩
    rw [← e2, ← hn]
    conv => lhs; rw [r160_15]
    simp only [csN, csm_i, csm_r, Nat.reduceAdd, Nat.reduceLeDiff, wdI, wdR, wdN, clM_0, clC_0, clC_1, clC_6, clC_8, true_or, or_true, i10, i01, ob_some, ob_map, cal_v, rvs_some, rvs_none, XO_at, cal_x, m160, r160_0, r160_1, r160_4, r160_5, r160_10, r160_13, r160_14, r160_16, r160_17, r160_20, r160_21, r160_24, r160_25, r160_28, r160_32, r160_33, r160_36, r160_37, r160_40, r160_43, g1, g2, hl, if_true, s29, hA.symm, k1, e1, st, i_s]
theorem i160 (hp : W 107 = some (.inr (3, fs3))) : ∃ V', RM x 160 [.ref 107] W 108 = some (.inl none, V', 221) ∧ V' 107 = some (.inr (3, [.ref 108, .int 0])) ∧ V' 108 = some (rowQ (kpi 8)) ∧ (∀ j, j < 8 → isC V' (109 + 14 * j) s0C) ∧ ∀ k, k < 107 → V' k = W k := by
  have q0 : W 107 = some (.inr (3, [.null, .int 0])) := hp
  obtain ⟨A, hA⟩ : ∃ A, A = pupd W 108 (zA 5 8) := ⟨_, rfl⟩
  have e0 := r160_7 (x := x) (n := 108) (w := W) (v := 8) (N := 8) (lv := [some (.ref 107), none]) (st := [.ref 107]) (by decide) (by decide) (by decide)
  rw [← hA] at e0
  have a0 : A 107 = some (.inr (3, [.null, .int 0])) := by rw [hA, pupd_ne (by omega)]; exact q0
  obtain ⟨B, hB⟩ : ∃ A', A' = pupd A 107 (.inr (3, [.ref 108, .int 0])) := ⟨_, rfl⟩
  have p0 : pfd A 3 0 107 (.ref 108) = some B := by rw [hB]; exact pfa (ty := .array (.object "ChordCanal$Canal")) a0 (by decide +kernel) (by simp only [List.length_cons, List.length_nil]; decide) rfl
  have b0 : B 107 = some (.inr (3, [.ref 108, .int 0])) := by rw [hB]; exact pupd_same _ _ _
  have b1 : B 108 = some (rowQ (kpi 0)) := by
    rw [hB, pupd_ne (by omega), hA, pupd_same]
    have : kpi 0 = fun _ => none := by
      funext j
      unfold kpi
      exact if_neg (by omega)
    rw [this]
    rfl
  obtain ⟨V', e, d1, d2, d3, d4⟩ := l160 (x := x) 8 0 B (by omega) b0 b1 (fun j hj => by omega)
  refine ⟨V', ?_, d1, d2, d3, fun k hk => by rw [d4 k hk, hB, pupd_ne (by omega), hA, pupd_ne (by omega)]⟩
  rw [← e]
  simp only [csN, csm_i, csm_r, Nat.reduceAdd, Nat.reduceLeDiff, wdI, wdR, wdN, clM_0, clC_0, clC_1, clC_6, clC_8, true_or, or_true, i10, i01, ob_some, ob_map, cal_v, rvs_some, rvs_none, XO_at, cal_x, m160, r160_0, r160_1, r160_4, r160_5, r160_10, r160_13, r160_14, r160_16, r160_17, r160_20, r160_21, r160_24, r160_25, r160_28, r160_32, r160_33, r160_36, r160_37, r160_40, r160_43, e0, p0]
  rfl
def scr0 : NS := fun _ _ => 0
/-- the class's new object -/
theorem i34 (hp : W 64 = some (.inr (6, fs6))) : ∃ W', RM x 34 [.ref 64] W 65 = some (.inl none, W', 227) ∧ WD W' s0C s0C s0C 0 (-1) (-1) (fun j => j) (fun _ => s0C) 0 scr0 ∧ W' 225 = some (sbo 226 0 0) ∧ W' 226 = some (.inl (2, 16, .inl fun _ => 0)) := by
  have q0 : W 64 = some (.inr (6, [.null, .null, .null, .int 0, .null, .null, .null, .int 0, .int 0])) := hp
  obtain ⟨N65, hN65⟩ : ∃ A, A = pupd W 65 (.inr (0, fs0)) := ⟨_, rfl⟩
  have a65 : N65 64 = some (.inr (6, [.null, .null, .null, .int 0, .null, .null, .null, .int 0, .int 0])) := by rw [hN65, pupd_ne (by omega)]; exact q0
  have b65 : N65 65 = some (.inr (0, fs0)) := by rw [hN65]; exact pupd_same _ _ _
  have k65 : clo N65 65 = some 0 := clo_of b65
  obtain ⟨C65, e65, i65, o65⟩ := i98 (x := x) (p := 65) b65
  have s65 : ∀ (lv : LV) st (w : PW), RC x 34 5 lv st w 65 = RC x 34 8 lv (.ref 65 :: st) (pupd w 65 (.inr (0, fs0))) 66 := fun lv st w => r34_5
  have dC65 : C65 64 = some (.inr (6, [.null, .null, .null, .int 0, .null, .null, .null, .int 0, .int 0])) := by rw [o65 64 (by omega)]; exact a65
  obtain ⟨P0, hP0⟩ : ∃ A, A = pupd C65 64 (.inr (6, [.ref 65, .null, .null, .int 0, .null, .null, .null, .int 0, .int 0])) := ⟨_, rfl⟩
  have p0 : pfd C65 6 0 64 (.ref 65) = some P0 := by rw [hP0]; exact pfa (ty := .object "ChordCanal$Canal") dC65 (by decide +kernel) (by simp only [List.length_cons, List.length_nil]; decide) rfl
  have t0 : P0 64 = some (.inr (6, [.ref 65, .null, .null, .int 0, .null, .null, .null, .int 0, .int 0])) := by rw [hP0]; exact pupd_same _ _ _
  obtain ⟨N79, hN79⟩ : ∃ A, A = pupd P0 79 (.inr (0, fs0)) := ⟨_, rfl⟩
  have a79 : N79 64 = some (.inr (6, [.ref 65, .null, .null, .int 0, .null, .null, .null, .int 0, .int 0])) := by rw [hN79, pupd_ne (by omega)]; exact t0
  have b79 : N79 79 = some (.inr (0, fs0)) := by rw [hN79]; exact pupd_same _ _ _
  have k79 : clo N79 79 = some 0 := clo_of b79
  obtain ⟨C79, e79, i79, o79⟩ := i98 (x := x) (p := 79) b79
  have s79 : ∀ (lv : LV) st (w : PW), RC x 34 16 lv st w 79 = RC x 34 19 lv (.ref 79 :: st) (pupd w 79 (.inr (0, fs0))) 80 := fun lv st w => r34_16
  have dC79 : C79 64 = some (.inr (6, [.ref 65, .null, .null, .int 0, .null, .null, .null, .int 0, .int 0])) := by rw [o79 64 (by omega)]; exact a79
  obtain ⟨P1, hP1⟩ : ∃ A, A = pupd C79 64 (.inr (6, [.ref 65, .ref 79, .null, .int 0, .null, .null, .null, .int 0, .int 0])) := ⟨_, rfl⟩
  have p1 : pfd C79 6 1 64 (.ref 79) = some P1 := by rw [hP1]; exact pfa (ty := .object "ChordCanal$Canal") dC79 (by decide +kernel) (by simp only [List.length_cons, List.length_nil]; decide) rfl
  have t1 : P1 64 = some (.inr (6, [.ref 65, .ref 79, .null, .int 0, .null, .null, .null, .int 0, .int 0])) := by rw [hP1]; exact pupd_same _ _ _
  obtain ⟨N93, hN93⟩ : ∃ A, A = pupd P1 93 (.inr (0, fs0)) := ⟨_, rfl⟩
  have a93 : N93 64 = some (.inr (6, [.ref 65, .ref 79, .null, .int 0, .null, .null, .null, .int 0, .int 0])) := by rw [hN93, pupd_ne (by omega)]; exact t1
  have b93 : N93 93 = some (.inr (0, fs0)) := by rw [hN93]; exact pupd_same _ _ _
  have k93 : clo N93 93 = some 0 := clo_of b93
  obtain ⟨C93, e93, i93, o93⟩ := i98 (x := x) (p := 93) b93
  have s93 : ∀ (lv : LV) st (w : PW), RC x 34 27 lv st w 93 = RC x 34 30 lv (.ref 93 :: st) (pupd w 93 (.inr (0, fs0))) 94 := fun lv st w => r34_27
  have dC93 : C93 64 = some (.inr (6, [.ref 65, .ref 79, .null, .int 0, .null, .null, .null, .int 0, .int 0])) := by rw [o93 64 (by omega)]; exact a93
  obtain ⟨P2, hP2⟩ : ∃ A, A = pupd C93 64 (.inr (6, [.ref 65, .ref 79, .ref 93, .int 0, .null, .null, .null, .int 0, .int 0])) := ⟨_, rfl⟩
  have p2 : pfd C93 6 2 64 (.ref 93) = some P2 := by rw [hP2]; exact pfa (ty := .object "ChordCanal$Canal") dC93 (by decide +kernel) (by simp only [List.length_cons, List.length_nil]; decide) rfl
  have t2 : P2 64 = some (.inr (6, [.ref 65, .ref 79, .ref 93, .int 0, .null, .null, .null, .int 0, .int 0])) := by rw [hP2]; exact pupd_same _ _ _
  obtain ⟨P3, hP3⟩ : ∃ A, A = pupd P2 64 (.inr (6, [.ref 65, .ref 79, .ref 93, .int 0, .null, .null, .null, .int 0, .int 0])) := ⟨_, rfl⟩
  have p3 : pfd P2 6 3 64 (.int 0) = some P3 := by rw [hP3]; exact pfa (ty := .boolean) t2 (by decide +kernel) (by simp only [List.length_cons, List.length_nil]; decide) (by decide)
  have t3 : P3 64 = some (.inr (6, [.ref 65, .ref 79, .ref 93, .int 0, .null, .null, .null, .int 0, .int 0])) := by rw [hP3]; exact pupd_same _ _ _
  obtain ⟨N107, hN107⟩ : ∃ A, A = pupd P3 107 (.inr (3, fs3)) := ⟨_, rfl⟩
  have a107 : N107 64 = some (.inr (6, [.ref 65, .ref 79, .ref 93, .int 0, .null, .null, .null, .int 0, .int 0])) := by rw [hN107, pupd_ne (by omega)]; exact t3
  have b107 : N107 107 = some (.inr (3, fs3)) := by rw [hN107]; exact pupd_same _ _ _
  have k107 : clo N107 107 = some 3 := clo_of b107
  obtain ⟨C107, e107, j107, j108, i109, o107⟩ := i160 (x := x) b107
  have s107 : ∀ (lv : LV) st (w : PW), RC x 34 43 lv st w 107 = RC x 34 46 lv (.ref 107 :: st) (pupd w 107 (.inr (3, fs3))) 108 := fun lv st w => r34_43
  have dC107 : C107 64 = some (.inr (6, [.ref 65, .ref 79, .ref 93, .int 0, .null, .null, .null, .int 0, .int 0])) := by rw [o107 64 (by omega)]; exact a107
  obtain ⟨P4, hP4⟩ : ∃ A, A = pupd C107 64 (.inr (6, [.ref 65, .ref 79, .ref 93, .int 0, .ref 107, .null, .null, .int 0, .int 0])) := ⟨_, rfl⟩
  have p4 : pfd C107 6 4 64 (.ref 107) = some P4 := by rw [hP4]; exact pfa (ty := .object "ChordCanal$History") dC107 (by decide +kernel) (by simp only [List.length_cons, List.length_nil]; decide) rfl
  have t4 : P4 64 = some (.inr (6, [.ref 65, .ref 79, .ref 93, .int 0, .ref 107, .null, .null, .int 0, .int 0])) := by rw [hP4]; exact pupd_same _ _ _
  obtain ⟨N221, hN221⟩ : ∃ A, A = pupd P4 221 (.inr (5, fs5)) := ⟨_, rfl⟩
  have a221 : N221 64 = some (.inr (6, [.ref 65, .ref 79, .ref 93, .int 0, .ref 107, .null, .null, .int 0, .int 0])) := by rw [hN221, pupd_ne (by omega)]; exact t4
  have b221 : N221 221 = some (.inr (5, fs5)) := by rw [hN221]; exact pupd_same _ _ _
  have k221 : clo N221 221 = some 5 := clo_of b221
  obtain ⟨C221, e221, j221, j222, j223, j224, o221⟩ := i175 (x := x) (p := 221) (n := 222) b221 (by omega)
  have s221 : ∀ (lv : LV) st (w : PW), RC x 34 54 lv st w 221 = RC x 34 57 lv (.ref 221 :: st) (pupd w 221 (.inr (5, fs5))) 222 := fun lv st w => r34_54
  have dC221 : C221 64 = some (.inr (6, [.ref 65, .ref 79, .ref 93, .int 0, .ref 107, .null, .null, .int 0, .int 0])) := by rw [o221 64 (by omega) (by omega)]; exact a221
  obtain ⟨P5, hP5⟩ : ∃ A, A = pupd C221 64 (.inr (6, [.ref 65, .ref 79, .ref 93, .int 0, .ref 107, .ref 221, .null, .int 0, .int 0])) := ⟨_, rfl⟩
  have p5 : pfd C221 6 5 64 (.ref 221) = some P5 := by rw [hP5]; exact pfa (ty := .object "ChordCanal$Script") dC221 (by decide +kernel) (by simp only [List.length_cons, List.length_nil]; decide) rfl
  have t5 : P5 64 = some (.inr (6, [.ref 65, .ref 79, .ref 93, .int 0, .ref 107, .ref 221, .null, .int 0, .int 0])) := by rw [hP5]; exact pupd_same _ _ _
  obtain ⟨N225, hN225⟩ : ∃ A, A = pupd P5 225 (.inr (8, fs8)) := ⟨_, rfl⟩
  have a225 : N225 64 = some (.inr (6, [.ref 65, .ref 79, .ref 93, .int 0, .ref 107, .ref 221, .null, .int 0, .int 0])) := by rw [hN225, pupd_ne (by omega)]; exact t5
  have b225 : N225 225 = some (.inr (8, fs8)) := by rw [hN225]; exact pupd_same _ _ _
  have k225 : clo N225 225 = some 8 := clo_of b225
  obtain ⟨C225, e225, j225, j226, o225⟩ := i20 (x := x) (p := 225) (n := 226) b225 (by omega)
  have s225 : ∀ (lv : LV) st (w : PW), RC x 34 65 lv st w 225 = RC x 34 68 lv (.ref 225 :: st) (pupd w 225 (.inr (8, fs8))) 226 := fun lv st w => r34_65
  have dC225 : C225 64 = some (.inr (6, [.ref 65, .ref 79, .ref 93, .int 0, .ref 107, .ref 221, .null, .int 0, .int 0])) := by rw [o225 64 (by omega) (by omega)]; exact a225
  obtain ⟨P6, hP6⟩ : ∃ A, A = pupd C225 64 (.inr (6, [.ref 65, .ref 79, .ref 93, .int 0, .ref 107, .ref 221, .ref 225, .int 0, .int 0])) := ⟨_, rfl⟩
  have p6 : pfd C225 6 6 64 (.ref 225) = some P6 := by rw [hP6]; exact pfa (ty := .object "java/lang/StringBuilder") dC225 (by decide +kernel) (by simp only [List.length_cons, List.length_nil]; decide) rfl
  have t6 : P6 64 = some (.inr (6, [.ref 65, .ref 79, .ref 93, .int 0, .ref 107, .ref 221, .ref 225, .int 0, .int 0])) := by rw [hP6]; exact pupd_same _ _ _
  obtain ⟨P7, hP7⟩ : ∃ A, A = pupd P6 64 (.inr (6, [.ref 65, .ref 79, .ref 93, .int 0, .ref 107, .ref 221, .ref 225, .int (-1), .int 0])) := ⟨_, rfl⟩
  have p7 : pfd P6 6 7 64 (.int (-1)) = some P7 := by rw [hP7]; exact pfa (ty := .int) t6 (by decide +kernel) (by simp only [List.length_cons, List.length_nil]; decide) rfl
  have t7 : P7 64 = some (.inr (6, [.ref 65, .ref 79, .ref 93, .int 0, .ref 107, .ref 221, .ref 225, .int (-1), .int 0])) := by rw [hP7]; exact pupd_same _ _ _
  obtain ⟨P8, hP8⟩ : ∃ A, A = pupd P7 64 (.inr (6, [.ref 65, .ref 79, .ref 93, .int 0, .ref 107, .ref 221, .ref 225, .int (-1), .int (-1)])) := ⟨_, rfl⟩
  have p8 : pfd P7 6 8 64 (.int (-1)) = some P8 := by rw [hP8]; exact pfa (ty := .int) t7 (by decide +kernel) (by simp only [List.length_cons, List.length_nil]; decide) rfl
  have t8 : P8 64 = some (.inr (6, [.ref 65, .ref 79, .ref 93, .int 0, .ref 107, .ref 221, .ref 225, .int (-1), .int (-1)])) := by rw [hP8]; exact pupd_same _ _ _
  have f65 : isC P8 65 s0C := fun k hk => by rw [hP8, pupd_ne (by omega), hP7, pupd_ne (by omega), hP6, pupd_ne (by omega), o225 _ (by omega) (by omega), hN225, pupd_ne (by omega), hP5, pupd_ne (by omega), o221 _ (by omega) (by omega), hN221, pupd_ne (by omega), hP4, pupd_ne (by omega), o107 _ (by omega), hN107, pupd_ne (by omega), hP3, pupd_ne (by omega), hP2, pupd_ne (by omega), o93 _ (by omega), hN93, pupd_ne (by omega), hP1, pupd_ne (by omega), o79 _ (by omega), hN79, pupd_ne (by omega), hP0, pupd_ne (by omega)]; exact i65 k hk
  have f79 : isC P8 79 s0C := fun k hk => by rw [hP8, pupd_ne (by omega), hP7, pupd_ne (by omega), hP6, pupd_ne (by omega), o225 _ (by omega) (by omega), hN225, pupd_ne (by omega), hP5, pupd_ne (by omega), o221 _ (by omega) (by omega), hN221, pupd_ne (by omega), hP4, pupd_ne (by omega), o107 _ (by omega), hN107, pupd_ne (by omega), hP3, pupd_ne (by omega), hP2, pupd_ne (by omega), o93 _ (by omega), hN93, pupd_ne (by omega), hP1, pupd_ne (by omega)]; exact i79 k hk
  have f93 : isC P8 93 s0C := fun k hk => by rw [hP8, pupd_ne (by omega), hP7, pupd_ne (by omega), hP6, pupd_ne (by omega), o225 _ (by omega) (by omega), hN225, pupd_ne (by omega), hP5, pupd_ne (by omega), o221 _ (by omega) (by omega), hN221, pupd_ne (by omega), hP4, pupd_ne (by omega), o107 _ (by omega), hN107, pupd_ne (by omega), hP3, pupd_ne (by omega), hP2, pupd_ne (by omega)]; exact i93 k hk
  have z107 : ∀ i, 64 < i → i < 221 → P8 i = C107 i := fun i h1 h2 => by rw [hP8, pupd_ne (by omega), hP7, pupd_ne (by omega), hP6, pupd_ne (by omega), o225 _ (by omega) (by omega), hN225, pupd_ne (by omega), hP5, pupd_ne (by omega), o221 _ (by omega) (by omega), hN221, pupd_ne (by omega), hP4, pupd_ne (by omega)]
  have z221 : ∀ i, 64 < i → i < 225 → P8 i = C221 i := fun i h1 h2 => by rw [hP8, pupd_ne (by omega), hP7, pupd_ne (by omega), hP6, pupd_ne (by omega), o225 _ (by omega) (by omega), hN225, pupd_ne (by omega), hP5, pupd_ne (by omega)]
  have z225 : ∀ i, ¬ i = 64 → P8 i = C225 i := fun i h1 => by rw [hP8, pupd_ne h1, hP7, pupd_ne h1, hP6, pupd_ne h1]
  have hk : kpi 8 = kpt (fun j => j) := by
    funext j
    unfold kpi kpt
    rfl
  refine ⟨P8, ?_, ⟨t8, f65, f79, f93, (z107 107 (by omega) (by omega)).trans j107, ?_, fun q hq k hk => ?_, fun q hq => hq, fun q r _ _ h => h, fun k hk => ?_⟩, (z225 225 (by omega)).trans j225, (z225 226 (by omega)).trans j226⟩
  rotate_left
  · rw [z107 108 (by omega) (by omega), j108, hk]
  · show P8 (109 + 14 * q + k) = _
    rw [z107 _ (by omega) (by omega)]
    exact i109 q hq k hk
  · have h : k = 0 ∨ k = 1 ∨ k = 2 ∨ k = 3 := by omega
    rcases h with rfl | rfl | rfl | rfl
    · exact (z221 221 (by omega) (by omega)).trans j221
    · exact (z221 222 (by omega) (by omega)).trans j222
    · exact (z221 223 (by omega) (by omega)).trans j223
    · exact (z221 224 (by omega) (by omega)).trans j224
  · simp only [csN, csm_i, csm_r, Nat.reduceAdd, Nat.reduceLeDiff, wdI, wdR, wdN, clM_0, clC_0, clC_1, clC_6, clC_8, true_or, or_true, i10, i01, ob_some, ob_map, cal_v, rvs_some, rvs_none, XO_at, cal_x, m34, r34_0, r34_1, r34_4, r34_8, r34_9, r34_12, r34_15, r34_19, r34_20, r34_23, r34_26, r34_30, r34_31, r34_34, r34_37, r34_38, r34_39, r34_42, r34_46, r34_47, r34_50, r34_53, r34_57, r34_58, r34_61, r34_64, r34_68, r34_69, r34_72, r34_75, r34_76, r34_77, r34_80, r34_81, r34_82, r34_85, s65, hN65.symm, k65, e65, p0, s79, hN79.symm, k79, e79, p1, s93, hN93.symm, k93, e93, p2, p3, s107, hN107.symm, k107, e107, p4, s221, hN221.symm, k221, e221, p5, s225, hN225.symm, k225, e225, p6, p7, p8]
theorem l191a {FS : List Value} (hap : ¬ a = p) (hp : V p = some (.inr (7, FS))) (hf : FS[0]? = some (.ref a)) (d : Nat) : ∀ i f, i + d = 6 → RC x 191 96 [some (.ref p), some (.int (Int32.ofNat i))] [] (pupd V a (.inl (0, 84, .inl f))) n = RC x 191 119 [some (.ref p), some (.int 6)] [] (pupd V a (.inl (0, 84, .inl fun j => if 8 + i ≤ j ∧ j < 14 then 60 else f j))) n := by
  have g1 : ∀ f, gfd (pupd V a (.inl (0, 84, .inl f))) 7 0 p = some (.ref a) := fun f => by rw [gfd_at (by rw [pupd_ne (fun h => hap h.symm)]; exact hp) (by decide), hf]
  induction d with
  | zero =>
    intro i f hi
    obtain rfl : i = 6 := by omega
    have h0 : ¬ Int32.ofNat 6 < (6 : Int32) := by decide
    have e : (fun j => if 8 + 6 ≤ j ∧ j < 14 then (60 : Int32) else f j) = f := by
      funext j
      rw [if_neg (by omega)]
    conv => lhs; rw [r191_96]
    rw [e]
    simp only [csN, csm_i, csm_r, Nat.reduceAdd, Nat.reduceLeDiff, wdI, wdR, wdN, clM_0, clC_0, clC_1, clC_6, clC_8, true_or, or_true, i10, i01, ob_some, ob_map, cal_v, rvs_some, rvs_none, XO_at, cal_x, m191, r191_0, r191_1, r191_4, r191_5, r191_9, r191_12, r191_13, r191_17, r191_20, r191_21, r191_25, r191_28, r191_29, r191_34, r191_37, r191_38, r191_42, r191_45, r191_46, r191_50, r191_53, r191_54, r191_55, r191_58, r191_59, r191_60, r191_63, r191_64, r191_68, r191_71, r191_72, r191_75, r191_78, r191_79, r191_84, r191_87, r191_88, r191_91, r191_92, r191_93, r191_94, r191_95, r191_97, r191_99, r191_102, r191_103, r191_106, r191_108, r191_109, r191_110, r191_112, r191_113, r191_116, r191_120, r191_121, r191_122, r191_123, r191_126, r191_127, r191_130, r191_132, r191_133, r191_134, r191_135, r191_136, r191_137, r191_138, r191_139, r191_140, r191_143, r191_146, g1, h0, if_false]
    rfl
  | succ d ih =>
    intro i f hi
    have h1 : Int32.ofNat i < (6 : Int32) := nlt (N := 6) (by omega) (by omega) (by omega)
    have ix1 : (8 : Int32) + Int32.ofNat i = Int32.ofNat (8 + i) := i_add (a := 8)
    have st : ast 0 (pupd V a (.inl (0, 84, .inl f))) a (Int32.ofNat (8 + i)) 60 = some (pupd V a (.inl (0, 84, .inl (upd f (8 + i) 60)))) := by rw [ast_at (pupd_same _ _ _), fin_nat (by omega) (by omega)]; simp only [Option.map_some, pupd_pupd]
    have e : (fun j => if 8 + i ≤ j ∧ j < 14 then (60 : Int32) else f j) = fun j => if 8 + (i + 1) ≤ j ∧ j < 14 then 60 else upd f (8 + i) 60 j := by
      funext j
      rw [upd_at]
      by_cases h : j = 8 + i
      · rw [if_pos (by omega), if_neg (by omega), if_pos h]
      · by_cases h2 : 8 + i ≤ j ∧ j < 14
        · rw [if_pos h2, if_pos (by omega)]
        · rw [if_neg h2, if_neg (by omega), if_neg h]
    rw [e, ← ih (i + 1) (upd f (8 + i) 60) (by omega)]
    conv => lhs; rw [r191_96]
    simp only [csN, csm_i, csm_r, Nat.reduceAdd, Nat.reduceLeDiff, wdI, wdR, wdN, clM_0, clC_0, clC_1, clC_6, clC_8, true_or, or_true, i10, i01, ob_some, ob_map, cal_v, rvs_some, rvs_none, XO_at, cal_x, m191, r191_0, r191_1, r191_4, r191_5, r191_9, r191_12, r191_13, r191_17, r191_20, r191_21, r191_25, r191_28, r191_29, r191_34, r191_37, r191_38, r191_42, r191_45, r191_46, r191_50, r191_53, r191_54, r191_55, r191_58, r191_59, r191_60, r191_63, r191_64, r191_68, r191_71, r191_72, r191_75, r191_78, r191_79, r191_84, r191_87, r191_88, r191_91, r191_92, r191_93, r191_94, r191_95, r191_97, r191_99, r191_102, r191_103, r191_106, r191_108, r191_109, r191_110, r191_112, r191_113, r191_116, r191_120, r191_121, r191_122, r191_123, r191_126, r191_127, r191_130, r191_132, r191_133, r191_134, r191_135, r191_136, r191_137, r191_138, r191_139, r191_140, r191_143, r191_146, g1, h1, if_true, ix1, st, i_s]
theorem l191b {FS : List Value} (hap : ¬ a = p) (hp : V p = some (.inr (7, FS))) (hf : FS[0]? = some (.ref a)) (d : Nat) : ∀ i f, i + d = 5 → RC x 191 121 [some (.ref p), some (.int (Int32.ofNat i))] [] (pupd V a (.inl (0, 84, .inl f))) n = RC x 191 146 [some (.ref p), some (.int 5)] [] (pupd V a (.inl (0, 84, .inl fun j => if 20 + 2 * i ≤ j ∧ j < 29 ∧ j % 2 = 0 then 4 else f j))) n := by
  have g1 : ∀ f, gfd (pupd V a (.inl (0, 84, .inl f))) 7 0 p = some (.ref a) := fun f => by rw [gfd_at (by rw [pupd_ne (fun h => hap h.symm)]; exact hp) (by decide), hf]
  induction d with
  | zero =>
    intro i f hi
    obtain rfl : i = 5 := by omega
    have h0 : ¬ Int32.ofNat 5 < (5 : Int32) := by decide
    have e : (fun j => if 20 + 2 * 5 ≤ j ∧ j < 29 ∧ j % 2 = 0 then (4 : Int32) else f j) = f := by
      funext j
      rw [if_neg (by omega)]
    conv => lhs; rw [r191_121]
    rw [e]
    simp only [csN, csm_i, csm_r, Nat.reduceAdd, Nat.reduceLeDiff, wdI, wdR, wdN, clM_0, clC_0, clC_1, clC_6, clC_8, true_or, or_true, i10, i01, ob_some, ob_map, cal_v, rvs_some, rvs_none, XO_at, cal_x, m191, r191_0, r191_1, r191_4, r191_5, r191_9, r191_12, r191_13, r191_17, r191_20, r191_21, r191_25, r191_28, r191_29, r191_34, r191_37, r191_38, r191_42, r191_45, r191_46, r191_50, r191_53, r191_54, r191_55, r191_58, r191_59, r191_60, r191_63, r191_64, r191_68, r191_71, r191_72, r191_75, r191_78, r191_79, r191_84, r191_87, r191_88, r191_91, r191_92, r191_93, r191_94, r191_95, r191_96, r191_97, r191_99, r191_102, r191_103, r191_106, r191_108, r191_109, r191_110, r191_112, r191_113, r191_116, r191_119, r191_120, r191_122, r191_123, r191_126, r191_127, r191_130, r191_132, r191_133, r191_134, r191_135, r191_136, r191_137, r191_138, r191_139, r191_140, r191_143, g1, h0, if_false]
    rfl
  | succ d ih =>
    intro i f hi
    have h1 : Int32.ofNat i < (5 : Int32) := nlt (N := 5) (by omega) (by omega) (by omega)
    have ix1 : (19 : Int32) + 2 * Int32.ofNat i + 1 = Int32.ofNat (20 + 2 * i) := by rw [show (19 : Int32) = Int32.ofNat 19 from rfl, show (2 : Int32) = Int32.ofNat 2 from rfl, show (1 : Int32) = Int32.ofNat 1 from rfl, i_mul, i_add, i_add]; congr 1; omega
    have st : ast 0 (pupd V a (.inl (0, 84, .inl f))) a (Int32.ofNat (20 + 2 * i)) 4 = some (pupd V a (.inl (0, 84, .inl (upd f (20 + 2 * i) 4)))) := by rw [ast_at (pupd_same _ _ _), fin_nat (by omega) (by omega)]; simp only [Option.map_some, pupd_pupd]
    have e : (fun j => if 20 + 2 * i ≤ j ∧ j < 29 ∧ j % 2 = 0 then (4 : Int32) else f j) = fun j => if 20 + 2 * (i + 1) ≤ j ∧ j < 29 ∧ j % 2 = 0 then 4 else upd f (20 + 2 * i) 4 j := by
      funext j
      rw [upd_at]
      by_cases h : j = 20 + 2 * i
      · rw [if_pos (by omega), if_neg (by omega), if_pos h]
      · by_cases h2 : 20 + 2 * i ≤ j ∧ j < 29 ∧ j % 2 = 0
        · rw [if_pos h2, if_pos (by omega)]
        · rw [if_neg h2, if_neg (by omega), if_neg h]
    rw [e, ← ih (i + 1) (upd f (20 + 2 * i) 4) (by omega)]
    conv => lhs; rw [r191_121]
    simp only [csN, csm_i, csm_r, Nat.reduceAdd, Nat.reduceLeDiff, wdI, wdR, wdN, clM_0, clC_0, clC_1, clC_6, clC_8, true_or, or_true, i10, i01, ob_some, ob_map, cal_v, rvs_some, rvs_none, XO_at, cal_x, m191, r191_0, r191_1, r191_4, r191_5, r191_9, r191_12, r191_13, r191_17, r191_20, r191_21, r191_25, r191_28, r191_29, r191_34, r191_37, r191_38, r191_42, r191_45, r191_46, r191_50, r191_53, r191_54, r191_55, r191_58, r191_59, r191_60, r191_63, r191_64, r191_68, r191_71, r191_72, r191_75, r191_78, r191_79, r191_84, r191_87, r191_88, r191_91, r191_92, r191_93, r191_94, r191_95, r191_96, r191_97, r191_99, r191_102, r191_103, r191_106, r191_108, r191_109, r191_110, r191_112, r191_113, r191_116, r191_119, r191_120, r191_122, r191_123, r191_126, r191_127, r191_130, r191_132, r191_133, r191_134, r191_135, r191_136, r191_137, r191_138, r191_139, r191_140, r191_143, g1, h1, if_true, ix1, st, i_s]
def g0M : Nat → Int32 := fun j => if 20 + 2 * 0 ≤ j ∧ j < 29 ∧ j % 2 = 0 then 4 else (if 8 + 0 ≤ j ∧ j < 14 then 60 else upd (fun _ => 0) 1 2 j)
def m0M : NS := fun a => if a = 1 then g0M else if a = 20 then (fun j => if j = 9 then -1 else if j = 10 then -1 else 0) else fun _ => 0
theorem i191 (hp : W p = some (.inr (7, fs7))) (hn : n = p + 1) : ∃ W', RM x 191 [.ref p] W n = some (.inl none, W', p + 10) ∧ (∀ k, k < 10 → W' (p + k) = some (cellM p m0M k)) ∧ ∀ i, i < p → W' i = W i := by
  have q0 : W p = some (.inr (7, [.null, .null, .null, .null, .int 0, .null, .int 0, .null, .int 0, .int 0, .int 0, .null, .int 0, .int 0, .null, .int 0, .int 0, .null])) := hp
  obtain ⟨A0, hA0⟩ : ∃ A, A = pupd W n (zA 0 84) := ⟨_, rfl⟩
  have e0 := r191_7 (x := x) (n := n) (w := W) (v := 84) (N := 84) (lv := [some (.ref p), none]) (st := [.ref p]) (by decide) (by decide) (by decide)
  rw [← hA0] at e0
  have a0 : A0 p = some (.inr (7, [.null, .null, .null, .null, .int 0, .null, .int 0, .null, .int 0, .int 0, .int 0, .null, .int 0, .int 0, .null, .int 0, .int 0, .null])) := by rw [hA0, pupd_ne (by omega)]; exact q0
  obtain ⟨W1, hW1⟩ : ∃ A, A = pupd A0 p (.inr (7, [.ref n, .null, .null, .null, .int 0, .null, .int 0, .null, .int 0, .int 0, .int 0, .null, .int 0, .int 0, .null, .int 0, .int 0, .null])) := ⟨_, rfl⟩
  have p0 : pfd A0 7 0 p (.ref n) = some W1 := by rw [hW1]; exact pfa (ty := .array .int) a0 (by decide +kernel) (by simp only [List.length_cons, List.length_nil]; decide) rfl
  have q1 : W1 p = some (.inr (7, [.ref n, .null, .null, .null, .int 0, .null, .int 0, .null, .int 0, .int 0, .int 0, .null, .int 0, .int 0, .null, .int 0, .int 0, .null])) := by rw [hW1]; exact pupd_same _ _ _
  obtain ⟨A1, hA1⟩ : ∃ A, A = pupd W1 (n + 1) (zA 0 84) := ⟨_, rfl⟩
  have e1 := r191_15 (x := x) (n := (n + 1)) (w := W1) (v := 84) (N := 84) (lv := [some (.ref p), none]) (st := [.ref p]) (by decide) (by decide) (by decide)
  rw [← hA1] at e1
  have a1 : A1 p = some (.inr (7, [.ref n, .null, .null, .null, .int 0, .null, .int 0, .null, .int 0, .int 0, .int 0, .null, .int 0, .int 0, .null, .int 0, .int 0, .null])) := by rw [hA1, pupd_ne (by omega)]; exact q1
  obtain ⟨W2, hW2⟩ : ∃ A, A = pupd A1 p (.inr (7, [.ref n, .ref (n + 1), .null, .null, .int 0, .null, .int 0, .null, .int 0, .int 0, .int 0, .null, .int 0, .int 0, .null, .int 0, .int 0, .null])) := ⟨_, rfl⟩
  have p1 : pfd A1 7 1 p (.ref (n + 1)) = some W2 := by rw [hW2]; exact pfa (ty := .array .int) a1 (by decide +kernel) (by simp only [List.length_cons, List.length_nil]; decide) rfl
  have q2 : W2 p = some (.inr (7, [.ref n, .ref (n + 1), .null, .null, .int 0, .null, .int 0, .null, .int 0, .int 0, .int 0, .null, .int 0, .int 0, .null, .int 0, .int 0, .null])) := by rw [hW2]; exact pupd_same _ _ _
  obtain ⟨A2, hA2⟩ : ∃ A, A = pupd W2 (n + 2) (zA 0 84) := ⟨_, rfl⟩
  have e2 := r191_23 (x := x) (n := (n + 2)) (w := W2) (v := 84) (N := 84) (lv := [some (.ref p), none]) (st := [.ref p]) (by decide) (by decide) (by decide)
  rw [← hA2] at e2
  have a2 : A2 p = some (.inr (7, [.ref n, .ref (n + 1), .null, .null, .int 0, .null, .int 0, .null, .int 0, .int 0, .int 0, .null, .int 0, .int 0, .null, .int 0, .int 0, .null])) := by rw [hA2, pupd_ne (by omega)]; exact q2
  obtain ⟨W3, hW3⟩ : ∃ A, A = pupd A2 p (.inr (7, [.ref n, .ref (n + 1), .ref (n + 2), .null, .int 0, .null, .int 0, .null, .int 0, .int 0, .int 0, .null, .int 0, .int 0, .null, .int 0, .int 0, .null])) := ⟨_, rfl⟩
  have p2 : pfd A2 7 2 p (.ref (n + 2)) = some W3 := by rw [hW3]; exact pfa (ty := .array .int) a2 (by decide +kernel) (by simp only [List.length_cons, List.length_nil]; decide) rfl
  have q3 : W3 p = some (.inr (7, [.ref n, .ref (n + 1), .ref (n + 2), .null, .int 0, .null, .int 0, .null, .int 0, .int 0, .int 0, .null, .int 0, .int 0, .null, .int 0, .int 0, .null])) := by rw [hW3]; exact pupd_same _ _ _
  obtain ⟨A3, hA3⟩ : ∃ A, A = pupd W3 (n + 3) (zA 0 672) := ⟨_, rfl⟩
  have e3 := r191_32 (x := x) (n := (n + 3)) (w := W3) (v := 672) (N := 672) (lv := [some (.ref p), none]) (st := [.ref p]) (by decide) (by decide) (by decide)
  rw [← hA3] at e3
  have a3 : A3 p = some (.inr (7, [.ref n, .ref (n + 1), .ref (n + 2), .null, .int 0, .null, .int 0, .null, .int 0, .int 0, .int 0, .null, .int 0, .int 0, .null, .int 0, .int 0, .null])) := by rw [hA3, pupd_ne (by omega)]; exact q3
  obtain ⟨W4, hW4⟩ : ∃ A, A = pupd A3 p (.inr (7, [.ref n, .ref (n + 1), .ref (n + 2), .ref (n + 3), .int 0, .null, .int 0, .null, .int 0, .int 0, .int 0, .null, .int 0, .int 0, .null, .int 0, .int 0, .null])) := ⟨_, rfl⟩
  have p3 : pfd A3 7 3 p (.ref (n + 3)) = some W4 := by rw [hW4]; exact pfa (ty := .array .int) a3 (by decide +kernel) (by simp only [List.length_cons, List.length_nil]; decide) rfl
  have q4 : W4 p = some (.inr (7, [.ref n, .ref (n + 1), .ref (n + 2), .ref (n + 3), .int 0, .null, .int 0, .null, .int 0, .int 0, .int 0, .null, .int 0, .int 0, .null, .int 0, .int 0, .null])) := by rw [hW4]; exact pupd_same _ _ _
  obtain ⟨A4, hA4⟩ : ∃ A, A = pupd W4 (n + 4) (zA 0 84) := ⟨_, rfl⟩
  have e4 := r191_40 (x := x) (n := (n + 4)) (w := W4) (v := 84) (N := 84) (lv := [some (.ref p), none]) (st := [.ref p]) (by decide) (by decide) (by decide)
  rw [← hA4] at e4
  have a4 : A4 p = some (.inr (7, [.ref n, .ref (n + 1), .ref (n + 2), .ref (n + 3), .int 0, .null, .int 0, .null, .int 0, .int 0, .int 0, .null, .int 0, .int 0, .null, .int 0, .int 0, .null])) := by rw [hA4, pupd_ne (by omega)]; exact q4
  obtain ⟨W5, hW5⟩ : ∃ A, A = pupd A4 p (.inr (7, [.ref n, .ref (n + 1), .ref (n + 2), .ref (n + 3), .int 0, .ref (n + 4), .int 0, .null, .int 0, .int 0, .int 0, .null, .int 0, .int 0, .null, .int 0, .int 0, .null])) := ⟨_, rfl⟩
  have p4 : pfd A4 7 5 p (.ref (n + 4)) = some W5 := by rw [hW5]; exact pfa (ty := .array .int) a4 (by decide +kernel) (by simp only [List.length_cons, List.length_nil]; decide) rfl
  have q5 : W5 p = some (.inr (7, [.ref n, .ref (n + 1), .ref (n + 2), .ref (n + 3), .int 0, .ref (n + 4), .int 0, .null, .int 0, .int 0, .int 0, .null, .int 0, .int 0, .null, .int 0, .int 0, .null])) := by rw [hW5]; exact pupd_same _ _ _
  obtain ⟨A5, hA5⟩ : ∃ A, A = pupd W5 (n + 5) (zA 1 60) := ⟨_, rfl⟩
  have e5 := r191_48 (x := x) (n := (n + 5)) (w := W5) (v := 60) (N := 60) (lv := [some (.ref p), none]) (st := [.ref p]) (by decide) (by decide) (by decide)
  rw [← hA5] at e5
  have a5 : A5 p = some (.inr (7, [.ref n, .ref (n + 1), .ref (n + 2), .ref (n + 3), .int 0, .ref (n + 4), .int 0, .null, .int 0, .int 0, .int 0, .null, .int 0, .int 0, .null, .int 0, .int 0, .null])) := by rw [hA5, pupd_ne (by omega)]; exact q5
  obtain ⟨W6, hW6⟩ : ∃ A, A = pupd A5 p (.inr (7, [.ref n, .ref (n + 1), .ref (n + 2), .ref (n + 3), .int 0, .ref (n + 4), .int 0, .ref (n + 5), .int 0, .int 0, .int 0, .null, .int 0, .int 0, .null, .int 0, .int 0, .null])) := ⟨_, rfl⟩
  have p5 : pfd A5 7 7 p (.ref (n + 5)) = some W6 := by rw [hW6]; exact pfa (ty := .array .char) a5 (by decide +kernel) (by simp only [List.length_cons, List.length_nil]; decide) rfl
  have q6 : W6 p = some (.inr (7, [.ref n, .ref (n + 1), .ref (n + 2), .ref (n + 3), .int 0, .ref (n + 4), .int 0, .ref (n + 5), .int 0, .int 0, .int 0, .null, .int 0, .int 0, .null, .int 0, .int 0, .null])) := by rw [hW6]; exact pupd_same _ _ _
  obtain ⟨W7, hW7⟩ : ∃ A, A = pupd W6 p (.inr (7, [.ref n, .ref (n + 1), .ref (n + 2), .ref (n + 3), .int 0, .ref (n + 4), .int 0, .ref (n + 5), .int 0, .int (-1), .int 0, .null, .int 0, .int 0, .null, .int 0, .int 0, .null])) := ⟨_, rfl⟩
  have p6 : pfd W6 7 9 p (.int (-1)) = some W7 := by rw [hW7]; exact pfa (ty := .int) q6 (by decide +kernel) (by simp only [List.length_cons, List.length_nil]; decide) rfl
  have q7 : W7 p = some (.inr (7, [.ref n, .ref (n + 1), .ref (n + 2), .ref (n + 3), .int 0, .ref (n + 4), .int 0, .ref (n + 5), .int 0, .int (-1), .int 0, .null, .int 0, .int 0, .null, .int 0, .int 0, .null])) := by rw [hW7]; exact pupd_same _ _ _
  obtain ⟨W8, hW8⟩ : ∃ A, A = pupd W7 p (.inr (7, [.ref n, .ref (n + 1), .ref (n + 2), .ref (n + 3), .int 0, .ref (n + 4), .int 0, .ref (n + 5), .int 0, .int (-1), .int (-1), .null, .int 0, .int 0, .null, .int 0, .int 0, .null])) := ⟨_, rfl⟩
  have p7 : pfd W7 7 10 p (.int (-1)) = some W8 := by rw [hW8]; exact pfa (ty := .int) q7 (by decide +kernel) (by simp only [List.length_cons, List.length_nil]; decide) rfl
  have q8 : W8 p = some (.inr (7, [.ref n, .ref (n + 1), .ref (n + 2), .ref (n + 3), .int 0, .ref (n + 4), .int 0, .ref (n + 5), .int 0, .int (-1), .int (-1), .null, .int 0, .int 0, .null, .int 0, .int 0, .null])) := by rw [hW8]; exact pupd_same _ _ _
  obtain ⟨A8, hA8⟩ : ∃ A, A = pupd W8 (n + 6) (zA 1 100) := ⟨_, rfl⟩
  have e8 := r191_66 (x := x) (n := (n + 6)) (w := W8) (v := 100) (N := 100) (lv := [some (.ref p), none]) (st := [.ref p]) (by decide) (by decide) (by decide)
  rw [← hA8] at e8
  have a8 : A8 p = some (.inr (7, [.ref n, .ref (n + 1), .ref (n + 2), .ref (n + 3), .int 0, .ref (n + 4), .int 0, .ref (n + 5), .int 0, .int (-1), .int (-1), .null, .int 0, .int 0, .null, .int 0, .int 0, .null])) := by rw [hA8, pupd_ne (by omega)]; exact q8
  obtain ⟨W9, hW9⟩ : ∃ A, A = pupd A8 p (.inr (7, [.ref n, .ref (n + 1), .ref (n + 2), .ref (n + 3), .int 0, .ref (n + 4), .int 0, .ref (n + 5), .int 0, .int (-1), .int (-1), .ref (n + 6), .int 0, .int 0, .null, .int 0, .int 0, .null])) := ⟨_, rfl⟩
  have p8 : pfd A8 7 11 p (.ref (n + 6)) = some W9 := by rw [hW9]; exact pfa (ty := .array .char) a8 (by decide +kernel) (by simp only [List.length_cons, List.length_nil]; decide) rfl
  have q9 : W9 p = some (.inr (7, [.ref n, .ref (n + 1), .ref (n + 2), .ref (n + 3), .int 0, .ref (n + 4), .int 0, .ref (n + 5), .int 0, .int (-1), .int (-1), .ref (n + 6), .int 0, .int 0, .null, .int 0, .int 0, .null])) := by rw [hW9]; exact pupd_same _ _ _
  obtain ⟨A9, hA9⟩ : ∃ A, A = pupd W9 (n + 7) (zA 0 5) := ⟨_, rfl⟩
  have e9 := r191_73 (x := x) (n := (n + 7)) (w := W9) (v := 5) (N := 5) (lv := [some (.ref p), none]) (st := [.ref p]) (by decide) (by decide) (by decide)
  rw [← hA9] at e9
  have a9 : A9 p = some (.inr (7, [.ref n, .ref (n + 1), .ref (n + 2), .ref (n + 3), .int 0, .ref (n + 4), .int 0, .ref (n + 5), .int 0, .int (-1), .int (-1), .ref (n + 6), .int 0, .int 0, .null, .int 0, .int 0, .null])) := by rw [hA9, pupd_ne (by omega)]; exact q9
  obtain ⟨W10, hW10⟩ : ∃ A, A = pupd A9 p (.inr (7, [.ref n, .ref (n + 1), .ref (n + 2), .ref (n + 3), .int 0, .ref (n + 4), .int 0, .ref (n + 5), .int 0, .int (-1), .int (-1), .ref (n + 6), .int 0, .int 0, .ref (n + 7), .int 0, .int 0, .null])) := ⟨_, rfl⟩
  have p9 : pfd A9 7 14 p (.ref (n + 7)) = some W10 := by rw [hW10]; exact pfa (ty := .array .int) a9 (by decide +kernel) (by simp only [List.length_cons, List.length_nil]; decide) rfl
  have q10 : W10 p = some (.inr (7, [.ref n, .ref (n + 1), .ref (n + 2), .ref (n + 3), .int 0, .ref (n + 4), .int 0, .ref (n + 5), .int 0, .int (-1), .int (-1), .ref (n + 6), .int 0, .int 0, .ref (n + 7), .int 0, .int 0, .null])) := by rw [hW10]; exact pupd_same _ _ _
  obtain ⟨A10, hA10⟩ : ∃ A, A = pupd W10 (n + 8) (zA 0 240) := ⟨_, rfl⟩
  have e10 := r191_82 (x := x) (n := (n + 8)) (w := W10) (v := 240) (N := 240) (lv := [some (.ref p), none]) (st := [.ref p]) (by decide) (by decide) (by decide)
  rw [← hA10] at e10
  have a10 : A10 p = some (.inr (7, [.ref n, .ref (n + 1), .ref (n + 2), .ref (n + 3), .int 0, .ref (n + 4), .int 0, .ref (n + 5), .int 0, .int (-1), .int (-1), .ref (n + 6), .int 0, .int 0, .ref (n + 7), .int 0, .int 0, .null])) := by rw [hA10, pupd_ne (by omega)]; exact q10
  obtain ⟨W11, hW11⟩ : ∃ A, A = pupd A10 p (.inr (7, [.ref n, .ref (n + 1), .ref (n + 2), .ref (n + 3), .int 0, .ref (n + 4), .int 0, .ref (n + 5), .int 0, .int (-1), .int (-1), .ref (n + 6), .int 0, .int 0, .ref (n + 7), .int 0, .int 0, .ref (n + 8)])) := ⟨_, rfl⟩
  have p10 : pfd A10 7 17 p (.ref (n + 8)) = some W11 := by rw [hW11]; exact pfa (ty := .array .int) a10 (by decide +kernel) (by simp only [List.length_cons, List.length_nil]; decide) rfl
  have q11 : W11 p = some (.inr (7, [.ref n, .ref (n + 1), .ref (n + 2), .ref (n + 3), .int 0, .ref (n + 4), .int 0, .ref (n + 5), .int 0, .int (-1), .int (-1), .ref (n + 6), .int 0, .int 0, .ref (n + 7), .int 0, .int 0, .ref (n + 8)])) := by rw [hW11]; exact pupd_same _ _ _
  have c0 : W11 n = some (zA 0 84) := by rw [hW11, pupd_ne (by omega), hA10, pupd_ne (by omega), hW10, pupd_ne (by omega), hA9, pupd_ne (by omega), hW9, pupd_ne (by omega), hA8, pupd_ne (by omega), hW8, pupd_ne (by omega), hW7, pupd_ne (by omega), hW6, pupd_ne (by omega), hA5, pupd_ne (by omega), hW5, pupd_ne (by omega), hA4, pupd_ne (by omega), hW4, pupd_ne (by omega), hA3, pupd_ne (by omega), hW3, pupd_ne (by omega), hA2, pupd_ne (by omega), hW2, pupd_ne (by omega), hA1, pupd_ne (by omega), hW1, pupd_ne (by omega), hA0]; exact pupd_same _ _ _
  have c1 : W11 (n + 1) = some (zA 0 84) := by rw [hW11, pupd_ne (by omega), hA10, pupd_ne (by omega), hW10, pupd_ne (by omega), hA9, pupd_ne (by omega), hW9, pupd_ne (by omega), hA8, pupd_ne (by omega), hW8, pupd_ne (by omega), hW7, pupd_ne (by omega), hW6, pupd_ne (by omega), hA5, pupd_ne (by omega), hW5, pupd_ne (by omega), hA4, pupd_ne (by omega), hW4, pupd_ne (by omega), hA3, pupd_ne (by omega), hW3, pupd_ne (by omega), hA2, pupd_ne (by omega), hW2, pupd_ne (by omega), hA1]; exact pupd_same _ _ _
  have c2 : W11 (n + 2) = some (zA 0 84) := by rw [hW11, pupd_ne (by omega), hA10, pupd_ne (by omega), hW10, pupd_ne (by omega), hA9, pupd_ne (by omega), hW9, pupd_ne (by omega), hA8, pupd_ne (by omega), hW8, pupd_ne (by omega), hW7, pupd_ne (by omega), hW6, pupd_ne (by omega), hA5, pupd_ne (by omega), hW5, pupd_ne (by omega), hA4, pupd_ne (by omega), hW4, pupd_ne (by omega), hA3, pupd_ne (by omega), hW3, pupd_ne (by omega), hA2]; exact pupd_same _ _ _
  have c3 : W11 (n + 3) = some (zA 0 672) := by rw [hW11, pupd_ne (by omega), hA10, pupd_ne (by omega), hW10, pupd_ne (by omega), hA9, pupd_ne (by omega), hW9, pupd_ne (by omega), hA8, pupd_ne (by omega), hW8, pupd_ne (by omega), hW7, pupd_ne (by omega), hW6, pupd_ne (by omega), hA5, pupd_ne (by omega), hW5, pupd_ne (by omega), hA4, pupd_ne (by omega), hW4, pupd_ne (by omega), hA3]; exact pupd_same _ _ _
  have c4 : W11 (n + 4) = some (zA 0 84) := by rw [hW11, pupd_ne (by omega), hA10, pupd_ne (by omega), hW10, pupd_ne (by omega), hA9, pupd_ne (by omega), hW9, pupd_ne (by omega), hA8, pupd_ne (by omega), hW8, pupd_ne (by omega), hW7, pupd_ne (by omega), hW6, pupd_ne (by omega), hA5, pupd_ne (by omega), hW5, pupd_ne (by omega), hA4]; exact pupd_same _ _ _
  have c5 : W11 (n + 5) = some (zA 1 60) := by rw [hW11, pupd_ne (by omega), hA10, pupd_ne (by omega), hW10, pupd_ne (by omega), hA9, pupd_ne (by omega), hW9, pupd_ne (by omega), hA8, pupd_ne (by omega), hW8, pupd_ne (by omega), hW7, pupd_ne (by omega), hW6, pupd_ne (by omega), hA5]; exact pupd_same _ _ _
  have c6 : W11 (n + 6) = some (zA 1 100) := by rw [hW11, pupd_ne (by omega), hA10, pupd_ne (by omega), hW10, pupd_ne (by omega), hA9, pupd_ne (by omega), hW9, pupd_ne (by omega), hA8]; exact pupd_same _ _ _
  have c7 : W11 (n + 7) = some (zA 0 5) := by rw [hW11, pupd_ne (by omega), hA10, pupd_ne (by omega), hW10, pupd_ne (by omega), hA9]; exact pupd_same _ _ _
  have c8 : W11 (n + 8) = some (zA 0 240) := by rw [hW11, pupd_ne (by omega), hA10]; exact pupd_same _ _ _
  have fo : ∀ i, i < n → ¬ i = p → W11 i = W i := fun i h1 h2 => by rw [hW11, pupd_ne (by omega), hA10, pupd_ne (by omega), hW10, pupd_ne (by omega), hA9, pupd_ne (by omega), hW9, pupd_ne (by omega), hA8, pupd_ne (by omega), hW8, pupd_ne (by omega), hW7, pupd_ne (by omega), hW6, pupd_ne (by omega), hA5, pupd_ne (by omega), hW5, pupd_ne (by omega), hA4, pupd_ne (by omega), hW4, pupd_ne (by omega), hA3, pupd_ne (by omega), hW3, pupd_ne (by omega), hA2, pupd_ne (by omega), hW2, pupd_ne (by omega), hA1, pupd_ne (by omega), hW1, pupd_ne (by omega), hA0, pupd_ne (by omega)]
  have hn1 : W11 n = some (.inl (0, 84, .inl fun _ => 0)) := c0
  have g1 : gfd W11 7 0 p = some (.ref n) := by rw [gfd_at q11 (by decide)]; rfl
  have st : ast 0 W11 n 1 2 = some (pupd W11 n (.inl (0, 84, .inl (upd (fun _ => 0) 1 2)))) := by rw [ast_at hn1, show (1 : Int32) = Int32.ofNat 1 from rfl, fin_nat (by omega) (by omega)]; rfl
  have l1 := l191a (x := x) (n := n + 9) (a := n) (p := p) (V := W11) (by omega) q11 rfl 6 0 (upd (fun _ => 0) 1 2) (by omega)
  have l2 := l191b (x := x) (n := n + 9) (a := n) (p := p) (V := W11) (by omega) q11 rfl 5 0 (fun j => if 8 + 0 ≤ j ∧ j < 14 then 60 else upd (fun _ => 0) 1 2 j) (by omega)
  refine ⟨pupd W11 n (.inl (0, 84, .inl g0M)), ?_, fun k hk => ?_, fun i h1 => ?_⟩
  rotate_left
  · have h : k = 0 ∨ k = 1 ∨ k = 2 ∨ k = 3 ∨ k = 4 ∨ k = 5 ∨ k = 6 ∨ k = 7 ∨ k = 8 ∨ k = 9 := by omega
    have hz : ∀ o, n + o = p + (o + 1) := fun o => by omega
    rcases h with rfl | rfl | rfl | rfl | rfl | rfl | rfl | rfl | rfl | rfl
    · rw [Nat.add_zero, pupd_ne (by omega), q11, hn]
      rfl
    · rw [← hn, pupd_same]
      rfl
    · rw [← hz 1, pupd_ne (by omega)]
      exact c1
    · rw [← hz 2, pupd_ne (by omega)]
      exact c2
    · rw [← hz 3, pupd_ne (by omega)]
      exact c3
    · rw [← hz 4, pupd_ne (by omega)]
      exact c4
    · rw [← hz 5, pupd_ne (by omega)]
      exact c5
    · rw [← hz 6, pupd_ne (by omega)]
      exact c6
    · rw [← hz 7, pupd_ne (by omega)]
      exact c7
    · rw [← hz 8, pupd_ne (by omega)]
      exact c8
  · rw [pupd_ne (by omega)]
    exact fo i (by omega) (by omega)
  · have hp10 : p + 10 = n + 9 := by omega
    rw [hp10]
    simp only [csN, csm_i, csm_r, Nat.reduceAdd, Nat.reduceLeDiff, wdI, wdR, wdN, clM_0, clC_0, clC_1, clC_6, clC_8, true_or, or_true, i10, i01, ob_some, ob_map, cal_v, rvs_some, rvs_none, XO_at, cal_x, m191, r191_0, r191_1, r191_4, r191_5, r191_9, r191_12, r191_13, r191_17, r191_20, r191_21, r191_25, r191_28, r191_29, r191_34, r191_37, r191_38, r191_42, r191_45, r191_46, r191_50, r191_53, r191_54, r191_55, r191_58, r191_59, r191_60, r191_63, r191_64, r191_68, r191_71, r191_72, r191_75, r191_78, r191_79, r191_84, r191_87, r191_88, r191_91, r191_92, r191_93, r191_94, r191_95, r191_97, r191_99, r191_102, r191_103, r191_106, r191_108, r191_109, r191_110, r191_112, r191_113, r191_116, r191_119, r191_120, r191_122, r191_123, r191_126, r191_127, r191_130, r191_132, r191_133, r191_134, r191_135, r191_136, r191_137, r191_138, r191_139, r191_140, r191_143, r191_146, e0, p0, e1, p1, e2, p2, e3, p3, e4, p4, e5, p5, p6, p7, e8, p8, e9, p9, e10, p10, g1, st]
    refine Eq.trans l1 ?_
    rw [r191_119]
    simp only [csN, csm_i, csm_r, Nat.reduceAdd, Nat.reduceLeDiff, wdI, wdR, wdN, clM_0, clC_0, clC_1, clC_6, clC_8, true_or, or_true, i10, i01, ob_some, ob_map, cal_v, rvs_some, rvs_none, XO_at, cal_x, m191, r191_0, r191_1, r191_4, r191_5, r191_9, r191_12, r191_13, r191_17, r191_20, r191_21, r191_25, r191_28, r191_29, r191_34, r191_37, r191_38, r191_42, r191_45, r191_46, r191_50, r191_53, r191_54, r191_55, r191_58, r191_59, r191_60, r191_63, r191_64, r191_68, r191_71, r191_72, r191_75, r191_78, r191_79, r191_84, r191_87, r191_88, r191_91, r191_92, r191_93, r191_94, r191_95, r191_97, r191_99, r191_102, r191_103, r191_106, r191_108, r191_109, r191_110, r191_112, r191_113, r191_116, r191_119, r191_120, r191_122, r191_123, r191_126, r191_127, r191_130, r191_132, r191_133, r191_134, r191_135, r191_136, r191_137, r191_138, r191_139, r191_140, r191_143, r191_146]
    refine Eq.trans l2 ?_
    rw [r191_146]
    rfl
end INJ
