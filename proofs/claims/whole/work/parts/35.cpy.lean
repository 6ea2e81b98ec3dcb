/-! COPIES of a canal; a change performed -/
section CPY
set_option maxRecDepth 20000
variable {x : SX} {n b b2 : Nat} {w : PW} {s t : NS}
def isC (w : PW) (b : Nat) (t : NS) : Prop := ∀ k, k < 14 → w (b + k) = some (cellC b t k)
theorem isC_self : isC (setC w b s) b s := fun k hk => setW_at hk
theorem isC_set (h : isC w b t) : setC w b t = w := setW_self h
theorem isC_out (hd : b + 14 ≤ b2 ∨ b2 + 14 ≤ b) (h : isC w b2 t) : isC (setC w b s) b2 t := by
  intro k hk
  rw [setC_out (by omega)]
  exact h k hk
/-- the first N numbers of f before those of g -/
def cpy (N : Nat) (f g : Nat → Int32) : Nat → Int32 := va_cpy f g 0 0 N
theorem cpy_at {N j : Nat} {f g : Nat → Int32} (h : j < N) : cpy N f g j = f j := by
  unfold cpy va_cpy
  rw [if_pos ⟨Nat.zero_le _, by omega⟩]
  congr 1
  omega
theorem c97 {p q N : Nat} {M : Int32} {f g : Nat → Int32} (hp : w p = some (.inl (0, N, .inl f))) (hq : w q = some (.inl (0, N, .inl g))) (hM : M = Int32.ofNat N) (hN : N < 2147483648) : RM x 97 [.ref p, .ref q] w n = some (.inl none, pupd w q (.inl (0, N, .inl (cpy N f g))), n) := by
  have h1 : aln x w 0 p = some M := by rw [hM]; exact aln_at (by decide) hp
  have h2 : aln x w 0 q = some M := by rw [hM]; exact aln_at (by decide) hq
  have h3 : ¬ M < M := Int32.lt_irrefl
  have h4 : ¬ M < 0 := by rw [hM]; exact nz hN
  have h5 : M.toNatClampNeg = N := by rw [hM]; exact i32_cl hN
  simp only [csN, csm_i, csm_r, Nat.reduceAdd, Nat.reduceLeDiff, wdI, wdR, wdN, clM_0, clC_0, clC_1, clC_6, clC_8, true_or, or_true, i10, i01, ob_some, ob_map, cal_v, rvs_some, rvs_none, XO_at, cal_x, m97, r97_0, r97_1, r97_2, r97_3, r97_4, r97_5, r97_6, r97_7, r97_8, r97_14, h1, h2, h3, if_false]
  rw [r97_11 hp hq (by decide) (by decide) (by decide) h4 (by rw [h5]; exact Nat.le_of_eq (Nat.zero_add N)) (by rw [h5]; exact Nat.le_of_eq (Nat.zero_add N)) (by decide) (fun i _ => rfl)]
  rw [h5]
  simp only [csN, csm_i, csm_r, Nat.reduceAdd, Nat.reduceLeDiff, wdI, wdR, wdN, clM_0, clC_0, clC_1, clC_6, clC_8, true_or, or_true, i10, i01, ob_some, ob_map, cal_v, rvs_some, rvs_none, XO_at, cal_x, m97, r97_0, r97_1, r97_2, r97_3, r97_4, r97_5, r97_6, r97_7, r97_8, r97_14]
  rfl
def cpG (s t : NS) : NS := ua (ua (ua (ua s 2 (cpy 5 (t 2) (s 2))) 3 (cpy 5 (t 3) (s 3))) 4 (cpy 10 (t 4) (s 4))) 5 (cpy 10 (t 5) (s 5))
theorem c139 (hd : b + 14 ≤ b2 ∨ b2 + 14 ≤ b) (h : isC w b2 t) (hk : ∀ g, g < 5 → isKd (t 2 g)) : RM x 139 [.ref (b + 1), .ref (b2 + 1)] (setC w b s) n = some (.inl none, setC w b (cpG s t), n) := by
  have H : ∀ s, isC (setC w b s) b2 t := fun s => isC_out hd h
  have g0 : ∀ s, gfd (setC w b s) 2 0 (b2 + 1) = some (.ref (b2 + 2)) := fun s => by rw [gfd_at (H s 1 (by decide)) (by decide)]; rfl
  have g1 : ∀ s, gfd (setC w b s) 2 1 (b2 + 1) = some (.ref (b2 + 3)) := fun s => by rw [gfd_at (H s 1 (by decide)) (by decide)]; rfl
  have g2 : ∀ s, gfd (setC w b s) 2 2 (b2 + 1) = some (.ref (b2 + 4)) := fun s => by rw [gfd_at (H s 1 (by decide)) (by decide)]; rfl
  have g3 : ∀ s, gfd (setC w b s) 2 3 (b2 + 1) = some (.ref (b2 + 5)) := fun s => by rw [gfd_at (H s 1 (by decide)) (by decide)]; rfl
  have a0 : ∀ s, aln x (setC w b s) 0 (b2 + 2) = some 5 := fun s => aln_at (by decide) (H s 2 (by decide))
  have h3 : ¬ (5 : Int32) < 5 := by decide
  simp only [csN, csm_i, csm_r, Nat.reduceAdd, Nat.reduceLeDiff, wdI, wdR, wdN, clM_0, clC_0, clC_1, clC_6, clC_8, true_or, or_true, i10, i01, ob_some, ob_map, cal_v, rvs_some, rvs_none, XO_at, cal_x, m139, r139_0, r139_1, r139_4, r139_5, r139_6, r139_9, r139_10, r139_11, r139_14, r139_15, r139_16, r139_19, r139_20, r139_26, r139_27, r139_30, r139_31, r139_34, r139_37, r139_38, r139_41, r139_42, r139_45, r139_48, r139_49, r139_52, r139_53, r139_56, r139_59, g0, gC_1_0, a0, nC_2, h3, if_false]
  rw [r139_23 (H s 2 (by decide)) setC_2 (by decide) (by decide) (by decide) (by decide) (by decide) (by decide) (by decide) (fun i hi => by
    have hi' : i < 5 := hi
    have h9 := hk i hi'
    show fits .char (.int (t 2 (0 + i))) = true
    rw [Nat.zero_add]
    rcases h9 with e | e | e | e <;> rw [e] <;> decide)]
  rw [show (Int32.toNatClampNeg 0) = 0 from by decide, show (Int32.toNatClampNeg 5) = 5 from by decide, fC_2]
  have k3 := fun s => c97 (x := x) (n := n) (w := setC w b s) (M := 5) (H s 3 (by decide)) (setC_3 (w := w) (b := b) (s := s)) rfl (by decide)
  have k4 := fun s => c97 (x := x) (n := n) (w := setC w b s) (M := 10) (H s 4 (by decide)) (setC_4 (w := w) (b := b) (s := s)) rfl (by decide)
  have k5 := fun s => c97 (x := x) (n := n) (w := setC w b s) (M := 10) (H s 5 (by decide)) (setC_5 (w := w) (b := b) (s := s)) rfl (by decide)
  simp only [fC_3] at k3
  simp only [fC_4] at k4
  simp only [fC_5] at k5
  simp only [csN, csm_i, csm_r, Nat.reduceAdd, Nat.reduceLeDiff, wdI, wdR, wdN, clM_0, clC_0, clC_1, clC_6, clC_8, true_or, or_true, i10, i01, ob_some, ob_map, cal_v, rvs_some, rvs_none, XO_at, cal_x, m139, r139_0, r139_1, r139_4, r139_5, r139_6, r139_9, r139_10, r139_11, r139_14, r139_15, r139_16, r139_19, r139_20, r139_26, r139_27, r139_30, r139_31, r139_34, r139_37, r139_38, r139_41, r139_42, r139_45, r139_48, r139_49, r139_52, r139_53, r139_56, r139_59, g1, gC_1_1, k3, g2, gC_1_2, k4, g3, gC_1_3, k5, ua_ne, Nat.reduceEqDiff, not_false_eq_true]
  rfl
def cpR (s t : NS) : NS := us (us (us (ua s 7 (cpy 6 (t 7) (s 7))) 20 11 (t 20 11)) 20 12 (t 20 12)) 20 13 (t 20 13)
theorem c165 (hd : b + 14 ≤ b2 ∨ b2 + 14 ≤ b) (h : isC w b2 t) : RM x 165 [.ref (b + 6), .ref (b2 + 6)] (setC w b s) n = some (.inl none, setC w b (cpR s t), n) := by
  have H : ∀ s, isC (setC w b s) b2 t := fun s => isC_out hd h
  have g0 : ∀ s, gfd (setC w b s) 4 0 (b2 + 6) = some (.ref (b2 + 7)) := fun s => by rw [gfd_at (H s 6 (by decide)) (by decide)]; rfl
  have g1 : ∀ s, gfd (setC w b s) 4 1 (b2 + 6) = some (.int (t 20 11)) := fun s => by rw [gfd_at (H s 6 (by decide)) (by decide)]; rfl
  have g2 : ∀ s, gfd (setC w b s) 4 2 (b2 + 6) = some (.int (t 20 12)) := fun s => by rw [gfd_at (H s 6 (by decide)) (by decide)]; rfl
  have g3 : ∀ s, gfd (setC w b s) 4 3 (b2 + 6) = some (.int (t 20 13)) := fun s => by rw [gfd_at (H s 6 (by decide)) (by decide)]; rfl
  have k3 := fun s => c97 (x := x) (n := n) (w := setC w b s) (M := 6) (H s 7 (by decide)) (setC_7 (w := w) (b := b) (s := s)) rfl (by decide)
  simp only [fC_7] at k3
  simp only [csN, csm_i, csm_r, Nat.reduceAdd, Nat.reduceLeDiff, wdI, wdR, wdN, clM_0, clC_0, clC_1, clC_6, clC_8, true_or, or_true, i10, i01, ob_some, ob_map, cal_v, rvs_some, rvs_none, XO_at, cal_x, m165, r165_0, r165_1, r165_4, r165_5, r165_8, r165_11, r165_12, r165_13, r165_16, r165_19, r165_20, r165_21, r165_24, r165_27, r165_28, r165_29, r165_32, r165_35, g0, gC_6_0, k3, g1, g2, g3, pC_6_1, pC_6_2, pC_6_3]
  rfl
def cpF (s t : NS) : NS := us (us (ua (ua (ua (ua (ua s 9 (cpy 8 (t 9) (s 9))) 10 (cpy 8 (t 10) (s 10))) 11 (cpy 8 (t 11) (s 11))) 12 (cpy 8 (t 12) (s 12))) 13 (cpy 8 (t 13) (s 13))) 20 25 (t 20 25)) 20 26 (t 20 26)
theorem c118 (hd : b + 14 ≤ b2 ∨ b2 + 14 ≤ b) (h : isC w b2 t) : RM x 118 [.ref (b + 8), .ref (b2 + 8)] (setC w b s) n = some (.inl none, setC w b (cpF s t), n) := by
  have H : ∀ s, isC (setC w b s) b2 t := fun s => isC_out hd h
  have g0 : ∀ s, gfd (setC w b s) 1 0 (b2 + 8) = some (.ref (b2 + 9)) := fun s => by rw [gfd_at (H s 8 (by decide)) (by decide)]; rfl
  have g1 : ∀ s, gfd (setC w b s) 1 1 (b2 + 8) = some (.ref (b2 + 10)) := fun s => by rw [gfd_at (H s 8 (by decide)) (by decide)]; rfl
  have g2 : ∀ s, gfd (setC w b s) 1 2 (b2 + 8) = some (.ref (b2 + 11)) := fun s => by rw [gfd_at (H s 8 (by decide)) (by decide)]; rfl
  have g3 : ∀ s, gfd (setC w b s) 1 3 (b2 + 8) = some (.ref (b2 + 12)) := fun s => by rw [gfd_at (H s 8 (by decide)) (by decide)]; rfl
  have g4 : ∀ s, gfd (setC w b s) 1 4 (b2 + 8) = some (.ref (b2 + 13)) := fun s => by rw [gfd_at (H s 8 (by decide)) (by decide)]; rfl
  have g5 : ∀ s, gfd (setC w b s) 1 5 (b2 + 8) = some (.int (t 20 25)) := fun s => by rw [gfd_at (H s 8 (by decide)) (by decide)]; rfl
  have g6 : ∀ s, gfd (setC w b s) 1 6 (b2 + 8) = some (.int (t 20 26)) := fun s => by rw [gfd_at (H s 8 (by decide)) (by decide)]; rfl
  have k9 := fun s => c97 (x := x) (n := n) (w := setC w b s) (M := 8) (H s 9 (by decide)) (setC_9 (w := w) (b := b) (s := s)) rfl (by decide)
  have k10 := fun s => c97 (x := x) (n := n) (w := setC w b s) (M := 8) (H s 10 (by decide)) (setC_10 (w := w) (b := b) (s := s)) rfl (by decide)
  have k11 := fun s => c97 (x := x) (n := n) (w := setC w b s) (M := 8) (H s 11 (by decide)) (setC_11 (w := w) (b := b) (s := s)) rfl (by decide)
  have k12 := fun s => c97 (x := x) (n := n) (w := setC w b s) (M := 8) (H s 12 (by decide)) (setC_12 (w := w) (b := b) (s := s)) rfl (by decide)
  have k13 := fun s => c97 (x := x) (n := n) (w := setC w b s) (M := 8) (H s 13 (by decide)) (setC_13 (w := w) (b := b) (s := s)) rfl (by decide)
  simp only [fC_9] at k9
  simp only [fC_10] at k10
  simp only [fC_11] at k11
  simp only [fC_12] at k12
  simp only [fC_13] at k13
  simp only [csN, csm_i, csm_r, Nat.reduceAdd, Nat.reduceLeDiff, wdI, wdR, wdN, clM_0, clC_0, clC_1, clC_6, clC_8, true_or, or_true, i10, i01, ob_some, ob_map, cal_v, rvs_some, rvs_none, XO_at, cal_x, m118, r118_0, r118_1, r118_4, r118_5, r118_8, r118_11, r118_12, r118_15, r118_16, r118_19, r118_22, r118_23, r118_26, r118_27, r118_30, r118_33, r118_34, r118_37, r118_38, r118_41, r118_44, r118_45, r118_48, r118_49, r118_52, r118_55, r118_56, r118_57, r118_60, r118_63, r118_64, r118_65, r118_68, r118_71, g0, g1, g2, g3, g4, g5, g6, gC_8_0, gC_8_1, gC_8_2, gC_8_3, gC_8_4, k9, k10, k11, k12, k13, pC_8_5, pC_8_6, ua_ne, Nat.reduceEqDiff, not_false_eq_true]
  rfl
def cpC (s t : NS) : NS := us (us (us (cpF (cpR (cpG s t) t) t) 20 3 (t 20 3)) 20 4 (t 20 4)) 20 5 (t 20 5)
theorem c99 (hd : b + 14 ≤ b2 ∨ b2 + 14 ≤ b) (h : isC w b2 t) (hk : ∀ g, g < 5 → isKd (t 2 g)) : RM x 99 [.ref b, .ref b2] (setC w b s) n = some (.inl none, setC w b (cpC s t), n) := by
  have H : ∀ s, isC (setC w b s) b2 t := fun s => isC_out hd h
  have g0 : ∀ s, gfd (setC w b s) 0 0 b2 = some (.ref (b2 + 1)) := fun s => by rw [gfd_at (p := b2) (H s 0 (by decide)) (by decide)]; rfl
  have g1 : ∀ s, gfd (setC w b s) 0 1 b2 = some (.ref (b2 + 6)) := fun s => by rw [gfd_at (p := b2) (H s 0 (by decide)) (by decide)]; rfl
  have g2 : ∀ s, gfd (setC w b s) 0 2 b2 = some (.ref (b2 + 8)) := fun s => by rw [gfd_at (p := b2) (H s 0 (by decide)) (by decide)]; rfl
  have g3 : ∀ s, gfd (setC w b s) 0 3 b2 = some (.int (t 20 3)) := fun s => by rw [gfd_at (p := b2) (H s 0 (by decide)) (by decide)]; rfl
  have g4 : ∀ s, gfd (setC w b s) 0 4 b2 = some (.int (t 20 4)) := fun s => by rw [gfd_at (p := b2) (H s 0 (by decide)) (by decide)]; rfl
  have g5 : ∀ s, gfd (setC w b s) 0 5 b2 = some (.int (t 20 5)) := fun s => by rw [gfd_at (p := b2) (H s 0 (by decide)) (by decide)]; rfl
  have k1 := fun s => c139 (x := x) (n := n) (s := s) hd h hk
  have k2 := fun s => c165 (x := x) (n := n) (s := s) hd h
  have k3 := fun s => c118 (x := x) (n := n) (s := s) hd h
  simp only [csN, csm_i, csm_r, Nat.reduceAdd, Nat.reduceLeDiff, wdI, wdR, wdN, clM_0, clC_0, clC_1, clC_6, clC_8, true_or, or_true, i10, i01, ob_some, ob_map, cal_v, rvs_some, rvs_none, XO_at, cal_x, m99, r99_0, r99_1, r99_4, r99_5, r99_8, r99_11, r99_12, r99_15, r99_16, r99_19, r99_22, r99_23, r99_26, r99_27, r99_30, r99_33, r99_34, r99_35, r99_38, r99_41, r99_42, r99_43, r99_46, r99_49, r99_50, r99_51, r99_54, r99_57, g0, g1, g2, g3, g4, g5, gC_0_0, gC_0_1, gC_0_2, k1, k2, k3, pC_0_3, pC_0_4, pC_0_5]
  rfl
/-- canals with the same numbers -/
def EC (s t : NS) : Prop := (∀ j, j < 5 → s 2 j = t 2 j) ∧ (∀ j, j < 5 → s 3 j = t 3 j) ∧ (∀ j, j < 10 → s 4 j = t 4 j) ∧ (∀ j, j < 10 → s 5 j = t 5 j) ∧ (∀ j, j < 6 → s 7 j = t 7 j) ∧
  (∀ a, a = 9 ∨ a = 10 ∨ a = 11 ∨ a = 12 ∨ a = 13 → ∀ j, j < 8 → s a j = t a j) ∧ (∀ j, j = 3 ∨ j = 4 ∨ j = 5 ∨ j = 11 ∨ j = 12 ∨ j = 13 ∨ j = 25 ∨ j = 26 → s 20 j = t 20 j)
theorem EC_cp : EC (cpC s t) t := by
  unfold EC cpC cpF cpR cpG
  refine ⟨fun j h => ?_, fun j h => ?_, fun j h => ?_, fun j h => ?_, fun j h => ?_, fun a ha j h => ?_, fun j h => ?_⟩
  · simp [us_ne, ua_ne, ua_same, cpy_at h]
  · simp [us_ne, ua_ne, ua_same, cpy_at h]
  · simp [us_ne, ua_ne, ua_same, cpy_at h]
  · simp [us_ne, ua_ne, ua_same, cpy_at h]
  · simp [us_ne, ua_ne, ua_same, cpy_at h]
  · rcases ha with rfl | rfl | rfl | rfl | rfl <;> simp [us_ne, ua_ne, ua_same, cpy_at h]
  · rcases h with rfl | rfl | rfl | rfl | rfl | rfl | rfl | rfl <;> simp [us_at, ua_ne]
end CPY
