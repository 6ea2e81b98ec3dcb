/-! THE HISTORY of the class; the class's object and all that it holds -/
section HST
set_option maxRecDepth 20000
variable {x : SX} {n : Nat} {w : PW}
theorem qld_at {p N : Nat} {f : Nat → Option Nat} {i : Int32} (hw : w p = some (.inl (5, N, .inr (.inr (.inr (.inr f)))))) : qld w p i = (fin N i).map fun j => va_rf (f j) := by
  unfold qld
  rw [hw]
  rfl
theorem qst_at {p N v : Nat} {f : Nat → Option Nat} {i : Int32} {fs : List Value} (hw : w p = some (.inl (5, N, .inr (.inr (.inr (.inr f)))))) (hv : w v = some (.inr (0, fs))) : qst w p i v = (fin N i).map fun j => pupd w p (.inl (5, N, .inr (.inr (.inr (.inr (va_up f j (some v))))))) := by
  unfold qst
  rw [hw, hv]
  rfl
def rowQ (f : Nat → Option Nat) : PE := .inl (5, 8, .inr (.inr (.inr (.inr f))))
/-- where the kept canals lie -/
def kpt (F : Nat → Nat) : Nat → Option Nat := fun j => if j < 8 then some (109 + 14 * F j) else none
theorem kpt_at {F : Nat → Nat} {j : Nat} (h : j < 8) : kpt F j = some (109 + 14 * F j) := if_pos h
/-- all that the class's object holds: s the canal, t the trial, u the snapshot, hs whether there is one, F where the kept ones lie, K what they are, hc how many count, le, lf the latest error and failure, sc the script -/
def WD (w : PW) (s t u : NS) (hs le lf : Int32) (F : Nat → Nat) (K : Nat → NS) (hc : Int32) (sc : NS) : Prop :=
  w 64 = some (.inr (6, [.ref 65, .ref 79, .ref 93, .int hs, .ref 107, .ref 221, .ref 225, .int le, .int lf])) ∧ isC w 65 s ∧ isC w 79 t ∧ isC w 93 u ∧ w 107 = some (.inr (3, [.ref 108, .int hc])) ∧ w 108 = some (rowQ (kpt F)) ∧
  (∀ q, q < 8 → isC w (109 + 14 * F q) (K q)) ∧ (∀ q, q < 8 → F q < 8) ∧ (∀ q r, q < 8 → r < 8 → F q = F r → q = r) ∧ (∀ k, k < 4 → w (221 + k) = some (cellS 221 sc k))
theorem setC_w {b i : Nat} {s : NS} (h : i < b ∨ b + 14 ≤ i) : setC w b s i = w i := setC_out h
variable {s t u : NS} {hs le lf hc : Int32} {F : Nat → Nat} {K : Nat → NS} {sc : NS}
theorem WD_C (s' : NS) (h : WD w s t u hs le lf F K hc sc) : WD (setC w 65 s') s' t u hs le lf F K hc sc := by
  obtain ⟨h1, h2, h3, h4, h5, h6, h7, h8, h9, h10⟩ := h
  exact ⟨by rw [setC_w (by omega)]; exact h1, isC_self, isC_out (by omega) h3, isC_out (by omega) h4, by rw [setC_w (by omega)]; exact h5, by rw [setC_w (by omega)]; exact h6, fun q hq => isC_out (by omega) (h7 q hq), h8, h9, fun k hk => by rw [setC_w (by omega)]; exact h10 k hk⟩
theorem WD_T (t' : NS) (h : WD w s t u hs le lf F K hc sc) : WD (setC w 79 t') s t' u hs le lf F K hc sc := by
  obtain ⟨h1, h2, h3, h4, h5, h6, h7, h8, h9, h10⟩ := h
  exact ⟨by rw [setC_w (by omega)]; exact h1, isC_out (by omega) h2, isC_self, isC_out (by omega) h4, by rw [setC_w (by omega)]; exact h5, by rw [setC_w (by omega)]; exact h6, fun q hq => isC_out (by omega) (h7 q hq), h8, h9, fun k hk => by rw [setC_w (by omega)]; exact h10 k hk⟩
theorem WD_U (u' : NS) (h : WD w s t u hs le lf F K hc sc) : WD (setC w 93 u') s t u' hs le lf F K hc sc := by
  obtain ⟨h1, h2, h3, h4, h5, h6, h7, h8, h9, h10⟩ := h
  exact ⟨by rw [setC_w (by omega)]; exact h1, isC_out (by omega) h2, isC_out (by omega) h3, isC_self, by rw [setC_w (by omega)]; exact h5, by rw [setC_w (by omega)]; exact h6, fun q hq => isC_out (by omega) (h7 q hq), h8, h9, fun k hk => by rw [setC_w (by omega)]; exact h10 k hk⟩
theorem WD_p (i : Nat) (e : PE) (hi : 225 ≤ i) (h : WD w s t u hs le lf F K hc sc) : WD (pupd w i e) s t u hs le lf F K hc sc := by
  obtain ⟨h1, h2, h3, h4, h5, h6, h7, h8, h9, h10⟩ := h
  exact ⟨by rw [pupd_ne (by omega)]; exact h1, fun k hk => by rw [pupd_ne (by omega)]; exact h2 k hk, fun k hk => by rw [pupd_ne (by omega)]; exact h3 k hk, fun k hk => by rw [pupd_ne (by omega)]; exact h4 k hk, by rw [pupd_ne (by omega)]; exact h5, by rw [pupd_ne (by omega)]; exact h6, fun q hq k hk => by have := h8 q hq; rw [pupd_ne (by omega)]; exact h7 q hq k hk, h8, h9, fun k hk => by rw [pupd_ne (by omega)]; exact h10 k hk⟩
theorem WD_S (sc' : NS) (h : WD w s t u hs le lf F K hc sc) : WD (setS w 221 sc') s t u hs le lf F K hc sc' := by
  obtain ⟨h1, h2, h3, h4, h5, h6, h7, h8, h9, h10⟩ := h
  exact ⟨by rw [setS_out (by omega)]; exact h1, fun k hk => by rw [setS_out (by omega)]; exact h2 k hk, fun k hk => by rw [setS_out (by omega)]; exact h3 k hk, fun k hk => by rw [setS_out (by omega)]; exact h4 k hk, by rw [setS_out (by omega)]; exact h5, by rw [setS_out (by omega)]; exact h6, fun q hq k hk => by have := h8 q hq; rw [setS_out (by omega)]; exact h7 q hq k hk, h8, h9, fun k hk => setW_at hk⟩
/-- the history's row when the places behind i have been shifted -/
def shK (f : Nat → Option Nat) (i : Nat) : Nat → Option Nat := fun j => if i < j ∧ j ≤ 7 then f (j - 1) else f j
theorem l161 {f : Nat → Option Nat} {e : Option Value} (he : wd e = true) (h5 : w 107 = some (.inr (3, [.ref 108, .int hc]))) (hf : ∀ j, j < 8 → ∃ a fs, f j = some a ∧ ¬ a = 108 ∧ w a = some (.inr (0, fs))) (i : Nat) : i ≤ 7 →
    RC x 161 11 [some (.ref 107), some (.ref 65), e, some (.int (Int32.ofNat i))] [] (pupd w 108 (rowQ (shK f i))) n = RC x 161 35 [some (.ref 107), some (.ref 65), e, some (.int 0)] [] (pupd w 108 (rowQ (shK f 0))) n := by
  induction i with
  | zero =>
    intro _
    rw [r161_11]
    have h0 : ¬ (0 : Int32) < Int32.ofNat 0 := by decide
    simp only [csN, csm_i, csm_r, Nat.reduceAdd, Nat.reduceLeDiff, wdI, wdR, wdN, clM_0, clC_0, clC_1, clC_6, clC_8, true_or, or_true, i10, i01, ob_some, ob_map, cal_v, rvs_some, rvs_none, XO_at, cal_x, m161, r161_0, r161_1, r161_4, r161_6, r161_7, r161_8, r161_10, r161_12, r161_15, r161_16, r161_19, r161_20, r161_21, r161_24, r161_25, r161_26, r161_27, r161_28, r161_29, r161_32, r161_36, r161_39, r161_40, r161_41, r161_42, r161_43, r161_46, r161_47, r161_48, r161_51, r161_52, r161_53, r161_56, r161_57, r161_58, r161_60, r161_63, r161_66, h0, if_false]
    rfl
  | succ i ih =>
    intro hi
    rw [r161_11]
    have h1 : (0 : Int32) < Int32.ofNat (i + 1) := nlt (a := 0) (by omega) (by omega) (by omega)
    have h2 : Int32.ofNat (i + 1) - 1 = Int32.ofNat i := i_subR (k := 1) (a := i + 1) (by omega)
    have h3 : Int32.ofNat (i + 1) + (-1) = Int32.ofNat i := by rw [← h2]; exact (Int32.sub_eq_add_neg _ _).symm
    have g0 : gfd (pupd w 108 (rowQ (shK f (i + 1)))) 3 0 107 = some (.ref 108) := by rw [gfd_at (by rw [pupd_ne (by omega)]; exact h5) (by decide)]; rfl
    have g1 : ∀ v : Int32, qld (pupd w 108 (rowQ (shK f (i + 1)))) 108 v = (fin 8 v).map fun j => va_rf (shK f (i + 1) j) := fun v => qld_at (pupd_same _ _ _)
    have g2 : fin 8 (Int32.ofNat i) = some i := fin_nat (by omega) (by omega)
    have g3 : fin 8 (Int32.ofNat (i + 1)) = some (i + 1) := fin_nat (by omega) (by omega)
    obtain ⟨a, fs, a1, a2, a3⟩ := hf i (by omega)
    have g4 : va_rf (shK f (i + 1) i) = .ref a := by
      unfold shK
      rw [if_neg (by omega), a1]
      rfl
    have g5 : ∀ v : Int32, qst (pupd w 108 (rowQ (shK f (i + 1)))) 108 v a = (fin 8 v).map fun j => pupd (pupd w 108 (rowQ (shK f (i + 1)))) 108 (.inl (5, 8, .inr (.inr (.inr (.inr (va_up (shK f (i + 1)) j (some a))))))) := fun v => qst_at (pupd_same _ _ _) (by rw [pupd_ne a2]; exact a3)
    have g6 : va_up (shK f (i + 1)) (i + 1) (some a) = shK f i := by
      funext j
      unfold va_up shK
      by_cases hj : j = i + 1
      · subst hj
        rw [if_pos rfl, if_pos (by omega), show i + 1 - 1 = i by omega, a1]
      · rw [if_neg hj]
        by_cases hj2 : i + 1 < j ∧ j ≤ 7
        · rw [if_pos hj2, if_pos (by omega)]
        · rw [if_neg hj2, if_neg (by omega)]
    simp only [csN, csm_i, csm_r, Nat.reduceAdd, Nat.reduceLeDiff, wdI, wdR, wdN, clM_0, clC_0, clC_1, clC_6, clC_8, true_or, or_true, i10, i01, ob_some, ob_map, cal_v, rvs_some, rvs_none, XO_at, cal_x, m161, r161_0, r161_1, r161_4, r161_6, r161_7, r161_8, r161_10, r161_12, r161_15, r161_16, r161_19, r161_20, r161_21, r161_24, r161_25, r161_26, r161_27, r161_28, r161_29, r161_32, r161_36, r161_39, r161_40, r161_41, r161_42, r161_43, r161_46, r161_47, r161_48, r161_51, r161_52, r161_53, r161_56, r161_57, r161_58, r161_60, r161_63, r161_66, he, h1, h2, h3, if_true, g0, g1, g2, g3, g4, g5, g6, Option.map_some]
    rw [pupd_pupd]
    exact ih (by omega)
def F1 (F : Nat → Nat) : Nat → Nat := fun j => if j = 0 then F 7 else F (j - 1)
theorem c161 (h : WD w s t u hs le lf F K hc sc) (hk : ∀ g, g < 5 → isKd (s 2 g)) : ∃ w' F', RM x 161 [.ref 107, .ref 65] w n = some (.inl none, w', n) ∧ WD w' s t u hs le lf F' (K1 K (cpC (K 7) s)) (mn8 hc) sc ∧ (∀ i, 225 ≤ i → w' i = w i) := by
  obtain ⟨h1, h2, h3, h4, h5, h6, h7, h8, h9, h10⟩ := id h
  have hF7 := h8 7 (by omega)
  have hf : ∀ j, j < 8 → ∃ a fs, kpt F j = some a ∧ ¬ a = 108 ∧ w a = some (.inr (0, fs)) := by
    intro j hj
    exact ⟨_, _, kpt_at hj, by omega, h7 j hj 0 (by omega)⟩
  have g0 : gfd w 3 0 107 = some (.ref 108) := by rw [gfd_at h5 (by decide)]; rfl
  have g1 : ∀ v : Int32, qld w 108 v = (fin 8 v).map fun j => va_rf (kpt F j) := fun v => qld_at h6
  have k7 : fin 8 7 = some 7 := fin_lit (by decide) (by decide)
  have k0 : fin 8 0 = some 0 := fin_lit (by decide) (by decide)
  have e7 : va_rf (kpt F 7) = .ref (109 + 14 * F 7) := by rw [kpt_at (by omega)]; rfl
  have w0 : pupd w 108 (rowQ (shK (kpt F) 7)) = w := by
    have : shK (kpt F) 7 = kpt F := by
      funext j
      unfold shK
      rw [if_neg (by omega)]
    rw [this]
    exact pupd_self h6
  have hl := l161 (x := x) (n := n) (w := w) (hc := hc) (f := kpt F) (e := some (.ref (109 + 14 * F 7))) rfl h5 hf 7 (Nat.le_refl _)
  rw [w0] at hl
  simp only [csN, csm_i, csm_r, Nat.reduceAdd, Nat.reduceLeDiff, wdI, wdR, wdN, clM_0, clC_0, clC_1, clC_6, clC_8, true_or, or_true, i10, i01, ob_some, ob_map, cal_v, rvs_some, rvs_none, XO_at, cal_x, m161, r161_0, r161_1, r161_4, r161_6, r161_7, r161_8, r161_10, r161_12, r161_15, r161_16, r161_19, r161_20, r161_21, r161_24, r161_25, r161_26, r161_27, r161_28, r161_29, r161_32, r161_36, r161_39, r161_40, r161_41, r161_42, r161_43, r161_46, r161_47, r161_48, r161_51, r161_52, r161_53, r161_56, r161_57, r161_58, r161_60, r161_63, r161_66, g0, g1, k7, e7, Option.map_some]
  rw [show (7 : Int32) = Int32.ofNat 7 from rfl, hl, r161_35]
  have g3 : gfd (pupd w 108 (rowQ (shK (kpt F) 0))) 3 0 107 = some (.ref 108) := by rw [gfd_at (by rw [pupd_ne (by omega)]; exact h5) (by decide)]; rfl
  have g5 : ∀ v : Int32, qst (pupd w 108 (rowQ (shK (kpt F) 0))) 108 v (109 + 14 * F 7) = (fin 8 v).map fun j => pupd (pupd w 108 (rowQ (shK (kpt F) 0))) 108 (.inl (5, 8, .inr (.inr (.inr (.inr (va_up (shK (kpt F) 0) j (some (109 + 14 * F 7)))))))) := fun v => qst_at (pupd_same _ _ _) (by rw [pupd_ne (by omega)]; exact h7 7 (by omega) 0 (by omega))
  have g6 : va_up (shK (kpt F) 0) 0 (some (109 + 14 * F 7)) = kpt (F1 F) := by
    funext j
    unfold va_up shK kpt F1
    by_cases hj : j = 0
    · subst hj
      rw [if_pos rfl, if_pos (by omega), if_pos rfl]
    · rw [if_neg hj]
      by_cases hj2 : j ≤ 7
      · rw [if_pos ⟨by omega, hj2⟩, if_pos (by omega), if_pos (by omega), if_neg hj]
      · rw [if_neg (by omega), if_neg (by omega), if_neg (by omega)]
  obtain ⟨w1, hw1⟩ : ∃ w1, w1 = pupd w 108 (rowQ (kpt (F1 F))) := ⟨_, rfl⟩
  have hw1' : pupd (pupd w 108 (rowQ (shK (kpt F) 0))) 108 (.inl (5, 8, .inr (.inr (.inr (.inr (kpt (F1 F))))))) = w1 := by rw [pupd_pupd, hw1]; rfl
  have o1 : ∀ i, ¬ i = 108 → w1 i = w i := fun i hi => by rw [hw1, pupd_ne hi]
  have hC : isC w1 (109 + 14 * F 7) (K 7) := fun k hk => by rw [o1 _ (by omega)]; exact h7 7 (by omega) k hk
  have h2' : isC w1 65 s := fun k hk => by rw [o1 _ (by omega)]; exact h2 k hk
  have hb := c99 (x := x) (n := n) (w := w1) (b := 109 + 14 * F 7) (b2 := 65) (s := K 7) (t := s) (by omega) h2' hk
  rw [isC_set hC] at hb
  have z0 : clo w1 (109 + 14 * F 7) = some 0 := clo_of (hC 0 (by omega))
  have h1' : gfd (setC w1 (109 + 14 * F 7) (cpC (K 7) s)) 3 1 107 = some (.int hc) := by rw [gfd_at (by rw [setC_w (by omega), o1 _ (by omega)]; exact h5) (by decide)]; rfl
  have p1 : ∀ v : Int32, pfd (setC w1 (109 + 14 * F 7) (cpC (K 7) s)) 3 1 107 (.int v) = some (pupd (setC w1 (109 + 14 * F 7) (cpC (K 7) s)) 107 (.inr (3, [.ref 108, .int v]))) := fun v => by
    rw [pfd_at (ty := .int) (by rw [setC_w (by omega), o1 _ (by omega)]; exact h5) (by decide +kernel) ⟨by simp only [List.length_cons, List.length_nil]; decide, rfl⟩]
    rfl
  refine ⟨pupd (setC w1 (109 + 14 * F 7) (cpC (K 7) s)) 107 (.inr (3, [.ref 108, .int (mn8 hc)])), F1 F, ?_, ?_, ?_⟩
  rotate_left
  · refine ⟨?_, ?_, ?_, ?_, ?_, ?_, fun q hq => ?_, fun q hq => ?_, fun q r hq hr he => ?_, fun k hk => ?_⟩
    · rw [pupd_ne (by omega), setC_w (by omega), o1 _ (by omega)]; exact h1
    · intro k hk; rw [pupd_ne (by omega), setC_w (by omega), o1 _ (by omega)]; exact h2 k hk
    · intro k hk; rw [pupd_ne (by omega), setC_w (by omega), o1 _ (by omega)]; exact h3 k hk
    · intro k hk; rw [pupd_ne (by omega), setC_w (by omega), o1 _ (by omega)]; exact h4 k hk
    · exact pupd_same _ _ _
    · rw [pupd_ne (by omega), setC_w (by omega), hw1]; exact pupd_same _ _ _
    · unfold F1 K1
      by_cases hq0 : q = 0
      · rw [if_pos hq0, if_pos hq0]
        intro k hk
        rw [pupd_ne (by omega)]
        exact isC_self k hk
      · rw [if_neg hq0, if_neg hq0]
        intro k hk
        have hne : ¬ F (q - 1) = F 7 := fun e => by
          have := h9 (q - 1) 7 (by omega) (by omega) e
          omega
        have h8q := h8 (q - 1) (by omega)
        rw [pupd_ne (by omega), setC_w (by omega), o1 _ (by omega)]
        exact h7 (q - 1) (by omega) k hk
    · unfold F1
      split
      · exact hF7
      · exact h8 _ (by omega)
    · unfold F1 at he
      by_cases q0 : q = 0
      · by_cases r0 : r = 0
        · omega
        · rw [if_pos q0, if_neg r0] at he
          have := h9 7 (r - 1) (by omega) (by omega) he
          omega
      · by_cases r0 : r = 0
        · rw [if_neg q0, if_pos r0] at he
          have := h9 (q - 1) 7 (by omega) (by omega) he
          omega
        · rw [if_neg q0, if_neg r0] at he
          have := h9 (q - 1) (r - 1) (by omega) (by omega) he
          omega
    · rw [pupd_ne (by omega), setC_w (by omega), o1 _ (by omega)]; exact h10 k hk
  · intro i hi
    rw [pupd_ne (by omega), setC_w (by omega), o1 _ (by omega)]
  · simp only [csN, csm_i, csm_r, Nat.reduceAdd, Nat.reduceLeDiff, wdI, wdR, wdN, clM_0, clC_0, clC_1, clC_6, clC_8, true_or, or_true, i10, i01, ob_some, ob_map, cal_v, rvs_some, rvs_none, XO_at, cal_x, m161, r161_0, r161_1, r161_4, r161_6, r161_7, r161_8, r161_10, r161_12, r161_15, r161_16, r161_19, r161_20, r161_21, r161_24, r161_25, r161_26, r161_27, r161_28, r161_29, r161_32, r161_36, r161_39, r161_40, r161_41, r161_42, r161_43, r161_46, r161_47, r161_48, r161_51, r161_52, r161_53, r161_56, r161_57, r161_58, r161_60, r161_63, r161_66, g3, g5, k0, g6, hw1', Option.map_some, z0, hb, h1', p1]
    rfl
end HST
