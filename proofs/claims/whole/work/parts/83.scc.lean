/-! THE SCRIPT of the class: a command is read -/
section SCC
set_option maxRecDepth 20000
variable {x : SX} {n b c p l : Nat} {w : PW} {s : NS} {as : List Int32} {v a t : Int32}
theorem frm_ok : ∀ k, k < 8 → (∀ t, t ∈ frm k → ¬ t = 0) ∧ nars (frm k) ≤ 3 := by decide +kernel
def mxn (f q : Nat) : Nat := if f < q then q else f
theorem mxn_l {f q : Nat} (h : q ≤ f) : mxn f q = f := if_neg (by omega)
theorem mxn_r {f q : Nat} (h : f ≤ q) : mxn f q = q := by
  unfold mxn
  split <;> omega
/-- the forms from k on are tried at p; f is the furthest place up to now -/
def tryF (s : NS) (l p : Nat) : Nat → Nat → Nat → (Nat × Nat × List Int32) ⊕ Nat
  | 0, _, f => .inr f
  | d + 1, k, f => if (rdF s l (frm k) p []).1 = true then .inl (k, (rdF s l (frm k) p []).2.1, (rdF s l (frm k) p []).2.2) else tryF s l p d (k + 1) (mxn f (rdF s l (frm k) p []).2.1)
theorem try_0 {d k f : Nat} (h : (rdF s l (frm k) p []).1 = false) : tryF s l p (d + 1) k f = tryF s l p d (k + 1) (mxn f (rdF s l (frm k) p []).2.1) := by
  conv => lhs; unfold tryF
  rw [if_neg (by rw [h]; decide)]
theorem try_1 {d k f : Nat} (h : (rdF s l (frm k) p []).1 = true) : tryF s l p (d + 1) k f = .inl (k, (rdF s l (frm k) p []).2.1, (rdF s l (frm k) p []).2.2) := by
  conv => lhs; unfold tryF
  rw [if_pos h]
theorem c183 (h4 : s 20 4 = Int32.ofNat c) (hc : c < 15) : RM x 183 [.ref b, .int a] (setS w b s) n = some (.inl none, setS w b (us (us s 2 c a) 20 4 (Int32.ofNat (c + 1))), n) := by
  have n0 : ¬ Int32.ofNat c < 0 := by
    have := i_lt (a := c) (b := 0) (by omega) (by omega)
    rw [show (0 : Int32) = Int32.ofNat 0 from rfl, this]
    omega
  have n1 : Int32.ofNat c < 15 := nlt (N := 15) (by omega) (by omega) (by omega)
  have k : fin 15 (Int32.ofNat c) = some c := fin_nat (by omega) (by omega)
  have e4 : us s 2 c a 20 4 = Int32.ofNat c := by rw [us_ne (by decide)]; exact h4
  simp only [csN, csm_i, csm_r, Nat.reduceAdd, Nat.reduceLeDiff, wdI, wdR, wdN, clM_0, clC_0, clC_1, clC_6, clC_8, true_or, or_true, i10, i01, ob_some, ob_map, cal_v, rvs_some, rvs_none, XO_at, cal_x, m183, r183_0, r183_1, r183_4, r183_7, r183_8, r183_11, r183_13, r183_16, r183_17, r183_20, r183_21, r183_24, r183_25, r183_26, r183_27, r183_28, r183_31, r183_32, r183_33, r183_36, gS_0_2, gS_0_4, pS_0_4, sS_2, h4, n0, n1, k, e4, i_s, Option.map_some, if_true, if_false]
theorem l181 (h : TX s l) (h4 : s 20 4 = Int32.ofNat c) (hc : c < 15) (hp : p ≤ l) (d : Nat) : ∀ k f t, k + d = 8 → JS c s t → f ≤ l →
    ∃ u, JS c s u ∧ ∀ w n, RC x 181 12 [some (.ref b), some (.int (Int32.ofNat p)), some (.int (Int32.ofNat f)), some (.int (Int32.ofNat k))] [] (setS w b t) n = match tryF s l p d k f with
      | .inl (k', p', as') => some (.inl (some (.int 1)), setS w b (us (us (SP u c p' as') 2 c (Int32.ofNat k')) 20 4 (Int32.ofNat (c + 1))), n)
      | .inr f' => some (.inl (some (.int 0)), setS w b (us u 20 5 (Int32.ofNat f')), n) := by
  have h9 := h.1
  induction d with
  | zero =>
    intro k f t hk hJ hf
    obtain rfl : k = 8 := by omega
    refine ⟨t, hJ, fun w n => ?_⟩
    rw [r181_12]
    have h0 : (7 : Int32) < Int32.ofNat 8 := by decide
    simp only [csN, csm_i, csm_r, Nat.reduceAdd, Nat.reduceLeDiff, wdI, wdR, wdN, clM_0, clC_0, clC_1, clC_6, clC_8, true_or, or_true, i10, i01, ob_some, ob_map, cal_v, rvs_some, rvs_none, XO_at, cal_x, m181, r181_0, r181_1, r181_4, r181_5, r181_6, r181_9, r181_10, r181_11, r181_13, r181_15, r181_18, r181_19, r181_20, r181_23, r181_24, r181_25, r181_28, r181_29, r181_30, r181_33, r181_36, r181_39, r181_40, r181_41, r181_44, r181_45, r181_46, r181_47, r181_48, r181_51, r181_54, r181_55, r181_58, r181_61, r181_62, r181_63, r181_66, r181_67, h0, if_true, pS_0_5, tryF]
  | succ d ih =>
    intro k f t hk hJ hf
    obtain ⟨hT, ht4, ht1⟩ := JS_x hJ h h4
    have e1' := fun w n => c182 (x := x) (n := n) (w := setS w b (SP t c p [])) (k := k) (by omega)
    have hS := (e1' (fun _ => none) 0).1
    have e1 := fun w n => (e1' w n).2
    obtain ⟨hz, hn⟩ := frm_ok k (by omega)
    have e2 := fun w n => c185 (n := n) (w := w) (b := b) (c := c) hS hz hT ht4 hc hp hn
    rw [JS_rd ht1] at e2
    obtain ⟨g1, g2, g3⟩ := gd_rd (s := s) (l := l) (frm k) hz p []
    have g4 := g2 hp
    have h0 : ¬ (7 : Int32) < Int32.ofNat k := by
      rw [show (7 : Int32) = Int32.ofNat 7 from rfl, i_lt (by omega) (by omega)]
      omega
    have hs := hS.1
    have e0 : us (us t 20 5 (Int32.ofNat p)) 20 6 0 = SP t c p [] := SP_nil
    cases hb : (rdF s l (frm k) p []).1 with
    | true =>
      rw [hb, bi_t] at e2
      rw [try_1 hb]
      refine ⟨t, hJ, fun w n => ?_⟩
      have e3 := c183 (x := x) (n := n) (w := w) (b := b) (c := c) (s := SP t c (rdF s l (frm k) p []).2.1 (rdF s l (frm k) p []).2.2) (a := Int32.ofNat k) (SP_4.trans ht4) hc
      rw [r181_12]
      simp only [csN, csm_i, csm_r, Nat.reduceAdd, Nat.reduceLeDiff, wdI, wdR, wdN, clM_0, clC_0, clC_1, clC_6, clC_8, true_or, or_true, i10, i01, ob_some, ob_map, cal_v, rvs_some, rvs_none, XO_at, cal_x, m181, r181_0, r181_1, r181_4, r181_5, r181_6, r181_9, r181_10, r181_11, r181_13, r181_15, r181_18, r181_19, r181_20, r181_23, r181_24, r181_25, r181_28, r181_29, r181_30, r181_33, r181_36, r181_39, r181_40, r181_41, r181_44, r181_45, r181_46, r181_47, r181_48, r181_51, r181_54, r181_55, r181_58, r181_61, r181_62, r181_63, r181_66, r181_67, h0, if_false, pS_0_5, pS_0_6, e0, clS_0, hs, e1, e2, e3]
    | false =>
      rw [hb, bi_f] at e2
      rw [try_0 hb]
      obtain ⟨u, hu, e⟩ := ih (k + 1) (mxn f (rdF s l (frm k) p []).2.1) (SP t c (rdF s l (frm k) p []).2.1 (rdF s l (frm k) p []).2.2) (by omega) (JS_t hJ JS_P) (by unfold mxn; split <;> omega)
      refine ⟨u, hu, fun w n => ?_⟩
      rw [← e w n]
      have em : (if Int32.ofNat f < Int32.ofNat (rdF s l (frm k) p []).2.1 then Int32.ofNat (rdF s l (frm k) p []).2.1 else Int32.ofNat f) = Int32.ofNat (mxn f (rdF s l (frm k) p []).2.1) := by
        unfold mxn
        by_cases hlt : f < (rdF s l (frm k) p []).2.1
        · rw [if_pos hlt, if_pos (by rw [i_lt (by omega) (by omega)]; exact hlt)]
        · rw [if_neg hlt, if_neg (by rw [i_lt (by omega) (by omega)]; exact hlt)]
      conv => lhs; rw [r181_12]
      simp only [csN, csm_i, csm_r, Nat.reduceAdd, Nat.reduceLeDiff, wdI, wdR, wdN, clM_0, clC_0, clC_1, clC_6, clC_8, true_or, or_true, i10, i01, ob_some, ob_map, cal_v, rvs_some, rvs_none, XO_at, cal_x, m181, r181_0, r181_1, r181_4, r181_5, r181_6, r181_9, r181_10, r181_11, r181_13, r181_15, r181_18, r181_19, r181_20, r181_23, r181_24, r181_25, r181_28, r181_29, r181_30, r181_33, r181_36, r181_39, r181_40, r181_41, r181_44, r181_45, r181_46, r181_47, r181_48, r181_51, r181_54, r181_55, r181_58, r181_61, r181_62, r181_63, r181_66, r181_67, h0, if_false, if_true, pS_0_5, pS_0_6, e0, clS_0, hs, e1, e2, gS_0_5, SP_5, em, i_s]
theorem c181 (h : TX s l) (h4 : s 20 4 = Int32.ofNat c) (hc : c < 15) (h5 : s 20 5 = Int32.ofNat p) (hp : p ≤ l) : ∃ u, JS c s u ∧ ∀ w n, RM x 181 [.ref b] (setS w b s) n = match tryF s l p 8 0 p with
      | .inl (k', p', as') => some (.inl (some (.int 1)), setS w b (us (us (SP u c p' as') 2 c (Int32.ofNat k')) 20 4 (Int32.ofNat (c + 1))), n)
      | .inr f' => some (.inl (some (.int 0)), setS w b (us u 20 5 (Int32.ofNat f')), n) := by
  obtain ⟨u, hu, e⟩ := l181 (x := x) (b := b) h h4 hc hp 8 0 p s (by omega) JS_r hp
  refine ⟨u, hu, fun w n => ?_⟩
  rw [← e w n]
  simp only [csN, csm_i, csm_r, Nat.reduceAdd, Nat.reduceLeDiff, wdI, wdR, wdN, clM_0, clC_0, clC_1, clC_6, clC_8, true_or, or_true, i10, i01, ob_some, ob_map, cal_v, rvs_some, rvs_none, XO_at, cal_x, m181, r181_0, r181_1, r181_4, r181_5, r181_6, r181_9, r181_10, r181_11, r181_13, r181_15, r181_18, r181_19, r181_20, r181_23, r181_24, r181_25, r181_28, r181_29, r181_30, r181_33, r181_36, r181_39, r181_40, r181_41, r181_44, r181_45, r181_46, r181_47, r181_48, r181_51, r181_54, r181_55, r181_58, r181_61, r181_62, r181_63, r181_66, r181_67, gS_0_5, h5]
  rfl
end SCC
