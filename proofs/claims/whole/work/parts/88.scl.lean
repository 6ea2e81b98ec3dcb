/-! BOTH READERS: a whole script -/
section SCL
set_option maxRecDepth 20000
variable {x : SX} {n n2 b b2 p l c : Nat} {w w2 : PW} {s m t : NS} {f : Nat → Int32} {as : List Int32} {v : Int32}
def nst : List Int32 → Nat
  | [] => 0
  | t :: ts => (if t = 72 then 0 else 1) + nst ts
theorem num_st {d : Nat} (h : (numF s l d p as).1 = true) : p + 1 ≤ (numF s l d p as).2.1 := by
  unfold numF at h ⊢
  split
  · next z => exact z
  · next z => rw [if_neg z] at h; cases h
theorem one_st {bs : List Int32} (h : (oneF s l bs p as).1 = true) : p + 1 ≤ (oneF s l bs p as).2.1 := by
  unfold oneF at h ⊢
  split
  · exact Nat.le_refl _
  · next z => rw [if_neg z] at h; cases h
theorem sg_st (h : (sgF s l v p as).1 = true) : p + 1 ≤ (sgF s l v p as).2.1 := by
  unfold sgF at h ⊢
  split
  · exact Nat.le_refl _
  · next z => rw [if_neg z] at h; cases h
theorem pt_st (hv : ¬ v = 0) (h : (ptF s l v p as).1 = true) : p + (if v = 72 then 0 else 1) ≤ (ptF s l v p as).2.1 := by
  by_cases h2 : v = 72
  · rw [if_pos h2]
    exact (gd_pt (s := s) (l := l) (p := p) (as := as) hv).1
  · rw [if_neg h2]
    unfold ptF at h ⊢
    by_cases h1 : v = 68
    · rw [if_pos h1] at h ⊢; exact num_st h
    · rw [if_neg h1, if_neg h2] at h ⊢
      by_cases h3 : v = 75
      · rw [if_pos h3] at h ⊢; exact one_st h
      · rw [if_neg h3] at h ⊢
        by_cases h4 : v = 78
        · rw [if_pos h4] at h ⊢; exact num_st h
        · rw [if_neg h4] at h ⊢
          by_cases h5 : v = 87
          · rw [if_pos h5] at h ⊢; exact one_st h
          · rw [if_neg h5] at h ⊢; exact sg_st h
theorem rd_st (bs : List Int32) : (∀ t, t ∈ bs → ¬ t = 0) → ∀ p as, (rdF s l bs p as).1 = true → p + nst bs ≤ (rdF s l bs p as).2.1 := by
  induction bs with
  | nil => intro _ p as _; exact Nat.le_refl _
  | cons t ts ih =>
    intro hz p as h
    unfold rdF at h ⊢
    by_cases z : (ptF s l t p as).1 = true
    · rw [if_pos z] at h ⊢
      have h1 := pt_st (hz t List.mem_cons_self) z
      have h2 := ih (fun u hu => hz u (List.mem_cons_of_mem _ hu)) _ _ h
      unfold nst
      omega
    · rw [if_neg z] at h
      exact absurd h z
theorem nst_ok : ∀ k, k < 8 → 4 ≤ nst (frm k) := by decide +kernel
theorem try_le (hp : p ≤ l) (d : Nat) : ∀ k f, k + d = 8 → f ≤ l → match tryF s l p d k f with | .inl (c, p', as) => p + 4 ≤ p' ∧ p' ≤ l ∧ c < 8 ∧ as.length ≤ 3 | .inr e => e ≤ l := by
  induction d with
  | zero => intro k f _ hf; exact hf
  | succ d ih =>
    intro k f hk hf
    obtain ⟨hz, hn⟩ := frm_ok k (by omega)
    obtain ⟨g1, g2, g3⟩ := gd_rd (s := s) (l := l) (frm k) hz p []
    have g4 := g2 hp
    cases hb : (rdF s l (frm k) p []).1 with
    | true =>
      rw [try_1 hb]
      have h1 := rd_st (frm k) hz p [] hb
      have h2 := nst_ok k (by omega)
      rw [List.length_nil] at g3
      exact ⟨by omega, g4, by omega, by omega⟩
    | false =>
      rw [try_0 hb]
      exact ih (k + 1) _ (by omega) (by unfold mxn; split <;> omega)
theorem c190g (h : TX s l) (h5 : s 20 5 = Int32.ofNat p) (hp : p ≤ l) : RM x 190 [.ref b] (setS w b s) n = some (.inl (some (.int (nx s l p))), setS w b s, n) := by
  have h6 := h.1
  have e1 := h.2.1
  have n0 : ¬ Int32.ofNat p < 0 := by
    have := i_lt (a := p) (b := 0) (by omega) (by omega)
    rw [show (0 : Int32) = Int32.ofNat 0 from rfl, this]
    omega
  obtain ⟨-, -, k3, -⟩ := ch_f (nx_ch (p := p) h)
  by_cases hl : p < l
  · have n1 : Int32.ofNat p < Int32.ofNat l := nlt (by omega) (by omega) hl
    have n2 : Int32.ofNat p < 60 := nlt (N := 60) (by omega) (by omega) (by omega)
    have k : fin 60 (Int32.ofNat p) = some p := fin_nat (by omega) (by omega)
    have e : s 1 p = nx s l p := (if_pos hl).symm
    simp only [csN, csm_i, csm_r, Nat.reduceAdd, Nat.reduceLeDiff, wdI, wdR, wdN, clM_0, clC_0, clC_1, clC_6, clC_8, true_or, or_true, i10, i01, ob_some, ob_map, cal_v, rvs_some, rvs_none, XO_at, cal_x, m190, r190_0, r190_1, r190_4, r190_7, r190_8, r190_11, r190_12, r190_15, r190_18, r190_19, r190_22, r190_24, r190_27, r190_28, r190_31, r190_32, r190_35, r190_36, r190_39, gS_0_0, gS_0_1, gS_0_5, lS_1, e1, h5, n0, n1, n2, k, Option.map_some, e, if_true, if_false]
    exact r190_40 k3
  · have n1 : ¬ Int32.ofNat p < Int32.ofNat l := by rw [i_lt (by omega) (by omega)]; exact hl
    have e : nx s l p = 0 := if_neg hl
    rw [e] at k3 ⊢
    simp only [csN, csm_i, csm_r, Nat.reduceAdd, Nat.reduceLeDiff, wdI, wdR, wdN, clM_0, clC_0, clC_1, clC_6, clC_8, true_or, or_true, i10, i01, ob_some, ob_map, cal_v, rvs_some, rvs_none, XO_at, cal_x, m190, r190_0, r190_1, r190_4, r190_7, r190_8, r190_11, r190_12, r190_15, r190_18, r190_19, r190_22, r190_24, r190_27, r190_28, r190_31, r190_32, r190_35, r190_36, r190_39, gS_0_1, gS_0_5, e1, h5, n0, n1, if_false]
    exact r190_40 k3
theorem c189g (h : TX s l) (h5 : s 20 5 = Int32.ofNat p) (hp : p ≤ l) : RM x 189 [.ref b, .int v] (setS w b s) n = some (.inl (some (.int (if nx s l p = v then 1 else 0))), setS w b (if nx s l p = v then us s 20 5 (Int32.ofNat (p + 1)) else s), n) := by
  have e := c190g (x := x) (n := n) (w := w) (b := b) h h5 hp
  by_cases hv : nx s l p = v
  · rw [if_pos hv, if_pos hv]
    simp only [csN, csm_i, csm_r, Nat.reduceAdd, Nat.reduceLeDiff, wdI, wdR, wdN, clM_0, clC_0, clC_1, clC_6, clC_8, true_or, or_true, i10, i01, ob_some, ob_map, cal_v, rvs_some, rvs_none, XO_at, cal_x, m189, r189_0, r189_1, r189_4, r189_5, r189_8, r189_9, r189_10, r189_11, r189_12, r189_15, r189_16, r189_17, r189_20, r189_21, clS_0, e, hv, gS_0_5, pS_0_5, h5, i_s, if_true]
  · rw [if_neg hv, if_neg hv]
    simp only [csN, csm_i, csm_r, Nat.reduceAdd, Nat.reduceLeDiff, wdI, wdR, wdN, clM_0, clC_0, clC_1, clC_6, clC_8, true_or, or_true, i10, i01, ob_some, ob_map, cal_v, rvs_some, rvs_none, XO_at, cal_x, m189, r189_0, r189_1, r189_4, r189_5, r189_8, r189_9, r189_10, r189_11, r189_12, r189_15, r189_16, r189_17, r189_20, r189_21, clS_0, e, hv, if_false]
/-- the commands that both have read: on one side in two rows, on the other in one -/
def PMS (c : Nat) (t : NS) (g : Nat → Int32) : Prop := ∀ i, i < c → ∃ cm as, cm < 8 ∧ as.length ≤ 3 ∧ t 2 i = Int32.ofNat cm ∧ (∀ j, j < as.length → t 3 (3 * i + j) = as.getD j 0) ∧ PM cm as g (4 * i)
theorem PM_c {cm k : Nat} {g g' : Nat → Int32} (h : PM cm as g k) (e : ∀ j, k ≤ j → j < k + 4 → g' j = g j) : PM cm as g' k := by
  unfold PM at h ⊢
  rw [e k (by omega) (by omega), e (k + 1) (by omega) (by omega), e (k + 2) (by omega) (by omega), e (k + 3) (by omega) (by omega)]
  exact h
theorem PMS_n {u : NS} {g : Nat → Int32} {p' cm : Nat} (h : PMS c t f) (hJ : JS c t u) (hg : ∀ j, j < 4 * c → g j = f j) (hcm : cm < 8) (ha : as.length ≤ 3) (hP : PM cm as g (4 * c)) : PMS (c + 1) (us (us (SP u c p' as) 2 c (Int32.ofNat cm)) 20 4 (Int32.ofNat (c + 1))) g := by
  intro i hi
  by_cases hic : i = c
  · refine ⟨cm, as, hcm, ha, ?_, fun j hj => ?_, hic ▸ hP⟩
    · rw [us_ne (by decide), us_at, if_pos rfl, if_pos hic]
    · rw [us_ne (by decide), us_ne (by decide), SP_3, hic]
      unfold ag
      rw [if_pos (by omega), show 3 * c + j - 3 * c = j by omega]
  · obtain ⟨cm', as', a1, a2, a3, a4, a5⟩ := h i (by omega)
    refine ⟨cm', as', a1, a2, ?_, fun j hj => ?_, PM_c a5 (fun j h1 h2 => hg j (by omega))⟩
    · rw [us_ne (by decide), us_at, if_pos rfl, if_neg hic, SP_o (by decide) (by omega), hJ.1 2 i (by decide) (by omega)]
      exact a3
    · rw [us_ne (by decide), us_ne (by decide), SP_3]
      unfold ag
      rw [if_neg (by omega), hJ.2 _ (by omega)]
      exact a4 j hj
/-- what reading leaves of the class's script as it was -/
def TS (s t : NS) : Prop := t 1 = s 1 ∧ t 20 1 = s 20 1
theorem TS_x (h : TS s t) (hX : TX s l) : TX t l := ⟨hX.1, by rw [h.2]; exact hX.2.1, by rw [h.1]; exact hX.2.2⟩
theorem nx_c (h : t 1 = s 1) : nx t l p = nx s l p := by unfold nx; rw [h]
theorem lk (hX : TX s l) (hT : TM m s l) (d : Nat) : ∀ c p f t, c + d = 15 → 5 * c ≤ p → p ≤ l → TS s t → t 20 4 = Int32.ofNat c → t 20 5 = Int32.ofNat p → PMS c t f →
    ∃ e t' c' g Q, (∀ w n, RC x 179 12 [some (.ref b), some (.int (Int32.ofNat c))] [] (setS w b t) n = some (.inl (some (.int e)), setS w b t', n)) ∧
      (∀ w2 n2, RC x 292 14 [some (.ref b2), some (.int (Int32.ofNat c)), some (.int 1), none, none] [] (setM w2 b2 (MK m f (false, p))) n2 = RC x 292 71 [some (.ref b2), some (.int (Int32.ofNat c')), some (.int 0), none, none] [] (setM w2 b2 (MK m g Q)) n2) ∧
      TS s t' ∧ (e = -1 ∧ Q = (false, l) ∧ PMS c' t' g ∧ c' < 15 ∧ t' 20 4 = Int32.ofNat c' ∨ ∃ q, q ≤ l ∧ e = Int32.ofNat q ∧ Q.2 = q ∧ (Q.1 = true ∨ q < l)) := by
  have h9 := hX.1
  induction d with
  | zero => intro c p f t hc h5 hp _ _ _ _; omega
  | succ d ih =>
    intro c p f t hc h5c hp hS h4 h5 hP
    have hXt := TS_x hS hX
    obtain ⟨u, hu, e1⟩ := c181 (x := x) (b := b) hXt h4 (by omega) h5 hp
    obtain ⟨g, Q, hg, e2, hC⟩ := c290 (x := x) (b := b2) (k := 4 * c) (f := f) hX hT hp (by omega)
    have hle := try_le (s := s) (l := l) (p := p) hp 8 0 p (by omega) hp
    have htt : tryF t l p 8 0 p = tryF s l p 8 0 p := by
      have : ∀ d k f, tryF t l p d k f = tryF s l p d k f := by
        intro d
        induction d with
        | zero => intro k f; rfl
        | succ d ih => intro k f; unfold tryF; rw [JS_rd hS.1, ih]
      exact this 8 0 p
    rw [htt] at e1
    have hc15 : Int32.ofNat c < 15 := nlt (N := 15) (by omega) (by omega) (by omega)
    have e4c : 4 * Int32.ofNat c = Int32.ofNat (4 * c) := by rw [show (4 : Int32) = Int32.ofNat 4 from rfl, i_mul]
    have z10 : ¬ (1 : Int32) = 0 := by decide
    have hub : ∀ p' as' cm, TS s (us (us (SP u c p' as') 2 c (Int32.ofNat cm)) 20 4 (Int32.ofNat (c + 1))) ∧ us (us (SP u c p' as') 2 c (Int32.ofNat cm)) 20 4 (Int32.ofNat (c + 1)) 20 5 = Int32.ofNat p' := fun p' as' cm => by
      refine ⟨⟨?_, ?_⟩, ?_⟩
      · funext j
        rw [us_ne (by decide), us_ne (by decide), SP_o (by decide) (by omega), hu.1 1 j (by decide) (by omega), hS.1]
      · rw [us_at, if_pos rfl, if_neg (by decide), us_ne (by decide), SP_o (by decide) (by omega), hu.1 20 1 (by decide) (by omega), hS.2]
      · rw [us_at, if_pos rfl, if_neg (by decide), us_ne (by decide), SP_5]
    revert e1 hC hle
    cases htr : tryF s l p 8 0 p with
    | inr e =>
      intro e1 hC hle
      have hQ : Q = (true, e) := hC
      subst hQ
      refine ⟨Int32.ofNat e, us u 20 5 (Int32.ofNat e), c + 1, g, (true, e), ?_, ?_, ⟨?_, ?_⟩, Or.inr ⟨e, hle, rfl, rfl, Or.inl rfl⟩⟩
      · have eg : us u 20 5 (Int32.ofNat e) 20 5 = Int32.ofNat e := by rw [us_at, if_pos rfl, if_pos rfl]
        intro w n
        rw [r179_12]
        simp only [csN, csm_i, csm_r, Nat.reduceAdd, Nat.reduceLeDiff, wdI, wdR, wdN, clM_0, clC_0, clC_1, clC_6, clC_8, true_or, or_true, i10, i01, ob_some, ob_map, cal_v, rvs_some, rvs_none, XO_at, cal_x, m179, r179_0, r179_1, r179_2, r179_5, r179_6, r179_7, r179_10, r179_11, r179_13, r179_15, r179_18, r179_19, r179_22, r179_25, r179_26, r179_29, r179_30, r179_31, r179_34, r179_35, r179_38, r179_41, r179_42, r179_43, r179_44, r179_46, r179_49, r179_52, r179_53, r179_56, r179_57, r179_60, r179_63, r179_64, r179_67, hc15, if_true, clS_0, e1, gS_0_5, eg]
      · intro w2 n2
        rw [r292_14]
        simp only [csN, csm_i, csm_r, Nat.reduceAdd, Nat.reduceLeDiff, wdI, wdR, wdN, clM_0, clC_0, clC_1, clC_6, clC_8, true_or, or_true, i10, i01, ob_some, ob_map, cal_v, rvs_some, rvs_none, XO_at, cal_x, m292, r292_0, r292_1, r292_2, r292_5, r292_6, r292_7, r292_10, r292_11, r292_12, r292_13, r292_15, r292_18, r292_19, r292_20, r292_21, r292_22, r292_25, r292_28, r292_29, r292_32, r292_35, r292_36, r292_39, r292_41, r292_44, r292_45, r292_48, r292_49, r292_50, r292_51, r292_52, r292_55, r292_56, r292_59, r292_60, r292_63, r292_64, r292_65, r292_68, r292_72, r292_73, r292_76, r292_79, r292_80, r292_83, r292_84, r292_87, r292_90, r292_91, r292_94, r292_95, r292_98, r292_99, r292_100, r292_103, r292_104, r292_107, r292_110, r292_111, r292_112, r292_115, r292_118, r292_119, r292_120, r292_123, r292_124, r292_125, r292_128, r292_129, r292_130, r292_131, r292_132, r292_135, r292_136, r292_137, r292_138, r292_139, r292_142, r292_144, r292_145, r292_148, r292_151, r292_152, r292_153, r292_156, r292_157, r292_158, r292_161, r292_162, r292_164, r292_167, r292_168, r292_171, r292_174, r292_175, r292_176, r292_177, r292_180, r292_183, z10, if_true, if_false, e4c, e2, gM_0_15, gM_0_16, pM_0_15, MK_15, MK_16, MK_p, bi_t, i_s, i_s0]
        rw [r292_14]
        simp only [csN, csm_i, csm_r, Nat.reduceAdd, Nat.reduceLeDiff, wdI, wdR, wdN, clM_0, clC_0, clC_1, clC_6, clC_8, true_or, or_true, i10, i01, ob_some, ob_map, cal_v, rvs_some, rvs_none, XO_at, cal_x, m292, r292_0, r292_1, r292_2, r292_5, r292_6, r292_7, r292_10, r292_11, r292_12, r292_13, r292_15, r292_18, r292_19, r292_20, r292_21, r292_22, r292_25, r292_28, r292_29, r292_32, r292_35, r292_36, r292_39, r292_41, r292_44, r292_45, r292_48, r292_49, r292_50, r292_51, r292_52, r292_55, r292_56, r292_59, r292_60, r292_63, r292_64, r292_65, r292_68, r292_72, r292_73, r292_76, r292_79, r292_80, r292_83, r292_84, r292_87, r292_90, r292_91, r292_94, r292_95, r292_98, r292_99, r292_100, r292_103, r292_104, r292_107, r292_110, r292_111, r292_112, r292_115, r292_118, r292_119, r292_120, r292_123, r292_124, r292_125, r292_128, r292_129, r292_130, r292_131, r292_132, r292_135, r292_136, r292_137, r292_138, r292_139, r292_142, r292_144, r292_145, r292_148, r292_151, r292_152, r292_153, r292_156, r292_157, r292_158, r292_161, r292_162, r292_164, r292_167, r292_168, r292_171, r292_174, r292_175, r292_176, r292_177, r292_180, r292_183, if_true]
      · funext j
        rw [us_ne (by decide), hu.1 1 j (by decide) (by omega), hS.1]
      · rw [us_at, if_pos rfl, if_neg (by decide), hu.1 20 1 (by decide) (by omega), hS.2]
    | inl r =>
      obtain ⟨cm, p', as'⟩ := r
      intro e1 hC hle
      dsimp only at e1 hle
      obtain ⟨rfl, hPM, hcm⟩ := hC
      obtain ⟨l1, l2, l3, l4⟩ := hle
      obtain ⟨hb1, hb2⟩ := hub p' as' cm
      have hPn := PMS_n (p' := p') hP hu hg hcm l4 hPM
      obtain ⟨t2, ht2⟩ : ∃ t2, t2 = us (us (SP u c p' as') 2 c (Int32.ofNat cm)) 20 4 (Int32.ofNat (c + 1)) := ⟨_, rfl⟩
      have h42 : t2 20 4 = Int32.ofNat (c + 1) := by rw [ht2, us_at, if_pos rfl, if_pos rfl]
      rw [← ht2] at e1 hb1 hb2 hPn
      have hX2 := TS_x hb1 hX
      have e283 := fun w2 n2 => c283 (x := x) (n := n2) (w := w2) (b := b2) (f := g) (q := (false, p')) hT h9 l2
      dsimp only at e283
      have h59 := hm_eq (p := p') hX (a := 59) (by omega) (by omega)
      rw [show Int32.ofNat 59 = 59 from rfl] at h59
      have hl1 := hX2.2.1
      by_cases hpl : p' = l
      · refine ⟨-1, t2, c + 1, g, (false, l), ?_, ?_, hb1, Or.inl ⟨rfl, rfl, hPn, by omega, h42⟩⟩
        · have eg : Int32.ofNat p' = Int32.ofNat l := by rw [hpl]
          intro w n
          rw [r179_12]
          simp only [csN, csm_i, csm_r, Nat.reduceAdd, Nat.reduceLeDiff, wdI, wdR, wdN, clM_0, clC_0, clC_1, clC_6, clC_8, true_or, or_true, i10, i01, ob_some, ob_map, cal_v, rvs_some, rvs_none, XO_at, cal_x, m179, r179_0, r179_1, r179_2, r179_5, r179_6, r179_7, r179_10, r179_11, r179_13, r179_15, r179_18, r179_19, r179_22, r179_25, r179_26, r179_29, r179_30, r179_31, r179_34, r179_35, r179_38, r179_41, r179_42, r179_43, r179_44, r179_46, r179_49, r179_52, r179_53, r179_56, r179_57, r179_60, r179_63, r179_64, r179_67, hc15, if_true, if_false, z10, clS_0, e1, gS_0_5, gS_0_1, hb2, hl1, eg]
        · have hn : ¬ hm s l p' = 59 := fun z => by
            rw [h59, hpl] at z
            unfold nx at z
            rw [if_neg (by omega)] at z
            revert z
            decide
          intro w2 n2
          rw [r292_14]
          simp only [csN, csm_i, csm_r, Nat.reduceAdd, Nat.reduceLeDiff, wdI, wdR, wdN, clM_0, clC_0, clC_1, clC_6, clC_8, true_or, or_true, i10, i01, ob_some, ob_map, cal_v, rvs_some, rvs_none, XO_at, cal_x, m292, r292_0, r292_1, r292_2, r292_5, r292_6, r292_7, r292_10, r292_11, r292_12, r292_13, r292_15, r292_18, r292_19, r292_20, r292_21, r292_22, r292_25, r292_28, r292_29, r292_32, r292_35, r292_36, r292_39, r292_41, r292_44, r292_45, r292_48, r292_49, r292_50, r292_51, r292_52, r292_55, r292_56, r292_59, r292_60, r292_63, r292_64, r292_65, r292_68, r292_72, r292_73, r292_76, r292_79, r292_80, r292_83, r292_84, r292_87, r292_90, r292_91, r292_94, r292_95, r292_98, r292_99, r292_100, r292_103, r292_104, r292_107, r292_110, r292_111, r292_112, r292_115, r292_118, r292_119, r292_120, r292_123, r292_124, r292_125, r292_128, r292_129, r292_130, r292_131, r292_132, r292_135, r292_136, r292_137, r292_138, r292_139, r292_142, r292_144, r292_145, r292_148, r292_151, r292_152, r292_153, r292_156, r292_157, r292_158, r292_161, r292_162, r292_164, r292_167, r292_168, r292_171, r292_174, r292_175, r292_176, r292_177, r292_180, r292_183, z10, if_true, if_false, e4c, e2, gM_0_15, gM_0_16, pM_0_15, MK_15, MK_16, MK_p, bi_f, i_s, i_s0, e283, hn]
          rw [r292_14]
          simp only [csN, csm_i, csm_r, Nat.reduceAdd, Nat.reduceLeDiff, wdI, wdR, wdN, clM_0, clC_0, clC_1, clC_6, clC_8, true_or, or_true, i10, i01, ob_some, ob_map, cal_v, rvs_some, rvs_none, XO_at, cal_x, m292, r292_0, r292_1, r292_2, r292_5, r292_6, r292_7, r292_10, r292_11, r292_12, r292_13, r292_15, r292_18, r292_19, r292_20, r292_21, r292_22, r292_25, r292_28, r292_29, r292_32, r292_35, r292_36, r292_39, r292_41, r292_44, r292_45, r292_48, r292_49, r292_50, r292_51, r292_52, r292_55, r292_56, r292_59, r292_60, r292_63, r292_64, r292_65, r292_68, r292_72, r292_73, r292_76, r292_79, r292_80, r292_83, r292_84, r292_87, r292_90, r292_91, r292_94, r292_95, r292_98, r292_99, r292_100, r292_103, r292_104, r292_107, r292_110, r292_111, r292_112, r292_115, r292_118, r292_119, r292_120, r292_123, r292_124, r292_125, r292_128, r292_129, r292_130, r292_131, r292_132, r292_135, r292_136, r292_137, r292_138, r292_139, r292_142, r292_144, r292_145, r292_148, r292_151, r292_152, r292_153, r292_156, r292_157, r292_158, r292_161, r292_162, r292_164, r292_167, r292_168, r292_171, r292_174, r292_175, r292_176, r292_177, r292_180, r292_183, if_true]
          rw [hpl]
      · have np : ¬ Int32.ofNat p' = Int32.ofNat l := by rw [i_eq (by omega) (by omega)]; exact hpl
        have e189 := fun w n => c189g (x := x) (n := n) (w := w) (b := b) (v := 59) hX2 hb2 l2
        rw [nx_c hb1.1] at e189
        by_cases hs : nx s l p' = 59
        · rw [if_pos hs, if_pos hs] at e189
          have hp2 := nx_l (s := s) (l := l) (p := p') (fun e => by rw [e] at hs; revert hs; decide)
          obtain ⟨e, t', c', g', Q', a1, a2, a3, a4⟩ := ih (c + 1) (p' + 1) g (us t2 20 5 (Int32.ofNat (p' + 1))) (by omega) (by omega) hp2 ⟨by funext j; rw [us_ne (by decide), hb1.1], by rw [us_at, if_pos rfl, if_neg (by decide), hb1.2]⟩ (by rw [us_at, if_pos rfl, if_neg (by decide)]; exact h42) (by rw [us_at, if_pos rfl, if_pos rfl]) (fun i hi => by
            obtain ⟨cm', as'', b1, b2, b3, b4, b5⟩ := hPn i hi
            exact ⟨cm', as'', b1, b2, by rw [us_ne (by decide)]; exact b3, fun j hj => by rw [us_ne (by decide)]; exact b4 j hj, b5⟩)
          refine ⟨e, t', c', g', Q', ?_, ?_, a3, a4⟩
          · intro w n
            rw [← a1 w n]
            conv => lhs; rw [r179_12]
            simp only [csN, csm_i, csm_r, Nat.reduceAdd, Nat.reduceLeDiff, wdI, wdR, wdN, clM_0, clC_0, clC_1, clC_6, clC_8, true_or, or_true, i10, i01, ob_some, ob_map, cal_v, rvs_some, rvs_none, XO_at, cal_x, m179, r179_0, r179_1, r179_2, r179_5, r179_6, r179_7, r179_10, r179_11, r179_13, r179_15, r179_18, r179_19, r179_22, r179_25, r179_26, r179_29, r179_30, r179_31, r179_34, r179_35, r179_38, r179_41, r179_42, r179_43, r179_44, r179_46, r179_49, r179_52, r179_53, r179_56, r179_57, r179_60, r179_63, r179_64, r179_67, hc15, if_true, if_false, z10, clS_0, e1, gS_0_5, gS_0_1, hb2, hl1, np, e189, i_s]
          · intro w2 n2
            rw [← a2 w2 n2]
            have hh := h59.mpr hs
            conv => lhs; rw [r292_14]
            simp only [csN, csm_i, csm_r, Nat.reduceAdd, Nat.reduceLeDiff, wdI, wdR, wdN, clM_0, clC_0, clC_1, clC_6, clC_8, true_or, or_true, i10, i01, ob_some, ob_map, cal_v, rvs_some, rvs_none, XO_at, cal_x, m292, r292_0, r292_1, r292_2, r292_5, r292_6, r292_7, r292_10, r292_11, r292_12, r292_13, r292_15, r292_18, r292_19, r292_20, r292_21, r292_22, r292_25, r292_28, r292_29, r292_32, r292_35, r292_36, r292_39, r292_41, r292_44, r292_45, r292_48, r292_49, r292_50, r292_51, r292_52, r292_55, r292_56, r292_59, r292_60, r292_63, r292_64, r292_65, r292_68, r292_72, r292_73, r292_76, r292_79, r292_80, r292_83, r292_84, r292_87, r292_90, r292_91, r292_94, r292_95, r292_98, r292_99, r292_100, r292_103, r292_104, r292_107, r292_110, r292_111, r292_112, r292_115, r292_118, r292_119, r292_120, r292_123, r292_124, r292_125, r292_128, r292_129, r292_130, r292_131, r292_132, r292_135, r292_136, r292_137, r292_138, r292_139, r292_142, r292_144, r292_145, r292_148, r292_151, r292_152, r292_153, r292_156, r292_157, r292_158, r292_161, r292_162, r292_164, r292_167, r292_168, r292_171, r292_174, r292_175, r292_176, r292_177, r292_180, r292_183, z10, if_true, if_false, e4c, e2, gM_0_15, gM_0_16, pM_0_15, MK_15, MK_16, MK_p, bi_f, i_s, e283, hh]
        · rw [if_neg hs, if_neg hs] at e189
          refine ⟨Int32.ofNat p', t2, c + 1, g, (false, p'), ?_, ?_, hb1, Or.inr ⟨p', l2, rfl, rfl, Or.inr (by omega)⟩⟩
          · intro w n
            rw [r179_12]
            simp only [csN, csm_i, csm_r, Nat.reduceAdd, Nat.reduceLeDiff, wdI, wdR, wdN, clM_0, clC_0, clC_1, clC_6, clC_8, true_or, or_true, i10, i01, ob_some, ob_map, cal_v, rvs_some, rvs_none, XO_at, cal_x, m179, r179_0, r179_1, r179_2, r179_5, r179_6, r179_7, r179_10, r179_11, r179_13, r179_15, r179_18, r179_19, r179_22, r179_25, r179_26, r179_29, r179_30, r179_31, r179_34, r179_35, r179_38, r179_41, r179_42, r179_43, r179_44, r179_46, r179_49, r179_52, r179_53, r179_56, r179_57, r179_60, r179_63, r179_64, r179_67, hc15, if_true, if_false, z10, clS_0, e1, gS_0_5, gS_0_1, hb2, hl1, np, e189]
          · have hn : ¬ hm s l p' = 59 := fun z => hs (h59.mp z)
            intro w2 n2
            rw [r292_14]
            simp only [csN, csm_i, csm_r, Nat.reduceAdd, Nat.reduceLeDiff, wdI, wdR, wdN, clM_0, clC_0, clC_1, clC_6, clC_8, true_or, or_true, i10, i01, ob_some, ob_map, cal_v, rvs_some, rvs_none, XO_at, cal_x, m292, r292_0, r292_1, r292_2, r292_5, r292_6, r292_7, r292_10, r292_11, r292_12, r292_13, r292_15, r292_18, r292_19, r292_20, r292_21, r292_22, r292_25, r292_28, r292_29, r292_32, r292_35, r292_36, r292_39, r292_41, r292_44, r292_45, r292_48, r292_49, r292_50, r292_51, r292_52, r292_55, r292_56, r292_59, r292_60, r292_63, r292_64, r292_65, r292_68, r292_72, r292_73, r292_76, r292_79, r292_80, r292_83, r292_84, r292_87, r292_90, r292_91, r292_94, r292_95, r292_98, r292_99, r292_100, r292_103, r292_104, r292_107, r292_110, r292_111, r292_112, r292_115, r292_118, r292_119, r292_120, r292_123, r292_124, r292_125, r292_128, r292_129, r292_130, r292_131, r292_132, r292_135, r292_136, r292_137, r292_138, r292_139, r292_142, r292_144, r292_145, r292_148, r292_151, r292_152, r292_153, r292_156, r292_157, r292_158, r292_161, r292_162, r292_164, r292_167, r292_168, r292_171, r292_174, r292_175, r292_176, r292_177, r292_180, r292_183, z10, if_true, if_false, e4c, e2, gM_0_15, gM_0_16, pM_0_15, MK_15, MK_16, MK_p, bi_f, i_s, i_s0, e283, hn]
            rw [r292_14]
            simp only [csN, csm_i, csm_r, Nat.reduceAdd, Nat.reduceLeDiff, wdI, wdR, wdN, clM_0, clC_0, clC_1, clC_6, clC_8, true_or, or_true, i10, i01, ob_some, ob_map, cal_v, rvs_some, rvs_none, XO_at, cal_x, m292, r292_0, r292_1, r292_2, r292_5, r292_6, r292_7, r292_10, r292_11, r292_12, r292_13, r292_15, r292_18, r292_19, r292_20, r292_21, r292_22, r292_25, r292_28, r292_29, r292_32, r292_35, r292_36, r292_39, r292_41, r292_44, r292_45, r292_48, r292_49, r292_50, r292_51, r292_52, r292_55, r292_56, r292_59, r292_60, r292_63, r292_64, r292_65, r292_68, r292_72, r292_73, r292_76, r292_79, r292_80, r292_83, r292_84, r292_87, r292_90, r292_91, r292_94, r292_95, r292_98, r292_99, r292_100, r292_103, r292_104, r292_107, r292_110, r292_111, r292_112, r292_115, r292_118, r292_119, r292_120, r292_123, r292_124, r292_125, r292_128, r292_129, r292_130, r292_131, r292_132, r292_135, r292_136, r292_137, r292_138, r292_139, r292_142, r292_144, r292_145, r292_148, r292_151, r292_152, r292_153, r292_156, r292_157, r292_158, r292_161, r292_162, r292_164, r292_167, r292_168, r292_171, r292_174, r292_175, r292_176, r292_177, r292_180, r292_183, if_true]
end SCL
