/-! THE SCRIPT of the class: forms and commands -/
section SCF
set_option maxRecDepth 20000
variable {x : SX} {n b c p l : Nat} {w : PW} {s : NS} {as : List Int32} {v a t : Int32}
def oneF (s : NS) (l : Nat) (bs : List Int32) (p : Nat) (as : List Int32) : Bool × Nat × List Int32 := if nx s l p ∈ bs then (true, p + 1, as ++ [nx s l p]) else (false, p, as)
def sgF (s : NS) (l : Nat) (t : Int32) (p : Nat) (as : List Int32) : Bool × Nat × List Int32 := if nx s l p = t then (true, p + 1, as) else (false, p, as)
def hrF (s : NS) (l p : Nat) (as : List Int32) : Bool × Nat × List Int32 := if nx s l p = 32 then numF s l 3 (p + 1) as else (true, p, as ++ [1])
def ptF (s : NS) (l : Nat) (t : Int32) (p : Nat) (as : List Int32) : Bool × Nat × List Int32 :=
  if t = 68 then numF s l 1 p as else if t = 72 then hrF s l p as else if t = 75 then oneF s l [77, 109, 100, 97] p as else if t = 78 then numF s l 3 p as else if t = 87 then oneF s l [100, 117] p as else sgF s l t p as
def nar (t : Int32) : Nat := if t = 68 then 1 else if t = 72 then 1 else if t = 75 then 1 else if t = 78 then 1 else if t = 87 then 1 else 0
/-- what a part reads stays within the text; how many arguments it adds -/
def GD (l p : Nat) (as : List Int32) (k : Nat) (r : Bool × Nat × List Int32) : Prop := p ≤ r.2.1 ∧ (p ≤ l → r.2.1 ≤ l) ∧ r.2.2.length ≤ as.length + k
theorem gd_num {d : Nat} : GD l p as 1 (numF s l d p as) := by
  obtain ⟨h1, h2, -⟩ := dgF_p (s := s) (l := l) d p 0
  unfold numF
  split
  · exact ⟨h1, h2, by simp⟩
  · exact ⟨Nat.le_refl _, fun h => h, by simp⟩
theorem gd_one {bs : List Int32} (hz : ¬ (0 : Int32) ∈ bs) : GD l p as 1 (oneF s l bs p as) := by
  unfold oneF
  split
  · next h =>
    have hp := nx_l (s := s) (l := l) (p := p) (fun e => hz (e ▸ h))
    exact ⟨by dsimp only; omega, fun _ => hp, by simp⟩
  · exact ⟨Nat.le_refl _, fun h => h, by simp⟩
theorem gd_sg (hz : ¬ t = 0) : GD l p as 0 (sgF s l t p as) := by
  unfold sgF
  split
  · next h =>
    have hp := nx_l (s := s) (l := l) (p := p) (fun e => hz (h.symm.trans e))
    exact ⟨by dsimp only; omega, fun _ => hp, Nat.le_refl _⟩
  · exact ⟨Nat.le_refl _, fun h => h, Nat.le_refl _⟩
theorem gd_hr : GD l p as 1 (hrF s l p as) := by
  unfold hrF
  split
  · next h =>
    have hp := nx_l (s := s) (l := l) (p := p) (fun e => by rw [e] at h; revert h; decide)
    obtain ⟨h1, h2, h3⟩ := gd_num (s := s) (l := l) (p := p + 1) (as := as) (d := 3)
    exact ⟨by omega, fun _ => h2 hp, h3⟩
  · exact ⟨Nat.le_refl _, fun h => h, by simp⟩
theorem gd_pt (hz : ¬ t = 0) : GD l p as (nar t) (ptF s l t p as) := by
  unfold ptF nar
  by_cases h1 : t = 68
  · rw [if_pos h1, if_pos h1]; exact gd_num
  · rw [if_neg h1, if_neg h1]
    by_cases h2 : t = 72
    · rw [if_pos h2, if_pos h2]; exact gd_hr
    · rw [if_neg h2, if_neg h2]
      by_cases h3 : t = 75
      · rw [if_pos h3, if_pos h3]; exact gd_one (by decide)
      · rw [if_neg h3, if_neg h3]
        by_cases h4 : t = 78
        · rw [if_pos h4, if_pos h4]; exact gd_num
        · rw [if_neg h4, if_neg h4]
          by_cases h5 : t = 87
          · rw [if_pos h5, if_pos h5]; exact gd_one (by decide)
          · rw [if_neg h5, if_neg h5]; exact gd_sg hz
theorem c186 (h : TX s l) (hp : p ≤ l) (h4 : s 20 4 = Int32.ofNat c) (hc : c < 15) (ha : as.length + nar t ≤ 3) : RM x 186 [.ref b, .int t] (setS w b (SP s c p as)) n = some (.inl (some (.int (bi (ptF s l t p as).1))), setS w b (SP s c (ptF s l t p as).2.1 (ptF s l t p as).2.2), n) := by
  have hN1 : ∀ p as, p ≤ l → as.length < 3 → RM x 187 [.ref b, .int 1] (setS w b (SP s c p as)) n = some (.inl (some (.int (bi (numF s l 1 p as).1))), setS w b (SP s c (numF s l 1 p as).2.1 (numF s l 1 p as).2.2), n) := fun p as hp ha => c187 (m := 1) h (by omega) hp h4 hc ha
  have hN3 : ∀ p as, p ≤ l → as.length < 3 → RM x 187 [.ref b, .int 3] (setS w b (SP s c p as)) n = some (.inl (some (.int (bi (numF s l 3 p as).1))), setS w b (SP s c (numF s l 3 p as).2.1 (numF s l 3 p as).2.2), n) := fun p as hp ha => c187 (m := 3) h (by omega) hp h4 hc ha
  unfold ptF
  unfold nar at ha
  by_cases h1 : t = 68
  · rw [if_pos h1] at ha ⊢
    subst h1
    have e := hN1 p as hp (by omega)
    simp only [csN, csm_i, csm_r, Nat.reduceAdd, Nat.reduceLeDiff, wdI, wdR, wdN, clM_0, clC_0, clC_1, clC_6, clC_8, true_or, or_true, i10, i01, ob_some, ob_map, cal_v, rvs_some, rvs_none, XO_at, cal_x, m186, r186_0, r186_1, r186_52, r186_53, r186_54, r186_57, r186_58, r186_59, r186_60, r186_63, r186_64, r186_65, r186_67, r186_70, r186_71, r186_72, r186_74, r186_77, r186_78, r186_79, r186_81, r186_84, r186_87, r186_88, r186_89, r186_92, r186_95, r186_96, r186_97, r186_100, r186_101, r186_102, r186_103, r186_106, clS_0, e, if_true, bi_01]
  · rw [if_neg h1] at ha ⊢
    by_cases h2 : t = 72
    · rw [if_pos h2] at ha ⊢
      subst h2
      have a1 : ((72 : Int32) = 68) = False := eq_false (by decide)
      unfold hrF
      by_cases h3 : nx s l p = 32
      · rw [if_pos h3]
        have hp' := nx_l (s := s) (l := l) (p := p) (fun e => by rw [e] at h3; revert h3; decide)
        have e := c189_1 (x := x) (n := n) (w := w) (b := b) (c := c) (as := as) h hp h3
        have e2 := hN3 (p + 1) as hp' (by omega)
        simp only [csN, csm_i, csm_r, Nat.reduceAdd, Nat.reduceLeDiff, wdI, wdR, wdN, clM_0, clC_0, clC_1, clC_6, clC_8, true_or, or_true, i10, i01, ob_some, ob_map, cal_v, rvs_some, rvs_none, XO_at, cal_x, m186, r186_0, r186_1, r186_52, r186_53, r186_54, r186_57, r186_58, r186_59, r186_60, r186_63, r186_64, r186_65, r186_67, r186_70, r186_71, r186_72, r186_74, r186_77, r186_78, r186_79, r186_81, r186_84, r186_87, r186_88, r186_89, r186_92, r186_95, r186_96, r186_97, r186_100, r186_101, r186_102, r186_103, r186_106, clS_0, a1, e, e2, if_true, if_false, bi_01]
      · rw [if_neg h3]
        have e := c189_0 (x := x) (n := n) (w := w) (b := b) (c := c) (as := as) h hp h3
        have e2 := c184 (x := x) (n := n) (w := w) (b := b) (p := p) (a := 1) h4 hc (show as.length < 3 by omega)
        simp only [csN, csm_i, csm_r, Nat.reduceAdd, Nat.reduceLeDiff, wdI, wdR, wdN, clM_0, clC_0, clC_1, clC_6, clC_8, true_or, or_true, i10, i01, ob_some, ob_map, cal_v, rvs_some, rvs_none, XO_at, cal_x, m186, r186_0, r186_1, r186_52, r186_53, r186_54, r186_57, r186_58, r186_59, r186_60, r186_63, r186_64, r186_65, r186_67, r186_70, r186_71, r186_72, r186_74, r186_77, r186_78, r186_79, r186_81, r186_84, r186_87, r186_88, r186_89, r186_92, r186_95, r186_96, r186_97, r186_100, r186_101, r186_102, r186_103, r186_106, clS_0, a1, e, e2, if_true, if_false, bi_t]
    · rw [if_neg h2] at ha ⊢
      by_cases h3 : t = 75
      · rw [if_pos h3] at ha ⊢
        subst h3
        have a1 : ((75 : Int32) = 68) = False := eq_false (by decide)
        have a2 : ((75 : Int32) = 72) = False := eq_false (by decide)
        unfold oneF
        have hs := (S28 (x := x)).1
        by_cases h9 : nx s l p ∈ ([77, 109, 100, 97] : List Int32)
        · have e := c188_1 (n := n) (w := w) (b := b) (S28 (x := x)) (by decide) h hp h4 hc (show as.length < 3 by omega) h9
          rw [if_pos h9]
          simp only [csN, csm_i, csm_r, Nat.reduceAdd, Nat.reduceLeDiff, wdI, wdR, wdN, clM_0, clC_0, clC_1, clC_6, clC_8, true_or, or_true, i10, i01, ob_some, ob_map, cal_v, rvs_some, rvs_none, XO_at, cal_x, m186, r186_0, r186_1, r186_52, r186_53, r186_54, r186_57, r186_58, r186_59, r186_60, r186_63, r186_64, r186_65, r186_67, r186_70, r186_71, r186_72, r186_74, r186_77, r186_78, r186_79, r186_81, r186_84, r186_87, r186_88, r186_89, r186_92, r186_95, r186_96, r186_97, r186_100, r186_101, r186_102, r186_103, r186_106, clS_0, a1, a2, e, hs, if_true, if_false, bi_t]
        · have e := c188_0 (n := n) (w := w) (b := b) (c := c) (as := as) (S28 (x := x)) (by decide) h hp h9
          rw [if_neg h9]
          simp only [csN, csm_i, csm_r, Nat.reduceAdd, Nat.reduceLeDiff, wdI, wdR, wdN, clM_0, clC_0, clC_1, clC_6, clC_8, true_or, or_true, i10, i01, ob_some, ob_map, cal_v, rvs_some, rvs_none, XO_at, cal_x, m186, r186_0, r186_1, r186_52, r186_53, r186_54, r186_57, r186_58, r186_59, r186_60, r186_63, r186_64, r186_65, r186_67, r186_70, r186_71, r186_72, r186_74, r186_77, r186_78, r186_79, r186_81, r186_84, r186_87, r186_88, r186_89, r186_92, r186_95, r186_96, r186_97, r186_100, r186_101, r186_102, r186_103, r186_106, clS_0, a1, a2, e, hs, if_true, if_false, bi_f]
      · rw [if_neg h3] at ha ⊢
        by_cases h5 : t = 78
        · rw [if_pos h5] at ha ⊢
          subst h5
          have a1 : ((78 : Int32) = 68) = False := eq_false (by decide)
          have a2 : ((78 : Int32) = 72) = False := eq_false (by decide)
          have a3 : ((78 : Int32) = 75) = False := eq_false (by decide)
          have e := hN3 p as hp (by omega)
          simp only [csN, csm_i, csm_r, Nat.reduceAdd, Nat.reduceLeDiff, wdI, wdR, wdN, clM_0, clC_0, clC_1, clC_6, clC_8, true_or, or_true, i10, i01, ob_some, ob_map, cal_v, rvs_some, rvs_none, XO_at, cal_x, m186, r186_0, r186_1, r186_52, r186_53, r186_54, r186_57, r186_58, r186_59, r186_60, r186_63, r186_64, r186_65, r186_67, r186_70, r186_71, r186_72, r186_74, r186_77, r186_78, r186_79, r186_81, r186_84, r186_87, r186_88, r186_89, r186_92, r186_95, r186_96, r186_97, r186_100, r186_101, r186_102, r186_103, r186_106, clS_0, a1, a2, a3, e, if_true, if_false, bi_01]
        · rw [if_neg h5] at ha ⊢
          by_cases h6 : t = 87
          · rw [if_pos h6] at ha ⊢
            subst h6
            have a1 : ((87 : Int32) = 68) = False := eq_false (by decide)
            have a2 : ((87 : Int32) = 72) = False := eq_false (by decide)
            have a3 : ((87 : Int32) = 75) = False := eq_false (by decide)
            have a4 : ((87 : Int32) = 78) = False := eq_false (by decide)
            unfold oneF
            have hs := (S26 (x := x)).1
            by_cases h9 : nx s l p ∈ ([100, 117] : List Int32)
            · have e := c188_1 (n := n) (w := w) (b := b) (S26 (x := x)) (by decide) h hp h4 hc (show as.length < 3 by omega) h9
              rw [if_pos h9]
              simp only [csN, csm_i, csm_r, Nat.reduceAdd, Nat.reduceLeDiff, wdI, wdR, wdN, clM_0, clC_0, clC_1, clC_6, clC_8, true_or, or_true, i10, i01, ob_some, ob_map, cal_v, rvs_some, rvs_none, XO_at, cal_x, m186, r186_0, r186_1, r186_52, r186_53, r186_54, r186_57, r186_58, r186_59, r186_60, r186_63, r186_64, r186_65, r186_67, r186_70, r186_71, r186_72, r186_74, r186_77, r186_78, r186_79, r186_81, r186_84, r186_87, r186_88, r186_89, r186_92, r186_95, r186_96, r186_97, r186_100, r186_101, r186_102, r186_103, r186_106, clS_0, a1, a2, a3, a4, e, hs, if_true, if_false, bi_t]
            · have e := c188_0 (n := n) (w := w) (b := b) (c := c) (as := as) (S26 (x := x)) (by decide) h hp h9
              rw [if_neg h9]
              simp only [csN, csm_i, csm_r, Nat.reduceAdd, Nat.reduceLeDiff, wdI, wdR, wdN, clM_0, clC_0, clC_1, clC_6, clC_8, true_or, or_true, i10, i01, ob_some, ob_map, cal_v, rvs_some, rvs_none, XO_at, cal_x, m186, r186_0, r186_1, r186_52, r186_53, r186_54, r186_57, r186_58, r186_59, r186_60, r186_63, r186_64, r186_65, r186_67, r186_70, r186_71, r186_72, r186_74, r186_77, r186_78, r186_79, r186_81, r186_84, r186_87, r186_88, r186_89, r186_92, r186_95, r186_96, r186_97, r186_100, r186_101, r186_102, r186_103, r186_106, clS_0, a1, a2, a3, a4, e, hs, if_true, if_false, bi_f]
          · rw [if_neg h6]
            unfold sgF
            by_cases h9 : nx s l p = t
            · have e := c189_1 (x := x) (n := n) (w := w) (b := b) (c := c) (as := as) h hp h9
              rw [if_pos h9]
              simp only [csN, csm_i, csm_r, Nat.reduceAdd, Nat.reduceLeDiff, wdI, wdR, wdN, clM_0, clC_0, clC_1, clC_6, clC_8, true_or, or_true, i10, i01, ob_some, ob_map, cal_v, rvs_some, rvs_none, XO_at, cal_x, m186, r186_0, r186_1, r186_52, r186_53, r186_54, r186_57, r186_58, r186_59, r186_60, r186_63, r186_64, r186_65, r186_67, r186_70, r186_71, r186_72, r186_74, r186_77, r186_78, r186_79, r186_81, r186_84, r186_87, r186_88, r186_89, r186_92, r186_95, r186_96, r186_97, r186_100, r186_101, r186_102, r186_103, r186_106, clS_0, h1, h2, h3, h5, h6, e, if_false, bi_t]
            · have e := c189_0 (x := x) (n := n) (w := w) (b := b) (c := c) (as := as) h hp h9
              rw [if_neg h9]
              simp only [csN, csm_i, csm_r, Nat.reduceAdd, Nat.reduceLeDiff, wdI, wdR, wdN, clM_0, clC_0, clC_1, clC_6, clC_8, true_or, or_true, i10, i01, ob_some, ob_map, cal_v, rvs_some, rvs_none, XO_at, cal_x, m186, r186_0, r186_1, r186_52, r186_53, r186_54, r186_57, r186_58, r186_59, r186_60, r186_63, r186_64, r186_65, r186_67, r186_70, r186_71, r186_72, r186_74, r186_77, r186_78, r186_79, r186_81, r186_84, r186_87, r186_88, r186_89, r186_92, r186_95, r186_96, r186_97, r186_100, r186_101, r186_102, r186_103, r186_106, clS_0, h1, h2, h3, h5, h6, e, if_false, bi_f]
/-- a whole form, part by part -/
def rdF (s : NS) (l : Nat) : List Int32 → Nat → List Int32 → Bool × Nat × List Int32
  | [], p, as => (true, p, as)
  | t :: ts, p, as => if (ptF s l t p as).1 = true then rdF s l ts (ptF s l t p as).2.1 (ptF s l t p as).2.2 else ptF s l t p as
def nars : List Int32 → Nat
  | [] => 0
  | t :: ts => nar t + nars ts
theorem gd_rd (bs : List Int32) : (∀ t, t ∈ bs → ¬ t = 0) → ∀ p as, GD l p as (nars bs) (rdF s l bs p as) := by
  induction bs with
  | nil => intro _ p as; exact ⟨Nat.le_refl _, fun h => h, Nat.le_refl _⟩
  | cons t ts ih =>
    intro hz p as
    obtain ⟨h1, h2, h3⟩ := gd_pt (s := s) (l := l) (p := p) (as := as) (hz t List.mem_cons_self)
    unfold rdF nars
    split
    · obtain ⟨g1, g2, g3⟩ := ih (fun u hu => hz u (List.mem_cons_of_mem _ hu)) (ptF s l t p as).2.1 (ptF s l t p as).2.2
      exact ⟨by omega, fun h => g2 (h2 h), by omega⟩
    · exact ⟨h1, h2, by omega⟩
theorem drop_c {bs : List Int32} {i : Nat} (h : i < bs.length) : bs.drop i = bs.getD i 0 :: bs.drop (i + 1) := by
  rw [List.drop_eq_getElem_cons h, List.getD_eq_getElem?_getD, List.getElem?_eq_getElem h]
  rfl
theorem l185 {q : Nat} {bs : List Int32} (hS : STR x q bs) (hz : ∀ t, t ∈ bs → ¬ t = 0) (h : TX s l) (h4 : s 20 4 = Int32.ofNat c) (hc : c < 15) (d : Nat) : ∀ i p as, i + d = bs.length → p ≤ l → as.length + nars (bs.drop i) ≤ 3 →
    RC x 185 2 [some (.ref b), some (.ref q), some (.int (Int32.ofNat i))] [] (setS w b (SP s c p as)) n = some (.inl (some (.int (bi (rdF s l (bs.drop i) p as).1))), setS w b (SP s c (rdF s l (bs.drop i) p as).2.1 (rdF s l (bs.drop i) p as).2.2), n) := by
  have hl := hS.2.2.2
  have hs := hS.1
  induction d with
  | zero =>
    intro i p as hi hp ha
    obtain rfl : i = bs.length := by omega
    rw [r185_2, List.drop_length]
    have e := c13 (n := n) (w := setS w b (SP s c p as)) hS
    have h0 : ¬ Int32.ofNat bs.length < Int32.ofNat bs.length := Int32.lt_irrefl
    simp only [csN, csm_i, csm_r, Nat.reduceAdd, Nat.reduceLeDiff, wdI, wdR, wdN, clM_0, clC_0, clC_1, clC_6, clC_8, true_or, or_true, i10, i01, ob_some, ob_map, cal_v, rvs_some, rvs_none, XO_at, cal_x, m185, r185_0, r185_1, r185_3, r185_4, r185_7, r185_10, r185_11, r185_12, r185_13, r185_16, r185_19, r185_22, r185_23, r185_24, r185_27, r185_30, r185_31, e, hs, h0, if_false, rdF, bi_t]
  | succ d ih =>
    intro i p as hi hp ha
    have hil : i < bs.length := by omega
    rw [drop_c hil] at ha ⊢
    unfold nars at ha
    rw [r185_2]
    have e := c13 (n := n) (w := setS w b (SP s c p as)) hS
    have e2 := c14 (n := n) (w := setS w b (SP s c p as)) hS hil
    have h1 : Int32.ofNat i < Int32.ofNat bs.length := nlt (by omega) (by omega) hil
    have e3 := c186 (x := x) (n := n) (w := w) (b := b) (t := bs.getD i 0) (as := as) h hp h4 hc (by omega)
    have hm : bs.getD i 0 ∈ bs := by
      rw [List.getD_eq_getElem?_getD, List.getElem?_eq_getElem hil]
      exact List.getElem_mem hil
    obtain ⟨g1, g2, g3⟩ := gd_pt (s := s) (l := l) (p := p) (as := as) (hz _ hm)
    unfold rdF
    cases hb : (ptF s l (bs.getD i 0) p as).1 with
    | false =>
      rw [hb, bi_f] at e3
      rw [if_neg (by decide), hb, bi_f]
      simp only [csN, csm_i, csm_r, Nat.reduceAdd, Nat.reduceLeDiff, wdI, wdR, wdN, clM_0, clC_0, clC_1, clC_6, clC_8, true_or, or_true, i10, i01, ob_some, ob_map, cal_v, rvs_some, rvs_none, XO_at, cal_x, m185, r185_0, r185_1, r185_3, r185_4, r185_7, r185_10, r185_11, r185_12, r185_13, r185_16, r185_19, r185_22, r185_23, r185_24, r185_27, r185_30, r185_31, clS_0, e, hs, e2, h1, if_true, e3]
    | true =>
      rw [hb, bi_t] at e3
      rw [if_pos rfl]
      simp only [csN, csm_i, csm_r, Nat.reduceAdd, Nat.reduceLeDiff, wdI, wdR, wdN, clM_0, clC_0, clC_1, clC_6, clC_8, true_or, or_true, i10, i01, ob_some, ob_map, cal_v, rvs_some, rvs_none, XO_at, cal_x, m185, r185_0, r185_1, r185_3, r185_4, r185_7, r185_10, r185_11, r185_12, r185_13, r185_16, r185_19, r185_22, r185_23, r185_24, r185_27, r185_30, r185_31, clS_0, e, hs, e2, h1, if_true, e3, if_false, i_s]
      exact ih (i + 1) _ _ (by omega) (g2 hp) (by omega)
theorem c185 {q : Nat} {bs : List Int32} (hS : STR x q bs) (hz : ∀ t, t ∈ bs → ¬ t = 0) (h : TX s l) (h4 : s 20 4 = Int32.ofNat c) (hc : c < 15) (hp : p ≤ l) (ha : nars bs ≤ 3) :
    RM x 185 [.ref b, .ref q] (setS w b (SP s c p [])) n = some (.inl (some (.int (bi (rdF s l bs p []).1))), setS w b (SP s c (rdF s l bs p []).2.1 (rdF s l bs p []).2.2), n) := by
  have e := l185 (x := x) (n := n) (w := w) (b := b) hS hz h h4 hc bs.length 0 p [] (by omega) hp (by rw [List.drop_zero]; exact Nat.le_trans (Nat.le_of_eq (Nat.zero_add _)) ha)
  rw [List.drop_zero] at e
  rw [← e]
  simp only [csN, csm_i, csm_r, Nat.reduceAdd, Nat.reduceLeDiff, wdI, wdR, wdN, clM_0, clC_0, clC_1, clC_6, clC_8, true_or, or_true, i10, i01, ob_some, ob_map, cal_v, rvs_some, rvs_none, XO_at, cal_x, m185, r185_0, r185_1, r185_3, r185_4, r185_7, r185_10, r185_11, r185_12, r185_13, r185_16, r185_19, r185_22, r185_23, r185_24, r185_27, r185_30, r185_31]
  rfl
/-- what trying forms leaves of the script -/
def JS (c : Nat) (s t : NS) : Prop := (∀ r j, ¬ r = 3 → ¬ (r = 20 ∧ (j = 5 ∨ j = 6)) → t r j = s r j) ∧ ∀ j, j < 3 * c → t 3 j = s 3 j
theorem JS_r : JS c s s := ⟨fun _ _ _ _ => rfl, fun _ _ => rfl⟩
theorem JS_t {t u : NS} (h1 : JS c s t) (h2 : JS c t u) : JS c s u := ⟨fun r j a e => (h2.1 r j a e).trans (h1.1 r j a e), fun j hj => (h2.2 j hj).trans (h1.2 j hj)⟩
theorem JS_P : JS c s (SP s c p as) := ⟨fun _ _ h3 h => SP_o h3 h, fun j hj => by
  rw [SP_3]
  exact if_neg (by omega)⟩
theorem JS_x {t : NS} (h : JS c s t) (hT : TX s l) (h4 : s 20 4 = Int32.ofNat c) : TX t l ∧ t 20 4 = Int32.ofNat c ∧ t 1 = s 1 := by
  have h1 : t 1 = s 1 := by
    funext j
    exact h.1 1 j (by decide) (by omega)
  refine ⟨⟨hT.1, by rw [h.1 20 1 (by decide) (by omega)]; exact hT.2.1, fun j hj => ?_⟩, by rw [h.1 20 4 (by decide) (by omega)]; exact h4, h1⟩
  rw [h1]
  exact hT.2.2 j hj
theorem JS_rd {t : NS} (h : t 1 = s 1) (bs : List Int32) : ∀ p as, rdF t l bs p as = rdF s l bs p as := by
  have hn : ∀ p, nx t l p = nx s l p := fun p => by unfold nx; rw [h]
  have hd : ∀ d p v, dgF t l d p v = dgF s l d p v := by
    intro d
    induction d with
    | zero => intro p v; rfl
    | succ d ih => intro p v; unfold dgF; rw [hn, ih]
  have hm : ∀ d p as, numF t l d p as = numF s l d p as := fun d p as => by unfold numF; rw [hd]
  have hp : ∀ u p as, ptF t l u p as = ptF s l u p as := fun u p as => by
    unfold ptF hrF oneF sgF
    rw [hn, hm, hm, hm]
  induction bs with
  | nil => intro p as; rfl
  | cons u us ih =>
    intro p as
    unfold rdF
    rw [hp, ih]
theorem SP_nil {t : NS} {q : Nat} : us (us t 20 5 (Int32.ofNat q)) 20 6 0 = SP t c q [] := by
  unfold SP
  have : ua t 3 (ag (t 3) (3 * c) []) = t := by
    have : ag (t 3) (3 * c) [] = t 3 := by
      funext i
      unfold ag
      exact if_neg (by rw [List.length_nil]; omega)
    rw [this]
    funext r
    unfold ua
    split
    · next e => rw [e]
    · rfl
  rw [this]
  rfl
end SCF
