/-! HOURS -/
section HRS
set_option maxRecDepth 20000
variable {x : SX} {n b : Nat} {w : PW} {s : NS}
/-- a barge on its way: down from a reach above the last, or up from one below the first -/
def WB (s : NS) (j : Nat) : Prop := (s 13 j = 1 ∧ ∃ r, r < 5 ∧ s 12 j = Int32.ofNat r) ∨ (s 13 j = -1 ∧ ∃ r, r < 5 ∧ s 12 j = Int32.ofNat (r + 1))
/-- .. or behind its last gate -/
def WA (s : NS) (j : Nat) : Prop := (s 13 j = 1 ∧ ∃ r, r < 6 ∧ s 12 j = Int32.ofNat r) ∨ (s 13 j = -1 ∧ ∃ r, r < 6 ∧ s 12 j = Int32.ofNat r)
theorem WA_of {j : Nat} (h : WB s j) : WA s j := by
  rcases h with ⟨h1, r, h2, h3⟩ | ⟨h1, r, h2, h3⟩
  · exact Or.inl ⟨h1, r, by omega, h3⟩
  · exact Or.inr ⟨h1, r + 1, by omega, h3⟩
theorem WB_of {j : Nat} (h : WA s j) (ha : ahS s j = true) : WB s j := by
  unfold ahS gaS at ha
  rcases h with ⟨h1, r, h2, h3⟩ | ⟨h1, r, h2, h3⟩
  · rw [h1, h3, if_pos (by decide)] at ha
    refine Or.inl ⟨h1, r, ?_, h3⟩
    have h5 : (5 : Int32) - Int32.ofNat r = Int32.ofNat (5 - r) := i_subL (k := 5) (by omega)
    rw [h5] at ha
    have := of_decide_eq_true ha
    rw [show (0 : Int32) = Int32.ofNat 0 from rfl, i_lt (by omega) (by omega)] at this
    omega
  · rw [h1, h3, if_neg (by decide)] at ha
    have := of_decide_eq_true ha
    rw [show (0 : Int32) = Int32.ofNat 0 from rfl, i_lt (by omega) (by omega)] at this
    refine Or.inr ⟨h1, r - 1, by omega, ?_⟩
    rw [h3, show r - 1 + 1 = r by omega]
/-- its gate, the reach ahead -/
def gN (s : NS) (j : Nat) : Nat := (s 12 j + mn (s 13 j) 0).toNatClampNeg
def rN (s : NS) (j : Nat) : Nat := (s 12 j + s 13 j).toNatClampNeg
theorem WB_gr {j : Nat} (h : WB s j) : gN s j < 5 ∧ rN s j < 6 ∧ s 12 j + s 13 j = Int32.ofNat (rN s j) ∧ s 12 j + mn (s 13 j) 0 = Int32.ofNat (gN s j) ∧ (s 12 j + s 13 j = Int32.ofNat (rN s j)) := by
  rcases h with ⟨h1, r, h2, h3⟩ | ⟨h1, r, h2, h3⟩
  · have e1 : s 12 j + s 13 j = Int32.ofNat (r + 1) := by rw [h1, h3]; exact i_add (b := 1)
    have e2 : s 12 j + mn (s 13 j) 0 = Int32.ofNat r := by rw [h1, h3, show mn 1 0 = 0 by decide, Int32.add_zero]
    unfold gN rN
    rw [e1, e2, i32_cl (by omega), i32_cl (by omega)]
    exact ⟨h2, by omega, rfl, rfl, rfl⟩
  · have e0 : Int32.ofNat (r + 1) + (-1) = Int32.ofNat r := by
      rw [← i_add (a := r) (b := 1), Int32.add_assoc, show Int32.ofNat 1 + (-1) = 0 by decide, Int32.add_zero]
    have e1 : s 12 j + s 13 j = Int32.ofNat r := by rw [h1, h3]; exact e0
    have e2 : s 12 j + mn (s 13 j) 0 = Int32.ofNat r := by rw [h1, h3, show mn (-1) 0 = -1 by decide]; exact e0
    unfold gN rN
    rw [e1, e2, i32_cl (by omega)]
    exact ⟨h2, by omega, rfl, rfl, rfl⟩
def okP (P : Int32) (g : Nat) : Prop := (P >>> (Int32.ofNat g &&& 31)) &&& 1 = 0
/-- the barge of the row i has its turn; P: the gates that are used -/
def stS (s : NS) (c i : Nat) (P : Int32) : NS × Int32 :=
  cond (decide ((P >>> (Int32.ofNat (gN s i) &&& 31)) &&& 1 = 0) && mpS s c i (gN s i) (rN s i)) (us (cpS (thruS s (gN s i)) (gN s i)) 12 i (cpS (thruS s (gN s i)) (gN s i) 12 i + cpS (thruS s (gN s i)) (gN s i) 13 i), P ||| 1 <<< (Int32.ofNat (gN s i) &&& 31)) (s, P)
def lpS (c : Nat) : Nat → Nat → NS → Int32 → NS
  | 0, _, s, _ => s
  | d + 1, i, s, P => lpS c d (i + 1) (stS s c i P).1 (stS s c i P).2
theorem pourS_ne {r a : Nat} {v : Int32} (h1 : ¬ a = 7) (h2 : ¬ a = 20) : pourS s r v a = s a := by
  unfold pourS
  rw [us_ne h2, us_ne h1]
theorem thruS_ne {g a : Nat} (h1 : ¬ a = 7) (h2 : ¬ a = 20) : thruS s g a = s a := by
  unfold thruS
  rw [pourS_ne h1 h2, us_ne h1]
theorem cpS_ne {g a : Nat} (h1 : ¬ a = 3) (h2 : ¬ a = 5) : cpS s g a = s a := by
  unfold cpS
  rw [us_ne h2, us_ne h2, us_ne h1]
theorem pourS_20 {r j : Nat} {v : Int32} (h : ¬ j = 13) : pourS s r v 20 j = s 20 j := by
  unfold pourS
  rw [us_at, if_pos rfl, if_neg h, us_ne (by decide)]
theorem thruS_20 {g j : Nat} (h : ¬ j = 13) : thruS s g 20 j = s 20 j := by
  unfold thruS
  rw [pourS_20 h, us_ne (by decide)]
theorem mvd_20 {g i j : Nat} {v : Int32} (h : ¬ j = 13) : us (cpS (thruS s g) g) 12 i v 20 j = s 20 j := by
  rw [us_ne (by decide), cpS_ne (by decide) (by decide), thruS_20 h]
theorem mvd_2 {g i : Nat} {v : Int32} : us (cpS (thruS s g) g) 12 i v 2 = s 2 := by
  rw [us_ne (by decide), cpS_ne (by decide) (by decide), thruS_ne (by decide) (by decide)]
theorem mvd_13 {g i : Nat} {v : Int32} : us (cpS (thruS s g) g) 12 i v 13 = s 13 := by
  rw [us_ne (by decide), cpS_ne (by decide) (by decide), thruS_ne (by decide) (by decide)]
theorem mvd_12 {g i j : Nat} {v : Int32} (h : ¬ j = i) : us (cpS (thruS s g) g) 12 i v 12 j = s 12 j := by
  rw [us_at, if_pos rfl, if_neg h, cpS_ne (by decide) (by decide), thruS_ne (by decide) (by decide)]
theorem OKC_st {c i : Nat} {P : Int32} (h : OKC s c) : OKC (stS s c i P).1 c := by
  unfold stS
  cases decide ((P >>> (Int32.ofNat (gN s i) &&& 31)) &&& 1 = 0) && mpS s c i (gN s i) (rN s i) with
  | false => exact h
  | true =>
    obtain ⟨h1, h2, h3⟩ := h
    simp only [cond_true]
    exact ⟨by rw [mvd_20 (by decide), h1], h2, fun g hg => by rw [mvd_2]; exact h3 g hg⟩
theorem WB_st {c i j : Nat} {P : Int32} (hj : ¬ j = i) (h : WB s j) : WB (stS s c i P).1 j := by
  unfold stS
  cases decide ((P >>> (Int32.ofNat (gN s i) &&& 31)) &&& 1 = 0) && mpS s c i (gN s i) (rN s i) with
  | false => exact h
  | true =>
    simp only [cond_true]
    unfold WB at h ⊢
    rw [mvd_13, mvd_12 hj]
    exact h
theorem WA_st {c i j : Nat} {P : Int32} (hj : ¬ j = i) (h : WA s j) : WA (stS s c i P).1 j := by
  unfold stS
  cases decide ((P >>> (Int32.ofNat (gN s i) &&& 31)) &&& 1 = 0) && mpS s c i (gN s i) (rN s i) with
  | false => exact h
  | true =>
    simp only [cond_true]
    unfold WA at h ⊢
    rw [mvd_13, mvd_12 hj]
    exact h
theorem WA_sti {c i : Nat} {P : Int32} (h : WB s i) : WA (stS s c i P).1 i := by
  unfold stS
  cases decide ((P >>> (Int32.ofNat (gN s i) &&& 31)) &&& 1 = 0) && mpS s c i (gN s i) (rN s i) with
  | false => exact WA_of h
  | true =>
    simp only [cond_true]
    obtain ⟨h1, h2, h3, h4, -⟩ := WB_gr h
    have e12 : cpS (thruS s (gN s i)) (gN s i) 12 = s 12 := by rw [cpS_ne (by decide) (by decide), thruS_ne (by decide) (by decide)]
    have e13 : cpS (thruS s (gN s i)) (gN s i) 13 = s 13 := by rw [cpS_ne (by decide) (by decide), thruS_ne (by decide) (by decide)]
    unfold WA
    rw [mvd_13, us_at, if_pos rfl, if_pos rfl, e12, e13, h3]
    rcases h with ⟨g1, -⟩ | ⟨g1, -⟩
    · exact Or.inl ⟨g1, _, h2, rfl⟩
    · exact Or.inr ⟨g1, _, h2, rfl⟩
/-- in the midst of an hour, at the row i -/
def IL (s : NS) (c i : Nat) : Prop := OKC s c ∧ (∀ j, i ≤ j → j < c → WB s j) ∧ (∀ j, j < i → WA s j)
theorem IL_st {c i : Nat} {P : Int32} (h : IL s c i) (hi : i < c) : IL (stS s c i P).1 c (i + 1) := by
  obtain ⟨h1, h2, h3⟩ := h
  refine ⟨OKC_st h1, fun j h4 h5 => WB_st (by omega) (h2 j (by omega) h5), fun j h4 => ?_⟩
  by_cases hj : j = i
  · subst hj
    exact WA_sti (h2 j (Nat.le_refl _) hi)
  · exact WA_st hj (h3 j (by omega))
theorem IL_lp {c : Nat} (d : Nat) : ∀ (i : Nat) (s : NS) (P : Int32), i + d = c → IL s c i → IL (lpS c d i s P) c c := by
  induction d with
  | zero => intro i s P h hI; obtain rfl : i = c := by omega
            exact hI
  | succ d ih => intro i s P h hI; exact ih (i + 1) _ _ (by omega) (IL_st hI (by omega))
/-- a canal whose barges are on their way -/
def IC (s : NS) (c : Nat) : Prop := OKC s c ∧ ∀ j, j < c → WB s j
def h1S (s : NS) : NS := flowS (us s 20 3 (s 20 3 + 1)) (s 20 4)
theorem flowS_ne {a : Nat} {v : Int32} (h1 : ¬ a = 7) (h2 : ¬ a = 20) : flowS s v a = s a := by
  unfold flowS
  rw [pourS_ne h1 h2, us_ne h2]
theorem h1S_ne {a : Nat} (h1 : ¬ a = 7) (h2 : ¬ a = 20) : h1S s a = s a := by
  unfold h1S
  rw [flowS_ne h1 h2, us_ne h2]
theorem h1S_20 {j : Nat} (h1 : ¬ j = 3) (h2 : ¬ j = 11) (h3 : ¬ j = 13) : h1S s 20 j = s 20 j := by
  unfold h1S flowS
  rw [pourS_20 h3, us_at, if_pos rfl, if_neg h2, us_at, if_pos rfl, if_neg h1]
theorem IL_h1 {c : Nat} (h : IC s c) : IL (h1S s) c 0 := by
  obtain ⟨⟨h1, h2, h3⟩, h4⟩ := h
  refine ⟨⟨by rw [h1S_20 (by decide) (by decide) (by decide), h1], h2, fun g hg => by rw [h1S_ne (by decide) (by decide)]; exact h3 g hg⟩, fun j _ hj => ?_, fun j hj => by omega⟩
  have := h4 j hj
  unfold WB at this ⊢
  rw [h1S_ne (by decide) (by decide), h1S_ne (by decide) (by decide)]
  exact this
def mdS (s : NS) (c : Nat) : NS := lpS c c 0 (h1S s) 0
/-- an hour; how many barges are left -/
def hrS (s : NS) (c : Nat) : NS := arS (mdS s c) c
def hrC (s : NS) (c : Nat) : Nat := cnt (ahS (mdS s c)) c
theorem kept_ex {p : Nat → Bool} {c j : Nat} (h : j < cnt p c) : ∃ m, m < c ∧ p m = true ∧ cnt p m = j := by
  induction c with
  | zero => exact absurd h (by simp [cnt])
  | succ c ih =>
    rw [cnt_s] at h
    cases hp : p c with
    | true =>
      rw [hp, cond_true] at h
      by_cases hj : j = cnt p c
      · exact ⟨c, by omega, hp, hj.symm⟩
      · obtain ⟨m, h1, h2, h3⟩ := ih (by omega)
        exact ⟨m, by omega, h2, h3⟩
    | false =>
      rw [hp, cond_false] at h
      obtain ⟨m, h1, h2, h3⟩ := ih h
      exact ⟨m, by omega, h2, h3⟩
theorem IC_hr {c : Nat} (h : IC s c) : IC (hrS s c) (hrC s c) := by
  obtain ⟨⟨g1, g2, g3⟩, -, h3⟩ := IL_lp c 0 (h1S s) 0 (by omega) (IL_h1 h)
  have hle := cnt_le (ahS (mdS s c)) c
  unfold hrS hrC arS
  refine ⟨⟨?_, by omega, fun g hg => ?_⟩, fun j hj => ?_⟩
  · rw [us_at, if_pos rfl, if_pos rfl]
  · rw [us_ne (by decide), flA_out (by decide)]
    exact g3 g hg
  · obtain ⟨m, m1, m2, m3⟩ := kept_ex hj
    have hb := WB_of (h3 m m1) m2
    unfold WB at hb ⊢
    rw [us_ne (by decide), us_ne (by decide), ← m3, flA_lo (by simp) c m m1 m2, flA_lo (by simp) c m m1 m2]
    exact hb
theorem l107 {c : Nat} {u z y : Int32} (d : Nat) : ∀ (i : Nat) (s : NS) (P : Int32) (e : Option Value), i + d = c → IL s c i → ∃ P' e', 
    RC x 107 36 [some (.ref b), some (.int u), some (.int z), some (.int y), some (.int P), some (.int (Int32.ofNat i)), e] [] (setC w b s) n =
    RC x 107 4 [some (.ref b), some (.int u), some (.int (z + (Int32.ofNat c - Int32.ofNat (cnt (ahS (lpS c d i s P)) c)))), some (.int (y + 1)), some (.int P'), some (.int (Int32.ofNat c)), e'] [] (setC w b (arS (lpS c d i s P) c)) n := by
  induction d with
  | zero =>
    intro i s P e h hI
    obtain rfl : i = c := by omega
    obtain ⟨⟨hc, h8, hk⟩, -, -⟩ := hI
    refine ⟨P, e, ?_⟩
    rw [r107_36]
    have h1 : ¬ Int32.ofNat i < Int32.ofNat i := by rw [i_lt (by omega) (by omega)]; omega
    have h2 := c132 (x := x) (n := n) (b := b) (w := w) (s := s) hc h8
    simp only [csN, csm_i, csm_r, Nat.reduceAdd, Nat.reduceLeDiff, wdI, wdR, wdN, clM_0, clC_0, clC_1, clC_6, clC_8, true_or, or_true, i10, i01, ob_some, ob_map, cal_v, rvs_some, rvs_none, XO_at, cal_x, m107, r107_0, r107_1, r107_2, r107_3, r107_5, r107_6, r107_9, r107_10, r107_11, r107_14, r107_15, r107_16, r107_19, r107_20, r107_23, r107_24, r107_27, r107_30, r107_31, r107_33, r107_34, r107_38, r107_39, r107_42, r107_45, r107_48, r107_49, r107_52, r107_54, r107_57, r107_59, r107_61, r107_63, r107_64, r107_65, r107_66, r107_69, r107_70, r107_72, r107_75, r107_78, r107_80, r107_81, r107_83, r107_84, r107_85, r107_87, r107_88, r107_91, r107_93, r107_96, r107_97, r107_100, r107_102, r107_105, r107_106, r107_109, r107_111, r107_114, r107_117, r107_120, r107_121, r107_122, r107_125, r107_128, r107_129, r107_130, r107_133, r107_136, r107_137, r107_138, r107_141, r107_142, r107_143, r107_146, r107_147, gC_0_2, gC_8_5, hc, h1, h2, if_false, lpS]
  | succ d ih =>
    intro i s P e h hI
    obtain ⟨hC, hB, hA⟩ := id hI
    obtain ⟨hc, h8, hk⟩ := id hC
    obtain ⟨g1, g2, g3, g4, -⟩ := WB_gr (hB i (Nat.le_refl _) (by omega))
    have h1 : Int32.ofNat i < Int32.ofNat c := nlt (by omega) (by omega) (by omega)
    have h2 : Int32.ofNat i + 1 = Int32.ofNat (i + 1) := i_add (b := 1)
    have h3 : ∀ f : Nat → Int32, atv 8 f (Int32.ofNat i) = f i := fun f => atv_nat (by omega) (by omega)
    have h4 := c108 (x := x) (n := n) (b := b) (w := w) (u := Int32.ofNat i) rfl hC (by omega) g2 g1 g3 g4
    have e1 := c170 (x := x) (n := n) (b := b) (w := w) (s := s) (u := Int32.ofNat (gN s i)) rfl g1
    have e2 := fun s' => c154 (x := x) (n := n) (b := b) (w := w) (s := s') (u := Int32.ofNat (gN s i)) rfl g1
    have e3 := fun s' => c130 (x := x) (n := n) (b := b) (w := w) (s := s') (u := Int32.ofNat i) rfl (by omega)
    obtain ⟨P', e', hh⟩ := ih (i + 1) (stS s c i P).1 (stS s c i P).2 (some (.int (Int32.ofNat (gN s i)))) (by omega) (IL_st hI (by omega))
    refine ⟨P', e', ?_⟩
    rw [r107_36]
    simp only [csN, csm_i, csm_r, Nat.reduceAdd, Nat.reduceLeDiff, wdI, wdR, wdN, clM_0, clC_0, clC_1, clC_6, clC_8, true_or, or_true, i10, i01, ob_some, ob_map, cal_v, rvs_some, rvs_none, XO_at, cal_x, m107, r107_0, r107_1, r107_2, r107_3, r107_5, r107_6, r107_9, r107_10, r107_11, r107_14, r107_15, r107_16, r107_19, r107_20, r107_23, r107_24, r107_27, r107_30, r107_31, r107_33, r107_34, r107_38, r107_39, r107_42, r107_45, r107_48, r107_49, r107_52, r107_54, r107_57, r107_59, r107_61, r107_63, r107_64, r107_65, r107_66, r107_69, r107_70, r107_72, r107_75, r107_78, r107_80, r107_81, r107_83, r107_84, r107_85, r107_87, r107_88, r107_91, r107_93, r107_96, r107_97, r107_100, r107_102, r107_105, r107_106, r107_109, r107_111, r107_114, r107_117, r107_120, r107_121, r107_122, r107_125, r107_128, r107_129, r107_130, r107_133, r107_136, r107_137, r107_138, r107_141, r107_142, r107_143, r107_146, r107_147, gC_0_0, gC_0_1, gC_0_2, gC_8_5, hc, h1, h2, h3, h4, c128, g4, e1, e2, e3, bi_eq0, if_true]
    unfold lpS
    rw [← hh]
    unfold stS
    by_cases a1 : (P >>> (Int32.ofNat (gN s i) &&& 31)) &&& 1 = 0
    · cases a2 : mpS s c i (gN s i) (rN s i) with
      | true => simp only [a1, if_true, if_false, decide_true, Bool.and_self, cond_true, reduceCtorEq]
      | false => simp only [a1, if_true, decide_true, Bool.true_and, cond_false]
    · simp only [a1, if_false, decide_false, Bool.false_and, cond_false]
/-- hours: what has become of the canal, of its barges' number, of the sum of those that left -/
def phS : Nat → NS → Nat → Int32 → NS × Nat × Int32
  | 0, s, c, L => (s, c, L)
  | d + 1, s, c, L => phS d (hrS s c) (hrC s c) (L + (Int32.ofNat c - Int32.ofNat (hrC s c)))
theorem IC_ph (d : Nat) : ∀ (s : NS) (c : Nat) (L : Int32), IC s c → IC (phS d s c L).1 (phS d s c L).2.1 := by
  induction d with
  | zero => intro s c L h; exact h
  | succ d ih => intro s c L h; exact ih _ _ _ (IC_hr h)
def pdS (H : Nat) (s : NS) (c : Nat) : NS := us (phS H s c 0).1 20 5 ((phS H s c 0).1 20 5 + (phS H s c 0).2.2)
theorem l107b {H : Nat} (hH : H ≤ 1000) (d : Nat) : ∀ (j : Nat) (s : NS) (c : Nat) (L : Int32) (e1 e2 e3 : Option Value), j + d = H → IC s c →
    RC x 107 4 [some (.ref b), some (.int (Int32.ofNat H)), some (.int L), some (.int (Int32.ofNat j)), e1, e2, e3] [] (setC w b s) n = some (.inl (some (.int (phS d s c L).2.2)), setC w b (us (phS d s c L).1 20 5 ((phS d s c L).1 20 5 + (phS d s c L).2.2)), n) := by
  induction d with
  | zero =>
    intro j s c L e1 e2 e3 h hI
    obtain rfl : j = H := by omega
    rw [r107_4]
    have h1 : ¬ Int32.ofNat j < Int32.ofNat j := by rw [i_lt (by omega) (by omega)]; omega
    simp only [csN, csm_i, csm_r, Nat.reduceAdd, Nat.reduceLeDiff, wdI, wdR, wdN, clM_0, clC_0, clC_1, clC_6, clC_8, true_or, or_true, i10, i01, ob_some, ob_map, cal_v, rvs_some, rvs_none, XO_at, cal_x, m107, r107_0, r107_1, r107_2, r107_3, r107_5, r107_6, r107_9, r107_10, r107_11, r107_14, r107_15, r107_16, r107_19, r107_20, r107_23, r107_24, r107_27, r107_30, r107_31, r107_33, r107_34, r107_38, r107_39, r107_42, r107_45, r107_48, r107_49, r107_52, r107_54, r107_57, r107_59, r107_61, r107_63, r107_64, r107_65, r107_66, r107_69, r107_70, r107_72, r107_75, r107_78, r107_80, r107_81, r107_83, r107_84, r107_85, r107_87, r107_88, r107_91, r107_93, r107_96, r107_97, r107_100, r107_102, r107_105, r107_106, r107_109, r107_111, r107_114, r107_117, r107_120, r107_121, r107_122, r107_125, r107_128, r107_129, r107_130, r107_133, r107_136, r107_137, r107_138, r107_141, r107_142, r107_143, r107_146, r107_147, gC_0_5, pC_0_5, h1, if_false, phS]
  | succ d ih =>
    intro j s c L e1 e2 e3 h hI
    rw [r107_4]
    have h1 : Int32.ofNat j < Int32.ofNat H := nlt (by omega) (by omega) (by omega)
    have h2 : Int32.ofNat j + 1 = Int32.ofNat (j + 1) := i_add (b := 1)
    obtain ⟨P', e', hh⟩ := l107 (x := x) (n := n) (b := b) (w := w) (u := Int32.ofNat H) (z := L) (y := Int32.ofNat j) c 0 (h1S s) 0 e3 (by omega) (IL_h1 hI)
    have e4 : us s 20 3 (s 20 3 + 1) 20 4 = s 20 4 := by rw [us_at, if_pos rfl, if_neg (by decide)]
    simp only [csN, csm_i, csm_r, Nat.reduceAdd, Nat.reduceLeDiff, wdI, wdR, wdN, clM_0, clC_0, clC_1, clC_6, clC_8, true_or, or_true, i10, i01, ob_some, ob_map, cal_v, rvs_some, rvs_none, XO_at, cal_x, m107, r107_0, r107_1, r107_2, r107_3, r107_5, r107_6, r107_9, r107_10, r107_11, r107_14, r107_15, r107_16, r107_19, r107_20, r107_23, r107_24, r107_27, r107_30, r107_31, r107_33, r107_34, r107_38, r107_39, r107_42, r107_45, r107_48, r107_49, r107_52, r107_54, r107_57, r107_59, r107_61, r107_63, r107_64, r107_65, r107_66, r107_69, r107_70, r107_72, r107_75, r107_78, r107_80, r107_81, r107_83, r107_84, r107_85, r107_87, r107_88, r107_91, r107_93, r107_96, r107_97, r107_100, r107_102, r107_105, r107_106, r107_109, r107_111, r107_114, r107_117, r107_120, r107_121, r107_122, r107_125, r107_128, r107_129, r107_130, r107_133, r107_136, r107_137, r107_138, r107_141, r107_142, r107_143, r107_146, r107_147, gC_0_1, gC_0_3, gC_0_4, pC_0_3, c169, h1, e4, if_true]
    show RC x 107 36 [some (.ref b), some (.int (Int32.ofNat H)), some (.int L), some (.int (Int32.ofNat j)), some (.int 0), some (.int (Int32.ofNat 0)), e3] [] (setC w b (h1S s)) n = _
    rw [hh, h2]
    exact ih (j + 1) (hrS s c) (hrC s c) _ _ _ _ (by omega) (IC_hr hI)
theorem c107 {H c : Nat} {u : Int32} (hu : u = Int32.ofNat H) (hH : H ≤ 1000) (hI : IC s c) : RM x 107 [.ref b, .int u] (setC w b s) n = some (.inl (some (.int (phS H s c 0).2.2)), setC w b (pdS H s c), n) := by
  subst hu
  simp only [csN, csm_i, csm_r, Nat.reduceAdd, Nat.reduceLeDiff, wdI, wdR, wdN, clM_0, clC_0, clC_1, clC_6, clC_8, true_or, or_true, i10, i01, ob_some, ob_map, cal_v, rvs_some, rvs_none, XO_at, cal_x, m107, r107_0, r107_1, r107_2, r107_3, r107_5, r107_6, r107_9, r107_10, r107_11, r107_14, r107_15, r107_16, r107_19, r107_20, r107_23, r107_24, r107_27, r107_30, r107_31, r107_33, r107_34, r107_36, r107_38, r107_39, r107_42, r107_45, r107_48, r107_49, r107_52, r107_54, r107_57, r107_59, r107_61, r107_63, r107_64, r107_65, r107_66, r107_69, r107_70, r107_72, r107_75, r107_78, r107_80, r107_81, r107_83, r107_84, r107_85, r107_87, r107_88, r107_91, r107_93, r107_96, r107_97, r107_100, r107_102, r107_105, r107_106, r107_109, r107_111, r107_114, r107_117, r107_120, r107_121, r107_122, r107_125, r107_128, r107_129, r107_130, r107_133, r107_136, r107_137, r107_138, r107_141, r107_142, r107_143, r107_146, r107_147]
  exact l107b hH H 0 s c 0 _ _ _ (by omega) hI
end HRS
