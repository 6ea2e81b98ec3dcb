/-! A CHANGE PERFORMED -/
section PRF
set_option maxRecDepth 20000
variable {x : SX} {n b : Nat} {w : PW} {s : NS}
theorem bi_dec {P : Prop} [Decidable P] : bi (decide P) = if P then 1 else 0 := by by_cases h : P <;> simp [h, bi]
/-- what a change answers, what it makes of a canal -/
def pfS (s : NS) (c : Nat) (k u v z : Int32) : Int32 × NS :=
  if k = 0 then (s 20 26, lauS s c u v (decide (z = 100)))
  else if k = 1 then (s 4 (u * 2 + v).toNatClampNeg, us s 4 (u * 2 + v).toNatClampNeg z)
  else if k = 2 then (s 5 (u * 2 + v).toNatClampNeg, us s 5 (u * 2 + v).toNatClampNeg 0)
  else if k = 3 then (s 2 u.toNatClampNeg, us s 2 u.toNatClampNeg v)
  else if k = 4 then (s 20 4, us s 20 4 u)
  else if k = 5 then (fillS s u.toNatClampNeg v 7 u.toNatClampNeg, fillS s u.toNatClampNeg v)
  else if k = 6 then (Int32.ofNat (cnt (fun j => decide (¬ Int32.ofNat j = ixA (s 9) u c 0)) c), rvS s c (ixA (s 9) u c 0))
  else ((phS u.toNatClampNeg s c 0).2.2, pdS u.toNatClampNeg s c)
theorem patO_kd {v : Int32} (h : ¬ patO v = 0) : isKd v := by
  unfold patO at h
  unfold isKd
  split at h
  · next e => exact Or.inl e
  · split at h
    · next e => exact Or.inr (Or.inr (Or.inr e))
    · split at h
      · next e => exact Or.inr (Or.inr (Or.inl e))
      · split at h
        · next e => exact Or.inr (Or.inl e)
        · exact absurd rfl h
theorem in_nat {v : Int32} {lo hi : Nat} (hh : hi < 2147483648) (hl : lo < 2147483648) (h1 : ¬ v < Int32.ofNat lo) (h2 : ¬ Int32.ofNat hi < v) : ∃ a, lo ≤ a ∧ a ≤ hi ∧ v = Int32.ofNat a := by
  have h0 : 0 ≤ v := Int32.le_trans (Int32.not_lt.mp (nz hl)) (Int32.not_lt.mp h1)
  obtain ⟨a, ha, rfl⟩ := i_of h0
  rw [i_lt ha hl] at h1
  rw [i_lt hh ha] at h2
  exact ⟨a, by omega, by omega, rfl⟩
theorem c105 {c : Nat} {k u v z : Int32} (hI : IC s c) (hf : ftS s c k u v z = 0) : RM x 105 [.ref b, .int k, .int u, .int v, .int z] (setC w b s) n = some (.inl (some (.int (pfS s c k u v z).1)), setC w b (pfS s c k u v z).2, n) := by
  obtain ⟨⟨hc, h8, hk⟩, hB⟩ := id hI
  unfold ftS at hf
  unfold pfS
  by_cases k0 : k = 0
  · subst k0
    simp only [if_true] at hf ⊢
    have h1 : c < 8 := by
      by_cases g : c < 8
      · exact g
      · exfalso
        cases hb : (rg u 12 && (!decide (v < 1) && !decide (9 < v))) <;> simp [hb, g] at hf
    have h2 := fun d => c121 (x := x) (n := n) (b := b) (w := w) (u := u) (v := v) (z := bi d) (d := d) hc h1 rfl
    have h3 := h2 true
    have h4 := h2 false
    rw [bi_t] at h3
    rw [bi_f] at h4
    by_cases g : z = 100
    · simp only [csN, csm_i, csm_r, Nat.reduceAdd, Nat.reduceLeDiff, wdI, wdR, wdN, clM_0, clC_0, clC_1, clC_6, clC_8, true_or, or_true, i10, i01, ob_some, ob_map, cal_v, rvs_some, rvs_none, XO_at, cal_x, m105, r105_0, r105_1, r105_44, r105_45, r105_48, r105_49, r105_50, r105_52, r105_54, r105_57, r105_58, r105_61, r105_62, r105_65, r105_66, r105_67, r105_70, r105_71, r105_72, r105_74, r105_77, r105_78, r105_79, r105_82, r105_83, r105_84, r105_87, r105_88, r105_89, r105_92, r105_93, r105_94, r105_97, r105_98, r105_99, r105_100, r105_103, r105_104, r105_105, r105_108, r105_109, r105_110, r105_113, r105_114, r105_115, r105_118, r105_119, r105_122, r105_123, r105_126, r105_129, r105_130, r105_131, r105_132, r105_135, gC_0_2, h3, g, if_true, decide_true]
    · simp only [csN, csm_i, csm_r, Nat.reduceAdd, Nat.reduceLeDiff, wdI, wdR, wdN, clM_0, clC_0, clC_1, clC_6, clC_8, true_or, or_true, i10, i01, ob_some, ob_map, cal_v, rvs_some, rvs_none, XO_at, cal_x, m105, r105_0, r105_1, r105_44, r105_45, r105_48, r105_49, r105_50, r105_52, r105_54, r105_57, r105_58, r105_61, r105_62, r105_65, r105_66, r105_67, r105_70, r105_71, r105_72, r105_74, r105_77, r105_78, r105_79, r105_82, r105_83, r105_84, r105_87, r105_88, r105_89, r105_92, r105_93, r105_94, r105_97, r105_98, r105_99, r105_100, r105_103, r105_104, r105_105, r105_108, r105_109, r105_110, r105_113, r105_114, r105_115, r105_118, r105_119, r105_122, r105_123, r105_126, r105_129, r105_130, r105_131, r105_132, r105_135, gC_0_2, h4, g, if_true, if_false, decide_false]
  · by_cases k1 : k = 1
    · subst k1
      simp only [i10, if_true, if_false] at hf ⊢
      have hb : (rg u 5 && rg v 2) = true := by
        cases hb : (rg u 5 && rg v 2) with
        | true => rfl
        | false => rw [hb] at hf; cases hf
      rw [Bool.and_eq_true] at hb
      obtain ⟨g, hg, rfl⟩ := rg_nat (N := 5) (by omega) hb.1
      obtain ⟨t, ht, rfl⟩ := rg_nat (N := 2) (by omega) hb.2
      have h2 := c151 (x := x) (n := n) (b := b) (w := w) (s := s) (u := Int32.ofNat g) (v := Int32.ofNat t) (z := z) rfl rfl hg ht
      have h3 : (Int32.ofNat g * 2 + Int32.ofNat t).toNatClampNeg = g * 2 + t := by rw [i_g2, i32_cl (by omega)]
      simp only [csN, csm_i, csm_r, Nat.reduceAdd, Nat.reduceLeDiff, wdI, wdR, wdN, clM_0, clC_0, clC_1, clC_6, clC_8, true_or, or_true, i10, i01, ob_some, ob_map, cal_v, rvs_some, rvs_none, XO_at, cal_x, m105, r105_0, r105_1, r105_44, r105_45, r105_48, r105_49, r105_50, r105_52, r105_54, r105_57, r105_58, r105_61, r105_62, r105_65, r105_66, r105_67, r105_70, r105_71, r105_72, r105_74, r105_77, r105_78, r105_79, r105_82, r105_83, r105_84, r105_87, r105_88, r105_89, r105_92, r105_93, r105_94, r105_97, r105_98, r105_99, r105_100, r105_103, r105_104, r105_105, r105_108, r105_109, r105_110, r105_113, r105_114, r105_115, r105_118, r105_119, r105_122, r105_123, r105_126, r105_129, r105_130, r105_131, r105_132, r105_135, gC_0_0, h2, h3, if_true, if_false]
    · by_cases k2 : k = 2
      · subst k2
        simp only [show ((2 : Int32) = 0) = False from eq_false (by decide), show ((2 : Int32) = 1) = False from eq_false (by decide), if_true, if_false] at hf ⊢
        have hb : (rg u 5 && rg v 2) = true := by
          cases hb : (rg u 5 && rg v 2) with
          | true => rfl
          | false => rw [hb] at hf; cases hf
        rw [Bool.and_eq_true] at hb
        obtain ⟨g, hg, rfl⟩ := rg_nat (N := 5) (by omega) hb.1
        obtain ⟨t, ht, rfl⟩ := rg_nat (N := 2) (by omega) hb.2
        have h2 := c152 (x := x) (n := n) (b := b) (w := w) (s := s) (u := Int32.ofNat g) (v := Int32.ofNat t) rfl rfl hg ht
        have h3 : (Int32.ofNat g * 2 + Int32.ofNat t).toNatClampNeg = g * 2 + t := by rw [i_g2, i32_cl (by omega)]
        simp only [csN, csm_i, csm_r, Nat.reduceAdd, Nat.reduceLeDiff, wdI, wdR, wdN, clM_0, clC_0, clC_1, clC_6, clC_8, true_or, or_true, i10, i01, ob_some, ob_map, cal_v, rvs_some, rvs_none, XO_at, cal_x, m105, r105_0, r105_1, r105_44, r105_45, r105_48, r105_49, r105_50, r105_52, r105_54, r105_57, r105_58, r105_61, r105_62, r105_65, r105_66, r105_67, r105_70, r105_71, r105_72, r105_74, r105_77, r105_78, r105_79, r105_82, r105_83, r105_84, r105_87, r105_88, r105_89, r105_92, r105_93, r105_94, r105_97, r105_98, r105_99, r105_100, r105_103, r105_104, r105_105, r105_108, r105_109, r105_110, r105_113, r105_114, r105_115, r105_118, r105_119, r105_122, r105_123, r105_126, r105_129, r105_130, r105_131, r105_132, r105_135, gC_0_0, h2, h3, if_true, if_false]
        simp
      · by_cases k3 : k = 3
        · subst k3
          simp only [show ((3 : Int32) = 0) = False from eq_false (by decide), show ((3 : Int32) = 1) = False from eq_false (by decide), show ((3 : Int32) = 2) = False from eq_false (by decide), if_true, if_false] at hf ⊢
          have hb : rg u 5 = true ∧ ¬ patO v = 0 := by
            cases hb : rg u 5 with
            | true =>
              refine ⟨rfl, fun h0 => ?_⟩
              rw [hb] at hf
              simp [h0] at hf
            | false => rw [hb] at hf; cases hf
          obtain ⟨g, hg, rfl⟩ := rg_nat (N := 5) (by omega) hb.1
          have h2 := c153 (x := x) (n := n) (b := b) (w := w) (s := s) (u := Int32.ofNat g) (v := v) rfl hg (isKd_ch (hk g hg)) (patO_kd hb.2)
          have h3 : (Int32.ofNat g).toNatClampNeg = g := i32_cl (by omega)
          simp only [csN, csm_i, csm_r, Nat.reduceAdd, Nat.reduceLeDiff, wdI, wdR, wdN, clM_0, clC_0, clC_1, clC_6, clC_8, true_or, or_true, i10, i01, ob_some, ob_map, cal_v, rvs_some, rvs_none, XO_at, cal_x, m105, r105_0, r105_1, r105_44, r105_45, r105_48, r105_49, r105_50, r105_52, r105_54, r105_57, r105_58, r105_61, r105_62, r105_65, r105_66, r105_67, r105_70, r105_71, r105_72, r105_74, r105_77, r105_78, r105_79, r105_82, r105_83, r105_84, r105_87, r105_88, r105_89, r105_92, r105_93, r105_94, r105_97, r105_98, r105_99, r105_100, r105_103, r105_104, r105_105, r105_108, r105_109, r105_110, r105_113, r105_114, r105_115, r105_118, r105_119, r105_122, r105_123, r105_126, r105_129, r105_130, r105_131, r105_132, r105_135, gC_0_0, h2, h3, if_true, if_false]
          simp
        · by_cases k4 : k = 4
          · subst k4
            have h2 := c106 (x := x) (n := n) (b := b) (w := w) (s := s) (u := u)
            simp only [csN, csm_i, csm_r, Nat.reduceAdd, Nat.reduceLeDiff, wdI, wdR, wdN, clM_0, clC_0, clC_1, clC_6, clC_8, true_or, or_true, i10, i01, ob_some, ob_map, cal_v, rvs_some, rvs_none, XO_at, cal_x, m105, r105_0, r105_1, r105_44, r105_45, r105_48, r105_49, r105_50, r105_52, r105_54, r105_57, r105_58, r105_61, r105_62, r105_65, r105_66, r105_67, r105_70, r105_71, r105_72, r105_74, r105_77, r105_78, r105_79, r105_82, r105_83, r105_84, r105_87, r105_88, r105_89, r105_92, r105_93, r105_94, r105_97, r105_98, r105_99, r105_100, r105_103, r105_104, r105_105, r105_108, r105_109, r105_110, r105_113, r105_114, r105_115, r105_118, r105_119, r105_122, r105_123, r105_126, r105_129, r105_130, r105_131, r105_132, r105_135, h2, if_true, if_false]
            simp
          · by_cases k5 : k = 5
            · subst k5
              simp only [show ((5 : Int32) = 0) = False from eq_false (by decide), show ((5 : Int32) = 1) = False from eq_false (by decide), show ((5 : Int32) = 2) = False from eq_false (by decide), show ((5 : Int32) = 3) = False from eq_false (by decide), show ((5 : Int32) = 4) = False from eq_false (by decide), if_true, if_false] at hf ⊢
              have hb : rg u 6 = true := by
                cases hb : rg u 6 with
                | true => rfl
                | false => rw [hb] at hf; cases hf
              obtain ⟨g, hg, rfl⟩ := rg_nat (N := 6) (by omega) hb
              have h2 := c168 (x := x) (n := n) (b := b) (w := w) (s := s) (u := Int32.ofNat g) (v := v) rfl hg
              have h3 : (Int32.ofNat g).toNatClampNeg = g := i32_cl (by omega)
              simp only [csN, csm_i, csm_r, Nat.reduceAdd, Nat.reduceLeDiff, wdI, wdR, wdN, clM_0, clC_0, clC_1, clC_6, clC_8, true_or, or_true, i10, i01, ob_some, ob_map, cal_v, rvs_some, rvs_none, XO_at, cal_x, m105, r105_0, r105_1, r105_44, r105_45, r105_48, r105_49, r105_50, r105_52, r105_54, r105_57, r105_58, r105_61, r105_62, r105_65, r105_66, r105_67, r105_70, r105_71, r105_72, r105_74, r105_77, r105_78, r105_79, r105_82, r105_83, r105_84, r105_87, r105_88, r105_89, r105_92, r105_93, r105_94, r105_97, r105_98, r105_99, r105_100, r105_103, r105_104, r105_105, r105_108, r105_109, r105_110, r105_113, r105_114, r105_115, r105_118, r105_119, r105_122, r105_123, r105_126, r105_129, r105_130, r105_131, r105_132, r105_135, gC_0_1, h2, h3, if_true, if_false]
              simp
            · by_cases k6 : k = 6
              · subst k6
                have h1 := c122 (x := x) (n := n) (b := b) (w := w) (v := u) hc h8
                have h2 := fun u => c131 (x := x) (n := n) (b := b) (w := w) (u := u) hc h8
                simp only [csN, csm_i, csm_r, Nat.reduceAdd, Nat.reduceLeDiff, wdI, wdR, wdN, clM_0, clC_0, clC_1, clC_6, clC_8, true_or, or_true, i10, i01, ob_some, ob_map, cal_v, rvs_some, rvs_none, XO_at, cal_x, m105, r105_0, r105_1, r105_44, r105_45, r105_48, r105_49, r105_50, r105_52, r105_54, r105_57, r105_58, r105_61, r105_62, r105_65, r105_66, r105_67, r105_70, r105_71, r105_72, r105_74, r105_77, r105_78, r105_79, r105_82, r105_83, r105_84, r105_87, r105_88, r105_89, r105_92, r105_93, r105_94, r105_97, r105_98, r105_99, r105_100, r105_103, r105_104, r105_105, r105_108, r105_109, r105_110, r105_113, r105_114, r105_115, r105_118, r105_119, r105_122, r105_123, r105_126, r105_129, r105_130, r105_131, r105_132, r105_135, gC_0_2, h1, h2, if_true, if_false]
                simp
              · simp only [k0, k1, k2, k3, k4, k5, k6, if_false] at hf ⊢
                have hb : ¬ u < 1 ∧ ¬ 100 < u := by
                  by_cases g1 : u < 1
                  · simp [g1] at hf
                  · by_cases g2 : 100 < u
                    · simp [g2] at hf
                    · exact ⟨g1, g2⟩
                obtain ⟨H, h1, h2, rfl⟩ := in_nat (lo := 1) (hi := 100) (by omega) (by omega) hb.1 hb.2
                have h3 : (Int32.ofNat H).toNatClampNeg = H := i32_cl (by omega)
                have h4 := c107 (x := x) (n := n) (b := b) (w := w) (u := Int32.ofNat H) rfl (by omega) hI
                simp only [csN, csm_i, csm_r, Nat.reduceAdd, Nat.reduceLeDiff, wdI, wdR, wdN, clM_0, clC_0, clC_1, clC_6, clC_8, true_or, or_true, i10, i01, ob_some, ob_map, cal_v, rvs_some, rvs_none, XO_at, cal_x, m105, r105_0, r105_1, r105_44, r105_45, r105_48, r105_49, r105_50, r105_52, r105_54, r105_57, r105_58, r105_61, r105_62, r105_65, r105_66, r105_67, r105_70, r105_71, r105_72, r105_74, r105_77, r105_78, r105_79, r105_82, r105_83, r105_84, r105_87, r105_88, r105_89, r105_92, r105_93, r105_94, r105_97, r105_98, r105_99, r105_100, r105_103, r105_104, r105_105, r105_108, r105_109, r105_110, r105_113, r105_114, r105_115, r105_118, r105_119, r105_122, r105_123, r105_126, r105_129, r105_130, r105_131, r105_132, r105_135, h3, h4, k0, k1, k2, k3, k4, k5, k6, if_false]
end PRF
