/-! THE LAW begins -/
section BEG
set_option maxRecDepth 20000
variable {x : SX}
theorem RJ_0 : RJ s0C (m0M 1) 0 := by
  have k1 : ∀ r, r < 6 → s0C 7 r = m0M 1 (8 + r) := by decide +kernel
  have k2 : ∀ i, i < 5 → s0C 2 i = 77 ∧ m0M 1 (14 + i) = 0 := by decide +kernel
  have k3 : ∀ j, j < 10 → s0C 4 j = m0M 1 (19 + j) ∧ (s0C 4 j = 0 ∨ s0C 4 j = 4) := by decide +kernel
  have k4 : ∀ j, j < 10 → s0C 5 j = m0M 1 (29 + j) ∧ s0C 5 j = 0 := by decide +kernel
  have k5 : ∀ i, i < 5 → s0C 3 i = m0M 1 (39 + i) := by decide +kernel
  have k6 : ∀ r, r < 6 → s0C 7 r = 60 := by decide +kernel
  have kd : ∀ g, g < 5 → isKd (s0C 2 g) := fun g hg => Or.inl (k2 g hg).1
  refine ⟨⟨⟨⟨⟨by decide +kernel, by omega, kd⟩, fun j hj => by omega⟩, ⟨⟨by decide +kernel, by decide +kernel, by decide +kernel, by decide +kernel, by decide +kernel, by decide +kernel⟩, k1, fun i hi => ⟨0, by omega, (k2 i hi).2, (k2 i hi).1⟩, fun j hj => ⟨(k3 j hj).1, ?_⟩, fun j hj => ⟨(k4 j hj).1, 0, by omega, (k4 j hj).2⟩, k5⟩, by decide +kernel, fun j hj => by omega⟩, by decide +kernel⟩, fun r hr => ⟨60, by omega, k6 r hr⟩, by decide +kernel, fun r _ _ => Nat.zero_le _, 2, by omega, by decide +kernel⟩
  rcases (k3 j hj).2 with h | h
  · exact ⟨0, by omega, h⟩
  · exact ⟨4, by omega, h⟩
theorem beg : ∃ W, RM x 338 [.ref 9] (fun _ => none) 64 = RC x 338 28 [some (.ref 9), some (.ref 64), some (.ref 227), some (.ref 237), some (.ref 238), some (.int 0), none, none, none, none] [] W 239 ∧ FVe 0 W 239 0 := by
  obtain ⟨A, hA⟩ : ∃ A : PW, A = pupd (fun _ => none) 64 (.inr (6, fs6)) := ⟨_, rfl⟩
  have a0 : A 64 = some (.inr (6, fs6)) := by rw [hA]; exact pupd_same _ _ _
  have k64 : clo A 64 = some 6 := clo_of a0
  obtain ⟨W1, e1, hW, hsb, hbb⟩ := i34 (x := x) a0
  obtain ⟨B, hB⟩ : ∃ A : PW, A = pupd W1 227 (.inr (7, fs7)) := ⟨_, rfl⟩
  have b0 : B 227 = some (.inr (7, fs7)) := by rw [hB]; exact pupd_same _ _ _
  have k227 : clo B 227 = some 7 := clo_of b0
  obtain ⟨W2, e2, hm, ho⟩ := i191 (x := x) (p := 227) (n := 228) b0 (by omega)
  obtain ⟨W3, hW3⟩ : ∃ A : PW, A = pupd W2 237 (zA 3 1) := ⟨_, rfl⟩
  obtain ⟨W4, hW4⟩ : ∃ A : PW, A = pupd W3 238 (zA 4 1) := ⟨_, rfl⟩
  have o1 : ∀ i, i < 227 → W4 i = W1 i := fun i hi => by rw [hW4, pupd_ne (by omega), hW3, pupd_ne (by omega), ho i hi, hB, pupd_ne (by omega)]
  have om : ∀ k, k < 10 → W4 (227 + k) = some (cellM 227 m0M k) := fun k hk => by rw [hW4, pupd_ne (by omega), hW3, pupd_ne (by omega)]; exact hm k hk
  have h37 : W4 237 = some (lcl (fun _ => 0)) := by rw [hW4, pupd_ne (by omega), hW3]; exact pupd_same _ _ _
  have h38 : W4 238 = some (dcl (fun _ => 0)) := by rw [hW4]; exact pupd_same _ _ _
  have s0 : ∀ (lv : LV) st (w : PW), RC x 338 0 lv st w 64 = RC x 338 3 lv (.ref 64 :: st) (pupd w 64 (.inr (6, fs6))) 65 := fun lv st w => lw338_0
  have s8 : ∀ (lv : LV) st (w : PW), RC x 338 8 lv st w 227 = RC x 338 11 lv (.ref 227 :: st) (pupd w 227 (.inr (7, fs7))) 228 := fun lv st w => lw338_8
  have s17 : ∀ (lv : LV) (w : PW), RC x 338 17 lv [.int 1] w 237 = RC x 338 19 lv [.ref 237] (pupd w 237 (zA 3 1)) 238 := fun lv w => lw338_17 (by decide) (by decide) (by decide)
  have s21 : ∀ (lv : LV) (w : PW), RC x 338 21 lv [.int 1] w 238 = RC x 338 23 lv [.ref 238] (pupd w 238 (zA 4 1)) 239 := fun lv w => lw338_21 (by decide) (by decide) (by decide)
  refine ⟨W4, ?_, m0M, s0C, s0C, s0C, 0, -1, -1, fun j => j, fun _ => s0C, scr0, 0, 0, fun _ => 0, ⟨WD_ge hW (fun i hi => o1 i (by omega)), setW_self om, ⟨_, h37⟩, ⟨_, h38⟩, RJ_0, ⟨by omega, by decide +kernel, fun j hj => by omega⟩, by decide +kernel, Or.inl rfl, ⟨0, Nat.le_refl _, by decide +kernel, fun j hj => by omega⟩, fun j hj => by omega⟩, ⟨0, ⟨by omega, by decide +kernel, fun j hj => by omega⟩, ⟨by decide +kernel, fun j hj => by omega⟩, by decide +kernel, by decide +kernel⟩, ⟨226, 16, 0, 0, ⟨?_, Or.inl rfl, ⟨fun _ => 0, ?_, fun _ => ch_0, fun j hj => by omega⟩, Or.inl rfl, by omega, by omega, Or.inl rfl, by omega⟩, by decide +kernel⟩, by decide +kernel⟩
  · simp only [csN, csm_i, csm_r, Nat.reduceAdd, Nat.reduceLeDiff, wdI, wdR, wdN, clM_0, clC_0, clC_1, clC_6, clC_8, true_or, or_true, i10, i01, ob_some, ob_map, cal_v, rvs_some, rvs_none, XO_at, cal_x, m338, lw338_3, lw338_4, lw338_7, lw338_11, lw338_12, lw338_15, lw338_16, lw338_19, lw338_20, lw338_23, lw338_25, lw338_26, s0, hA.symm, k64, e1, s8, hB.symm, k227, e2, s17, hW3.symm, s21, hW4.symm]
  · rw [o1 225 (by omega)]; exact hsb
  · rw [o1 226 (by omega)]; exact hbb
end BEG
