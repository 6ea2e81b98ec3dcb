/-! THE BOUNDS ARE KEPT: water, accounts, barges in a reach -/
section JCP
set_option maxRecDepth 20000
variable {c : Nat} {s : NS}
def WT (s : NS) : Prop := ∀ r, r < 6 → ∃ a, a < 91 ∧ s 7 r = Int32.ofNat a
def AC (s : NS) (e : Int32) : Prop := sumTo (s 7) 6 + s 20 13 + e = 360 + s 20 11 + s 20 12
theorem mn_nat {u v : Nat} (hu : u < 2147483648) (hv : v < 2147483648) : mn (Int32.ofNat u) (Int32.ofNat v) = Int32.ofNat (min u v) := by
  unfold mn
  by_cases h : v < u
  · rw [if_pos (by rw [i_lt hv hu]; exact h), Nat.min_eq_right (by omega)]
  · rw [if_neg (by rw [i_lt hv hu]; exact h), Nat.min_eq_left (by omega)]
theorem i_subN {u k : Nat} (h : k ≤ u) : Int32.ofNat u - Int32.ofNat k = Int32.ofNat (u - k) := by
  have e : Int32.ofNat u = Int32.ofNat (u - k) + Int32.ofNat k := by rw [i_add, show u - k + k = u by omega]
  rw [e, Int32.add_sub_cancel]
theorem sumTo_upd {f g : Nat → Int32} {r N : Nat} {d : Int32} (h1 : g r = f r + d) (h2 : ∀ j, ¬ j = r → g j = f j) (hr : r < N) : sumTo g N = sumTo f N + d := by
  induction N with
  | zero => omega
  | succ N ih =>
    unfold sumTo
    by_cases hN : r = N
    · subst hN
      rw [h1, sumTo_congr (fun i hi => h2 i (by omega)), Int32.add_assoc]
    · rw [ih (by omega), h2 N (fun e => hN e.symm)]
      ac_rfl
theorem WT_c {t : NS} (h : WT s) (h7 : t 7 = s 7) : WT t := fun r hr => by rw [h7]; exact h r hr
theorem AC_c {t : NS} {e : Int32} (h : AC s e) (h7 : t 7 = s 7) (a : t 20 11 = s 20 11) (b : t 20 12 = s 20 12) (d : t 20 13 = s 20 13) : AC t e := by
  unfold AC at h ⊢
  rw [h7, a, b, d]
  exact h
theorem pour_J {r u : Nat} (hr : r < 6) (hu : u < 1000) (hW : WT s) (hA : AC s (Int32.ofNat u)) : WT (pourS s r (Int32.ofNat u)) ∧ AC (pourS s r (Int32.ofNat u)) 0 := by
  obtain ⟨a, ha, e⟩ := hW r hr
  have e90 : (90 : Int32) - s 7 r = Int32.ofNat (90 - a) := by rw [e]; exact i_subL (k := 90) (by omega)
  obtain ⟨k, hk⟩ : ∃ k, k = min u (90 - a) := ⟨_, rfl⟩
  have em : mn (Int32.ofNat u) (90 - s 7 r) = Int32.ofNat k := by rw [e90, mn_nat (by omega) (by omega), hk]
  obtain ⟨d, hd⟩ : ∃ d, u = k + d := ⟨u - k, by omega⟩
  have ed : Int32.ofNat u = Int32.ofNat k + Int32.ofNat d := by rw [hd]; exact i_add.symm
  have es : Int32.ofNat u - Int32.ofNat k = Int32.ofNat d := by
    rw [i_subN (by omega), show u - k = d by omega]
  have p7 : ∀ j, pourS s r (Int32.ofNat u) 7 j = if j = r then s 7 r + Int32.ofNat k else s 7 j := fun j => by
    unfold pourS
    rw [us_ne (by decide), us_at, if_pos rfl, em]
  have p20 : ∀ j, pourS s r (Int32.ofNat u) 20 j = if j = 13 then s 20 13 + Int32.ofNat d else s 20 j := fun j => by
    unfold pourS
    rw [us_at, if_pos rfl, em, es, us_ne (by decide)]
  refine ⟨fun j hj => ?_, ?_⟩
  · rw [p7]
    by_cases h : j = r
    · rw [if_pos h, e, i_add]
      exact ⟨a + k, by omega, rfl⟩
    · rw [if_neg h]
      exact hW j hj
  · unfold AC at hA ⊢
    have h1 := sumTo_upd (f := s 7) (g := pourS s r (Int32.ofNat u) 7) (r := r) (N := 6) (d := Int32.ofNat k) (by rw [p7, if_pos rfl]) (fun j hj => by rw [p7, if_neg hj]) hr
    rw [h1, p20, if_pos rfl, p20, if_neg (by decide), p20, if_neg (by decide), ← hA, ed, Int32.add_zero]
    ac_rfl
theorem flow_J {u : Nat} (hu : u < 1000) (hW : WT s) (hA : AC s 0) : WT (flowS s (Int32.ofNat u)) ∧ AC (flowS s (Int32.ofNat u)) 0 := by
  unfold flowS
  refine pour_J (by omega) hu (WT_c hW (us_ne (by decide))) ?_
  unfold AC at hA ⊢
  rw [Int32.add_zero] at hA
  rw [us_ne (by decide), us_at, if_pos rfl, if_neg (by decide), us_at, if_pos rfl, if_pos rfl, us_at, if_pos rfl, if_neg (by decide), hA]
  ac_rfl
theorem fill_J {r u : Nat} (hr : r < 6) (hu : u < 1000) (hW : WT s) (hA : AC s 0) : WT (fillS s r (Int32.ofNat u)) ∧ AC (fillS s r (Int32.ofNat u)) 0 := by
  unfold fillS
  refine pour_J hr hu (WT_c hW (us_ne (by decide))) ?_
  unfold AC at hA ⊢
  rw [Int32.add_zero] at hA
  rw [us_ne (by decide), us_at, if_pos rfl, if_neg (by decide), us_at, if_pos rfl, if_neg (by decide), us_at, if_pos rfl, if_pos rfl, hA]
  ac_rfl
theorem thru_J {g : Nat} (hg : g < 5) (hW : WT s) (hA : AC s 0) : WT (thruS s g) ∧ AC (thruS s g) 0 := by
  obtain ⟨a, ha, e⟩ := hW g (by omega)
  have em : mn 6 (s 7 g) = Int32.ofNat (min 6 a) := by rw [e]; exact mn_nat (u := 6) (by omega) (by omega)
  have es : s 7 g - Int32.ofNat (min 6 a) = Int32.ofNat (a - min 6 a) := by rw [e, i_subN (by omega)]
  unfold thruS
  rw [em, es]
  have p7 : ∀ j, us s 7 g (Int32.ofNat (a - min 6 a)) 7 j = if j = g then Int32.ofNat (a - min 6 a) else s 7 j := fun j => by rw [us_at, if_pos rfl]
  refine pour_J (by omega) (by omega) (fun j hj => ?_) ?_
  · rw [p7]
    by_cases h : j = g
    · rw [if_pos h]; exact ⟨_, by omega, rfl⟩
    · rw [if_neg h]; exact hW j hj
  · unfold AC at hA ⊢
    have h1 := sumTo_upd (g := s 7) (f := us s 7 g (Int32.ofNat (a - min 6 a)) 7) (r := g) (N := 6) (d := Int32.ofNat (min 6 a)) (by rw [p7, if_pos rfl, i_add, e, show a - min 6 a + min 6 a = a by omega]) (fun j hj => by rw [p7, if_neg hj]) (by omega)
    have o : ∀ j, us s 7 g (Int32.ofNat (a - min 6 a)) 20 j = s 20 j := fun j => by rw [us_ne (by decide)]
    rw [o, o, o, ← hA, h1, Int32.add_zero]
    ac_rfl
def LM (s : NS) (c : Nat) : Prop := ∀ r : Nat, 0 < r → r < 5 → ctS s c (Int32.ofNat r) ≤ 3
theorem cnt_sub {p p' : Nat → Bool} {k : Nat} (h : ∀ j, j < k → p' j = true → p j = true) : cnt p' k ≤ cnt p k := by
  induction k with
  | zero => exact Nat.le_refl _
  | succ k ih =>
    have := ih (fun j hj => h j (by omega))
    rw [cnt_s, cnt_s]
    cases h1 : p' k with
    | true => rw [h k (by omega) h1, cond_true, cond_true]; omega
    | false => rw [cond_false]; cases p k <;> simp only [cond_true, cond_false] <;> omega
theorem cnt_one {p p' : Nat → Bool} {i k : Nat} (h : ∀ j, ¬ j = i → p' j = p j) : cnt p' k ≤ cnt p k + 1 := by
  induction k with
  | zero => exact Nat.zero_le _
  | succ k ih =>
    rw [cnt_s, cnt_s]
    by_cases hk : k = i
    · have e : cnt p' k = cnt p k := cnt_congr (fun j hj => h j (by omega))
      rw [e]
      cases p' k <;> cases p k <;> simp only [cond_true, cond_false] <;> omega
    · rw [h k hk]
      cases p k <;> simp only [cond_true, cond_false] <;> omega
theorem st_J {i : Nat} {P : Int32} (hi : i < c) (hB : WB s i) (hW : WT s) (hA : AC s 0) (hL : LM s c) : WT (stS s c i P).1 ∧ AC (stS s c i P).1 0 ∧ LM (stS s c i P).1 c := by
  obtain ⟨g1, g2, g3, g4, -⟩ := WB_gr hB
  unfold stS
  cases hb : decide ((P >>> (Int32.ofNat (gN s i) &&& 31)) &&& 1 = 0) && mpS s c i (gN s i) (rN s i) with
  | false => exact ⟨hW, hA, hL⟩
  | true =>
    rw [cond_true]
    dsimp only
    rw [Bool.and_eq_true] at hb
    have hm := hb.2
    unfold mpS at hm
    rw [Bool.and_eq_true, Bool.and_eq_true] at hm
    have hr := hm.2.1
    obtain ⟨k1, k2⟩ := thru_J g1 hW hA
    have r12 : ∀ a, ¬ a = 3 → ¬ a = 5 → ¬ a = 7 → ¬ a = 20 → cpS (thruS s (gN s i)) (gN s i) a = s a := fun a h3 h5 h7 h20 => by rw [cpS_ne h3 h5, thruS_ne h7 h20]
    rw [r12 12 (by decide) (by decide) (by decide) (by decide), r12 13 (by decide) (by decide) (by decide) (by decide), g3]
    refine ⟨WT_c k1 (by rw [us_ne (by decide), cpS_ne (by decide) (by decide)]), AC_c k2 (by rw [us_ne (by decide), cpS_ne (by decide) (by decide)]) (by rw [us_ne (by decide), cpS_ne (by decide) (by decide)]) (by rw [us_ne (by decide), cpS_ne (by decide) (by decide)]) (by rw [us_ne (by decide), cpS_ne (by decide) (by decide)]), fun r r0 r5 => ?_⟩
    have hv : ∀ j, us (cpS (thruS s (gN s i)) (gN s i)) 12 i (Int32.ofNat (rN s i)) 12 j = if j = i then Int32.ofNat (rN s i) else s 12 j := fun j => by rw [us_at, if_pos rfl, r12 12 (by decide) (by decide) (by decide) (by decide)]
    unfold ctS
    by_cases he : rN s i = r
    · have h3 : ctS s c (Int32.ofNat r) < 3 := by
        unfold rmS at hr
        rw [he] at hr
        have z0 : ¬ Int32.ofNat r = 0 := fun e => by have := i_inj (a := r) (b := 0) (by omega) (by omega) e; omega
        have z5 : ¬ Int32.ofNat r = 5 := fun e => by have := i_inj (a := r) (b := 5) (by omega) (by omega) e; omega
        rw [decide_eq_false z0, decide_eq_false z5, Bool.false_or, Bool.false_or] at hr
        exact of_decide_eq_true hr
      have := cnt_one (p := fun j => decide (s 12 j = Int32.ofNat r)) (p' := fun j => decide (us (cpS (thruS s (gN s i)) (gN s i)) 12 i (Int32.ofNat (rN s i)) 12 j = Int32.ofNat r)) (i := i) (k := c) (fun j hj => by rw [hv, if_neg hj])
      unfold ctS at h3
      omega
    · refine Nat.le_trans (cnt_sub (fun j hj h => ?_)) (hL r r0 r5)
      have h' := of_decide_eq_true h
      rw [hv] at h'
      by_cases hji : j = i
      · rw [if_pos hji] at h'
        exact absurd (i_inj (by omega) (by omega) h') he
      · rw [if_neg hji] at h'
        exact decide_eq_true h'
theorem lp_J (d : Nat) : ∀ (i : Nat) (s : NS) (P : Int32), i + d = c → IL s c i → WT s → AC s 0 → LM s c → WT (lpS c d i s P) ∧ AC (lpS c d i s P) 0 ∧ LM (lpS c d i s P) c := by
  induction d with
  | zero => intro i s P _ _ hW hA hL; exact ⟨hW, hA, hL⟩
  | succ d ih =>
    intro i s P h hI hW hA hL
    obtain ⟨a1, a2, a3⟩ := st_J (P := P) (by omega) (hI.2.1 i (Nat.le_refl _) (by omega)) hW hA hL
    unfold lpS
    exact ih (i + 1) _ _ (by omega) (IL_st hI (by omega)) a1 a2 a3
theorem cnt_kept {p : Nat → Bool} {f t : Nat → Int32} {v : Int32} {k : Nat} (h : ∀ m, m < k → p m = true → t (cnt p m) = f m) : cnt (fun j => decide (t j = v)) (cnt p k) ≤ cnt (fun j => decide (f j = v)) k := by
  induction k with
  | zero => exact Nat.le_refl _
  | succ k ih =>
    have := ih (fun m hm => h m (by omega))
    rw [cnt_s (p := fun j => decide (f j = v))]
    cases hp : p k with
    | true =>
      rw [cnt_s (p := p), hp, cond_true, cnt_s, h k (by omega) hp]
      cases decide (f k = v) <;> simp only [cond_true, cond_false] <;> omega
    | false =>
      rw [cnt_s (p := p), hp, cond_false]
      cases decide (f k = v) <;> simp only [cond_true, cond_false] <;> omega
theorem fl_LM {p : Nat → Bool} {t : NS} (hL : LM s c) (ht : t 12 = (flA s p c).1 12) : LM t (cnt p c) := by
  intro r r0 r5
  unfold ctS
  refine Nat.le_trans (cnt_kept (f := s 12) (t := t 12) (fun m hm hp => ?_)) (hL r r0 r5)
  rw [ht]
  exact flA_lo (by simp) c m hm hp
theorem JC_hr (hI : IC s c) (h : JC s c) : JC (hrS s c) (hrC s c) := by
  obtain ⟨h1, h2, h3, a, ha, h4⟩ := h
  have hA : AC s 0 := by unfold AC; rw [Int32.add_zero]; exact h2
  have b7 : (us s 20 3 (s 20 3 + 1)) 7 = s 7 := us_ne (by decide)
  have b20 : ∀ j, ¬ j = 3 → us s 20 3 (s 20 3 + 1) 20 j = s 20 j := fun j hj => by rw [us_at, if_pos rfl, if_neg hj]
  have k := flow_J (s := us s 20 3 (s 20 3 + 1)) (u := a) (by omega) (WT_c h1 b7) (AC_c hA b7 (b20 _ (by decide)) (b20 _ (by decide)) (b20 _ (by decide)))
  rw [← h4] at k
  have hL : LM (h1S s) c := fun r r0 r5 => by
    unfold ctS
    rw [h1S_ne (by decide) (by decide)]
    exact h3 r r0 r5
  obtain ⟨k1, k2, k3⟩ := lp_J c 0 (h1S s) 0 (by omega) (IL_h1 hI) k.1 k.2 hL
  have i4 : mdS s c 20 4 = s 20 4 := by
    have : ∀ (d i : Nat) (s : NS) (P : Int32), lpS c d i s P 20 4 = s 20 4 := by
      intro d
      induction d with
      | zero => intro i s P; rfl
      | succ d ih =>
        intro i s P
        unfold lpS
        rw [ih]
        unfold stS
        cases decide ((P >>> (Int32.ofNat (gN s i) &&& 31)) &&& 1 = 0) && mpS s c i (gN s i) (rN s i) with
        | true => rw [cond_true]; dsimp only; exact mvd_20 (by decide)
        | false => rfl
    unfold mdS
    rw [this, h1S_20 (by decide) (by decide) (by decide)]
  have o : ∀ j, ¬ j = 25 → hrS s c 20 j = mdS s c 20 j := fun j hj => by
    unfold hrS arS
    rw [us_at, if_pos rfl, if_neg hj, flA_out (by decide)]
  have o7 : hrS s c 7 = mdS s c 7 := by
    unfold hrS arS
    rw [us_ne (by decide), flA_out (by decide)]
  refine ⟨WT_c k1 o7, ?_, ?_, a, ha, by rw [o 4 (by decide), i4, h4]⟩
  · have := AC_c k2 o7 (o 11 (by decide)) (o 12 (by decide)) (o 13 (by decide))
    unfold AC at this
    rw [Int32.add_zero] at this
    exact this
  · exact fl_LM (s := mdS s c) (p := ahS (mdS s c)) k3 (by unfold hrS arS; rw [us_ne (by decide)])
theorem JC_ph (d : Nat) : ∀ (s : NS) (c : Nat) (L : Int32), IC s c → JC s c → JC (phS d s c L).1 (phS d s c L).2.1 := by
  induction d with
  | zero => intro s c L _ h; exact h
  | succ d ih => intro s c L hI h; exact ih _ _ _ (IC_hr hI) (JC_hr hI h)
theorem JC_c {t : NS} (h : JC s c) (h7 : t 7 = s 7) (h20 : ∀ j, j = 4 ∨ j = 11 ∨ j = 12 ∨ j = 13 → t 20 j = s 20 j) (h12 : t 12 = s 12) : JC t c := by
  obtain ⟨h1, h2, h3, h4⟩ := h
  exact ⟨fun r hr => by rw [h7]; exact h1 r hr, by rw [h7, h20 11 (by simp), h20 12 (by simp), h20 13 (by simp)]; exact h2, fun r r0 r5 => by unfold ctS; rw [h12]; exact h3 r r0 r5, by rw [h20 4 (by simp)]; exact h4⟩
/-- a change keeps the bounds -/
theorem JC_pf {k u v z : Int32} (hk : k = 0 ∨ k = 1 ∨ k = 2 ∨ k = 3 ∨ k = 4 ∨ k = 5 ∨ k = 6 ∨ k = 7) (hI : IC s c) (h : JC s c) (hf : ftS s c k u v z = 0) : JC (pfS s c k u v z).2 (pcS s c k u v z) := by
  have hA : AC s 0 := by unfold AC; rw [Int32.add_zero]; exact h.2.1
  rcases hk with rfl | rfl | rfl | rfl | rfl | rfl | rfl | rfl
  · have e1 : pfS s c 0 u v z = (s 20 26, lauS s c u v (decide (z = 100))) := by unfold pfS; rw [if_pos rfl]
    have e2 : pcS s c 0 u v z = c + 1 := by unfold pcS; rw [if_pos rfl]
    rw [e1, e2]
    dsimp only
    obtain ⟨h1, h2, h3, h4⟩ := h
    have o7 : lauS s c u v (decide (z = 100)) 7 = s 7 := by
      unfold lauS
      rw [us_ne (by decide), us_ne (by decide), us_ne (by decide), us_ne (by decide), us_ne (by decide), us_ne (by decide), us_ne (by decide)]
    have o20 : ∀ j, ¬ j = 25 → ¬ j = 26 → lauS s c u v (decide (z = 100)) 20 j = s 20 j := fun j q1 q2 => by
      unfold lauS
      rw [us_at, if_pos rfl, if_neg q2, us_at, if_pos rfl, if_neg q1]
      simp [us_ne]
    have o12 : ∀ j, lauS s c u v (decide (z = 100)) 12 j = if j = c then cond (decide (z = 100)) 0 5 else s 12 j := fun j => by
      unfold lauS
      rw [us_ne (by decide), us_ne (by decide), us_ne (by decide), us_at, if_pos rfl, us_ne (by decide), us_ne (by decide), us_ne (by decide)]
    refine ⟨fun r hr => by rw [o7]; exact h1 r hr, by rw [o7, o20 11 (by decide) (by decide), o20 12 (by decide) (by decide), o20 13 (by decide) (by decide)]; exact h2, fun r r0 r5 => ?_, by rw [o20 4 (by decide) (by decide)]; exact h4⟩
    have z0 : ¬ (0 : Int32) = Int32.ofNat r := fun e => by have := i_inj (a := 0) (b := r) (by omega) (by omega) e; omega
    have z5 : ¬ (5 : Int32) = Int32.ofNat r := fun e => by have := i_inj (a := 5) (b := r) (by omega) (by omega) e; omega
    have hz : ¬ (cond (decide (z = 100)) 0 5 : Int32) = Int32.ofNat r := by
      cases decide (z = 100) with
      | true => exact z0
      | false => exact z5
    unfold ctS
    rw [cnt_s, o12, if_pos rfl, decide_eq_false hz, cond_false, cnt_congr (q := fun j => decide (s 12 j = Int32.ofNat r)) (fun j hj => by rw [o12, if_neg (by omega)])]
    exact h3 r r0 r5
  · have e1 : pfS s c 1 u v z = (s 4 (u * 2 + v).toNatClampNeg, us s 4 (u * 2 + v).toNatClampNeg z) := by unfold pfS; rw [if_neg (by decide), if_pos rfl]
    have e2 : pcS s c 1 u v z = c := by unfold pcS; rw [if_neg (by decide), if_pos rfl]
    rw [e1, e2]
    dsimp only
    exact JC_c h (us_ne (by decide)) (fun j _ => by rw [us_ne (by decide)]) (us_ne (by decide))
  · have e1 : pfS s c 2 u v z = (s 5 (u * 2 + v).toNatClampNeg, us s 5 (u * 2 + v).toNatClampNeg 0) := by unfold pfS; rw [if_neg (by decide), if_neg (by decide), if_pos rfl]
    have e2 : pcS s c 2 u v z = c := by unfold pcS; rw [if_neg (by decide), if_neg (by decide), if_pos rfl]
    rw [e1, e2]
    dsimp only
    exact JC_c h (us_ne (by decide)) (fun j _ => by rw [us_ne (by decide)]) (us_ne (by decide))
  · have e1 : pfS s c 3 u v z = (s 2 u.toNatClampNeg, us s 2 u.toNatClampNeg v) := by unfold pfS; rw [if_neg (by decide), if_neg (by decide), if_neg (by decide), if_pos rfl]
    have e2 : pcS s c 3 u v z = c := by unfold pcS; rw [if_neg (by decide), if_neg (by decide), if_neg (by decide), if_pos rfl]
    rw [e1, e2]
    dsimp only
    exact JC_c h (us_ne (by decide)) (fun j _ => by rw [us_ne (by decide)]) (us_ne (by decide))
  · have e1 : pfS s c 4 u v z = (s 20 4, us s 20 4 u) := by unfold pfS; rw [if_neg (by decide), if_neg (by decide), if_neg (by decide), if_neg (by decide), if_pos rfl]
    have e2 : pcS s c 4 u v z = c := by unfold pcS; rw [if_neg (by decide), if_neg (by decide), if_neg (by decide), if_neg (by decide), if_pos rfl]
    have hb : (!decide (u < 0) && !decide (9 < u)) = true := by
      unfold ftS at hf
      rw [if_neg (by decide), if_neg (by decide), if_neg (by decide), if_neg (by decide), if_pos rfl] at hf
      cases h : !decide (u < 0) && !decide (9 < u) with
      | true => rfl
      | false => rw [h] at hf; cases hf
    rw [e1, e2]
    obtain ⟨h1, h2, h3, h4⟩ := h
    rw [Bool.and_eq_true] at hb
    obtain ⟨p, q1, q2, rfl⟩ := in_nat (lo := 0) (hi := 9) (by omega) (by omega) (v := u) (by simpa using hb.1) (by simpa using hb.2)
    dsimp only
    refine ⟨fun r hr => by rw [us_ne (by decide)]; exact h1 r hr, ?_, fun r r0 r5 => by unfold ctS; rw [us_ne (by decide)]; exact h3 r r0 r5, p, by omega, by rw [us_at, if_pos rfl, if_pos rfl]⟩
    rw [us_ne (by decide), us_at, if_pos rfl, if_neg (by decide), us_at, if_pos rfl, if_neg (by decide), us_at, if_pos rfl, if_neg (by decide)]
    exact h2
  · have e1 : pfS s c 5 u v z = (fillS s u.toNatClampNeg v 7 u.toNatClampNeg, fillS s u.toNatClampNeg v) := by unfold pfS; rw [if_neg (by decide), if_neg (by decide), if_neg (by decide), if_neg (by decide), if_neg (by decide), if_pos rfl]
    have e2 : pcS s c 5 u v z = c := by unfold pcS; rw [if_neg (by decide), if_neg (by decide), if_neg (by decide), if_neg (by decide), if_neg (by decide), if_pos rfl]
    unfold ftS at hf
    rw [if_neg (by decide), if_neg (by decide), if_neg (by decide), if_neg (by decide), if_neg (by decide), if_pos rfl] at hf
    rw [e1, e2]
    dsimp only
    have hu : rg u 6 = true := by
      cases h : rg u 6 with
      | true => rfl
      | false => rw [h] at hf; cases hf
    rw [hu, cond_true] at hf
    have hb : (!decide (v < 1) && !decide (90 < v)) = true := by
      cases h : !decide (v < 1) && !decide (90 < v) with
      | true => rfl
      | false => rw [h] at hf; cases hf
    rw [Bool.and_eq_true] at hb
    obtain ⟨p, q1, q2, rfl⟩ := in_nat (lo := 1) (hi := 90) (by omega) (by omega) (v := v) (by simpa using hb.1) (by simpa using hb.2)
    obtain ⟨r, hr, rfl⟩ := rg_nat (N := 6) (by omega) hu
    rw [i32_cl (show r < 2147483648 by omega)]
    obtain ⟨h1, h2, h3, h4⟩ := h
    obtain ⟨k1, k2⟩ := fill_J hr (by omega : p < 1000) h1 hA
    unfold AC at k2
    rw [Int32.add_zero] at k2
    refine ⟨k1, k2, fun r' r0 r5 => ?_, ?_⟩
    · unfold ctS fillS
      rw [pourS_ne (by decide) (by decide), us_ne (by decide)]
      exact h3 r' r0 r5
    · unfold fillS
      rw [pourS_20 (by decide), us_at, if_pos rfl, if_neg (by decide)]
      exact h4
  · have e1 : pfS s c 6 u v z = (Int32.ofNat (cnt (fun j => decide (¬ Int32.ofNat j = ixA (s 9) u c 0)) c), rvS s c (ixA (s 9) u c 0)) := by unfold pfS; rw [if_neg (by decide), if_neg (by decide), if_neg (by decide), if_neg (by decide), if_neg (by decide), if_neg (by decide), if_pos rfl]
    have e2 : pcS s c 6 u v z = cnt (fun j => decide (¬ Int32.ofNat j = ixA (s 9) u c 0)) c := by unfold pcS; rw [if_neg (by decide), if_neg (by decide), if_neg (by decide), if_neg (by decide), if_neg (by decide), if_neg (by decide), if_pos rfl]
    rw [e1, e2]
    dsimp only
    obtain ⟨h1, h2, h3, h4⟩ := h
    have o7 : rvS s c (ixA (s 9) u c 0) 7 = s 7 := by
      unfold rvS
      rw [us_ne (by decide), flA_out (by decide)]
    have o : ∀ j, ¬ j = 25 → rvS s c (ixA (s 9) u c 0) 20 j = s 20 j := fun j hj => by
      unfold rvS
      rw [us_at, if_pos rfl, if_neg hj, flA_out (by decide)]
    refine ⟨WT_c h1 o7, by rw [o7, o 11 (by decide), o 12 (by decide), o 13 (by decide)]; exact h2, ?_, by rw [o 4 (by decide)]; exact h4⟩
    exact fl_LM h3 (by unfold rvS; rw [us_ne (by decide)])
  · have e1 : pfS s c 7 u v z = ((phS u.toNatClampNeg s c 0).2.2, pdS u.toNatClampNeg s c) := by unfold pfS; rw [if_neg (by decide), if_neg (by decide), if_neg (by decide), if_neg (by decide), if_neg (by decide), if_neg (by decide), if_neg (by decide)]
    have e2 : pcS s c 7 u v z = (phS u.toNatClampNeg s c 0).2.1 := by unfold pcS; rw [if_neg (by decide), if_neg (by decide), if_neg (by decide), if_neg (by decide), if_neg (by decide), if_neg (by decide), if_neg (by decide)]
    rw [e1, e2]
    dsimp only
    have := JC_ph u.toNatClampNeg s c 0 hI h
    unfold pdS
    exact JC_c this (us_ne (by decide)) (fun j hj => by rw [us_at, if_pos rfl, if_neg (by omega)]) (us_ne (by decide))
end JCP
