/-! AN HOUR on both sides -/
section MHL
set_option maxRecDepth 20000
variable {x : SX} {n b c : Nat} {w : PW} {m s : NS} {g : Nat → Int32}
theorem RS_congr {g' : Nat → Int32} (h : RS s g) (hg : ∀ k, k < 44 → ¬ k = 3 → ¬ k = 7 → g' k = g k) : RS s g' := by
  obtain ⟨⟨a1, a2, a3, a4, a5, a6⟩, h2, h3, h4, h5, h6⟩ := h
  refine ⟨⟨?_, ?_, ?_, ?_, ?_, ?_⟩, fun r hr => ?_, fun i hi => ?_, fun j hj => ?_, fun j hj => ?_, fun i hi => ?_⟩
  · rw [hg 0 (by omega) (by omega) (by omega)]; exact a1
  · rw [hg 1 (by omega) (by omega) (by omega)]; exact a2
  · rw [hg 2 (by omega) (by omega) (by omega)]; exact a3
  · rw [hg 4 (by omega) (by omega) (by omega)]; exact a4
  · rw [hg 5 (by omega) (by omega) (by omega)]; exact a5
  · rw [hg 6 (by omega) (by omega) (by omega)]; exact a6
  · rw [hg (8 + r) (by omega) (by omega) (by omega)]; exact h2 r hr
  · rw [hg (14 + i) (by omega) (by omega) (by omega)]; exact h3 i hi
  · rw [hg (19 + j) (by omega) (by omega) (by omega)]; exact h4 j hj
  · rw [hg (29 + j) (by omega) (by omega) (by omega)]; exact h5 j hj
  · rw [hg (39 + i) (by omega) (by omega) (by omega)]; exact h6 i hi
/-- the class's numbers but the fleet's rows -/
theorem RS_s {t : NS} (h : RS s g) (h20 : ∀ j, ¬ j = 5 → ¬ j = 25 → t 20 j = s 20 j) (ha : ∀ a, a < 8 → t a = s a) : RS t g := by
  unfold RS
  rw [h20 3 (by omega) (by omega), h20 4 (by omega) (by omega), h20 26 (by omega) (by omega), h20 11 (by omega) (by omega), h20 12 (by omega) (by omega), h20 13 (by omega) (by omega), ha 7 (by omega), ha 2 (by omega), ha 4 (by omega), ha 5 (by omega), ha 3 (by omega)]
  exact h
theorem pourS_7 {r j : Nat} {u : Int32} : pourS s r u 7 j = if j = r then s 7 r + mn u (90 - s 7 r) else s 7 j := by
  unfold pourS
  rw [us_ne (by decide), us_at, if_pos rfl]
theorem pourS_13 {r : Nat} {u : Int32} : pourS s r u 20 13 = s 20 13 + (u - mn u (90 - s 7 r)) := by
  unfold pourS
  rw [us_at, if_pos rfl, if_pos rfl]
theorem pourG_8 {r j : Nat} {u : Int32} : pourG g r u (8 + j) = if j = r then g (8 + r) + mn u (90 - g (8 + r)) else g (8 + j) := by
  unfold pourG
  rw [upd_at, if_neg (by omega), upd_at]
  by_cases h : j = r
  · rw [if_pos h, if_pos (by omega)]
  · rw [if_neg h, if_neg (by omega)]
theorem pourG_6 {r : Nat} {u : Int32} : pourG g r u 6 = g 6 + (u - mn u (90 - g (8 + r))) := by
  unfold pourG
  rw [upd_at, if_pos rfl]
/-- water poured on both sides -/
theorem RS_pour {r : Nat} {u : Int32} (hr : r < 6) (h : RS s g) : RS (pourS s r u) (pourG g r u) := by
  obtain ⟨⟨a1, a2, a3, a4, a5, a6⟩, h2, h3, h4, h5, h6⟩ := h
  have e := h2 r hr
  refine ⟨⟨?_, ?_, ?_, ?_, ?_, ?_⟩, fun q hq => ?_, fun i hi => ?_, fun j hj => ?_, fun j hj => ?_, fun i hi => ?_⟩
  · rw [pourS_20 (by decide), pourG_out (by omega) (by omega)]; exact a1
  · rw [pourS_20 (by decide), pourG_out (by omega) (by omega)]; exact a2
  · rw [pourS_20 (by decide), pourG_out (by omega) (by omega)]; exact a3
  · rw [pourS_20 (by decide), pourG_out (by omega) (by omega)]; exact a4
  · rw [pourS_20 (by decide), pourG_out (by omega) (by omega)]; exact a5
  · rw [pourS_13, pourG_6, a6, e]
  · rw [pourS_7, pourG_8, e, h2 q hq]
  · rw [pourS_ne (by decide) (by decide), pourG_out (by omega) (by omega)]; exact h3 i hi
  · rw [pourS_ne (by decide) (by decide), pourG_out (by omega) (by omega)]; exact h4 j hj
  · rw [pourS_ne (by decide) (by decide), pourG_out (by omega) (by omega)]; exact h5 j hj
  · rw [pourS_ne (by decide) (by decide), pourG_out (by omega) (by omega)]; exact h6 i hi
/-- a number of a row of the class and its place in the model -/
theorem RS_7 {r : Nat} {v : Int32} (hr : r < 6) (h : RS s g) : RS (us s 7 r v) (upd g (8 + r) v) := by
  obtain ⟨⟨a1, a2, a3, a4, a5, a6⟩, h2, h3, h4, h5, h6⟩ := h
  refine ⟨⟨?_, ?_, ?_, ?_, ?_, ?_⟩, fun q hq => ?_, fun i hi => ?_, fun j hj => ?_, fun j hj => ?_, fun i hi => ?_⟩
  · rw [us_ne (by decide), upd_at, if_neg (by omega)]; exact a1
  · rw [us_ne (by decide), upd_at, if_neg (by omega)]; exact a2
  · rw [us_ne (by decide), upd_at, if_neg (by omega)]; exact a3
  · rw [us_ne (by decide), upd_at, if_neg (by omega)]; exact a4
  · rw [us_ne (by decide), upd_at, if_neg (by omega)]; exact a5
  · rw [us_ne (by decide), upd_at, if_neg (by omega)]; exact a6
  · rw [us_at, if_pos rfl, upd_at]
    by_cases hq2 : q = r
    · rw [if_pos hq2, if_pos (by omega)]
    · rw [if_neg hq2, if_neg (by omega)]; exact h2 q hq
  · rw [us_ne (by decide), upd_at, if_neg (by omega)]; exact h3 i hi
  · rw [us_ne (by decide), upd_at, if_neg (by omega)]; exact h4 j hj
  · rw [us_ne (by decide), upd_at, if_neg (by omega)]; exact h5 j hj
  · rw [us_ne (by decide), upd_at, if_neg (by omega)]; exact h6 i hi
theorem RS_3 {r : Nat} {v : Int32} (hr : r < 5) (h : RS s g) : RS (us s 3 r v) (upd g (39 + r) v) := by
  obtain ⟨⟨a1, a2, a3, a4, a5, a6⟩, h2, h3, h4, h5, h6⟩ := h
  refine ⟨⟨?_, ?_, ?_, ?_, ?_, ?_⟩, fun q hq => ?_, fun i hi => ?_, fun j hj => ?_, fun j hj => ?_, fun i hi => ?_⟩
  · rw [us_ne (by decide), upd_at, if_neg (by omega)]; exact a1
  · rw [us_ne (by decide), upd_at, if_neg (by omega)]; exact a2
  · rw [us_ne (by decide), upd_at, if_neg (by omega)]; exact a3
  · rw [us_ne (by decide), upd_at, if_neg (by omega)]; exact a4
  · rw [us_ne (by decide), upd_at, if_neg (by omega)]; exact a5
  · rw [us_ne (by decide), upd_at, if_neg (by omega)]; exact a6
  · rw [us_ne (by decide), upd_at, if_neg (by omega)]; exact h2 q hq
  · rw [us_ne (by decide), upd_at, if_neg (by omega)]; exact h3 i hi
  · rw [us_ne (by decide), upd_at, if_neg (by omega)]; exact h4 j hj
  · rw [us_ne (by decide), upd_at, if_neg (by omega)]; exact h5 j hj
  · rw [us_at, if_pos rfl, upd_at]
    by_cases hq2 : i = r
    · rw [if_pos hq2, if_pos (by omega)]
    · rw [if_neg hq2, if_neg (by omega)]; exact h6 i hi
theorem RS_5 {r : Nat} {v : Int32} (hr : r < 10) (hv : ∃ a, a < 21 ∧ v = Int32.ofNat a) (h : RS s g) : RS (us s 5 r v) (upd g (29 + r) v) := by
  obtain ⟨⟨a1, a2, a3, a4, a5, a6⟩, h2, h3, h4, h5, h6⟩ := h
  refine ⟨⟨?_, ?_, ?_, ?_, ?_, ?_⟩, fun q hq => ?_, fun i hi => ?_, fun j hj => ?_, fun j hj => ?_, fun i hi => ?_⟩
  · rw [us_ne (by decide), upd_at, if_neg (by omega)]; exact a1
  · rw [us_ne (by decide), upd_at, if_neg (by omega)]; exact a2
  · rw [us_ne (by decide), upd_at, if_neg (by omega)]; exact a3
  · rw [us_ne (by decide), upd_at, if_neg (by omega)]; exact a4
  · rw [us_ne (by decide), upd_at, if_neg (by omega)]; exact a5
  · rw [us_ne (by decide), upd_at, if_neg (by omega)]; exact a6
  · rw [us_ne (by decide), upd_at, if_neg (by omega)]; exact h2 q hq
  · rw [us_ne (by decide), upd_at, if_neg (by omega)]; exact h3 i hi
  · rw [us_ne (by decide), upd_at, if_neg (by omega)]; exact h4 j hj
  · rw [us_at, if_pos rfl, upd_at]
    by_cases hq2 : j = r
    · rw [if_pos hq2, if_pos (by omega)]; exact ⟨rfl, hv⟩
    · rw [if_neg hq2, if_neg (by omega)]; exact h5 j hj
  · rw [us_ne (by decide), upd_at, if_neg (by omega)]; exact h6 i hi
/-- a passage on both sides -/
theorem RS_ps {gt i : Nat} {v : Int32} (hg : gt < 5) (h : RS s g) : RS (us (cpS (thruS s gt) gt) 12 i v) (psG g gt) := by
  have h1 := RS_7 (r := gt) (v := s 7 gt - mn 6 (s 7 gt)) (by omega) h
  have h2 : RS (thruS s gt) (pourG (upd g (8 + gt) (g (8 + gt) - mn 6 (g (8 + gt)))) (gt + 1) (mn 6 (g (8 + gt)))) := by
    have h3 := RS_pour (r := gt + 1) (u := mn 6 (s 7 gt)) (by omega) h1
    rw [← h.2.1 gt (by omega)]
    exact h3
  generalize hG : pourG (upd g (8 + gt) (g (8 + gt) - mn 6 (g (8 + gt)))) (gt + 1) (mn 6 (g (8 + gt))) = G at h2
  generalize hS : thruS s gt = S at h2
  obtain ⟨w1, a1, b1, e1⟩ := h2.2.2.2.2.1 (gt * 2) (by omega)
  obtain ⟨w2, a2, b2, e2⟩ := h2.2.2.2.2.1 (gt * 2 + 1) (by omega)
  obtain ⟨f1, f2⟩ := w20_eq a1 b1
  obtain ⟨f3, f4⟩ := w20_eq a2 b2
  have k1 := RS_3 (r := gt) (v := S 3 gt + 1) hg h2
  have k2 := RS_5 (r := gt * 2) (v := mn20 (S 5 (gt * 2))) (by omega) (by rw [e1]; exact f2) k1
  have k3 := RS_5 (r := gt * 2 + 1) (v := mn20 (S 5 (gt * 2 + 1))) (by omega) (by rw [e2]; exact f4) k2
  have k4 : RS (us (cpS S gt) 12 i v) _ := RS_s k3 (fun j _ _ => by rw [us_ne (by decide)]; rfl) (fun a ha => by rw [us_ne (by omega)]; rfl)
  refine RS_congr k4 (fun k _ _ _ => ?_)
  unfold psG
  rw [hG]
  have q6 := h2.2.2.2.2.2 gt hg
  have z1 : w20 (G (29 + gt * 2)) = mn20 (S 5 (gt * 2)) := by rw [← w1, e1, f1]
  have z2 : w20 (G (29 + gt * 2 + 1)) = mn20 (S 5 (gt * 2 + 1)) := by rw [Nat.add_assoc, ← w2, e2, f3]
  have z3 : upd G (29 + gt * 2) (w20 (G (29 + gt * 2))) (29 + gt * 2 + 1) = G (29 + gt * 2 + 1) := by rw [upd_at, if_neg (by omega)]
  have z4 : upd (upd G (29 + gt * 2) (w20 (G (29 + gt * 2)))) (29 + gt * 2 + 1) (w20 (upd G (29 + gt * 2) (w20 (G (29 + gt * 2))) (29 + gt * 2 + 1))) (39 + gt) = G (39 + gt) := by rw [upd_at, if_neg (by omega), upd_at, if_neg (by omega)]
  simp only [z4, z3, z1, z2, ← q6]
  simp only [upd_at, ← Nat.add_assoc]
  by_cases c1 : k = 39 + gt
  · subst c1
    rw [if_pos rfl, if_neg (by omega), if_neg (by omega), if_pos rfl]
    rw [if_neg (by omega), if_neg (by omega), q6]
  · rw [if_neg c1]
    by_cases c2 : k = 29 + gt * 2 + 1
    · rw [if_pos c2, if_pos c2, if_neg (by omega), z2]
    · rw [if_neg c2, if_neg c2]
      by_cases c3 : k = 29 + gt * 2
      · rw [if_pos c3, if_pos c3]
      · rw [if_neg c3, if_neg c3, if_neg c1]
/-- in the midst of an hour: the class at row i, the model at p -/
def ML (s : NS) (c i p : Nat) (g : Nat → Int32) : Prop := IL s c i ∧ i ≤ c ∧ RS s g ∧ p = cnt (ahS s) i ∧ g 3 = Int32.ofNat (p + (c - i)) ∧ (∀ k, k < i → ahS s k = true → RB s g k (cnt (ahS s) k)) ∧ (∀ k, i ≤ k → k < c → RB s g k (p + (k - i)))
def UP (P : Int32) (f : Nat → Int32) : Prop := ∃ a, a < 32 ∧ P = Int32.ofNat a ∧ ∀ q, q < 5 → f q = cond (Nat.testBit a q) 1 0
theorem bt1 : ∀ a, a < 32 → ∀ q, q < 5 → decide (((Int32.ofNat a) >>> (Int32.ofNat q &&& 31)) &&& 1 = 0) = !(Nat.testBit a q) := by decide +kernel
theorem bt2 : ∀ a, a < 32 → ∀ q, q < 5 → (Int32.ofNat a ||| 1 <<< (Int32.ofNat q &&& 31)) = Int32.ofNat (a ||| 2 ^ q) ∧ (a ||| 2 ^ q) < 32 ∧ ∀ r, r < 5 → Nat.testBit (a ||| 2 ^ q) r = (Nat.testBit a r || decide (r = q)) := by decide +kernel
theorem UP_or {P : Int32} {f : Nat → Int32} {q : Nat} (h : UP P f) (hq : q < 5) : UP (P ||| 1 <<< (Int32.ofNat q &&& 31)) (upd f q 1) := by
  obtain ⟨a, ha, rfl, h3⟩ := h
  obtain ⟨b1, b2, b3⟩ := bt2 a ha q hq
  refine ⟨a ||| 2 ^ q, b2, b1, fun r hr => ?_⟩
  rw [b3 r hr, upd_at]
  by_cases e : r = q
  · simp [e]
  · simp [e, h3 r hr]
theorem ahS_WB {j : Nat} (h : WB s j) : ahS s j = true := by
  unfold ahS gaS
  rcases h with ⟨h1, r, h2, h3⟩ | ⟨h1, r, h2, h3⟩
  · rw [h1, h3, if_pos (by decide)]
    have h5 : (5 : Int32) - Int32.ofNat r = Int32.ofNat (5 - r) := i_subL (k := 5) (by omega)
    rw [h5]
    exact decide_eq_true (nlt (a := 0) (by omega) (by omega) (by omega))
  · rw [h1, h3, if_neg (by decide)]
    exact decide_eq_true (nlt (a := 0) (by omega) (by omega) (by omega))
theorem ahS_end {j r : Nat} (h : WA s j) (ha : ahS s j = false) (h0 : ¬ r = 0) (h5 : ¬ r = 5) (hr : r < 6) : ¬ s 12 j = Int32.ofNat r := by
  intro e
  unfold ahS gaS at ha
  rcases h with ⟨h1, q, h2, h3⟩ | ⟨h1, q, h2, h3⟩
  · rw [h3] at e
    have eq := i_inj (by omega) (by omega) e
    subst eq
    rw [h1, h3, if_pos (by decide)] at ha
    have h9 : (5 : Int32) - Int32.ofNat q = Int32.ofNat (5 - q) := i_subL (k := 5) (by omega)
    rw [h9] at ha
    exact of_decide_eq_false ha (nlt (a := 0) (by omega) (by omega) (by omega))
  · rw [h3] at e
    have eq := i_inj (by omega) (by omega) e
    subst eq
    rw [h1, h3, if_neg (by decide)] at ha
    exact of_decide_eq_false ha (nlt (a := 0) (by omega) (by omega) (by omega))
theorem ML_ct {i p r : Nat} (h : ML s c i p g) (h0 : ¬ r = 0) (h5 : ¬ r = 5) (hr : r < 6) : cnt (fun j => decide (g (76 + j) = Int32.ofNat r)) (p + (c - i)) = ctS s c (Int32.ofNat r) := by
  obtain ⟨⟨-, -, hA⟩, hic, -, hp, -, h1, h2⟩ := h
  have k1 : ∀ q, q ≤ i → cnt (fun j => decide (s 12 j = Int32.ofNat r)) q = cnt (fun j => decide (g (76 + j) = Int32.ofNat r)) (cnt (ahS s) q) := by
    intro q
    induction q with
    | zero => intro _; rfl
    | succ q ih =>
      intro hq
      rw [cnt_s, cnt_s (p := ahS s)]
      cases ha : ahS s q with
      | true =>
        rw [cond_true, cnt_s, ← ih (by omega), (h1 q (by omega) ha).2.2.2.1]
      | false =>
        rw [cond_false, decide_eq_false (ahS_end (hA q (by omega)) ha h0 h5 hr), cond_false]
        exact ih (by omega)
  have k2 : ∀ d, d ≤ c - i → cnt (fun j => decide (s 12 j = Int32.ofNat r)) (i + d) = cnt (fun j => decide (g (76 + j) = Int32.ofNat r)) (p + d) := by
    intro d
    induction d with
    | zero => intro _; rw [hp]; exact k1 i (Nat.le_refl _)
    | succ d ih =>
      intro hd
      show cnt _ ((i + d) + 1) = cnt _ ((p + d) + 1)
      have hb := h2 (i + d) (by omega) (by omega)
      rw [cnt_s, cnt_s, ih (by omega), hb.2.2.2.1, show i + d - i = d by omega]
  unfold ctS
  have := k2 (c - i) (Nat.le_refl _)
  rw [show i + (c - i) = c by omega] at this
  exact this.symm
/-- the barge stays where it is -/
theorem ML_skip {i p : Nat} (h : ML s c i p g) (hi : i < c) : ML s c (i + 1) (p + 1) g := by
  obtain ⟨⟨h1, h2, h3⟩, h4, h5, h6, h7, h8, h9⟩ := h
  have hw := h2 i (Nat.le_refl _) hi
  have ha := ahS_WB hw
  have hp : p + 1 = cnt (ahS s) (i + 1) := by rw [cnt_s, ha, cond_true, h6]
  refine ⟨⟨h1, fun j q1 q2 => h2 j (by omega) q2, fun j q1 => ?_⟩, by omega, h5, hp, by rw [h7]; congr 1; omega, fun k q1 q2 => ?_, fun k q1 q2 => ?_⟩
  · by_cases e : j = i
    · subst e; exact WA_of hw
    · exact h3 j (by omega)
  · by_cases e : k = i
    · subst e
      have := h9 k (Nat.le_refl _) hi
      rw [Nat.sub_self, Nat.add_zero, h6] at this
      exact this
    · exact h8 k (by omega) q2
  · have := h9 k (by omega) q2
    rw [show p + 1 + (k - (i + 1)) = p + (k - i) by omega]
    exact this
/-- a passage: the class's side and the model's -/
theorem ML_pass {i p : Nat} {P : Int32} (h : ML s c i p g) (hi : i < c) (hst : (decide ((P >>> (Int32.ofNat (gN s i) &&& 31)) &&& 1 = 0) && mpS s c i (gN s i) (rN s i)) = true) :
    (ahS (stS s c i P).1 i = !decide (rN s i = if s 13 i = 1 then 5 else 0)) ∧
    (rN s i = (if s 13 i = 1 then 5 else 0) → ML (stS s c i P).1 c (i + 1) p (dpG (upd (psG g (gN s i)) (76 + p) (Int32.ofNat (rN s i))) p)) ∧
    (¬ rN s i = (if s 13 i = 1 then 5 else 0) → ML (stS s c i P).1 c (i + 1) (p + 1) (upd (psG g (gN s i)) (76 + p) (Int32.ofNat (rN s i)))) := by
  obtain ⟨h1, h4, h5, h6, h7, h8, h9⟩ := h
  have hw := h1.2.1 i (Nat.le_refl _) hi
  have hIL := IL_st (P := P) h1 hi
  obtain ⟨w1, w2, w3, w4, -⟩ := WB_gr hw
  have hc8 := h1.1.2.1
  have hple : p ≤ i := by rw [h6]; exact cnt_le _ _
  have hT : (stS s c i P).1 = us (cpS (thruS s (gN s i)) (gN s i)) 12 i (Int32.ofNat (rN s i)) := by
    unfold stS
    rw [hst, cond_true]
    have e12 : cpS (thruS s (gN s i)) (gN s i) 12 = s 12 := by rw [cpS_ne (by decide) (by decide), thruS_ne (by decide) (by decide)]
    have e13 : cpS (thruS s (gN s i)) (gN s i) 13 = s 13 := by rw [cpS_ne (by decide) (by decide), thruS_ne (by decide) (by decide)]
    rw [e12, e13, w3]
  rw [hT] at hIL ⊢
  generalize hq : gN s i = q at *
  generalize hr : rN s i = r at *
  have t13 : us (cpS (thruS s q) q) 12 i (Int32.ofNat r) 13 = s 13 := mvd_13
  have t12 : us (cpS (thruS s q) q) 12 i (Int32.ofNat r) 12 i = Int32.ofNat r := by rw [us_at, if_pos rfl, if_pos rfl]
  have t12o : ∀ k, ¬ k = i → us (cpS (thruS s q) q) 12 i (Int32.ofNat r) 12 k = s 12 k := fun k hk => mvd_12 hk
  have tro : ∀ a, a = 9 ∨ a = 10 ∨ a = 11 → us (cpS (thruS s q) q) 12 i (Int32.ofNat r) a = s a := by
    intro a ha
    rw [us_ne (by omega), cpS_ne (by omega) (by omega), thruS_ne (by omega) (by omega)]
  generalize hTT : us (cpS (thruS s q) q) 12 i (Int32.ofNat r) = T at *
  have hah : ahS T i = !decide (r = if s 13 i = 1 then 5 else 0) := by
    unfold ahS gaS
    rw [t13, t12]
    rcases hw with ⟨g1, r0, g2, g3⟩ | ⟨g1, r0, g2, g3⟩
    · rw [g1, if_pos (by decide), if_pos rfl]
      have h9 : (5 : Int32) - Int32.ofNat r = Int32.ofNat (5 - r) := i_subL (k := 5) (by omega)
      rw [h9]
      by_cases e : r = 5
      · subst e; decide
      · rw [decide_eq_true (show (0 : Int32) < Int32.ofNat (5 - r) from nlt (a := 0) (N := 5 - r) (by omega) (by omega) (by omega)), decide_eq_false e]; rfl
    · rw [g1, if_neg (by decide), if_neg (by decide)]
      by_cases e : r = 0
      · subst e; decide
      · rw [decide_eq_true (show (0 : Int32) < Int32.ofNat r from nlt (a := 0) (N := r) (by omega) (by omega) (by omega)), decide_eq_false e]; rfl
  have hao : ∀ k, ¬ k = i → ahS T k = ahS s k := by
    intro k hk
    unfold ahS
    rw [t13, t12o k hk]
  have hcn : ∀ k, k ≤ i → cnt (ahS T) k = cnt (ahS s) k := fun k hk => cnt_congr (fun j hj => hao j (by omega))
  have hRS : RS T (psG g q) := by rw [← hTT]; exact RS_ps w1 h5
  have g3 : psG g q 3 = g 3 := psG_out (by omega) (by omega) (by omega) (by omega) (by omega) (by omega)
  have ghi : ∀ k, 44 ≤ k → psG g q k = g k := fun k hk => psG_out (by omega) (by omega) (by omega) (by omega) (by omega) (by omega)
  have hRB : ∀ k j, ¬ k = i → j < 8 → ¬ j = p → RB s g k j → RB T (upd (psG g q) (76 + p) (Int32.ofNat r)) k j := by
    intro k j hk hj8 hj hb
    unfold RB at hb ⊢
    rw [tro 9 (by simp), tro 10 (by simp), tro 11 (by simp), t12o k hk, t13]
    simp only [upd_at]
    rw [if_neg (by omega), if_neg (by omega), if_neg (by omega), if_neg (by omega), if_neg (by omega), ghi _ (by omega), ghi _ (by omega), ghi _ (by omega), ghi _ (by omega), ghi _ (by omega)]
    exact hb
  have hbi := h9 i (Nat.le_refl _) hi
  rw [Nat.sub_self, Nat.add_zero] at hbi
  have hRBi : RB T (upd (psG g q) (76 + p) (Int32.ofNat r)) i p := by
    unfold RB at hbi ⊢
    rw [tro 9 (by simp), tro 10 (by simp), tro 11 (by simp), t12, t13]
    simp only [upd_at]
    rw [if_neg (by omega), if_neg (by omega), if_neg (by omega), if_pos trivial, if_neg (by omega), ghi _ (by omega), ghi _ (by omega), ghi _ (by omega), ghi _ (by omega)]
    exact ⟨hbi.1, hbi.2.1, hbi.2.2.1, rfl, hbi.2.2.2.2⟩
  have hRS1 : RS T (upd (psG g q) (76 + p) (Int32.ofNat r)) := RS_congr hRS (fun k hk _ _ => by rw [upd_at, if_neg (by omega)])
  refine ⟨hah, fun he => ?_, fun he => ?_⟩
  · have ha : ahS T i = false := by rw [hah, decide_eq_true he]; rfl
    refine ⟨hIL, by omega, RS_congr hRS1 (fun k hk k3 _ => dpG_lo hk k3), ?_, ?_, fun k k1 k2 => ?_, fun k k1 k2 => ?_⟩
    · rw [cnt_s, ha, cond_false, hcn i (Nat.le_refl _), h6]
    · rw [dpG_3, upd_at, if_neg (by omega), g3, h7]
      have : (Int32.ofNat (p + (c - i)) - 1) = Int32.ofNat (p + (c - i) - 1) := i_subR (k := 1) (by omega)
      rw [this]
      congr 1
      omega
    · have hki : ¬ k = i := by intro e; rw [e, ha] at k2; cases k2
      have hk := h8 k (by omega) (by rw [← hao k hki]; exact k2)
      rw [hcn k (by omega)]
      have hlt : cnt (ahS s) k < p := by rw [h6]; exact cnt_lt (by omega) (by rw [← hao k hki]; exact k2)
      have hb := hRB k (cnt (ahS s) k) hki (by omega) (by omega) hk
      refine RB_congr hb ?_ ?_ ?_ ?_ ?_
      all_goals (rw [dpG_row (by simp) (by omega), if_neg (by omega)])
    · have hk := h9 k (by omega) k2
      have hb := hRB k (p + (k - i)) (by omega) (by omega) (by omega) hk
      have e1 : p + (k - (i + 1)) + 1 = p + (k - i) := by omega
      unfold RB at hb ⊢
      rw [dpG_row (by simp) (by omega), if_pos (by omega), dpG_row (by simp) (by omega), if_pos (by omega), dpG_row (by simp) (by omega), if_pos (by omega), dpG_row (by simp) (by omega), if_pos (by omega), dpG_row (by simp) (by omega), if_pos (by omega)]
      rw [Nat.add_assoc 44, Nat.add_assoc 52, Nat.add_assoc 60, Nat.add_assoc 76, Nat.add_assoc 68, e1]
      exact hb
  · have ha : ahS T i = true := by rw [hah, decide_eq_false he]; rfl
    refine ⟨hIL, by omega, hRS1, ?_, ?_, fun k k1 k2 => ?_, fun k k1 k2 => ?_⟩
    · rw [cnt_s, ha, cond_true, hcn i (Nat.le_refl _), h6]
    · rw [upd_at, if_neg (by omega), g3, h7]
      congr 1
      omega
    · by_cases hki : k = i
      · subst hki
        rw [hcn k (Nat.le_refl _), ← h6]
        exact hRBi
      · have hk := h8 k (by omega) (by rw [← hao k hki]; exact k2)
        rw [hcn k (by omega)]
        have hlt : cnt (ahS s) k < p := by rw [h6]; exact cnt_lt (by omega) (by rw [← hao k hki]; exact k2)
        exact hRB k (cnt (ahS s) k) hki (by omega) (by omega) hk
    · have hk := h9 k (by omega) k2
      rw [show p + 1 + (k - (i + 1)) = p + (k - i) by omega]
      exact hRB k (p + (k - i)) (by omega) (by omega) (by omega) hk
theorem us_ua' {j i : Nat} {v : Int32} {f : Nat → Int32} : us (ua m j f) j i v = ua m j (upd f i v) := by
  funext a
  unfold us ua
  split
  · next h => simp
  · rfl
/-- the model's loop over the barges -/
theorem l234 (d : Nat) : ∀ (i p : Nat) (s : NS) (g f : Nat → Int32) (P : Int32) (e : Option Value), i + d = c → ML s c i p g → UP P f → ∃ p' g' f' e', ML (lpS c d i s P) c c p' g' ∧ g' 7 = g 7 ∧
    RC x 234 60 [some (.ref b), some (.int (Int32.ofNat (i - p))), some (.int (Int32.ofNat p)), e] [] (setM w b (ua (ua m 8 f) 1 g)) n = RC x 234 126 [some (.ref b), some (.int (Int32.ofNat (c - p'))), some (.int (Int32.ofNat p')), e'] [] (setM w b (ua (ua m 8 f') 1 g')) n := by
  induction d with
  | zero =>
    intro i p s g f P e h hM hU
    obtain rfl : i = c := by omega
    refine ⟨p, g, f, e, hM, rfl, ?_⟩
    have h7 := hM.2.2.2.2.1
    have h3 : fin 84 3 = some 3 := fin_lit (by decide) (by decide)
    have hle : p ≤ i := by rw [hM.2.2.2.1]; exact cnt_le _ _
    have h8 := hM.1.1.2.1
    have h1 : ¬ Int32.ofNat p < Int32.ofNat (p + (i - i)) := by rw [i_lt (by omega) (by omega)]; omega
    rw [r234_60]
    simp only [csN, csm_i, csm_r, Nat.reduceAdd, Nat.reduceLeDiff, wdI, wdR, wdN, clM_0, clC_0, clC_1, clC_6, clC_8, true_or, or_true, i10, i01, ob_some, ob_map, cal_v, rvs_some, rvs_none, XO_at, cal_x, m234, r234_0, r234_1, r234_4, r234_5, r234_6, r234_7, r234_8, r234_9, r234_10, r234_11, r234_14, r234_15, r234_16, r234_17, r234_18, r234_21, r234_22, r234_23, r234_24, r234_25, r234_26, r234_27, r234_28, r234_31, r234_32, r234_33, r234_36, r234_37, r234_38, r234_39, r234_40, r234_43, r234_44, r234_47, r234_48, r234_49, r234_50, r234_53, r234_56, r234_57, r234_58, r234_59, r234_61, r234_62, r234_65, r234_66, r234_67, r234_70, r234_71, r234_74, r234_75, r234_76, r234_79, r234_80, r234_83, r234_84, r234_85, r234_88, r234_91, r234_92, r234_93, r234_96, r234_99, r234_100, r234_103, r234_104, r234_105, r234_106, r234_109, r234_110, r234_111, r234_114, r234_117, r234_120, r234_123, r234_127, r234_130, r234_132, r234_133, r234_134, r234_135, r234_136, r234_137, r234_138, gM_0_0, lM_1, h3, Option.map_some, ua_same, h7, h1, if_false]
  | succ d ih =>
    intro i p s g f P e h hM hU
    obtain ⟨hIL, hic, hS, hp, h7, hA, hB⟩ := id hM
    have h8 := hIL.1.2.1
    have hle : p ≤ i := by rw [hp]; exact cnt_le _ _
    have hw := hIL.2.1 i (Nat.le_refl _) (by omega)
    obtain ⟨w1, w2, w3, w4, -⟩ := WB_gr hw
    have hb := hB i (Nat.le_refl _) (by omega)
    rw [Nat.sub_self, Nat.add_zero] at hb
    have h3 : fin 84 3 = some 3 := fin_lit (by decide) (by decide)
    have h1 : Int32.ofNat p < Int32.ofNat (p + (c - i)) := nlt (by omega) (by omega) (by omega)
    have h5 : fin 5 (Int32.ofNat (gN s i)) = some (gN s i) := fin_nat w1 (by omega)
    have e2 := c213 (x := x) (n := n) (b := b) (w := w) (s := s) (m := ua (ua m 8 f) 1 g) (i := i) (u := Int32.ofNat p) rfl (by omega) (by rw [ua_same]; exact hb)
    have e3 := c215 (x := x) (n := n) (b := b) (w := w) (s := s) (m := ua (ua m 8 f) 1 g) (i := i) (j := p) (cg := p + (c - i)) (c := c) (gt := gN s i) (r := rN s i) (u := Int32.ofNat p) rfl (by omega) (by rw [ua_same]; exact hb) (by rw [ua_same]; exact hS) w2 w1 w3 w4 (by rw [ua_same]; exact h7) (by omega) (fun q1 q2 => by rw [ua_same]; exact ML_ct hM q1 q2 w2)
    have e4 := c233 (x := x) (n := n) (b := b) (w := w) (s := s) (m := ua m 8 f) (g := g) (i := i) (j := p) (gt := gN s i) (r := rN s i) (u := Int32.ofNat p) rfl (by omega) hb w1 w2 w3 w4
    have e5 := fun m g => c216 (x := x) (n := n) (b := b) (w := w) (m := m) (g := g) (p := p) (u := Int32.ofNat p) rfl (by omega)
    have f8 : ua (ua m 8 f) 1 g 8 = f := by rw [ua_ne (by decide), ua_same]
    have k1 : Int32.ofNat p + 1 = Int32.ofNat (p + 1) := i_add (b := 1)
    have k2 : Int32.ofNat (i - p) + 1 = Int32.ofNat (i + 1 - p) := by rw [show i + 1 - p = i - p + 1 by omega]; exact i_add (b := 1)
    rw [us_ua'] at e4
    obtain ⟨a, ha, hPa, hf⟩ := id hU
    have hfq := hf (gN s i) w1
    have hbt := bt1 a ha (gN s i) w1
    rw [r234_60]
    simp only [csN, csm_i, csm_r, Nat.reduceAdd, Nat.reduceLeDiff, wdI, wdR, wdN, clM_0, clC_0, clC_1, clC_6, clC_8, true_or, or_true, i10, i01, ob_some, ob_map, cal_v, rvs_some, rvs_none, XO_at, cal_x, m234, r234_0, r234_1, r234_4, r234_5, r234_6, r234_7, r234_8, r234_9, r234_10, r234_11, r234_14, r234_15, r234_16, r234_17, r234_18, r234_21, r234_22, r234_23, r234_24, r234_25, r234_26, r234_27, r234_28, r234_31, r234_32, r234_33, r234_36, r234_37, r234_38, r234_39, r234_40, r234_43, r234_44, r234_47, r234_48, r234_49, r234_50, r234_53, r234_56, r234_57, r234_58, r234_59, r234_61, r234_62, r234_65, r234_66, r234_67, r234_70, r234_71, r234_74, r234_75, r234_76, r234_79, r234_80, r234_83, r234_84, r234_85, r234_88, r234_91, r234_92, r234_93, r234_96, r234_99, r234_100, r234_103, r234_104, r234_105, r234_106, r234_109, r234_110, r234_111, r234_114, r234_117, r234_120, r234_123, r234_127, r234_130, r234_132, r234_133, r234_134, r234_135, r234_136, r234_137, r234_138, gM_0_0, gM_0_14, lM_1, lM_8, h3, Option.map_some, ua_same, h7, h1, if_true, e2, w4, h5, f8, e3, bi_eq0, e4, e5, k1, k2]
    show ∃ p' g' f' e', ML (lpS c d (i + 1) (stS s c i P).1 (stS s c i P).2) c c p' g' ∧ _ ∧ _
    cases hbit : Nat.testBit a (gN s i) with
    | true =>
      rw [hbit] at hfq hbt
      have hst : (decide ((P >>> (Int32.ofNat (gN s i) &&& 31)) &&& 1 = 0) && mpS s c i (gN s i) (rN s i)) = false := by rw [hPa, hbt]; rfl
      have hs : stS s c i P = (s, P) := by unfold stS; rw [hst]; rfl
      rw [hs]
      obtain ⟨p', g', f', e', r1, r2, r3⟩ := ih (i + 1) (p + 1) s g f P (some (.int 0)) (by omega) (ML_skip hM (by omega)) hU
      refine ⟨p', g', f', e', r1, r2, ?_⟩
      rw [show i + 1 - (p + 1) = i - p by omega] at r3
      simp only [hfq, cond_true, i10, if_false]
      exact r3
    | false =>
      rw [hbit] at hfq hbt
      cases hmp : mpS s c i (gN s i) (rN s i) with
      | false =>
        have hst : (decide ((P >>> (Int32.ofNat (gN s i) &&& 31)) &&& 1 = 0) && mpS s c i (gN s i) (rN s i)) = false := by rw [hmp, Bool.and_false]
        have hs : stS s c i P = (s, P) := by unfold stS; rw [hst]; rfl
        rw [hs]
        obtain ⟨p', g', f', e', r1, r2, r3⟩ := ih (i + 1) (p + 1) s g f P (some (.int 0)) (by omega) (ML_skip hM (by omega)) hU
        refine ⟨p', g', f', e', r1, r2, ?_⟩
        rw [show i + 1 - (p + 1) = i - p by omega] at r3
        simp only [hfq, cond_false, if_true]
        exact r3
      | true =>
        have hst : (decide ((P >>> (Int32.ofNat (gN s i) &&& 31)) &&& 1 = 0) && mpS s c i (gN s i) (rN s i)) = true := by rw [hmp, hPa, hbt]; rfl
        have hs2 : (stS s c i P).2 = P ||| 1 <<< (Int32.ofNat (gN s i) &&& 31) := by unfold stS; rw [hst]; rfl
        obtain ⟨-, q2, q3⟩ := ML_pass (P := P) hM (by omega) hst
        have hU' := UP_or hU w1
        rw [hs2]
        by_cases he : rN s i = if s 13 i = 1 then 5 else 0
        · obtain ⟨p', g', f', e', r1, r2, r3⟩ := ih (i + 1) p _ _ _ _ (some (.int 1)) (by omega) (q2 he) hU'
          refine ⟨p', g', f', e', r1, ?_, ?_⟩
          · rw [r2, dpG_lo (by omega) (by omega), upd_at, if_neg (by omega), psG_out (by omega) (by omega) (by omega) (by omega) (by omega) (by omega)]
          · simp only [hfq, cond_false, if_true, if_false, he, decide_true, reduceCtorEq] at r3 ⊢
            exact r3
        · obtain ⟨p', g', f', e', r1, r2, r3⟩ := ih (i + 1) (p + 1) _ _ _ _ (some (.int 0)) (by omega) (q3 he) hU'
          refine ⟨p', g', f', e', r1, ?_, ?_⟩
          · rw [r2, upd_at, if_neg (by omega), psG_out (by omega) (by omega) (by omega) (by omega) (by omega) (by omega)]
          · rw [show i + 1 - (p + 1) = i - p by omega] at r3
            simp only [hfq, cond_false, if_true, if_false, he, decide_false, reduceCtorEq]
            exact r3
end MHL
