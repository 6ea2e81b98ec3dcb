/-! THE BARGES' NUMBERS are below a bound that grows by one with a change -/
section IDV
set_option maxRecDepth 20000
variable {c B : Nat} {s : NS}
def IDV (B : Nat) (s : NS) (c : Nat) : Prop := ∃ N, N ≤ B ∧ s 20 26 = Int32.ofNat N ∧ ∀ j, j < c → ∃ a, a < N ∧ s 9 j = Int32.ofNat a
theorem IDV_up {B' : Nat} (h : IDV B s c) (hB : B ≤ B') : IDV B' s c := by
  obtain ⟨N, h1, h2, h3⟩ := h
  exact ⟨N, by omega, h2, h3⟩
theorem IDV_c {t : NS} (h : IDV B s c) (h9 : t 9 = s 9) (h26 : t 20 26 = s 20 26) : IDV B t c := by
  obtain ⟨N, h1, h2, h3⟩ := h
  exact ⟨N, h1, by rw [h26]; exact h2, fun j hj => by rw [h9]; exact h3 j hj⟩
theorem IDV_E {t : NS} (h8 : c ≤ 8) (h : IDV B s c) (e : EC t s) : IDV B t c := by
  obtain ⟨e2, e3, e4, e5, e7, er, e20⟩ := e
  obtain ⟨N, h1, h2, h3⟩ := h
  exact ⟨N, h1, by rw [e20 26 (by simp)]; exact h2, fun j hj => by rw [er 9 (by simp) j (by omega)]; exact h3 j hj⟩
theorem IDV_fl {p : Nat → Bool} {t : NS} (h : IDV B s c) (h9 : t 9 = (flA s p c).1 9) (h26 : t 20 26 = s 20 26) : IDV B t (cnt p c) := by
  obtain ⟨N, h1, h2, h3⟩ := h
  refine ⟨N, h1, by rw [h26]; exact h2, fun j hj => ?_⟩
  obtain ⟨i, m1, m2, m3⟩ := kept_ex hj
  rw [h9, ← m3, flA_lo (by simp) c i m1 m2]
  exact h3 i m1
theorem lp_9 (d : Nat) : ∀ (i : Nat) (s : NS) (P : Int32), lpS c d i s P 9 = s 9 ∧ lpS c d i s P 20 26 = s 20 26 := by
  induction d with
  | zero => intro i s P; exact ⟨rfl, rfl⟩
  | succ d ih =>
    intro i s P
    unfold lpS
    have := ih (i + 1) (stS s c i P).1 (stS s c i P).2
    rw [this.1, this.2]
    unfold stS
    cases decide ((P >>> (Int32.ofNat (gN s i) &&& 31)) &&& 1 = 0) && mpS s c i (gN s i) (rN s i) with
    | true =>
      rw [cond_true]
      dsimp only
      exact ⟨by rw [us_ne (by decide), cpS_ne (by decide) (by decide), thruS_ne (by decide) (by decide)], mvd_20 (by decide)⟩
    | false => exact ⟨rfl, rfl⟩
theorem IDV_hr (h : IDV B s c) : IDV B (hrS s c) (hrC s c) := by
  have k := lp_9 (c := c) c 0 (h1S s) 0
  have h' : IDV B (mdS s c) c := IDV_c h (by unfold mdS; rw [k.1, h1S_ne (by decide) (by decide)]) (by unfold mdS; rw [k.2, h1S_20 (by decide) (by decide) (by decide)])
  unfold hrS hrC arS
  exact IDV_fl h' (by rw [us_ne (by decide)]) (by rw [us_at, if_pos rfl, if_neg (by decide), flA_out (by decide)])
theorem IDV_ph (d : Nat) : ∀ (s : NS) (c : Nat) (L : Int32), IDV B s c → IDV B (phS d s c L).1 (phS d s c L).2.1 := by
  induction d with
  | zero => intro s c L h; exact h
  | succ d ih => intro s c L h; exact ih _ _ _ (IDV_hr h)
theorem IDV_pf {k u v z : Int32} (hk : k = 0 ∨ k = 1 ∨ k = 2 ∨ k = 3 ∨ k = 4 ∨ k = 5 ∨ k = 6 ∨ k = 7) (h : IDV B s c) : IDV (B + 1) (pfS s c k u v z).2 (pcS s c k u v z) := by
  rcases hk with rfl | rfl | rfl | rfl | rfl | rfl | rfl | rfl
  · have e1 : pfS s c 0 u v z = (s 20 26, lauS s c u v (decide (z = 100))) := by unfold pfS; rw [if_pos rfl]
    have e2 : pcS s c 0 u v z = c + 1 := by unfold pcS; rw [if_pos rfl]
    rw [e1, e2]
    dsimp only
    obtain ⟨N, h1, h2, h3⟩ := h
    have o9 : ∀ j, lauS s c u v (decide (z = 100)) 9 j = if j = c then s 20 26 else s 9 j := fun j => by
      unfold lauS
      rw [us_ne (by decide), us_ne (by decide), us_ne (by decide), us_ne (by decide), us_ne (by decide), us_ne (by decide), us_at, if_pos rfl]
    refine ⟨N + 1, by omega, ?_, fun j hj => ?_⟩
    · have e : lauS s c u v (decide (z = 100)) 20 26 = s 20 26 + 1 := by
        unfold lauS
        rw [us_at, if_pos rfl, if_pos rfl]
      rw [e, h2]
      exact i_add (b := 1)
    · rw [o9]
      by_cases hjc : j = c
      · rw [if_pos hjc]; exact ⟨N, by omega, h2⟩
      · rw [if_neg hjc]
        obtain ⟨a, ha, e⟩ := h3 j (by omega)
        exact ⟨a, by omega, e⟩
  · have e1 : pfS s c 1 u v z = (s 4 (u * 2 + v).toNatClampNeg, us s 4 (u * 2 + v).toNatClampNeg z) := by unfold pfS; rw [if_neg (by decide), if_pos rfl]
    have e2 : pcS s c 1 u v z = c := by unfold pcS; rw [if_neg (by decide), if_pos rfl]
    rw [e1, e2]
    dsimp only
    exact IDV_up (IDV_c h (us_ne (by decide)) (by rw [us_ne (by decide)])) (by omega)
  · have e1 : pfS s c 2 u v z = (s 5 (u * 2 + v).toNatClampNeg, us s 5 (u * 2 + v).toNatClampNeg 0) := by unfold pfS; rw [if_neg (by decide), if_neg (by decide), if_pos rfl]
    have e2 : pcS s c 2 u v z = c := by unfold pcS; rw [if_neg (by decide), if_neg (by decide), if_pos rfl]
    rw [e1, e2]
    dsimp only
    exact IDV_up (IDV_c h (us_ne (by decide)) (by rw [us_ne (by decide)])) (by omega)
  · have e1 : pfS s c 3 u v z = (s 2 u.toNatClampNeg, us s 2 u.toNatClampNeg v) := by unfold pfS; rw [if_neg (by decide), if_neg (by decide), if_neg (by decide), if_pos rfl]
    have e2 : pcS s c 3 u v z = c := by unfold pcS; rw [if_neg (by decide), if_neg (by decide), if_neg (by decide), if_pos rfl]
    rw [e1, e2]
    dsimp only
    exact IDV_up (IDV_c h (us_ne (by decide)) (by rw [us_ne (by decide)])) (by omega)
  · have e1 : pfS s c 4 u v z = (s 20 4, us s 20 4 u) := by unfold pfS; rw [if_neg (by decide), if_neg (by decide), if_neg (by decide), if_neg (by decide), if_pos rfl]
    have e2 : pcS s c 4 u v z = c := by unfold pcS; rw [if_neg (by decide), if_neg (by decide), if_neg (by decide), if_neg (by decide), if_pos rfl]
    rw [e1, e2]
    dsimp only
    exact IDV_up (IDV_c h (us_ne (by decide)) (by rw [us_at, if_pos rfl, if_neg (by decide)])) (by omega)
  · have e1 : pfS s c 5 u v z = (fillS s u.toNatClampNeg v 7 u.toNatClampNeg, fillS s u.toNatClampNeg v) := by unfold pfS; rw [if_neg (by decide), if_neg (by decide), if_neg (by decide), if_neg (by decide), if_neg (by decide), if_pos rfl]
    have e2 : pcS s c 5 u v z = c := by unfold pcS; rw [if_neg (by decide), if_neg (by decide), if_neg (by decide), if_neg (by decide), if_neg (by decide), if_pos rfl]
    rw [e1, e2]
    dsimp only
    refine IDV_up (IDV_c h ?_ ?_) (by omega)
    · unfold fillS
      rw [pourS_ne (by decide) (by decide), us_ne (by decide)]
    · unfold fillS
      rw [pourS_20 (by decide), us_at, if_pos rfl, if_neg (by decide)]
  · have e1 : pfS s c 6 u v z = (Int32.ofNat (cnt (fun j => decide (¬ Int32.ofNat j = ixA (s 9) u c 0)) c), rvS s c (ixA (s 9) u c 0)) := by unfold pfS; rw [if_neg (by decide), if_neg (by decide), if_neg (by decide), if_neg (by decide), if_neg (by decide), if_neg (by decide), if_pos rfl]
    have e2 : pcS s c 6 u v z = cnt (fun j => decide (¬ Int32.ofNat j = ixA (s 9) u c 0)) c := by unfold pcS; rw [if_neg (by decide), if_neg (by decide), if_neg (by decide), if_neg (by decide), if_neg (by decide), if_neg (by decide), if_pos rfl]
    rw [e1, e2]
    dsimp only
    refine IDV_up (IDV_fl h ?_ ?_) (by omega)
    · unfold rvS; rw [us_ne (by decide)]
    · unfold rvS; rw [us_at, if_pos rfl, if_neg (by decide), flA_out (by decide)]
  · have e1 : pfS s c 7 u v z = ((phS u.toNatClampNeg s c 0).2.2, pdS u.toNatClampNeg s c) := by unfold pfS; rw [if_neg (by decide), if_neg (by decide), if_neg (by decide), if_neg (by decide), if_neg (by decide), if_neg (by decide), if_neg (by decide)]
    have e2 : pcS s c 7 u v z = (phS u.toNatClampNeg s c 0).2.1 := by unfold pcS; rw [if_neg (by decide), if_neg (by decide), if_neg (by decide), if_neg (by decide), if_neg (by decide), if_neg (by decide), if_neg (by decide)]
    rw [e1, e2]
    dsimp only
    have := IDV_ph (B := B) u.toNatClampNeg s c 0 h
    unfold pdS
    exact IDV_up (IDV_c this (us_ne (by decide)) (by rw [us_at, if_pos rfl, if_neg (by decide)])) (by omega)
end IDV
