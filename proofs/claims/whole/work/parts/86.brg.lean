/-! BOTH READERS: one reads part by part and stops, the other goes on and does nothing -/
section BRG
set_option maxRecDepth 20000
variable {s : NS} {l p k d : Nat} {as ts : List Int32} {q : Bool × Nat} {v t : Int32}
def rqF (s : NS) (l : Nat) (ts : List Int32) (q : Bool × Nat) (as : List Int32) : Bool × Nat × List Int32 := if q.1 = true then (false, q.2, as) else rdF s l ts q.2 as
theorem rq_t : rqF s l ts (true, p) as = (false, p, as) := if_pos rfl
theorem rq_f : rqF s l ts (false, p) as = rdF s l ts p as := if_neg Bool.false_ne_true
theorem nd_t : nd s l v (true, p) = (true, p) := if_neg (fun h => by cases h.1)
theorem nd_y (h : nx s l p = v) : nd s l v (false, p) = (false, p + 1) := if_pos ⟨rfl, h⟩
theorem nd_n (h : ¬ nx s l p = v) : nd s l v (false, p) = (true, p) := if_neg (fun z => h z.2)
theorem pt_sg (h : nar v = 0) : ptF s l v p as = sgF s l v p as := by
  unfold nar at h
  unfold ptF
  by_cases h1 : v = 68
  · rw [if_pos h1] at h; cases h
  · rw [if_neg h1] at h ⊢
    by_cases h2 : v = 72
    · rw [if_pos h2] at h; cases h
    · rw [if_neg h2] at h ⊢
      by_cases h3 : v = 75
      · rw [if_pos h3] at h; cases h
      · rw [if_neg h3] at h ⊢
        by_cases h4 : v = 78
        · rw [if_pos h4] at h; cases h
        · rw [if_neg h4] at h ⊢
          by_cases h5 : v = 87
          · rw [if_pos h5] at h; cases h
          · rw [if_neg h5]
theorem rd_y (h : nar v = 0) (e : nx s l p = v) : rdF s l (v :: ts) p as = rdF s l ts (p + 1) as := by
  conv => lhs; unfold rdF
  rw [pt_sg h]
  unfold sgF
  rw [if_pos e, if_pos rfl]
theorem rd_n (h : nar v = 0) (e : ¬ nx s l p = v) : rdF s l (v :: ts) p as = (false, p, as) := by
  conv => lhs; unfold rdF
  rw [pt_sg h]
  unfold sgF
  rw [if_neg e, if_neg Bool.false_ne_true]
theorem rq_c (h : nar v = 0) : rqF s l (v :: ts) q as = rqF s l ts (nd s l v q) as := by
  obtain ⟨c, p⟩ := q
  cases c with
  | true => rw [nd_t, rq_t, rq_t]
  | false =>
    rw [rq_f]
    by_cases e : nx s l p = v
    · rw [rd_y h e, nd_y e, rq_f]
    · rw [rd_n h e, nd_n e, rq_t]
theorem num_if (hd : 0 < d) : numF s l d p as = if nx s l p ∈ D10 then (true, (dgF s l d p 0).1, as ++ [(dgF s l d p 0).2]) else (false, p, as) := by
  obtain ⟨e, rfl⟩ : ∃ e, d = e + 1 := ⟨d - 1, by omega⟩
  unfold numF
  by_cases h : nx s l p ∈ D10
  · have h1 : dgF s l (e + 1) p 0 = dgF s l e (p + 1) (0 * 10 + nx s l p - 48) := by
      conv => lhs; unfold dgF
      rw [if_pos h]
    have h2 := (dgF_p (s := s) (l := l) e (p + 1) (0 * 10 + nx s l p - 48)).1
    rw [if_pos h, h1, if_pos (by omega)]
  · have h1 : dgF s l (e + 1) p 0 = (p, 0) := by
      conv => lhs; unfold dgF
      rw [if_neg h]
    rw [if_neg h, h1, if_neg (by dsimp only; omega)]
theorem rq_d (hp : ∀ p as, ptF s l t p as = numF s l d p as) (hd : 0 < d) : rqF s l (32 :: t :: ts) q as = rqF s l ts (dgQ s l d q) (if (dgQ s l d q).1 = false then as ++ [dgV s l d q] else as) := by
  rw [rq_c (by decide)]
  unfold dgQ dgV
  obtain ⟨r, hr⟩ : ∃ r, r = nd s l 32 q := ⟨_, rfl⟩
  rw [← hr]
  obtain ⟨c, p⟩ := r
  cases c with
  | true => simp [rqF]
  | false =>
    rw [rq_f]
    conv => lhs; unfold rdF
    rw [hp, num_if hd]
    by_cases h : nx s l p ∈ D10
    · rw [if_pos h, if_pos rfl]
      simp [h, rqF]
    · rw [if_neg h, if_neg Bool.false_ne_true]
      simp [h, rqF]
theorem rq_d1 : rqF s l (32 :: 68 :: ts) q as = rqF s l ts (dgQ s l 1 q) (if (dgQ s l 1 q).1 = false then as ++ [dgV s l 1 q] else as) := rq_d (fun _ _ => if_pos rfl) (by decide)
theorem rq_d3 : rqF s l (32 :: 78 :: ts) q as = rqF s l ts (dgQ s l 3 q) (if (dgQ s l 3 q).1 = false then as ++ [dgV s l 3 q] else as) := rq_d (fun _ _ => by
  unfold ptF
  rw [if_neg (by decide), if_neg (by decide), if_neg (by decide), if_pos rfl]) (by decide)
theorem rq_nil : rqF s l [] q as = (!q.1, q.2, as) := by
  obtain ⟨c, p⟩ := q
  cases c <;> rfl
theorem rd_one {r : Bool × Nat × List Int32} (h : ptF s l t p as = r) : rdF s l [t] p as = r := by
  unfold rdF
  rw [h]
  split
  · next h2 =>
    unfold rdF
    rw [← h2]
  · rfl
theorem rq_w : rqF s l [87] q as = (!(wQ s l q).1, (wQ s l q).2, if (wQ s l q).1 = false then as ++ [nx s l q.2] else as) := by
  obtain ⟨c, p⟩ := q
  have e : ∀ p, ptF s l 87 p as = oneF s l [100, 117] p as := fun p => by
    unfold ptF
    rw [if_neg (by decide), if_neg (by decide), if_neg (by decide), if_neg (by decide), if_pos rfl]
  cases c with
  | true => simp [rqF, wQ, nd]
  | false =>
    rw [rq_f, rd_one (e p)]
    unfold oneF wQ nd
    by_cases h1 : nx s l p = 100
    · simp [h1]
    · by_cases h2 : nx s l p = 117
      · simp [h2]
      · simp [h1, h2]
theorem rq_k : rqF s l [75] q as = (!(kQ s l q).1, (kQ s l q).2, if (kQ s l q).1 = false then as ++ [nx s l q.2] else as) := by
  obtain ⟨c, p⟩ := q
  have e : ∀ p, ptF s l 75 p as = oneF s l [77, 109, 100, 97] p as := fun p => by
    unfold ptF
    rw [if_neg (by decide), if_neg (by decide), if_pos rfl]
  cases c with
  | true => simp [rqF, kQ]
  | false =>
    rw [rq_f, rd_one (e p)]
    unfold oneF kQ
    by_cases h1 : nx s l p ∈ ([77, 109, 100, 97] : List Int32)
    · have h2 : ((false, p) : Bool × Nat).1 = false ∧ nx s l ((false, p) : Bool × Nat).2 ∈ ([77, 109, 100, 97] : List Int32) := And.intro rfl h1
      rw [if_pos h1, if_pos h2]
      rfl
    · have h2 : ¬ (((false, p) : Bool × Nat).1 = false ∧ nx s l ((false, p) : Bool × Nat).2 ∈ ([77, 109, 100, 97] : List Int32)) := fun z => h1 z.2
      rw [if_neg h1, if_neg h2]
      rfl
theorem rq_h : rqF s l [72] q as = (!(hQ s l q).1, (hQ s l q).2, if (hQ s l q).1 = false then as ++ [hV s l q] else as) := by
  obtain ⟨c, p⟩ := q
  have e : ∀ p, ptF s l 72 p as = hrF s l p as := fun p => by
    unfold ptF
    rw [if_neg (by decide), if_pos rfl]
  cases c with
  | true => simp [rqF, hQ]
  | false =>
    rw [rq_f, rd_one (e p)]
    unfold hrF hQ hV
    by_cases h1 : nx s l p = 32
    · rw [if_pos h1, num_if (by decide)]
      unfold dgQ dgV
      by_cases h : nx s l (p + 1) ∈ D10
      · simp [h1, h, nd]
      · simp [h1, h, nd]
    · simp [h1]
theorem nd_f (h : (nd s l v q).1 = false) : q.1 = false := by
  obtain ⟨c, p⟩ := q
  cases c with
  | true => rw [nd_t] at h; exact h
  | false => rfl
theorem dgQ_f (h : (dgQ s l d q).1 = false) : q.1 = false := by
  unfold dgQ at h
  split at h
  · next z => exact nd_f z.1
  · cases h
theorem wQ_f (h : (wQ s l q).1 = false) : q.1 = false ∧ (nx s l q.2 = 100 ∧ wV s l q = 1 ∨ nx s l q.2 = 117 ∧ wV s l q = 0) := by
  unfold wQ at h
  unfold wV
  split at h
  · next z => exact ⟨z.1, Or.inl ⟨z.2, if_pos z⟩⟩
  · next z =>
    have h1 := nd_f h
    refine ⟨h1, Or.inr ⟨?_, if_neg z⟩⟩
    unfold nd at h
    split at h
    · next y => exact y.2
    · cases h
theorem kQ_f (h : (kQ s l q).1 = false) : q.1 = false ∧ nx s l q.2 ∈ ([77, 109, 100, 97] : List Int32) := by
  unfold kQ at h
  split at h
  · next z => exact z
  · cases h
theorem hQ_f (h : (hQ s l q).1 = false) : q.1 = false := by
  unfold hQ at h
  split at h
  · next z => exact z.1
  · exact h
/-! the eight forms, behind their first letter -/
theorem FF0 (h : nx s l p = 98) : rdF s l (frm 0) p [] = rqF s l [97, 114, 103, 101, 32, 78, 32, 68, 87] (false, p + 1) [] := by rw [rq_f]; exact rd_y (by decide) h
theorem FF1 (h : nx s l p = 116) : rdF s l (frm 1) p [] = rqF s l [117, 110, 101, 32, 68, 32, 68, 32, 78] (false, p + 1) [] := by rw [rq_f]; exact rd_y (by decide) h
theorem FF2 (h : nx s l p = 102) : rdF s l (frm 2) p [] = rqF s l [105, 120, 32, 68, 32, 68] (false, p + 1) [] := by rw [rq_f]; exact rd_y (by decide) h
theorem FF3 (h : nx s l p = 100) : rdF s l (frm 3) p [] = rqF s l [101, 109, 97, 110, 100, 32, 68, 32, 75] (false, p + 1) [] := by rw [rq_f]; exact rd_y (by decide) h
theorem FF4 (h : nx s l p = 102) : rdF s l (frm 4) p [] = rqF s l [108, 111, 119, 32, 68] (false, p + 1) [] := by rw [rq_f]; exact rd_y (by decide) h
theorem FF5 (h : nx s l p = 102) : rdF s l (frm 5) p [] = rqF s l [105, 108, 108, 32, 68, 32, 78] (false, p + 1) [] := by rw [rq_f]; exact rd_y (by decide) h
theorem FF6 (h : nx s l p = 108) : rdF s l (frm 6) p [] = rqF s l [101, 97, 118, 101, 32, 78] (false, p + 1) [] := by rw [rq_f]; exact rd_y (by decide) h
theorem FF7 (h : nx s l p = 104) : rdF s l (frm 7) p [] = rqF s l [111, 117, 114, 72] (false, p + 1) [] := by rw [rq_f]; exact rd_y (by decide) h
/-- the first letter of a form -/
def fl (k : Nat) : Int32 := if k = 0 then 98 else if k = 1 then 116 else if k = 2 then 102 else if k = 3 then 100 else if k = 4 then 102 else if k = 5 then 102 else if k = 6 then 108 else 104
theorem fl_ok : ∀ k, k < 8 → nar (fl k) = 0 ∧ frm k = fl k :: (frm k).drop 1 := by decide +kernel
theorem FN (hk : k < 8) (h : ¬ nx s l p = fl k) : rdF s l (frm k) p [] = (false, p, []) := by
  obtain ⟨h1, h2⟩ := fl_ok k hk
  rw [h2]
  exact rd_n h1 h
theorem try_pre {f B : Nat} (e : Nat) : ∀ k f, (∀ j, k ≤ j → j < k + e → (rdF s l (frm j) p []).1 = false ∧ (rdF s l (frm j) p []).2.1 ≤ B) → f ≤ B → ∃ f', f ≤ f' ∧ f' ≤ B ∧ tryF s l p (e + d) k f = tryF s l p d (k + e) f' := by
  induction e with
  | zero => intro k f _ hf; exact ⟨f, Nat.le_refl _, hf, by rw [Nat.zero_add, Nat.add_zero]⟩
  | succ e ih =>
    intro k f h hp
    obtain ⟨h0, h1⟩ := h k (by omega) (by omega)
    obtain ⟨f', a1, a2, a3⟩ := ih (k + 1) (mxn f (rdF s l (frm k) p []).2.1) (fun j h1 h2 => h j (by omega) (by omega)) (by unfold mxn; split <;> omega)
    refine ⟨f', Nat.le_trans (by unfold mxn; split <;> omega) a1, a2, ?_⟩
    rw [show e + 1 + d = e + d + 1 by omega, try_0 h0, a3, show k + 1 + e = k + (e + 1) by omega]
theorem try_none {f : Nat} (h : ∀ j, k ≤ j → j < k + d → (rdF s l (frm j) p []).1 = false ∧ (rdF s l (frm j) p []).2.1 ≤ f) : tryF s l p d k f = .inr f := by
  obtain ⟨f', a1, a2, a3⟩ := try_pre (d := 0) (B := f) (f := 0) d k f h (Nat.le_refl _)
  rw [Nat.add_zero] at a3
  rw [a3, show f' = f by omega]
  rfl
/-- how the model's row tells a command -/
def PM (c : Nat) (as : List Int32) (g : Nat → Int32) (k : Nat) : Prop :=
  (c = 0 ∧ ∃ a1 a2 a3, as = [a1, a2, a3] ∧ g k = 98 ∧ g (k + 1) = a1 ∧ g (k + 2) = a2 ∧ (a3 = 100 ∧ g (k + 3) = 1 ∨ a3 = 117 ∧ g (k + 3) = 0)) ∨
  (c = 1 ∧ ∃ a1 a2 a3, as = [a1, a2, a3] ∧ g k = 116 ∧ g (k + 1) = a1 ∧ g (k + 2) = a2 ∧ g (k + 3) = a3) ∨
  (c = 2 ∧ ∃ a1 a2, as = [a1, a2] ∧ g k = 102 ∧ g (k + 1) = a1 ∧ g (k + 2) = a2) ∨
  (c = 3 ∧ ∃ a1 a2, as = [a1, a2] ∧ g k = 100 ∧ g (k + 1) = a1 ∧ g (k + 2) = a2) ∨
  (c = 4 ∧ ∃ a1, as = [a1] ∧ g k = 119 ∧ g (k + 1) = a1) ∨
  (c = 5 ∧ ∃ a1 a2, as = [a1, a2] ∧ g k = 105 ∧ g (k + 1) = a1 ∧ g (k + 2) = a2) ∨
  (c = 6 ∧ ∃ a1, as = [a1] ∧ g k = 108 ∧ g (k + 1) = a1) ∨
  (c = 7 ∧ ∃ a1, as = [a1] ∧ g k = 104 ∧ g (k + 1) = a1)
/-- what the model must have read where the class reads t -/
def CMDR (t : (Nat × Nat × List Int32) ⊕ Nat) (g : Nat → Int32) (k : Nat) (Q : Bool × Nat) : Prop := match t with
  | .inl (c, p', as) => Q = (false, p') ∧ PM c as g k ∧ c < 8
  | .inr e => Q = (true, e)
theorem cmdr_of {c : Nat} {g : Nat → Int32} {Q : Bool × Nat} {as : List Int32} (hc : c < 8) (R : rdF s l (frm c) p [] = (!Q.1, Q.2, as)) (hoth : ∀ j, j < 8 → ¬ j = c → (rdF s l (frm j) p []).1 = false ∧ (rdF s l (frm j) p []).2.1 ≤ Q.2) (hP : Q.1 = false → PM c as g k) : CMDR (tryF s l p 8 0 p) g k Q := by
  have hp := (gd_rd (s := s) (l := l) (frm c) (frm_ok c hc).1 p []).1
  rw [R] at hp
  obtain ⟨f', a1, a2, e⟩ := try_pre (s := s) (l := l) (p := p) (d := (7 - c) + 1) (f := p) (B := Q.2) c 0 p (fun j _ h => hoth j (by omega) (by omega)) hp
  rw [show c + (7 - c + 1) = 8 by omega, Nat.zero_add] at e
  rw [e]
  obtain ⟨w, r⟩ := Q
  cases w with
  | false =>
    rw [try_1 (by rw [R]; rfl), R]
    exact ⟨rfl, hP rfl, hc⟩
  | true =>
    rw [try_0 (by rw [R]; rfl), R]
    dsimp only at a2 ⊢
    rw [mxn_r a2, try_none (fun j a b => hoth j (by omega) (by omega))]
    exact rfl
theorem nd_ge : q.2 ≤ (nd s l v q).2 := by
  unfold nd
  split <;> simp
theorem dgQ_ge : q.2 ≤ (dgQ s l d q).2 := by
  unfold dgQ
  split
  · exact Nat.le_trans nd_ge (dgF_p d _ _).1
  · exact nd_ge
theorem FNo {j : Nat} {Q : Bool × Nat} (hj : j < 8) (h : ¬ nx s l p = fl j) (hp : p ≤ Q.2) : (rdF s l (frm j) p []).1 = false ∧ (rdF s l (frm j) p []).2.1 ≤ Q.2 := by
  rw [FN hj h]
  exact ⟨rfl, hp⟩
end BRG
