/-! BOTH SIDES TOGETHER: what holds between two calls; a change on both sides -/
section INV
set_option maxRecDepth 20000
variable {x : SX} {n c q B : Nat} {w w' : PW} {m s t y : NS} {hs le lf hc : Int32} {F : Nat → Nat} {K : Nat → NS} {sc : NS} {cs : Nat → Nat}
def dcl (f : Nat → UInt64) : PE := .inl (4, 1, .inr (.inr (.inr (.inl f))))
theorem WD_ge (h : WD w s t y hs le lf F K hc sc) (e : ∀ i, i < 225 → w' i = w i) : WD w' s t y hs le lf F K hc sc := by
  obtain ⟨h1, h2, h3, h4, h5, h6, h7, h8, h9, h10⟩ := h
  exact ⟨by rw [e _ (by omega)]; exact h1, fun k hk => by rw [e _ (by omega)]; exact h2 k hk, fun k hk => by rw [e _ (by omega)]; exact h3 k hk, fun k hk => by rw [e _ (by omega)]; exact h4 k hk, by rw [e _ (by omega)]; exact h5, by rw [e _ (by omega)]; exact h6, fun q hq k hk => by have := h8 q hq; rw [e _ (by omega)]; exact h7 q hq k hk, h8, h9, fun k hk => by rw [e _ (by omega)]; exact h10 k hk⟩
theorem isM_c (h : setM w 227 m = w) (e : ∀ i, 227 ≤ i → i < 237 → w' i = w i) : setM w' 227 m = w' := setW_self (fun k hk => by
  rw [e _ (by omega) (by omega), ← h]
  exact setW_at hk)
theorem isM_s : setM (setM w 227 m) 227 m = setM w 227 m := setW_self (fun _ hk => setW_at hk)
def IV (B : Nat) (w : PW) (m s t y : NS) (hs le lf : Int32) (F : Nat → Nat) (K : Nat → NS) (sc : NS) (c q : Nat) (cs : Nat → Nat) : Prop :=
  WD w s t y hs le lf F K (Int32.ofNat q) sc ∧ setM w 227 m = w ∧ (∃ f, w 237 = some (lcl f)) ∧ (∃ g, w 238 = some (dcl g)) ∧ RJ s (m 1) c ∧ HM m q K cs ∧ m 20 6 = hs ∧ (hs = 0 ∨ ∃ cy, RJ y (m 5) cy ∧ IDV B y cy) ∧ IDV B s c ∧ ∀ j, j < q → IDV B (K j) (cs j)
/-- what no call but those that type, run or render touches -/
def Fr (w w' : PW) : Prop := ∀ i, 225 ≤ i → (i < 227 ∨ 239 ≤ i) → w' i = w i
def Kp (m m' : NS) : Prop := (∀ a, a = 6 ∨ a = 7 ∨ a = 9 → m' a = m a) ∧ (∀ j, ¬ j = 4 → ¬ j = 6 → ¬ j = 13 → m' 20 j = m 20 j)
theorem Kp_of {m' : NS} (h : Keep m m') : Kp m m' := ⟨fun a ha => h.1 a (by omega), fun j h4 _ h13 => h.2 j h4 h13⟩
def PAIR (B : Nat) (x : SX) (w : PW) (n : Nat) (j1 : Nat) (A1 : List Value) (j2 : Nat) (A2 : List Value) (m : NS) (le lf : Int32) (sc : NS) : Prop :=
  ∃ e r w1 n1 w2 n2, RM x j1 A1 w n = some (.inl (some (.int e)), w1, n1) ∧ RM x j2 A2 w1 n1 = some (.inl (some (.int r)), w2, n2) ∧ clo w1 227 = some 7 ∧ n ≤ n1 ∧ n1 ≤ n2 ∧ n2 ≤ n + 2 ∧ Fr w w2 ∧ (e = 0 → ∃ f, w2 237 = some (lcl f) ∧ f 0 = r.toInt64) ∧
    ∃ m' s t y hs F K c q cs B', B' ≤ B + 64 ∧ IV B' w2 m' s t y hs le lf F K sc c q cs ∧ m' 20 13 = e ∧ Kp m m'
theorem clM (h : setM w 227 m = w) : clo w 227 = some 7 := by
  rw [← h]
  exact clM_0
theorem updL_0 {f : Nat → Int64} {v : Int64} : vp_updL f 0 v 0 = v := if_pos rfl
theorem chg_pair {k u v z : Int32} {code : Nat → Int32} {j1 j2 : Nat} {A1 A2 : List Value} (hV : IV B w m s t y hs le lf F K sc c q cs)
    (hk : k = 0 ∨ k = 1 ∨ k = 2 ∨ k = 3 ∨ k = 4 ∨ k = 5 ∨ k = 6 ∨ k = 7) (W0 : ∀ w' n' r f, ftS s c k u v z = 0 → r = (pfS s c k u v z).1 → RM x 89 [.ref 64, .int k, .int u, .int v, .int z] w n = some (.inl (some (.int r)), w', n') → w' 237 = some (lcl f) → RM x j1 A1 w n = some (.inl (some (.int 0)), pupd w' 237 (lcl (vp_updL f 0 r.toInt64)), n'))
    (W1 : ¬ ftS s c k u v z = 0 → RM x 89 [.ref 64, .int k, .int u, .int v, .int z] w n = some (.inr (ftX (ftS s c k u v z)), w, n + 1) → RM x j1 A1 w n = some (.inl (some (.int (code (ftS s c k u v z)))), w, n + 2))
    (hcode : ∀ f, ¬ f = 0 → ¬ code f = 0)
    (M : ∀ w' n' z7, EC z7 s → MW x n' 227 w' m s c q K cs z7 k u v z code (RM x j2 A2 (setM w' 227 m) n')) : PAIR B x w n j1 A1 j2 A2 m le lf sc := by
  obtain ⟨hW, hM, ⟨f, hf⟩, ⟨g, hg⟩, hR, hH, h6, hy, hi, hiK⟩ := hV
  by_cases h0 : ftS s c k u v z = 0
  · obtain ⟨w1, F', e1, hW1, o1⟩ := c89_0 (x := x) (n := n) hW hR.1.1.1 h0
    have f1 : w1 237 = some (lcl f) := by rw [o1 237 (by omega)]; exact hf
    have E1 := W0 w1 n _ f h0 rfl e1 f1
    obtain ⟨w2, hw2⟩ : ∃ w2, w2 = pupd w1 237 (lcl (vp_updL f 0 (pfS s c k u v z).1.toInt64)) := ⟨_, rfl⟩
    rw [← hw2] at E1
    have o2 : ∀ i, ¬ i = 237 → w2 i = w1 i := fun i hi => by rw [hw2, pupd_ne hi]
    have M2 : setM w2 227 m = w2 := isM_c hM (fun i h1 h2 => by rw [o2 i (by omega), o1 i (by omega)])
    obtain ⟨m', E2, r1, r2, r3, r4⟩ := (M w2 n (cpC (K 7) s) EC_cp).1 h0
    rw [M2] at E2
    rw [mn8_hiN hH.1] at hW1
    refine ⟨0, _, w2, n, setM w2 227 m', n, E1, E2, clM M2, by omega, by omega, by omega, fun i h1 h2 => ?_, fun _ => ⟨_, by rw [setM_out (by omega), hw2]; exact pupd_same _ _ _, updL_0⟩, m', _, t, y, hs, F', _, _, _, _, B + 1, by omega, ⟨WD_ge hW1 (fun i hi => ?_), isM_s, ⟨_, by rw [setM_out (by omega), hw2]; exact pupd_same _ _ _⟩, ⟨g, ?_⟩, r1, r2, ?_, ?_, IDV_pf hk hi, fun j hj => ?_⟩, r3, Kp_of r4⟩
    · rw [setM_out (by omega), o2 i (by omega), o1 i (by omega)]
    · rw [setM_out (by omega), o2 i (by omega)]
    · rw [setM_out (by omega), o2 _ (by omega), o1 _ (by omega)]; exact hg
    · rw [r4.2 6 (by omega) (by omega)]; exact h6
    · rw [r4.1 5 (by omega)]
      exact hy.imp (fun h => h) (fun ⟨cy, h1, h2⟩ => ⟨cy, h1, IDV_up h2 (by omega)⟩)
    · unfold K1 cs1
      by_cases j0 : j = 0
      · rw [if_pos j0, if_pos j0]
        exact IDV_up (IDV_E hR.1.1.1.1.2.1 hi EC_cp) (by omega)
      · rw [if_neg j0, if_neg j0]
        exact IDV_up (hiK (j - 1) (by unfold hiN at hj; split at hj <;> omega)) (by omega)
  · have e1 := c89_1 (x := x) (n := n) hW hR.1.1.1 h0
    have E1 := W1 h0 e1
    obtain ⟨m', E2, r1, r2, r3, r4⟩ := (M w (n + 2) (cpC (K 7) s) EC_cp).2 h0
    rw [hM] at E2
    refine ⟨_, 0, w, n + 2, setM w 227 m', n + 2, E1, E2, clM hM, by omega, by omega, by omega, fun i h1 h2 => ?_, fun h => absurd h (hcode _ h0), m', s, t, y, hs, F, K, c, q, cs, B, by omega, ⟨WD_ge hW (fun i hi => ?_), isM_s, ⟨f, ?_⟩, ⟨g, ?_⟩, r1, r2, ?_, ?_, hi, hiK⟩, r3, Kp_of r4⟩
    · rw [setM_out (by omega)]
    · rw [setM_out (by omega)]
    · rw [setM_out (by omega)]; exact hf
    · rw [setM_out (by omega)]; exact hg
    · rw [r4.2 6 (by omega) (by omega)]; exact h6
    · rw [r4.1 5 (by omega)]; exact hy
end INV
