/-! UNDO, SAVE, RESTORE on both sides -/
section USR
set_option maxRecDepth 20000
variable {x : SX} {n c q B : Nat} {w : PW} {m s t y : NS} {hs le lf : Int32} {F : Nat → Nat} {K : Nat → NS} {sc : NS} {cs : Nat → Nat}
def SAME (B : Nat) (x : SX) (w : PW) (n : Nat) (j1 : Nat) (A1 : List Value) (j2 : Nat) (A2 : List Value) (m : NS) (le lf : Int32) (sc : NS) : Prop :=
  ∃ r w1 n1 w2 n2, RM x j1 A1 w n = some (.inl (some (.int r)), w1, n1) ∧ RM x j2 A2 w1 n1 = some (.inl (some (.int r)), w2, n2) ∧ clo w1 227 = some 7 ∧ n ≤ n1 ∧ n1 ≤ n2 ∧ n2 ≤ n + 2 ∧ Fr w w2 ∧
    ∃ m' s t y hs F K c q cs B', B' ≤ B + 64 ∧ IV B' w2 m' s t y hs le lf F K sc c q cs ∧ Kp m m'
/-- a model's step behind a class's: what holds again -/
theorem IV_2 {w1 w2 : PW} {m' s' t' y' : NS} {hs' : Int32} {F' : Nat → Nat} {K' : Nat → NS} {c' q' : Nat} {cs' : Nat → Nat} {f : Nat → Int64} {g : Nat → UInt64} (hW : WD w1 s' t' y' hs' le lf F' K' (Int32.ofNat q') sc) (e : ∀ i, i < 225 → w2 i = w1 i) (h37 : w2 237 = some (lcl f)) (h38 : w2 238 = some (dcl g))
    (hR : RJ s' (m' 1) c') (hH : HM m' q' K' cs') (h6 : m' 20 6 = hs') (hy : hs' = 0 ∨ ∃ cy, RJ y' (m' 5) cy ∧ IDV B y' cy) (hi : IDV B s' c') (hiK : ∀ j, j < q' → IDV B (K' j) (cs' j)) : IV B (setM w2 227 m') m' s' t' y' hs' le lf F' K' sc c' q' cs' :=
  ⟨WD_ge hW (fun i hi => by rw [setM_out (by omega), e i hi]), isM_s, ⟨f, by rw [setM_out (by omega)]; exact h37⟩, ⟨g, by rw [setM_out (by omega)]; exact h38⟩, hR, hH, h6, hy, hi, hiK⟩
theorem RJ_E {t : NS} {g : Nat → Int32} (h : RJ s g c) (e : EC t s) : RJ t g c := ⟨Rel_E h.1 e, JC_E h.1.1.1.1.2.1 h.2 e⟩
theorem RJ_g {g g' : Nat → Int32} (h : RJ s g c) (hg : ∀ k, k < 84 → g' k = g k) : RJ s g' c := ⟨Rel_g h.1 hg, h.2⟩
theorem cp0 {f g : Nat → Int32} : ∀ k, k < 84 → cp84 f 0 g 0 84 k = f k := fun k hk => by
  have := cp84_in (f := f) (g := g) (a := 0) (t := 0) hk
  rw [Nat.zero_add] at this
  exact this
theorem p336 (hV : IV B w m s t y hs le lf F K sc c q cs) : PAIR B x w n 336 [.ref 64, .ref 237] 295 [.ref 227] m le lf sc := by
  obtain ⟨hW, hM, ⟨f, hf⟩, ⟨g, hg⟩, hR, hH, h6, hy, hi, hiK⟩ := hV
  have c64 := (WD_64 hW).2.1
  by_cases h0 : q = 0
  · subst h0
    have e1 := c86_0 (x := x) (n := n) hW
    have E1 := lx336_1 c64 e1
    have E2 := c295_0 (x := x) (n := n + 2) (b := 227) (w := w) (m := m) hH.2.1
    rw [hM] at E2
    refine ⟨_, _, _, _, _, _, E1, E2, clM hM, by omega, by omega, by omega, fun i h1 h2 => by rw [setM_out (by omega)], fun h => absurd h (by decide), us m 20 13 1, s, t, y, hs, F, K, c, 0, cs, B, by omega, IV_2 hW (fun _ _ => rfl) hf hg ?_ ?_ ?_ ?_ hi hiK, by rw [us_at, if_pos rfl, if_pos rfl], ?_⟩
    · rw [us_ne (by decide)]; exact hR
    · exact ⟨by omega, by rw [us_at, if_pos rfl, if_neg (by decide)]; exact hH.2.1, fun j hj => by omega⟩
    · rw [us_at, if_pos rfl, if_neg (by decide)]; exact h6
    · rw [us_ne (by decide)]; exact hy
    · exact ⟨fun a ha => us_ne (by omega), fun j _ _ h13 => by rw [us_at, if_pos rfl, if_neg h13]⟩
  · have hc0 : ¬ Int32.ofNat q = 0 := fun e => h0 (i_inj (a := q) (b := 0) (by have := hH.1; omega) (by omega) e)
    have hK0 := hH.2.2 0 (by omega)
    obtain ⟨w1, F', e1, hW1, o1⟩ := c86_1 (x := x) (n := n) hW hc0 hK0.1.1.1.1.2.2
    have e3 : Int32.ofNat q - 1 = Int32.ofNat (q - 1) := i_subR (k := 1) (by omega)
    rw [e3] at e1 hW1
    have f1 : w1 237 = some (lcl f) := by rw [o1 237 (by omega)]; exact hf
    have E1 := lw336 c64 e1 f1
    obtain ⟨w2, hw2⟩ : ∃ w2, w2 = pupd w1 237 (lcl (vp_updL f 0 (Int32.ofNat (q - 1)).toInt64)) := ⟨_, rfl⟩
    rw [← hw2] at E1
    have o2 : ∀ i, ¬ i = 237 → w2 i = w1 i := fun i hi => by rw [hw2, pupd_ne hi]
    have M2 : setM w2 227 m = w2 := isM_c hM (fun i h1 h2 => by rw [o2 i (by omega), o1 i (by omega)])
    obtain ⟨m', E2, r1, r2, r3, r4⟩ := c295_1 (x := x) (n := n) (b := 227) (w := w2) hH (by omega)
    rw [M2] at E2
    have h37 : w2 237 = some (lcl (vp_updL f 0 (Int32.ofNat (q - 1)).toInt64)) := by rw [hw2]; exact pupd_same _ _ _
    have h38 : w2 238 = some (dcl g) := by rw [o2 _ (by omega), o1 _ (by omega)]; exact hg
    refine ⟨0, _, w2, n, setM w2 227 m', n, E1, E2, clM M2, by omega, by omega, by omega, fun i h1 h2 => ?_, fun _ => ⟨_, by rw [setM_out (by omega)]; exact h37, updL_0⟩, m', _, t, y, hs, F', _, _, _, _, B, by omega, IV_2 hW1 (fun i hi => o2 i (by omega)) h37 h38 (RJ_E r1 EC_cp) r2 ?_ ?_ (IDV_E hK0.1.1.1.1.2.1 (hiK 0 (by omega)) EC_cp) (fun j hj => ?_), r3, Kp_of r4⟩
    · rw [setM_out (by omega), o2 i (by omega), o1 i (by omega)]
    · rw [r4.2 6 (by omega) (by omega)]; exact h6
    · rw [r4.1 5 (by omega)]; exact hy
    · have k : K2 K j = K (j + 1) := if_neg (by have := hH.1; omega)
      rw [k]
      exact hiK (j + 1) (by omega)
theorem p337 (hV : IV B w m s t y hs le lf F K sc c q cs) : PAIR B x w n 337 [.ref 64, .ref 237] 297 [.ref 227] m le lf sc := by
  obtain ⟨hW, hM, ⟨f, hf⟩, ⟨g, hg⟩, hR, hH, h6, hy, hi, hiK⟩ := hV
  have c64 := (WD_64 hW).2.1
  by_cases h0 : hs = 0
  · subst h0
    have e1 := c88_0 (x := x) (n := n) hW
    have E1 := lx337_1 c64 e1
    have E2 := c297_0 (x := x) (n := n + 2) (b := 227) (w := w) (m := m) h6
    rw [hM] at E2
    refine ⟨_, _, _, _, _, _, E1, E2, clM hM, by omega, by omega, by omega, fun i h1 h2 => by rw [setM_out (by omega)], fun h => absurd h (by decide), us m 20 13 1, s, t, y, 0, F, K, c, q, cs, B, by omega, IV_2 hW (fun _ _ => rfl) hf hg ?_ ?_ ?_ ?_ hi hiK, by rw [us_at, if_pos rfl, if_pos rfl], ?_⟩
    · rw [us_ne (by decide)]; exact hR
    · exact ⟨hH.1, by rw [us_at, if_pos rfl, if_neg (by decide)]; exact hH.2.1, fun j hj => by rw [us_ne (by decide)]; exact hH.2.2 j hj⟩
    · rw [us_at, if_pos rfl, if_neg (by decide)]; exact h6
    · exact Or.inl rfl
    · exact ⟨fun a ha => us_ne (by omega), fun j _ _ h13 => by rw [us_at, if_pos rfl, if_neg h13]⟩
  · obtain ⟨cy, hY, hYi⟩ := hy.resolve_left h0
    obtain ⟨w1, e1, hW1, o1⟩ := c88_1 (x := x) (n := n) hW h0 hY.1.1.1.1.2.2
    have f1 : w1 237 = some (lcl f) := by rw [o1 237 (by omega)]; exact hf
    have hv : cpC s y 20 25 = m 5 3 := by
      rw [hY.1.1.2.2.1, ← hY.1.1.1.1.1]
      exact (EC_cp (s := s) (t := y)).2.2.2.2.2.2 25 (by simp)
    rw [hv] at e1
    have E1 := lw337 c64 e1 f1
    obtain ⟨w2, hw2⟩ : ∃ w2, w2 = pupd w1 237 (lcl (vp_updL f 0 (m 5 3).toInt64)) := ⟨_, rfl⟩
    rw [← hw2] at E1
    have o2 : ∀ i, ¬ i = 237 → w2 i = w1 i := fun i hi => by rw [hw2, pupd_ne hi]
    have M2 : setM w2 227 m = w2 := isM_c hM (fun i h1 h2 => by rw [o2 i (by omega), o1 i (by omega)])
    have E2 := c297_1 (x := x) (n := n) (b := 227) (w := w2) (m := m) (by rw [h6]; exact h0)
    rw [M2] at E2
    have h37 : w2 237 = some (lcl (vp_updL f 0 (m 5 3).toInt64)) := by rw [hw2]; exact pupd_same _ _ _
    have h38 : w2 238 = some (dcl g) := by rw [o2 _ (by omega), o1 _ (by omega)]; exact hg
    have hW0 : WD w1 (cpC s y) t y hs le lf F K (Int32.ofNat 0) sc := hW1
    refine ⟨0, _, w2, n, _, n, E1, E2, clM M2, by omega, by omega, by omega, fun i h1 h2 => ?_, fun _ => ⟨_, by rw [setM_out (by omega)]; exact h37, updL_0⟩, _, _, t, y, hs, F, K, cy, 0, cs, B, by omega, IV_2 hW0 (fun i hi => o2 i (by omega)) h37 h38 (RJ_E (RJ_g hY ?_) EC_cp) ⟨by omega, ?_, fun j hj => by omega⟩ ?_ ?_ (IDV_E hY.1.1.1.1.2.1 hYi EC_cp) (fun j hj => by omega), ?_, ?_⟩
    · rw [setM_out (by omega), o2 i (by omega), o1 i (by omega)]
    · intro k hk
      rw [us_ne (by decide), us_ne (by decide), ua_same]
      exact cp0 k hk
    · rw [us_at, if_pos rfl, if_neg (by decide), us_at, if_pos rfl, if_pos rfl]; rfl
    · rw [us_at, if_pos rfl, if_neg (by decide), us_at, if_pos rfl, if_neg (by decide), ua_ne (by decide)]; exact h6
    · rw [us_ne (by decide), us_ne (by decide), ua_ne (by decide)]; exact hy
    · rw [us_at, if_pos rfl, if_pos rfl]
    · refine ⟨fun a ha => ?_, fun j h4 _ h13 => ?_⟩
      · rw [us_ne (by omega), us_ne (by omega), ua_ne (by omega)]
      · rw [us_at, if_pos rfl, if_neg h13, us_at, if_pos rfl, if_neg h4, ua_ne (by decide)]
theorem p87 (hV : IV B w m s t y hs le lf F K sc c q cs) : SAME B x w n 87 [.ref 64] 296 [.ref 227] m le lf sc := by
  obtain ⟨hW, hM, ⟨f, hf⟩, ⟨g, hg⟩, hR, hH, h6, hy, hi, hiK⟩ := hV
  obtain ⟨w1, e1, hW1, o1⟩ := c87 (x := x) (n := n) hW hR.1.1.1.1.2.2
  have M2 : setM w1 227 m = w1 := isM_c hM (fun i h1 h2 => o1 i (by omega))
  have E2 := c296 (x := x) (n := n) (b := 227) (w := w1) (m := m)
  rw [M2] at E2
  have hv : s 20 25 = m 1 3 := by rw [hR.1.1.2.2.1]; exact hR.1.1.1.1.1
  rw [hv] at e1
  have h37 : w1 237 = some (lcl f) := by rw [o1 _ (by omega)]; exact hf
  have h38 : w1 238 = some (dcl g) := by rw [o1 _ (by omega)]; exact hg
  refine ⟨_, w1, n, _, n, e1, E2, clM M2, by omega, by omega, by omega, fun i h1 h2 => ?_, _, s, t, cpC y s, 1, F, K, c, q, cs, B, by omega, IV_2 hW1 (fun _ _ => rfl) h37 h38 ?_ ⟨hH.1, ?_, fun j hj => ?_⟩ ?_ (Or.inr ⟨c, ?_, IDV_E hR.1.1.1.1.2.1 hi EC_cp⟩) hi hiK, ?_⟩
  · rw [setM_out (by omega), o1 i (by omega)]
  · rw [us_ne (by decide), us_ne (by decide), ua_ne (by decide)]; exact hR
  · rw [us_at, if_pos rfl, if_neg (by decide), us_at, if_pos rfl, if_neg (by decide), ua_ne (by decide)]; exact hH.2.1
  · rw [us_ne (by decide), us_ne (by decide), ua_ne (by decide)]; exact hH.2.2 j hj
  · rw [us_at, if_pos rfl, if_neg (by decide), us_at, if_pos rfl, if_pos rfl]
  · refine RJ_E (RJ_g hR ?_) EC_cp
    intro k hk
    rw [us_ne (by decide), us_ne (by decide), ua_same]
    exact cp0 k hk
  · refine ⟨fun a ha => ?_, fun j h4 h6 h13 => ?_⟩
    · rw [us_ne (by omega), us_ne (by omega), ua_ne (by omega)]
    · rw [us_at, if_pos rfl, if_neg h13, us_at, if_pos rfl, if_neg h6, ua_ne (by decide)]
end USR
