/-! THE BEGINNING: the constructors -/
section INI
set_option maxRecDepth 20000
variable {x : SX} {n p a : Nat} {w W V : PW}
theorem pfa {p ci k : Nat} {fs : List Value} {ty : FieldType} {v : Value} (hw : w p = some (.inr (ci, fs))) (ht : fty ci k = some ty) (h : k < fs.length) (hv : pfit ty v = true) : pfd w ci k p v = some (pupd w p (.inr (ci, fs.set k v))) := pfd_at hw ht ⟨h, hv⟩
theorem i117 (hp : W p = some (.inr (1, fs1))) (hn : p < n) : ∃ W', RM x 117 [.ref p] W n = some (.inl none, W', n + 5) ∧ W' p = some (.inr (1, [.ref n, .ref (n + 1), .ref (n + 2), .ref (n + 3), .ref (n + 4), .int 0, .int 0])) ∧ (∀ j, j < 5 → W' (n + j) = some (.inl (0, 8, .inl fun _ => 0))) ∧ ∀ i, i < n → ¬ i = p → W' i = W i := by
  have q0 : W p = some (.inr (1, [.null, .null, .null, .null, .null, .int 0, .int 0])) := hp
  obtain ⟨A0, hA0⟩ : ∃ A, A = pupd W n (zA 0 8) := ⟨_, rfl⟩
  have e0 := r117_7 (x := x) (n := n) (w := W) (v := 8) (N := 8) (lv := [some (.ref p)]) (st := [.ref p]) (by decide) (by decide) (by decide)
  rw [← hA0] at e0
  have a0 : A0 p = some (.inr (1, [.null, .null, .null, .null, .null, .int 0, .int 0])) := by rw [hA0, pupd_ne (by omega)]; exact q0
  obtain ⟨W1, hW1⟩ : ∃ A, A = pupd A0 p (.inr (1, [.ref n, .null, .null, .null, .null, .int 0, .int 0])) := ⟨_, rfl⟩
  have p0 : pfd A0 1 0 p (.ref n) = some W1 := by rw [hW1]; exact pfa (ty := .array .int) a0 (by decide +kernel) (by simp only [List.length_cons, List.length_nil]; decide) rfl
  have q1 : W1 p = some (.inr (1, [.ref n, .null, .null, .null, .null, .int 0, .int 0])) := by rw [hW1]; exact pupd_same _ _ _
  obtain ⟨A1, hA1⟩ : ∃ A, A = pupd W1 (n + 1) (zA 0 8) := ⟨_, rfl⟩
  have e1 := r117_15 (x := x) (n := (n + 1)) (w := W1) (v := 8) (N := 8) (lv := [some (.ref p)]) (st := [.ref p]) (by decide) (by decide) (by decide)
  rw [← hA1] at e1
  have a1 : A1 p = some (.inr (1, [.ref n, .null, .null, .null, .null, .int 0, .int 0])) := by rw [hA1, pupd_ne (by omega)]; exact q1
  obtain ⟨W2, hW2⟩ : ∃ A, A = pupd A1 p (.inr (1, [.ref n, .ref (n + 1), .null, .null, .null, .int 0, .int 0])) := ⟨_, rfl⟩
  have p1 : pfd A1 1 1 p (.ref (n + 1)) = some W2 := by rw [hW2]; exact pfa (ty := .array .int) a1 (by decide +kernel) (by simp only [List.length_cons, List.length_nil]; decide) rfl
  have q2 : W2 p = some (.inr (1, [.ref n, .ref (n + 1), .null, .null, .null, .int 0, .int 0])) := by rw [hW2]; exact pupd_same _ _ _
  obtain ⟨A2, hA2⟩ : ∃ A, A = pupd W2 (n + 2) (zA 0 8) := ⟨_, rfl⟩
  have e2 := r117_23 (x := x) (n := (n + 2)) (w := W2) (v := 8) (N := 8) (lv := [some (.ref p)]) (st := [.ref p]) (by decide) (by decide) (by decide)
  rw [← hA2] at e2
  have a2 : A2 p = some (.inr (1, [.ref n, .ref (n + 1), .null, .null, .null, .int 0, .int 0])) := by rw [hA2, pupd_ne (by omega)]; exact q2
  obtain ⟨W3, hW3⟩ : ∃ A, A = pupd A2 p (.inr (1, [.ref n, .ref (n + 1), .ref (n + 2), .null, .null, .int 0, .int 0])) := ⟨_, rfl⟩
  have p2 : pfd A2 1 2 p (.ref (n + 2)) = some W3 := by rw [hW3]; exact pfa (ty := .array .int) a2 (by decide +kernel) (by simp only [List.length_cons, List.length_nil]; decide) rfl
  have q3 : W3 p = some (.inr (1, [.ref n, .ref (n + 1), .ref (n + 2), .null, .null, .int 0, .int 0])) := by rw [hW3]; exact pupd_same _ _ _
  obtain ⟨A3, hA3⟩ : ∃ A, A = pupd W3 (n + 3) (zA 0 8) := ⟨_, rfl⟩
  have e3 := r117_31 (x := x) (n := (n + 3)) (w := W3) (v := 8) (N := 8) (lv := [some (.ref p)]) (st := [.ref p]) (by decide) (by decide) (by decide)
  rw [← hA3] at e3
  have a3 : A3 p = some (.inr (1, [.ref n, .ref (n + 1), .ref (n + 2), .null, .null, .int 0, .int 0])) := by rw [hA3, pupd_ne (by omega)]; exact q3
  obtain ⟨W4, hW4⟩ : ∃ A, A = pupd A3 p (.inr (1, [.ref n, .ref (n + 1), .ref (n + 2), .ref (n + 3), .null, .int 0, .int 0])) := ⟨_, rfl⟩
  have p3 : pfd A3 1 3 p (.ref (n + 3)) = some W4 := by rw [hW4]; exact pfa (ty := .array .int) a3 (by decide +kernel) (by simp only [List.length_cons, List.length_nil]; decide) rfl
  have q4 : W4 p = some (.inr (1, [.ref n, .ref (n + 1), .ref (n + 2), .ref (n + 3), .null, .int 0, .int 0])) := by rw [hW4]; exact pupd_same _ _ _
  obtain ⟨A4, hA4⟩ : ∃ A, A = pupd W4 (n + 4) (zA 0 8) := ⟨_, rfl⟩
  have e4 := r117_39 (x := x) (n := (n + 4)) (w := W4) (v := 8) (N := 8) (lv := [some (.ref p)]) (st := [.ref p]) (by decide) (by decide) (by decide)
  rw [← hA4] at e4
  have a4 : A4 p = some (.inr (1, [.ref n, .ref (n + 1), .ref (n + 2), .ref (n + 3), .null, .int 0, .int 0])) := by rw [hA4, pupd_ne (by omega)]; exact q4
  obtain ⟨W5, hW5⟩ : ∃ A, A = pupd A4 p (.inr (1, [.ref n, .ref (n + 1), .ref (n + 2), .ref (n + 3), .ref (n + 4), .int 0, .int 0])) := ⟨_, rfl⟩
  have p4 : pfd A4 1 4 p (.ref (n + 4)) = some W5 := by rw [hW5]; exact pfa (ty := .array .int) a4 (by decide +kernel) (by simp only [List.length_cons, List.length_nil]; decide) rfl
  have q5 : W5 p = some (.inr (1, [.ref n, .ref (n + 1), .ref (n + 2), .ref (n + 3), .ref (n + 4), .int 0, .int 0])) := by rw [hW5]; exact pupd_same _ _ _
  refine ⟨W5, ?_, q5, fun j hj => ?_, fun i h1 h2 => by rw [hW5, pupd_ne (by omega), hA4, pupd_ne (by omega), hW4, pupd_ne (by omega), hA3, pupd_ne (by omega), hW3, pupd_ne (by omega), hA2, pupd_ne (by omega), hW2, pupd_ne (by omega), hA1, pupd_ne (by omega), hW1, pupd_ne (by omega), hA0, pupd_ne (by omega)]⟩
  · simp only [csN, csm_i, csm_r, Nat.reduceAdd, Nat.reduceLeDiff, wdI, wdR, wdN, clM_0, clC_0, clC_1, clC_6, clC_8, true_or, or_true, i10, i01, ob_some, ob_map, cal_v, rvs_some, rvs_none, XO_at, cal_x, m117, r117_0, r117_1, r117_4, r117_5, r117_9, r117_12, r117_13, r117_17, r117_20, r117_21, r117_25, r117_28, r117_29, r117_33, r117_36, r117_37, r117_41, r117_44, e0, p0, e1, p1, e2, p2, e3, p3, e4, p4]
  · have h : j = 0 ∨ j = 1 ∨ j = 2 ∨ j = 3 ∨ j = 4 := by omega
    rcases h with rfl | rfl | rfl | rfl | rfl
    · exact (by rw [hW5, pupd_ne (by omega), hA4, pupd_ne (by omega), hW4, pupd_ne (by omega), hA3, pupd_ne (by omega), hW3, pupd_ne (by omega), hA2, pupd_ne (by omega), hW2, pupd_ne (by omega), hA1, pupd_ne (by omega), hW1, pupd_ne (by omega), hA0]; exact pupd_same _ _ _ : W5 (n + 0) = some (zA 0 8))
    · exact (by rw [hW5, pupd_ne (by omega), hA4, pupd_ne (by omega), hW4, pupd_ne (by omega), hA3, pupd_ne (by omega), hW3, pupd_ne (by omega), hA2, pupd_ne (by omega), hW2, pupd_ne (by omega), hA1]; exact pupd_same _ _ _ : W5 (n + 1) = some (zA 0 8))
    · exact (by rw [hW5, pupd_ne (by omega), hA4, pupd_ne (by omega), hW4, pupd_ne (by omega), hA3, pupd_ne (by omega), hW3, pupd_ne (by omega), hA2]; exact pupd_same _ _ _ : W5 (n + 2) = some (zA 0 8))
    · exact (by rw [hW5, pupd_ne (by omega), hA4, pupd_ne (by omega), hW4, pupd_ne (by omega), hA3]; exact pupd_same _ _ _ : W5 (n + 3) = some (zA 0 8))
    · exact (by rw [hW5, pupd_ne (by omega), hA4]; exact pupd_same _ _ _ : W5 (n + 4) = some (zA 0 8))
theorem i175 (hp : W p = some (.inr (5, fs5))) (hn : p < n) : ∃ W', RM x 175 [.ref p] W n = some (.inl none, W', n + 3) ∧ W' p = some (.inr (5, [.ref n, .int 0, .ref (n + 1), .ref (n + 2), .int 0, .int 0, .int 0])) ∧ W' n = some (.inl (1, 60, .inl fun _ => 0)) ∧ W' (n + 1) = some (.inl (0, 15, .inl fun _ => 0)) ∧ W' (n + 2) = some (.inl (0, 45, .inl fun _ => 0)) ∧ ∀ i, i < n → ¬ i = p → W' i = W i := by
  have q0 : W p = some (.inr (5, [.null, .int 0, .null, .null, .int 0, .int 0, .int 0])) := hp
  obtain ⟨A0, hA0⟩ : ∃ A, A = pupd W n (zA 1 60) := ⟨_, rfl⟩
  have e0 := r175_7 (x := x) (n := n) (w := W) (v := 60) (N := 60) (lv := [some (.ref p)]) (st := [.ref p]) (by decide) (by decide) (by decide)
  rw [← hA0] at e0
  have a0 : A0 p = some (.inr (5, [.null, .int 0, .null, .null, .int 0, .int 0, .int 0])) := by rw [hA0, pupd_ne (by omega)]; exact q0
  obtain ⟨W1, hW1⟩ : ∃ A, A = pupd A0 p (.inr (5, [.ref n, .int 0, .null, .null, .int 0, .int 0, .int 0])) := ⟨_, rfl⟩
  have p0 : pfd A0 5 0 p (.ref n) = some W1 := by rw [hW1]; exact pfa (ty := .array .char) a0 (by decide +kernel) (by simp only [List.length_cons, List.length_nil]; decide) rfl
  have q1 : W1 p = some (.inr (5, [.ref n, .int 0, .null, .null, .int 0, .int 0, .int 0])) := by rw [hW1]; exact pupd_same _ _ _
  obtain ⟨A1, hA1⟩ : ∃ A, A = pupd W1 (n + 1) (zA 0 15) := ⟨_, rfl⟩
  have e1 := r175_15 (x := x) (n := (n + 1)) (w := W1) (v := 15) (N := 15) (lv := [some (.ref p)]) (st := [.ref p]) (by decide) (by decide) (by decide)
  rw [← hA1] at e1
  have a1 : A1 p = some (.inr (5, [.ref n, .int 0, .null, .null, .int 0, .int 0, .int 0])) := by rw [hA1, pupd_ne (by omega)]; exact q1
  obtain ⟨W2, hW2⟩ : ∃ A, A = pupd A1 p (.inr (5, [.ref n, .int 0, .ref (n + 1), .null, .int 0, .int 0, .int 0])) := ⟨_, rfl⟩
  have p1 : pfd A1 5 2 p (.ref (n + 1)) = some W2 := by rw [hW2]; exact pfa (ty := .array .int) a1 (by decide +kernel) (by simp only [List.length_cons, List.length_nil]; decide) rfl
  have q2 : W2 p = some (.inr (5, [.ref n, .int 0, .ref (n + 1), .null, .int 0, .int 0, .int 0])) := by rw [hW2]; exact pupd_same _ _ _
  obtain ⟨A2, hA2⟩ : ∃ A, A = pupd W2 (n + 2) (zA 0 45) := ⟨_, rfl⟩
  have e2 := r175_23 (x := x) (n := (n + 2)) (w := W2) (v := 45) (N := 45) (lv := [some (.ref p)]) (st := [.ref p]) (by decide) (by decide) (by decide)
  rw [← hA2] at e2
  have a2 : A2 p = some (.inr (5, [.ref n, .int 0, .ref (n + 1), .null, .int 0, .int 0, .int 0])) := by rw [hA2, pupd_ne (by omega)]; exact q2
  obtain ⟨W3, hW3⟩ : ∃ A, A = pupd A2 p (.inr (5, [.ref n, .int 0, .ref (n + 1), .ref (n + 2), .int 0, .int 0, .int 0])) := ⟨_, rfl⟩
  have p2 : pfd A2 5 3 p (.ref (n + 2)) = some W3 := by rw [hW3]; exact pfa (ty := .array .int) a2 (by decide +kernel) (by simp only [List.length_cons, List.length_nil]; decide) rfl
  have q3 : W3 p = some (.inr (5, [.ref n, .int 0, .ref (n + 1), .ref (n + 2), .int 0, .int 0, .int 0])) := by rw [hW3]; exact pupd_same _ _ _
  refine ⟨W3, ?_, q3, (by rw [hW3, pupd_ne (by omega), hA2, pupd_ne (by omega), hW2, pupd_ne (by omega), hA1, pupd_ne (by omega), hW1, pupd_ne (by omega), hA0]; exact pupd_same _ _ _ : W3 n = some (zA 1 60)), (by rw [hW3, pupd_ne (by omega), hA2, pupd_ne (by omega), hW2, pupd_ne (by omega), hA1]; exact pupd_same _ _ _ : W3 (n + 1) = some (zA 0 15)), (by rw [hW3, pupd_ne (by omega), hA2]; exact pupd_same _ _ _ : W3 (n + 2) = some (zA 0 45)), fun i h1 h2 => by rw [hW3, pupd_ne (by omega), hA2, pupd_ne (by omega), hW2, pupd_ne (by omega), hA1, pupd_ne (by omega), hW1, pupd_ne (by omega), hA0, pupd_ne (by omega)]⟩
  simp only [csN, csm_i, csm_r, Nat.reduceAdd, Nat.reduceLeDiff, wdI, wdR, wdN, clM_0, clC_0, clC_1, clC_6, clC_8, true_or, or_true, i10, i01, ob_some, ob_map, cal_v, rvs_some, rvs_none, XO_at, cal_x, m175, r175_0, r175_1, r175_4, r175_5, r175_9, r175_12, r175_13, r175_17, r175_20, r175_21, r175_25, r175_28, e0, p0, e1, p1, e2, p2]
theorem i20 (hp : W p = some (.inr (8, fs8))) (hn : p < n) : ∃ W', RM x 20 [.ref p] W n = some (.inl none, W', n + 1) ∧ W' p = some (.inr (8, [.ref n, .int 0, .int 0, .int 0])) ∧ W' n = some (.inl (2, 16, .inl fun _ => 0)) ∧ ∀ i, i < n → ¬ i = p → W' i = W i := by
  have q0 : W p = some (.inr (8, [.null, .int 0, .int 0, .int 0])) := hp
  obtain ⟨A0, hA0⟩ : ∃ A, A = pupd W n (zA 2 16) := ⟨_, rfl⟩
  have e0 := r0_12 (x := x) (n := n) (w := W) (v := 16) (N := 16) (lv := [some (.ref p), some (.int 16)]) (st := [.ref p]) (by decide) (by decide) (by decide)
  rw [← hA0] at e0
  have a0 : A0 p = some (.inr (8, [.null, .int 0, .int 0, .int 0])) := by rw [hA0, pupd_ne (by omega)]; exact q0
  obtain ⟨W1, hW1⟩ : ∃ A, A = pupd A0 p (.inr (8, [.ref n, .int 0, .int 0, .int 0])) := ⟨_, rfl⟩
  have p0 : pfd A0 8 0 p (.ref n) = some W1 := by rw [hW1]; exact pfa (ty := .array .byte) a0 (by decide +kernel) (by simp only [List.length_cons, List.length_nil]; decide) rfl
  have q1 : W1 p = some (.inr (8, [.ref n, .int 0, .int 0, .int 0])) := by rw [hW1]; exact pupd_same _ _ _
  obtain ⟨W2, hW2⟩ : ∃ A, A = pupd W1 p (.inr (8, [.ref n, .int 0, .int 0, .int 0])) := ⟨_, rfl⟩
  have p1 : pfd W1 8 1 p (.int 0) = some W2 := by rw [hW2]; exact pfa (ty := .byte) q1 (by decide +kernel) (by simp only [List.length_cons, List.length_nil]; decide) rfl
  have q2 : W2 p = some (.inr (8, [.ref n, .int 0, .int 0, .int 0])) := by rw [hW2]; exact pupd_same _ _ _
  have hc : clo W p = some 8 := clo_of hp
  have n1 : ¬ (1 : Int32) = 0 := by decide
  refine ⟨W2, ?_, q2, (by rw [hW2, pupd_ne (by omega), hW1, pupd_ne (by omega), hA0]; exact pupd_same _ _ _ : W2 n = some (zA 2 16)), fun i h1 h2 => by rw [hW2, pupd_ne (by omega), hW1, pupd_ne (by omega), hA0, pupd_ne (by omega)]⟩
  have e9 : RM x 0 [.ref p, .int 16] W n = some (.inl none, W2, n + 1) := by
    simp only [csN, csm_i, csm_r, Nat.reduceAdd, Nat.reduceLeDiff, wdI, wdR, wdN, clM_0, clC_0, clC_1, clC_6, clC_8, true_or, or_true, i10, i01, ob_some, ob_map, cal_v, rvs_some, rvs_none, XO_at, cal_x, m0, r0_0, r0_1, r0_4, r0_7, r0_10, r0_11, r0_14, r0_17, r0_18, r0_19, r0_22, r0_25, r0_26, r0_30, r0_33, r0_34, r0_35, r0_38, n1, if_false, e0, p0, p1]
  simp only [csN, csm_i, csm_r, Nat.reduceAdd, Nat.reduceLeDiff, wdI, wdR, wdN, clM_0, clC_0, clC_1, clC_6, clC_8, true_or, or_true, i10, i01, ob_some, ob_map, cal_v, rvs_some, rvs_none, XO_at, cal_x, m20, r20_0, r20_1, r20_3, r20_6, hc, e9]
theorem l164 (hap : ¬ a = p) (hp : V p = some (.inr (4, [.ref a, .int 0, .int 0, .int 0]))) (d : Nat) : ∀ i f, i + d = 6 → RC x 164 14 [some (.ref p), some (.int (Int32.ofNat i))] [] (pupd V a (.inl (0, 6, .inl f))) n = some (.inl none, pupd V a (.inl (0, 6, .inl fun j => if i ≤ j ∧ j < 6 then 60 else f j)), n) := by
  induction d with
  | zero =>
    intro i f hi
    obtain rfl : i = 6 := by omega
    have g1 : gfd (pupd V a (.inl (0, 6, .inl f))) 4 0 p = some (.ref a) := by rw [gfd_at (by rw [pupd_ne (fun h => hap h.symm)]; exact hp) (by decide)]; rfl
    have g2 : aln x (pupd V a (.inl (0, 6, .inl f))) 0 a = some (Int32.ofNat 6) := aln_at (by decide) (pupd_same _ _ _)
    have h0 : ¬ Int32.ofNat 6 < Int32.ofNat 6 := Int32.lt_irrefl
    have e : (fun j => if 6 ≤ j ∧ j < 6 then (60 : Int32) else f j) = f := by
      funext j
      rw [if_neg (by omega)]
    rw [r164_14, e]
    simp only [csN, csm_i, csm_r, Nat.reduceAdd, Nat.reduceLeDiff, wdI, wdR, wdN, clM_0, clC_0, clC_1, clC_6, clC_8, true_or, or_true, i10, i01, ob_some, ob_map, cal_v, rvs_some, rvs_none, XO_at, cal_x, m164, r164_0, r164_1, r164_4, r164_5, r164_9, r164_12, r164_13, r164_15, r164_16, r164_19, r164_20, r164_23, r164_24, r164_27, r164_28, r164_30, r164_31, r164_34, r164_37, g1, g2, h0, if_false]
  | succ d ih =>
    intro i f hi
    have g1 : gfd (pupd V a (.inl (0, 6, .inl f))) 4 0 p = some (.ref a) := by rw [gfd_at (by rw [pupd_ne (fun h => hap h.symm)]; exact hp) (by decide)]; rfl
    have g2 : aln x (pupd V a (.inl (0, 6, .inl f))) 0 a = some (Int32.ofNat 6) := aln_at (by decide) (pupd_same _ _ _)
    have h1 : Int32.ofNat i < Int32.ofNat 6 := nlt (by omega) (by omega) (by omega)
    have st : ast 0 (pupd V a (.inl (0, 6, .inl f))) a (Int32.ofNat i) 60 = some (pupd V a (.inl (0, 6, .inl (upd f i 60)))) := by rw [ast_at (pupd_same _ _ _), fin_nat (by omega) (by omega)]; simp only [Option.map_some, pupd_pupd]
    have e : (fun j => if i ≤ j ∧ j < 6 then (60 : Int32) else f j) = fun j => if i + 1 ≤ j ∧ j < 6 then 60 else upd f i 60 j := by
      funext j
      rw [upd_at]
      by_cases h : j = i
      · rw [if_pos (by omega), if_neg (by omega), if_pos h]
      · by_cases h2 : i ≤ j ∧ j < 6
        · rw [if_pos h2, if_pos (by omega)]
        · rw [if_neg h2, if_neg (by omega), if_neg h]
    rw [r164_14, e, ← ih (i + 1) (upd f i 60) (by omega)]
    simp only [csN, csm_i, csm_r, Nat.reduceAdd, Nat.reduceLeDiff, wdI, wdR, wdN, clM_0, clC_0, clC_1, clC_6, clC_8, true_or, or_true, i10, i01, ob_some, ob_map, cal_v, rvs_some, rvs_none, XO_at, cal_x, m164, r164_0, r164_1, r164_4, r164_5, r164_9, r164_12, r164_13, r164_15, r164_16, r164_19, r164_20, r164_23, r164_24, r164_27, r164_28, r164_30, r164_31, r164_34, r164_37, g1, g2, h1, if_true, st, i_s]
theorem i164 (hp : W p = some (.inr (4, fs4))) (hn : p < n) : ∃ W', RM x 164 [.ref p] W n = some (.inl none, W', n + 1) ∧ W' p = some (.inr (4, [.ref n, .int 0, .int 0, .int 0])) ∧ W' n = some (.inl (0, 6, .inl fun j => if 0 ≤ j ∧ j < 6 then 60 else 0)) ∧ ∀ i, i < n → ¬ i = p → W' i = W i := by
  have q0 : W p = some (.inr (4, [.null, .int 0, .int 0, .int 0])) := hp
  obtain ⟨A0, hA0⟩ : ∃ A, A = pupd W n (zA 0 6) := ⟨_, rfl⟩
  have e0 := r164_7 (x := x) (n := n) (w := W) (v := 6) (N := 6) (lv := [some (.ref p), none]) (st := [.ref p]) (by decide) (by decide) (by decide)
  rw [← hA0] at e0
  have a0 : A0 p = some (.inr (4, [.null, .int 0, .int 0, .int 0])) := by rw [hA0, pupd_ne (by omega)]; exact q0
  obtain ⟨W1, hW1⟩ : ∃ A, A = pupd A0 p (.inr (4, [.ref n, .int 0, .int 0, .int 0])) := ⟨_, rfl⟩
  have p0 : pfd A0 4 0 p (.ref n) = some W1 := by rw [hW1]; exact pfa (ty := .array .int) a0 (by decide +kernel) (by simp only [List.length_cons, List.length_nil]; decide) rfl
  have q1 : W1 p = some (.inr (4, [.ref n, .int 0, .int 0, .int 0])) := by rw [hW1]; exact pupd_same _ _ _
  have hn1 : W1 n = some (.inl (0, 6, .inl fun _ => 0)) := (by rw [hW1, pupd_ne (by omega), hA0]; exact pupd_same _ _ _ : W1 n = some (zA 0 6))
  have hl := l164 (x := x) (n := n + 1) (a := n) (p := p) (V := W1) (by omega) q1 6 0 (fun _ => 0) (by omega)
  rw [pupd_self hn1] at hl
  refine ⟨pupd W1 n (.inl (0, 6, .inl fun j => if 0 ≤ j ∧ j < 6 then 60 else 0)), ?_, ?_, pupd_same _ _ _, fun i h1 h2 => ?_⟩
  rotate_left
  · rw [pupd_ne (by omega)]; exact q1
  · rw [pupd_ne (by omega), hW1, pupd_ne (by omega), hA0, pupd_ne (by omega)]
  · rw [← hl]
    simp only [csN, csm_i, csm_r, Nat.reduceAdd, Nat.reduceLeDiff, wdI, wdR, wdN, clM_0, clC_0, clC_1, clC_6, clC_8, true_or, or_true, i10, i01, ob_some, ob_map, cal_v, rvs_some, rvs_none, XO_at, cal_x, m164, r164_0, r164_1, r164_4, r164_5, r164_9, r164_12, r164_13, r164_15, r164_16, r164_19, r164_20, r164_23, r164_24, r164_27, r164_28, r164_30, r164_31, r164_34, r164_37, e0, p0]
    rfl
theorem l138a {FS : List Value} (hap : ¬ a = p) (hp : V p = some (.inr (2, FS))) (hf : FS[0]? = some (.ref a)) (d : Nat) : ∀ i f, i + d = 5 → RC x 138 36 [some (.ref p), some (.int (Int32.ofNat i))] [] (pupd V a (.inl (1, 5, .inl f))) n = RC x 138 59 [some (.ref p), some (.int 5)] [] (pupd V a (.inl (1, 5, .inl fun j => if i ≤ j ∧ j < 5 then 77 else f j))) n := by
  have g1 : ∀ f, gfd (pupd V a (.inl (1, 5, .inl f))) 2 0 p = some (.ref a) := fun f => by rw [gfd_at (by rw [pupd_ne (fun h => hap h.symm)]; exact hp) (by decide), hf]
  have g2 : ∀ f, aln x (pupd V a (.inl (1, 5, .inl f))) 0 a = some (Int32.ofNat 5) := fun f => aln_at (by decide) (pupd_same _ _ _)
  induction d with
  | zero =>
    intro i f hi
    obtain rfl : i = 5 := by omega
    have h0 : ¬ Int32.ofNat 5 < Int32.ofNat 5 := by decide
    have e : (fun j => if 5 ≤ j ∧ j < 5 then (77 : Int32) else f j) = f := by
      funext j
      rw [if_neg (by omega)]
    conv => lhs; rw [r138_36]
    rw [e]
    simp only [csN, csm_i, csm_r, Nat.reduceAdd, Nat.reduceLeDiff, wdI, wdR, wdN, clM_0, clC_0, clC_1, clC_6, clC_8, true_or, or_true, i10, i01, ob_some, ob_map, cal_v, rvs_some, rvs_none, XO_at, cal_x, m138, r138_0, r138_1, r138_4, r138_5, r138_8, r138_11, r138_12, r138_15, r138_18, r138_19, r138_23, r138_26, r138_27, r138_31, r138_34, r138_35, r138_37, r138_38, r138_41, r138_42, r138_45, r138_46, r138_49, r138_50, r138_52, r138_53, r138_56, r138_60, r138_61, r138_62, r138_63, r138_66, r138_67, r138_70, r138_71, r138_74, r138_75, r138_76, r138_77, r138_80, r138_83, g1, g2, h0, if_false]
    rfl
  | succ d ih =>
    intro i f hi
    have h1 : Int32.ofNat i < Int32.ofNat 5 := nlt (by omega) (by omega) (by omega)
    have st : ast 1 (pupd V a (.inl (1, 5, .inl f))) a (Int32.ofNat i) 77 = some (pupd V a (.inl (1, 5, .inl (upd f i 77)))) := by rw [ast_at (pupd_same _ _ _), fin_nat (by omega) (by omega)]; simp only [Option.map_some, pupd_pupd]
    have e : (fun j => if i ≤ j ∧ j < 5 then (77 : Int32) else f j) = fun j => if i + 1 ≤ j ∧ j < 5 then 77 else upd f i 77 j := by
      funext j
      rw [upd_at]
      by_cases h : j = i
      · rw [if_pos (by omega), if_neg (by omega), if_pos h]
      · by_cases h2 : i ≤ j ∧ j < 5
        · rw [if_pos h2, if_pos (by omega)]
        · rw [if_neg h2, if_neg (by omega), if_neg h]
    have nx1 : Int32.ofNat i + 1 = Int32.ofNat (i + 1) := i_add (b := 1)
    have nr : vp_nar .char 77 = 77 := nar_all 77 (by decide)
    rw [e, ← ih (i + 1) (upd f i 77) (by omega)]
    conv => lhs; rw [r138_36]
    simp only [csN, csm_i, csm_r, Nat.reduceAdd, Nat.reduceLeDiff, wdI, wdR, wdN, clM_0, clC_0, clC_1, clC_6, clC_8, true_or, or_true, i10, i01, ob_some, ob_map, cal_v, rvs_some, rvs_none, XO_at, cal_x, m138, r138_0, r138_1, r138_4, r138_5, r138_8, r138_11, r138_12, r138_15, r138_18, r138_19, r138_23, r138_26, r138_27, r138_31, r138_34, r138_35, r138_37, r138_38, r138_41, r138_42, r138_45, r138_46, r138_49, r138_50, r138_52, r138_53, r138_56, r138_60, r138_61, r138_62, r138_63, r138_66, r138_67, r138_70, r138_71, r138_74, r138_75, r138_76, r138_77, r138_80, r138_83, g1, g2, h1, if_true, st, nx1, nr]
theorem l138b {FS : List Value} (hap : ¬ a = p) (hp : V p = some (.inr (2, FS))) (hf : FS[2]? = some (.ref a)) (d : Nat) : ∀ i f, i + d = 5 → RC x 138 61 [some (.ref p), some (.int (Int32.ofNat (2 * i + 1)))] [] (pupd V a (.inl (0, 10, .inl f))) n = RC x 138 83 [some (.ref p), some (.int 11)] [] (pupd V a (.inl (0, 10, .inl fun j => if 2 * i + 1 ≤ j ∧ j < 10 ∧ j % 2 = 1 then 4 else f j))) n := by
  have g1 : ∀ f, gfd (pupd V a (.inl (0, 10, .inl f))) 2 2 p = some (.ref a) := fun f => by rw [gfd_at (by rw [pupd_ne (fun h => hap h.symm)]; exact hp) (by decide), hf]
  have g2 : ∀ f, aln x (pupd V a (.inl (0, 10, .inl f))) 0 a = some (Int32.ofNat 10) := fun f => aln_at (by decide) (pupd_same _ _ _)
  induction d with
  | zero =>
    intro i f hi
    obtain rfl : i = 5 := by omega
    have h0 : ¬ Int32.ofNat (2 * 5 + 1) < Int32.ofNat 10 := by decide
    have e : (fun j => if 2 * 5 + 1 ≤ j ∧ j < 10 ∧ j % 2 = 1 then (4 : Int32) else f j) = f := by
      funext j
      rw [if_neg (by omega)]
    conv => lhs; rw [r138_61]
    rw [e]
    simp only [csN, csm_i, csm_r, Nat.reduceAdd, Nat.reduceLeDiff, wdI, wdR, wdN, clM_0, clC_0, clC_1, clC_6, clC_8, true_or, or_true, i10, i01, ob_some, ob_map, cal_v, rvs_some, rvs_none, XO_at, cal_x, m138, r138_0, r138_1, r138_4, r138_5, r138_8, r138_11, r138_12, r138_15, r138_18, r138_19, r138_23, r138_26, r138_27, r138_31, r138_34, r138_35, r138_36, r138_37, r138_38, r138_41, r138_42, r138_45, r138_46, r138_49, r138_50, r138_52, r138_53, r138_56, r138_59, r138_60, r138_62, r138_63, r138_66, r138_67, r138_70, r138_71, r138_74, r138_75, r138_76, r138_77, r138_80, g1, g2, h0, if_false]
    rfl
  | succ d ih =>
    intro i f hi
    have h1 : Int32.ofNat (2 * i + 1) < Int32.ofNat 10 := nlt (by omega) (by omega) (by omega)
    have st : ast 0 (pupd V a (.inl (0, 10, .inl f))) a (Int32.ofNat (2 * i + 1)) 4 = some (pupd V a (.inl (0, 10, .inl (upd f (2 * i + 1) 4)))) := by rw [ast_at (pupd_same _ _ _), fin_nat (by omega) (by omega)]; simp only [Option.map_some, pupd_pupd]
    have e : (fun j => if 2 * i + 1 ≤ j ∧ j < 10 ∧ j % 2 = 1 then (4 : Int32) else f j) = fun j => if 2 * (i + 1) + 1 ≤ j ∧ j < 10 ∧ j % 2 = 1 then 4 else upd f (2 * i + 1) 4 j := by
      funext j
      rw [upd_at]
      by_cases h : j = (2 * i + 1)
      · rw [if_pos (by omega), if_neg (by omega), if_pos h]
      · by_cases h2 : 2 * i + 1 ≤ j ∧ j < 10 ∧ j % 2 = 1
        · rw [if_pos h2, if_pos (by omega)]
        · rw [if_neg h2, if_neg (by omega), if_neg h]
    have nx1 : Int32.ofNat (2 * i + 1) + 2 = Int32.ofNat (2 * (i + 1) + 1) := i_add (a := 2 * i + 1) (b := 2)
    rw [e, ← ih (i + 1) (upd f (2 * i + 1) 4) (by omega)]
    conv => lhs; rw [r138_61]
    simp only [csN, csm_i, csm_r, Nat.reduceAdd, Nat.reduceLeDiff, wdI, wdR, wdN, clM_0, clC_0, clC_1, clC_6, clC_8, true_or, or_true, i10, i01, ob_some, ob_map, cal_v, rvs_some, rvs_none, XO_at, cal_x, m138, r138_0, r138_1, r138_4, r138_5, r138_8, r138_11, r138_12, r138_15, r138_18, r138_19, r138_23, r138_26, r138_27, r138_31, r138_34, r138_35, r138_36, r138_37, r138_38, r138_41, r138_42, r138_45, r138_46, r138_49, r138_50, r138_52, r138_53, r138_56, r138_59, r138_60, r138_62, r138_63, r138_66, r138_67, r138_70, r138_71, r138_74, r138_75, r138_76, r138_77, r138_80, g1, g2, h1, if_true, st, nx1]
theorem i138 (hp : W p = some (.inr (2, fs2))) (hn : p < n) : ∃ W', RM x 138 [.ref p] W n = some (.inl none, W', n + 4) ∧ W' p = some (.inr (2, [.ref n, .ref (n + 1), .ref (n + 2), .ref (n + 3)])) ∧ W' n = some (.inl (1, 5, .inl fun j => if 0 ≤ j ∧ j < 5 then 77 else 0)) ∧ W' (n + 1) = some (.inl (0, 5, .inl fun _ => 0)) ∧ W' (n + 2) = some (.inl (0, 10, .inl fun j => if 2 * 0 + 1 ≤ j ∧ j < 10 ∧ j % 2 = 1 then 4 else 0)) ∧ W' (n + 3) = some (.inl (0, 10, .inl fun _ => 0)) ∧ ∀ i, i < n → ¬ i = p → W' i = W i := by
  have q0 : W p = some (.inr (2, [.null, .null, .null, .null])) := hp
  obtain ⟨A0, hA0⟩ : ∃ A, A = pupd W n (zA 1 5) := ⟨_, rfl⟩
  have e0 := r138_6 (x := x) (n := n) (w := W) (v := 5) (N := 5) (lv := [some (.ref p), none]) (st := [.ref p]) (by decide) (by decide) (by decide)
  rw [← hA0] at e0
  have a0 : A0 p = some (.inr (2, [.null, .null, .null, .null])) := by rw [hA0, pupd_ne (by omega)]; exact q0
  obtain ⟨W1, hW1⟩ : ∃ A, A = pupd A0 p (.inr (2, [.ref n, .null, .null, .null])) := ⟨_, rfl⟩
  have p0 : pfd A0 2 0 p (.ref n) = some W1 := by rw [hW1]; exact pfa (ty := .array .char) a0 (by decide +kernel) (by simp only [List.length_cons, List.length_nil]; decide) rfl
  have q1 : W1 p = some (.inr (2, [.ref n, .null, .null, .null])) := by rw [hW1]; exact pupd_same _ _ _
  obtain ⟨A1, hA1⟩ : ∃ A, A = pupd W1 (n + 1) (zA 0 5) := ⟨_, rfl⟩
  have e1 := r138_13 (x := x) (n := (n + 1)) (w := W1) (v := 5) (N := 5) (lv := [some (.ref p), none]) (st := [.ref p]) (by decide) (by decide) (by decide)
  rw [← hA1] at e1
  have a1 : A1 p = some (.inr (2, [.ref n, .null, .null, .null])) := by rw [hA1, pupd_ne (by omega)]; exact q1
  obtain ⟨W2, hW2⟩ : ∃ A, A = pupd A1 p (.inr (2, [.ref n, .ref (n + 1), .null, .null])) := ⟨_, rfl⟩
  have p1 : pfd A1 2 1 p (.ref (n + 1)) = some W2 := by rw [hW2]; exact pfa (ty := .array .int) a1 (by decide +kernel) (by simp only [List.length_cons, List.length_nil]; decide) rfl
  have q2 : W2 p = some (.inr (2, [.ref n, .ref (n + 1), .null, .null])) := by rw [hW2]; exact pupd_same _ _ _
  obtain ⟨A2, hA2⟩ : ∃ A, A = pupd W2 (n + 2) (zA 0 10) := ⟨_, rfl⟩
  have e2 := r138_21 (x := x) (n := (n + 2)) (w := W2) (v := 10) (N := 10) (lv := [some (.ref p), none]) (st := [.ref p]) (by decide) (by decide) (by decide)
  rw [← hA2] at e2
  have a2 : A2 p = some (.inr (2, [.ref n, .ref (n + 1), .null, .null])) := by rw [hA2, pupd_ne (by omega)]; exact q2
  obtain ⟨W3, hW3⟩ : ∃ A, A = pupd A2 p (.inr (2, [.ref n, .ref (n + 1), .ref (n + 2), .null])) := ⟨_, rfl⟩
  have p2 : pfd A2 2 2 p (.ref (n + 2)) = some W3 := by rw [hW3]; exact pfa (ty := .array .int) a2 (by decide +kernel) (by simp only [List.length_cons, List.length_nil]; decide) rfl
  have q3 : W3 p = some (.inr (2, [.ref n, .ref (n + 1), .ref (n + 2), .null])) := by rw [hW3]; exact pupd_same _ _ _
  obtain ⟨A3, hA3⟩ : ∃ A, A = pupd W3 (n + 3) (zA 0 10) := ⟨_, rfl⟩
  have e3 := r138_29 (x := x) (n := (n + 3)) (w := W3) (v := 10) (N := 10) (lv := [some (.ref p), none]) (st := [.ref p]) (by decide) (by decide) (by decide)
  rw [← hA3] at e3
  have a3 : A3 p = some (.inr (2, [.ref n, .ref (n + 1), .ref (n + 2), .null])) := by rw [hA3, pupd_ne (by omega)]; exact q3
  obtain ⟨W4, hW4⟩ : ∃ A, A = pupd A3 p (.inr (2, [.ref n, .ref (n + 1), .ref (n + 2), .ref (n + 3)])) := ⟨_, rfl⟩
  have p3 : pfd A3 2 3 p (.ref (n + 3)) = some W4 := by rw [hW4]; exact pfa (ty := .array .int) a3 (by decide +kernel) (by simp only [List.length_cons, List.length_nil]; decide) rfl
  have q4 : W4 p = some (.inr (2, [.ref n, .ref (n + 1), .ref (n + 2), .ref (n + 3)])) := by rw [hW4]; exact pupd_same _ _ _
  have c0 : W4 n = some (zA 1 5) := by rw [hW4, pupd_ne (by omega), hA3, pupd_ne (by omega), hW3, pupd_ne (by omega), hA2, pupd_ne (by omega), hW2, pupd_ne (by omega), hA1, pupd_ne (by omega), hW1, pupd_ne (by omega), hA0]; exact pupd_same _ _ _
  have c1 : W4 (n + 1) = some (zA 0 5) := by rw [hW4, pupd_ne (by omega), hA3, pupd_ne (by omega), hW3, pupd_ne (by omega), hA2, pupd_ne (by omega), hW2, pupd_ne (by omega), hA1]; exact pupd_same _ _ _
  have c2 : W4 (n + 2) = some (zA 0 10) := by rw [hW4, pupd_ne (by omega), hA3, pupd_ne (by omega), hW3, pupd_ne (by omega), hA2]; exact pupd_same _ _ _
  have c3 : W4 (n + 3) = some (zA 0 10) := by rw [hW4, pupd_ne (by omega), hA3]; exact pupd_same _ _ _
  have hn1 : W4 n = some (.inl (1, 5, .inl fun _ => 0)) := c0
  have l1 := l138a (x := x) (n := n + 4) (a := n) (p := p) (V := W4) (by omega) q4 rfl 5 0 (fun _ => 0) (by omega)
  rw [pupd_self hn1] at l1
  obtain ⟨V1, hV1⟩ : ∃ V, V = pupd W4 n (.inl (1, 5, .inl fun j => if 0 ≤ j ∧ j < 5 then 77 else 0)) := ⟨_, rfl⟩
  rw [← hV1] at l1
  have v1 : V1 p = some (.inr (2, [.ref n, .ref (n + 1), .ref (n + 2), .ref (n + 3)])) := by rw [hV1, pupd_ne (by omega)]; exact q4
  have hn2 : V1 (n + 2) = some (.inl (0, 10, .inl fun _ => 0)) := by rw [hV1, pupd_ne (by omega)]; exact c2
  have l2 := l138b (x := x) (n := n + 4) (a := n + 2) (p := p) (V := V1) (by omega) v1 rfl 5 0 (fun _ => 0) (by omega)
  rw [pupd_self hn2] at l2
  refine ⟨pupd V1 (n + 2) (.inl (0, 10, .inl fun j => if 2 * 0 + 1 ≤ j ∧ j < 10 ∧ j % 2 = 1 then 4 else 0)), ?_, ?_, ?_, ?_, pupd_same _ _ _, ?_, fun i h1 h2 => ?_⟩
  rotate_left
  · rw [pupd_ne (by omega)]; exact v1
  · rw [pupd_ne (by omega), hV1]; exact pupd_same _ _ _
  · rw [pupd_ne (by omega), hV1, pupd_ne (by omega)]; exact c1
  · rw [pupd_ne (by omega), hV1, pupd_ne (by omega)]; exact c3
  · rw [pupd_ne (by omega), hV1, pupd_ne (by omega)]
    exact ((fun i h1 h2 => by rw [hW4, pupd_ne (by omega), hA3, pupd_ne (by omega), hW3, pupd_ne (by omega), hA2, pupd_ne (by omega), hW2, pupd_ne (by omega), hA1, pupd_ne (by omega), hW1, pupd_ne (by omega), hA0, pupd_ne (by omega)] : ∀ i, i < n → ¬ i = p → W4 i = W i)) i h1 h2
  · simp only [csN, csm_i, csm_r, Nat.reduceAdd, Nat.reduceLeDiff, wdI, wdR, wdN, clM_0, clC_0, clC_1, clC_6, clC_8, true_or, or_true, i10, i01, ob_some, ob_map, cal_v, rvs_some, rvs_none, XO_at, cal_x, m138, r138_0, r138_1, r138_4, r138_5, r138_8, r138_11, r138_12, r138_15, r138_18, r138_19, r138_23, r138_26, r138_27, r138_31, r138_34, r138_35, r138_37, r138_38, r138_41, r138_42, r138_45, r138_46, r138_49, r138_50, r138_52, r138_53, r138_56, r138_59, r138_60, r138_62, r138_63, r138_66, r138_67, r138_70, r138_71, r138_74, r138_75, r138_76, r138_77, r138_80, r138_83, e0, p0, e1, p1, e2, p2, e3, p3]
    refine Eq.trans l1 ?_
    rw [r138_59]
    simp only [csN, csm_i, csm_r, Nat.reduceAdd, Nat.reduceLeDiff, wdI, wdR, wdN, clM_0, clC_0, clC_1, clC_6, clC_8, true_or, or_true, i10, i01, ob_some, ob_map, cal_v, rvs_some, rvs_none, XO_at, cal_x, m138, r138_0, r138_1, r138_4, r138_5, r138_8, r138_11, r138_12, r138_15, r138_18, r138_19, r138_23, r138_26, r138_27, r138_31, r138_34, r138_35, r138_37, r138_38, r138_41, r138_42, r138_45, r138_46, r138_49, r138_50, r138_52, r138_53, r138_56, r138_59, r138_60, r138_62, r138_63, r138_66, r138_67, r138_70, r138_71, r138_74, r138_75, r138_76, r138_77, r138_80, r138_83]
    refine Eq.trans l2 ?_
    rw [r138_83]
def s0C : NS := fun a j => if a = 2 then (if 0 ≤ j ∧ j < 5 then 77 else 0) else if a = 4 then (if 2 * 0 + 1 ≤ j ∧ j < 10 ∧ j % 2 = 1 then 4 else 0) else if a = 7 then (if 0 ≤ j ∧ j < 6 then 60 else 0) else if a = 20 then (if j = 4 then 2 else 0) else 0
theorem i98 (hp : W p = some (.inr (0, fs0))) : ∃ W', RM x 98 [.ref p] W (p + 1) = some (.inl none, W', p + 14) ∧ isC W' p s0C ∧ ∀ i, i < p → W' i = W i := by
  have q0 : W p = some (.inr (0, [.null, .null, .null, .int 0, .int 0, .int 0])) := hp
  obtain ⟨A0, hA0⟩ : ∃ A, A = pupd W (p + 1) (.inr (2, fs2)) := ⟨_, rfl⟩
  have a0 : A0 p = some (.inr (0, [.null, .null, .null, .int 0, .int 0, .int 0])) := by rw [hA0, pupd_ne (by omega)]; exact q0
  have a0' : A0 (p + 1) = some (.inr (2, fs2)) := by rw [hA0]; exact pupd_same _ _ _
  have k0 : clo A0 (p + 1) = some 2 := clo_of a0'
  obtain ⟨B0, e0, b1, b2, b3, b4, b5, bo⟩ := i138 (x := x) (n := p + 2) a0' (by omega)
  have b0 : B0 p = some (.inr (0, [.null, .null, .null, .int 0, .int 0, .int 0])) := by rw [bo p (by omega) (by omega)]; exact a0
  obtain ⟨W1, hW1⟩ : ∃ A, A = pupd B0 p (.inr (0, [.ref (p + 1), .null, .null, .int 0, .int 0, .int 0])) := ⟨_, rfl⟩
  have p0 : pfd B0 0 0 p (.ref (p + 1)) = some W1 := by rw [hW1]; exact pfa (ty := .object "ChordCanal$Gates") b0 (by decide +kernel) (by simp only [List.length_cons, List.length_nil]; decide) rfl
  have q1 : W1 p = some (.inr (0, [.ref (p + 1), .null, .null, .int 0, .int 0, .int 0])) := by rw [hW1]; exact pupd_same _ _ _
  obtain ⟨A1, hA1⟩ : ∃ A, A = pupd W1 (p + 6) (.inr (4, fs4)) := ⟨_, rfl⟩
  have a1 : A1 p = some (.inr (0, [.ref (p + 1), .null, .null, .int 0, .int 0, .int 0])) := by rw [hA1, pupd_ne (by omega)]; exact q1
  have a1' : A1 (p + 6) = some (.inr (4, fs4)) := by rw [hA1]; exact pupd_same _ _ _
  have k1 : clo A1 (p + 6) = some 4 := clo_of a1'
  obtain ⟨B1, e1, d1, d2, do1⟩ := i164 (x := x) (n := p + 7) a1' (by omega)
  have b1' : B1 p = some (.inr (0, [.ref (p + 1), .null, .null, .int 0, .int 0, .int 0])) := by rw [do1 p (by omega) (by omega)]; exact a1
  obtain ⟨W2, hW2⟩ : ∃ A, A = pupd B1 p (.inr (0, [.ref (p + 1), .ref (p + 6), .null, .int 0, .int 0, .int 0])) := ⟨_, rfl⟩
  have p1 : pfd B1 0 1 p (.ref (p + 6)) = some W2 := by rw [hW2]; exact pfa (ty := .object "ChordCanal$Reaches") b1' (by decide +kernel) (by simp only [List.length_cons, List.length_nil]; decide) rfl
  have q2 : W2 p = some (.inr (0, [.ref (p + 1), .ref (p + 6), .null, .int 0, .int 0, .int 0])) := by rw [hW2]; exact pupd_same _ _ _
  obtain ⟨A2, hA2⟩ : ∃ A, A = pupd W2 (p + 8) (.inr (1, fs1)) := ⟨_, rfl⟩
  have a2 : A2 p = some (.inr (0, [.ref (p + 1), .ref (p + 6), .null, .int 0, .int 0, .int 0])) := by rw [hA2, pupd_ne (by omega)]; exact q2
  have a2' : A2 (p + 8) = some (.inr (1, fs1)) := by rw [hA2]; exact pupd_same _ _ _
  have k2 : clo A2 (p + 8) = some 1 := clo_of a2'
  obtain ⟨B2, e2, f1, f2, fo⟩ := i117 (x := x) (n := p + 9) a2' (by omega)
  have b2' : B2 p = some (.inr (0, [.ref (p + 1), .ref (p + 6), .null, .int 0, .int 0, .int 0])) := by rw [fo p (by omega) (by omega)]; exact a2
  obtain ⟨W3, hW3⟩ : ∃ A, A = pupd B2 p (.inr (0, [.ref (p + 1), .ref (p + 6), .ref (p + 8), .int 0, .int 0, .int 0])) := ⟨_, rfl⟩
  have p2 : pfd B2 0 2 p (.ref (p + 8)) = some W3 := by rw [hW3]; exact pfa (ty := .object "ChordCanal$Fleet") b2' (by decide +kernel) (by simp only [List.length_cons, List.length_nil]; decide) rfl
  have q3 : W3 p = some (.inr (0, [.ref (p + 1), .ref (p + 6), .ref (p + 8), .int 0, .int 0, .int 0])) := by rw [hW3]; exact pupd_same _ _ _
  obtain ⟨W4, hW4⟩ : ∃ A, A = pupd W3 p (.inr (0, [.ref (p + 1), .ref (p + 6), .ref (p + 8), .int 0, .int 2, .int 0])) := ⟨_, rfl⟩
  have p3 : pfd W3 0 4 p (.int 2) = some W4 := by rw [hW4]; exact pfa (ty := .int) q3 (by decide +kernel) (by simp only [List.length_cons, List.length_nil]; decide) rfl
  have z4 : ∀ i, ¬ i = p → W4 i = B2 i := fun i hi => by rw [hW4, pupd_ne hi, hW3, pupd_ne hi]
  have z2 : ∀ i, i < p + 8 → ¬ i = p → W4 i = B1 i := fun i h1 h2 => by rw [z4 i h2, fo i (by omega) (by omega), hA2, pupd_ne (by omega), hW2, pupd_ne h2]
  have z1 : ∀ i, i < p + 6 → ¬ i = p → W4 i = B0 i := fun i h1 h2 => by rw [z2 i (by omega) h2, do1 i (by omega) (by omega), hA1, pupd_ne (by omega), hW1, pupd_ne h2]
  have s5 : ∀ (lv : LV) st (w : PW), RC x 98 5 lv st w (p + 1) = RC x 98 8 lv (.ref (p + 1) :: st) (pupd w (p + 1) (.inr (2, fs2))) (p + 2) := fun lv st w => r98_5
  have s16 : ∀ (lv : LV) st (w : PW), RC x 98 16 lv st w (p + 6) = RC x 98 19 lv (.ref (p + 6) :: st) (pupd w (p + 6) (.inr (4, fs4))) (p + 7) := fun lv st w => r98_16
  have s27 : ∀ (lv : LV) st (w : PW), RC x 98 27 lv st w (p + 8) = RC x 98 30 lv (.ref (p + 8) :: st) (pupd w (p + 8) (.inr (1, fs1))) (p + 9) := fun lv st w => r98_27
  refine ⟨W4, ?_, fun k hk => ?_, fun i hi => ?_⟩
  · simp only [csN, csm_i, csm_r, Nat.reduceAdd, Nat.reduceLeDiff, wdI, wdR, wdN, clM_0, clC_0, clC_1, clC_6, clC_8, true_or, or_true, i10, i01, ob_some, ob_map, cal_v, rvs_some, rvs_none, XO_at, cal_x, m98, r98_0, r98_1, r98_4, r98_8, r98_9, r98_12, r98_15, r98_19, r98_20, r98_23, r98_26, r98_30, r98_31, r98_34, r98_37, r98_38, r98_39, r98_42, s5, hA0.symm, k0, e0, p0, s16, hA1.symm, k1, e1, p1, s27, hA2.symm, k2, e2, p2, p3]
  · have h : k = 0 ∨ k = 1 ∨ k = 2 ∨ k = 3 ∨ k = 4 ∨ k = 5 ∨ k = 6 ∨ k = 7 ∨ k = 8 ∨ k = 9 ∨ k = 10 ∨ k = 11 ∨ k = 12 ∨ k = 13 := by omega
    rcases h with rfl | rfl | rfl | rfl | rfl | rfl | rfl | rfl | rfl | rfl | rfl | rfl | rfl | rfl
    · have q4 : W4 p = some (.inr (0, [.ref (p + 1), .ref (p + 6), .ref (p + 8), .int 0, .int 2, .int 0])) := by rw [hW4]; exact pupd_same _ _ _
      exact q4
    · exact (z1 (p + 1) (by omega) (by omega)).trans b1
    · exact (z1 (p + 2) (by omega) (by omega)).trans b2
    · exact (z1 (p + 3) (by omega) (by omega)).trans b3
    · exact (z1 (p + 4) (by omega) (by omega)).trans b4
    · exact (z1 (p + 5) (by omega) (by omega)).trans b5
    · exact (z2 (p + 6) (by omega) (by omega)).trans d1
    · exact (z2 (p + 7) (by omega) (by omega)).trans d2
    · exact (z4 (p + 8) (by omega)).trans f1
    · exact (z4 (p + 9) (by omega)).trans (f2 0 (by omega))
    · exact (z4 (p + 10) (by omega)).trans (f2 1 (by omega))
    · exact (z4 (p + 11) (by omega)).trans (f2 2 (by omega))
    · exact (z4 (p + 12) (by omega)).trans (f2 3 (by omega))
    · exact (z4 (p + 13) (by omega)).trans (f2 4 (by omega))
  · rw [z1 i (by omega) (by omega), bo i (by omega) (by omega), hA0, pupd_ne (by omega)]
end INI
