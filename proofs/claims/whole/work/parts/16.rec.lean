/-! RECORDS OF CELLS: by program (wip/whole/mk16.py). s: the numbers of a record, s j the j-th row, s 20 the int fields -/
section REC
section ACM
variable {x : SX} {k mc ms n : Nat} {Q : QT} {C : Nat → LV → List Value → PW → Prop} {pc len a b c : Nat} {lv : LV} {r : List Value} {w : PW}
theorem wx_acmp_ne {o : Int} {u v : Nat} (hv : v < 6) (hu : u < 6) (ho : okt pc o = true) : WX x k mc ms n Q C pc (some (.if_acmp .ne o, len, a, b, c)) lv (.ref v :: .ref u :: r) w = (if u = v then C (pc + len) lv r w else C (tgt pc o) lv r w) := by
  show oC (if okt pc o = true ∧ v < 6 ∧ u < 6 then some (if decide (¬ u = v) = true then tgt pc o else pc + len, lv, r, w) else none) _ _ = _
  rw [if_pos ⟨ho, hv, hu⟩]
  by_cases h : u = v
  · rw [if_pos h, decide_eq_false (fun z => z h)]; rfl
  · rw [if_neg h, decide_eq_true h]; rfl
theorem wx_acmp_eq {o : Int} {u v : Nat} (hv : v < 6) (hu : u < 6) (ho : okt pc o = true) : WX x k mc ms n Q C pc (some (.if_acmp .eq o, len, a, b, c)) lv (.ref v :: .ref u :: r) w = (if u = v then C (tgt pc o) lv r w else C (pc + len) lv r w) := by
  show oC (if okt pc o = true ∧ v < 6 ∧ u < 6 then some (if decide (u = v) = true then tgt pc o else pc + len, lv, r, w) else none) _ _ = _
  rw [if_pos ⟨ho, hv, hu⟩]
  by_cases h : u = v
  · rw [if_pos h, decide_eq_true h]; rfl
  · rw [if_neg h, decide_eq_false h]; rfl
end ACM
abbrev NS : Type := Nat → Nat → Int32
def ua (s : NS) (j : Nat) (f : Nat → Int32) : NS := fun a => if a = j then f else s a
def us (s : NS) (j i : Nat) (v : Int32) : NS := ua s j (upd (s j) i v)
theorem ua_same {s : NS} {j : Nat} {f : Nat → Int32} : ua s j f j = f := if_pos rfl
theorem ua_ne {s : NS} {j a : Nat} {f : Nat → Int32} (h : ¬ a = j) : ua s j f a = s a := if_neg h
theorem us_at {s : NS} {j i a b : Nat} {v : Int32} : us s j i v a b = if a = j then (if b = i then v else s j b) else s a b := by
  unfold us ua upd
  split <;> rfl
theorem us_row {s : NS} {j i : Nat} {v : Int32} : us s j i v j = upd (s j) i v := if_pos rfl
theorem us_ne {s : NS} {j i a : Nat} {v : Int32} (h : ¬ a = j) : us s j i v a = s a := if_neg h
def setW (w : PW) (b N : Nat) (F : Nat → PE) : PW := fun i => if b ≤ i ∧ i < b + N then some (F (i - b)) else w i
theorem setW_at {w : PW} {b N k : Nat} {F : Nat → PE} (h : k < N) : setW w b N F (b + k) = some (F k) := by
  unfold setW
  rw [if_pos ⟨Nat.le_add_right b k, Nat.add_lt_add_left h b⟩, Nat.add_sub_cancel_left]
theorem setW_out {w : PW} {b N i : Nat} {F : Nat → PE} (h : i < b ∨ b + N ≤ i) : setW w b N F i = w i := by
  unfold setW
  rw [if_neg (by omega)]
theorem setW_pupd {w : PW} {b N k : Nat} {F F' : Nat → PE} {e : PE} (h : k < N) (he : e = F' k) (ho : ∀ j, j < N → j ≠ k → F' j = F j) : pupd (setW w b N F) (b + k) e = setW w b N F' := by
  funext i
  by_cases hi : i = b + k
  · subst hi
    rw [pupd_same, setW_at h, he]
  · rw [pupd_ne hi]
    by_cases hb : b ≤ i ∧ i < b + N
    · obtain ⟨j, rfl⟩ := Nat.exists_eq_add_of_le hb.1
      rw [setW_at (by omega), setW_at (by omega), ho j (by omega) (by intro z; exact hi (by rw [z]))]
    · rw [setW_out (by omega), setW_out (by omega)]
theorem setW_self {w : PW} {b N : Nat} {F : Nat → PE} (h : ∀ k, k < N → w (b + k) = some (F k)) : setW w b N F = w := by
  funext i
  by_cases hb : b ≤ i ∧ i < b + N
  · obtain ⟨j, rfl⟩ := Nat.exists_eq_add_of_le hb.1
    rw [setW_at (by omega), h j (by omega)]
  · rw [setW_out (by omega)]
theorem gfd_at {w : PW} {p ci k : Nat} {fs : List Value} (hw : w p = some (.inr (ci, fs))) (h : ci < 1000) : gfd w ci k p = fs[k]? := by
  unfold gfd
  rw [if_neg (by omega), if_neg (by omega), hw]
  exact if_pos rfl
theorem pfd_at {w : PW} {p ci k : Nat} {fs : List Value} {ty : FieldType} {v : Value} (hw : w p = some (.inr (ci, fs))) (ht : fty ci k = some ty) (h : k < fs.length ∧ pfit ty v = true) : pfd w ci k p v = some (pupd w p (.inr (ci, fs.set k v))) := by
  unfold pfd
  rw [hw, ht]
  exact if_pos ⟨rfl, h⟩
theorem ald_at {x : SX} {w : PW} {t p n : Nat} {f : Nat → Int32} {i : Int32} (hw : w p = some (.inl (t, n, .inl f))) : ald t x w 0 p i = (fin n i).map f := by
  have h : rowI x w 0 p = some (t, n, f) := by
    unfold rowI
    rw [if_neg (by decide), hw]
  unfold ald
  rw [h]
  exact if_pos rfl
theorem ast_at {w : PW} {t p n : Nat} {f : Nat → Int32} {i v : Int32} (hw : w p = some (.inl (t, n, .inl f))) : ast t w p i v = (fin n i).map fun j => pupd w p (.inl (t, n, .inl (upd f j v))) := by
  unfold ast
  rw [hw]
  exact if_pos rfl
theorem aln_at {x : SX} {w : PW} {t p n : Nat} {f : Nat → Int32} (ht : t < 6) (hw : w p = some (.inl (t, n, .inl f))) : aln x w 0 p = some (Int32.ofNat n) := by
  unfold aln
  rw [if_neg (by decide), hw]
  exact if_pos ht
/-- a Canal from its place on: gates, reaches, fleet -/
def cellC (b : Nat) (s : NS) : Nat → PE
  | 0 => .inr (0, [.ref (b + 1), .ref (b + 6), .ref (b + 8), .int (s 20 3), .int (s 20 4), .int (s 20 5)])
  | 1 => .inr (2, [.ref (b + 2), .ref (b + 3), .ref (b + 4), .ref (b + 5)])
  | 2 => .inl (1, 5, .inl (s 2))
  | 3 => .inl (0, 5, .inl (s 3))
  | 4 => .inl (0, 10, .inl (s 4))
  | 5 => .inl (0, 10, .inl (s 5))
  | 6 => .inr (4, [.ref (b + 7), .int (s 20 11), .int (s 20 12), .int (s 20 13)])
  | 7 => .inl (0, 6, .inl (s 7))
  | 8 => .inr (1, [.ref (b + 9), .ref (b + 10), .ref (b + 11), .ref (b + 12), .ref (b + 13), .int (s 20 25), .int (s 20 26)])
  | 9 => .inl (0, 8, .inl (s 9))
  | 10 => .inl (0, 8, .inl (s 10))
  | 11 => .inl (0, 8, .inl (s 11))
  | 12 => .inl (0, 8, .inl (s 12))
  | _ => .inl (0, 8, .inl (s 13))
def setC (w : PW) (b : Nat) (s : NS) : PW := setW w b 14 (cellC b s)
theorem setC_out {w : PW} {b i : Nat} {s : NS} (h : i < b ∨ b + 14 ≤ i) : setC w b s i = w i := setW_out h
theorem setC_0 {w : PW} {b : Nat} {s : NS} : setC w b s b = some (.inr (0, [.ref (b + 1), .ref (b + 6), .ref (b + 8), .int (s 20 3), .int (s 20 4), .int (s 20 5)])) := setW_at (k := 0) (by decide)
theorem setC_1 {w : PW} {b : Nat} {s : NS} : setC w b s (b + 1) = some (.inr (2, [.ref (b + 2), .ref (b + 3), .ref (b + 4), .ref (b + 5)])) := setW_at (k := 1) (by decide)
theorem setC_2 {w : PW} {b : Nat} {s : NS} : setC w b s (b + 2) = some (.inl (1, 5, .inl (s 2))) := setW_at (k := 2) (by decide)
theorem setC_3 {w : PW} {b : Nat} {s : NS} : setC w b s (b + 3) = some (.inl (0, 5, .inl (s 3))) := setW_at (k := 3) (by decide)
theorem setC_4 {w : PW} {b : Nat} {s : NS} : setC w b s (b + 4) = some (.inl (0, 10, .inl (s 4))) := setW_at (k := 4) (by decide)
theorem setC_5 {w : PW} {b : Nat} {s : NS} : setC w b s (b + 5) = some (.inl (0, 10, .inl (s 5))) := setW_at (k := 5) (by decide)
theorem setC_6 {w : PW} {b : Nat} {s : NS} : setC w b s (b + 6) = some (.inr (4, [.ref (b + 7), .int (s 20 11), .int (s 20 12), .int (s 20 13)])) := setW_at (k := 6) (by decide)
theorem setC_7 {w : PW} {b : Nat} {s : NS} : setC w b s (b + 7) = some (.inl (0, 6, .inl (s 7))) := setW_at (k := 7) (by decide)
theorem setC_8 {w : PW} {b : Nat} {s : NS} : setC w b s (b + 8) = some (.inr (1, [.ref (b + 9), .ref (b + 10), .ref (b + 11), .ref (b + 12), .ref (b + 13), .int (s 20 25), .int (s 20 26)])) := setW_at (k := 8) (by decide)
theorem setC_9 {w : PW} {b : Nat} {s : NS} : setC w b s (b + 9) = some (.inl (0, 8, .inl (s 9))) := setW_at (k := 9) (by decide)
theorem setC_10 {w : PW} {b : Nat} {s : NS} : setC w b s (b + 10) = some (.inl (0, 8, .inl (s 10))) := setW_at (k := 10) (by decide)
theorem setC_11 {w : PW} {b : Nat} {s : NS} : setC w b s (b + 11) = some (.inl (0, 8, .inl (s 11))) := setW_at (k := 11) (by decide)
theorem setC_12 {w : PW} {b : Nat} {s : NS} : setC w b s (b + 12) = some (.inl (0, 8, .inl (s 12))) := setW_at (k := 12) (by decide)
theorem setC_13 {w : PW} {b : Nat} {s : NS} : setC w b s (b + 13) = some (.inl (0, 8, .inl (s 13))) := setW_at (k := 13) (by decide)
theorem gC_0_0 {w : PW} {b : Nat} {s : NS} : gfd (setC w b s) 0 0 b = some (.ref (b + 1)) := by rw [gfd_at setC_0 (by decide)]; rfl
theorem gC_0_1 {w : PW} {b : Nat} {s : NS} : gfd (setC w b s) 0 1 b = some (.ref (b + 6)) := by rw [gfd_at setC_0 (by decide)]; rfl
theorem gC_0_2 {w : PW} {b : Nat} {s : NS} : gfd (setC w b s) 0 2 b = some (.ref (b + 8)) := by rw [gfd_at setC_0 (by decide)]; rfl
theorem gC_0_3 {w : PW} {b : Nat} {s : NS} : gfd (setC w b s) 0 3 b = some (.int (s 20 3)) := by rw [gfd_at setC_0 (by decide)]; rfl
theorem fC_0_3 {w : PW} {b : Nat} {s : NS} {v : Int32} : pupd (setC w b s) b (.inr (0, [.ref (b + 1), .ref (b + 6), .ref (b + 8), .int v, .int (s 20 4), .int (s 20 5)])) = setC w b (us s 20 3 v) := by
  refine setW_pupd (k := 0) (by decide) rfl (fun j h1 h2 => ?_)
  have h3 : j = 0 ∨ j = 1 ∨ j = 2 ∨ j = 3 ∨ j = 4 ∨ j = 5 ∨ j = 6 ∨ j = 7 ∨ j = 8 ∨ j = 9 ∨ j = 10 ∨ j = 11 ∨ j = 12 ∨ j = 13 := by omega
  rcases h3 with rfl | rfl | rfl | rfl | rfl | rfl | rfl | rfl | rfl | rfl | rfl | rfl | rfl | rfl <;> first | exact absurd rfl h2 | rfl
theorem pC_0_3 {w : PW} {b : Nat} {s : NS} {v : Int32} : pfd (setC w b s) 0 3 b (.int v) = some (setC w b (us s 20 3 v)) := by
  rw [pfd_at (v := .int v) (ty := .int) setC_0 (by decide +kernel) ⟨by simp only [List.length_cons, List.length_nil]; decide, rfl⟩]
  exact congrArg some fC_0_3
theorem gC_0_4 {w : PW} {b : Nat} {s : NS} : gfd (setC w b s) 0 4 b = some (.int (s 20 4)) := by rw [gfd_at setC_0 (by decide)]; rfl
theorem fC_0_4 {w : PW} {b : Nat} {s : NS} {v : Int32} : pupd (setC w b s) b (.inr (0, [.ref (b + 1), .ref (b + 6), .ref (b + 8), .int (s 20 3), .int v, .int (s 20 5)])) = setC w b (us s 20 4 v) := by
  refine setW_pupd (k := 0) (by decide) rfl (fun j h1 h2 => ?_)
  have h3 : j = 0 ∨ j = 1 ∨ j = 2 ∨ j = 3 ∨ j = 4 ∨ j = 5 ∨ j = 6 ∨ j = 7 ∨ j = 8 ∨ j = 9 ∨ j = 10 ∨ j = 11 ∨ j = 12 ∨ j = 13 := by omega
  rcases h3 with rfl | rfl | rfl | rfl | rfl | rfl | rfl | rfl | rfl | rfl | rfl | rfl | rfl | rfl <;> first | exact absurd rfl h2 | rfl
theorem pC_0_4 {w : PW} {b : Nat} {s : NS} {v : Int32} : pfd (setC w b s) 0 4 b (.int v) = some (setC w b (us s 20 4 v)) := by
  rw [pfd_at (v := .int v) (ty := .int) setC_0 (by decide +kernel) ⟨by simp only [List.length_cons, List.length_nil]; decide, rfl⟩]
  exact congrArg some fC_0_4
theorem gC_0_5 {w : PW} {b : Nat} {s : NS} : gfd (setC w b s) 0 5 b = some (.int (s 20 5)) := by rw [gfd_at setC_0 (by decide)]; rfl
theorem fC_0_5 {w : PW} {b : Nat} {s : NS} {v : Int32} : pupd (setC w b s) b (.inr (0, [.ref (b + 1), .ref (b + 6), .ref (b + 8), .int (s 20 3), .int (s 20 4), .int v])) = setC w b (us s 20 5 v) := by
  refine setW_pupd (k := 0) (by decide) rfl (fun j h1 h2 => ?_)
  have h3 : j = 0 ∨ j = 1 ∨ j = 2 ∨ j = 3 ∨ j = 4 ∨ j = 5 ∨ j = 6 ∨ j = 7 ∨ j = 8 ∨ j = 9 ∨ j = 10 ∨ j = 11 ∨ j = 12 ∨ j = 13 := by omega
  rcases h3 with rfl | rfl | rfl | rfl | rfl | rfl | rfl | rfl | rfl | rfl | rfl | rfl | rfl | rfl <;> first | exact absurd rfl h2 | rfl
theorem pC_0_5 {w : PW} {b : Nat} {s : NS} {v : Int32} : pfd (setC w b s) 0 5 b (.int v) = some (setC w b (us s 20 5 v)) := by
  rw [pfd_at (v := .int v) (ty := .int) setC_0 (by decide +kernel) ⟨by simp only [List.length_cons, List.length_nil]; decide, rfl⟩]
  exact congrArg some fC_0_5
theorem gC_1_0 {w : PW} {b : Nat} {s : NS} : gfd (setC w b s) 2 0 (b + 1) = some (.ref (b + 2)) := by rw [gfd_at setC_1 (by decide)]; rfl
theorem gC_1_1 {w : PW} {b : Nat} {s : NS} : gfd (setC w b s) 2 1 (b + 1) = some (.ref (b + 3)) := by rw [gfd_at setC_1 (by decide)]; rfl
theorem gC_1_2 {w : PW} {b : Nat} {s : NS} : gfd (setC w b s) 2 2 (b + 1) = some (.ref (b + 4)) := by rw [gfd_at setC_1 (by decide)]; rfl
theorem gC_1_3 {w : PW} {b : Nat} {s : NS} : gfd (setC w b s) 2 3 (b + 1) = some (.ref (b + 5)) := by rw [gfd_at setC_1 (by decide)]; rfl
theorem lC_2 {x : SX} {w : PW} {b : Nat} {s : NS} {i : Int32} : ald 1 x (setC w b s) 0 (b + 2) i = (fin 5 i).map (s 2) := ald_at setC_2
theorem nC_2 {x : SX} {w : PW} {b : Nat} {s : NS} : aln x (setC w b s) 0 (b + 2) = some 5 := aln_at (by decide) setC_2
theorem fC_2 {w : PW} {b : Nat} {s : NS} {f : Nat → Int32} : pupd (setC w b s) (b + 2) (.inl (1, 5, .inl f)) = setC w b (ua s 2 f) := by
  refine setW_pupd (k := 2) (by decide) rfl (fun j h1 h2 => ?_)
  have h3 : j = 0 ∨ j = 1 ∨ j = 2 ∨ j = 3 ∨ j = 4 ∨ j = 5 ∨ j = 6 ∨ j = 7 ∨ j = 8 ∨ j = 9 ∨ j = 10 ∨ j = 11 ∨ j = 12 ∨ j = 13 := by omega
  rcases h3 with rfl | rfl | rfl | rfl | rfl | rfl | rfl | rfl | rfl | rfl | rfl | rfl | rfl | rfl <;> first | exact absurd rfl h2 | rfl
theorem sC_2 {w : PW} {b : Nat} {s : NS} {i v : Int32} : ast 1 (setC w b s) (b + 2) i v = (fin 5 i).map fun j => setC w b (us s 2 j v) := by
  rw [ast_at setC_2]
  congr 1
  funext j
  exact fC_2
theorem lC_3 {x : SX} {w : PW} {b : Nat} {s : NS} {i : Int32} : ald 0 x (setC w b s) 0 (b + 3) i = (fin 5 i).map (s 3) := ald_at setC_3
theorem nC_3 {x : SX} {w : PW} {b : Nat} {s : NS} : aln x (setC w b s) 0 (b + 3) = some 5 := aln_at (by decide) setC_3
theorem fC_3 {w : PW} {b : Nat} {s : NS} {f : Nat → Int32} : pupd (setC w b s) (b + 3) (.inl (0, 5, .inl f)) = setC w b (ua s 3 f) := by
  refine setW_pupd (k := 3) (by decide) rfl (fun j h1 h2 => ?_)
  have h3 : j = 0 ∨ j = 1 ∨ j = 2 ∨ j = 3 ∨ j = 4 ∨ j = 5 ∨ j = 6 ∨ j = 7 ∨ j = 8 ∨ j = 9 ∨ j = 10 ∨ j = 11 ∨ j = 12 ∨ j = 13 := by omega
  rcases h3 with rfl | rfl | rfl | rfl | rfl | rfl | rfl | rfl | rfl | rfl | rfl | rfl | rfl | rfl <;> first | exact absurd rfl h2 | rfl
theorem sC_3 {w : PW} {b : Nat} {s : NS} {i v : Int32} : ast 0 (setC w b s) (b + 3) i v = (fin 5 i).map fun j => setC w b (us s 3 j v) := by
  rw [ast_at setC_3]
  congr 1
  funext j
  exact fC_3
theorem lC_4 {x : SX} {w : PW} {b : Nat} {s : NS} {i : Int32} : ald 0 x (setC w b s) 0 (b + 4) i = (fin 10 i).map (s 4) := ald_at setC_4
theorem nC_4 {x : SX} {w : PW} {b : Nat} {s : NS} : aln x (setC w b s) 0 (b + 4) = some 10 := aln_at (by decide) setC_4
theorem fC_4 {w : PW} {b : Nat} {s : NS} {f : Nat → Int32} : pupd (setC w b s) (b + 4) (.inl (0, 10, .inl f)) = setC w b (ua s 4 f) := by
  refine setW_pupd (k := 4) (by decide) rfl (fun j h1 h2 => ?_)
  have h3 : j = 0 ∨ j = 1 ∨ j = 2 ∨ j = 3 ∨ j = 4 ∨ j = 5 ∨ j = 6 ∨ j = 7 ∨ j = 8 ∨ j = 9 ∨ j = 10 ∨ j = 11 ∨ j = 12 ∨ j = 13 := by omega
  rcases h3 with rfl | rfl | rfl | rfl | rfl | rfl | rfl | rfl | rfl | rfl | rfl | rfl | rfl | rfl <;> first | exact absurd rfl h2 | rfl
theorem sC_4 {w : PW} {b : Nat} {s : NS} {i v : Int32} : ast 0 (setC w b s) (b + 4) i v = (fin 10 i).map fun j => setC w b (us s 4 j v) := by
  rw [ast_at setC_4]
  congr 1
  funext j
  exact fC_4
theorem lC_5 {x : SX} {w : PW} {b : Nat} {s : NS} {i : Int32} : ald 0 x (setC w b s) 0 (b + 5) i = (fin 10 i).map (s 5) := ald_at setC_5
theorem nC_5 {x : SX} {w : PW} {b : Nat} {s : NS} : aln x (setC w b s) 0 (b + 5) = some 10 := aln_at (by decide) setC_5
theorem fC_5 {w : PW} {b : Nat} {s : NS} {f : Nat → Int32} : pupd (setC w b s) (b + 5) (.inl (0, 10, .inl f)) = setC w b (ua s 5 f) := by
  refine setW_pupd (k := 5) (by decide) rfl (fun j h1 h2 => ?_)
  have h3 : j = 0 ∨ j = 1 ∨ j = 2 ∨ j = 3 ∨ j = 4 ∨ j = 5 ∨ j = 6 ∨ j = 7 ∨ j = 8 ∨ j = 9 ∨ j = 10 ∨ j = 11 ∨ j = 12 ∨ j = 13 := by omega
  rcases h3 with rfl | rfl | rfl | rfl | rfl | rfl | rfl | rfl | rfl | rfl | rfl | rfl | rfl | rfl <;> first | exact absurd rfl h2 | rfl
theorem sC_5 {w : PW} {b : Nat} {s : NS} {i v : Int32} : ast 0 (setC w b s) (b + 5) i v = (fin 10 i).map fun j => setC w b (us s 5 j v) := by
  rw [ast_at setC_5]
  congr 1
  funext j
  exact fC_5
theorem gC_6_0 {w : PW} {b : Nat} {s : NS} : gfd (setC w b s) 4 0 (b + 6) = some (.ref (b + 7)) := by rw [gfd_at setC_6 (by decide)]; rfl
theorem gC_6_1 {w : PW} {b : Nat} {s : NS} : gfd (setC w b s) 4 1 (b + 6) = some (.int (s 20 11)) := by rw [gfd_at setC_6 (by decide)]; rfl
theorem fC_6_1 {w : PW} {b : Nat} {s : NS} {v : Int32} : pupd (setC w b s) (b + 6) (.inr (4, [.ref (b + 7), .int v, .int (s 20 12), .int (s 20 13)])) = setC w b (us s 20 11 v) := by
  refine setW_pupd (k := 6) (by decide) rfl (fun j h1 h2 => ?_)
  have h3 : j = 0 ∨ j = 1 ∨ j = 2 ∨ j = 3 ∨ j = 4 ∨ j = 5 ∨ j = 6 ∨ j = 7 ∨ j = 8 ∨ j = 9 ∨ j = 10 ∨ j = 11 ∨ j = 12 ∨ j = 13 := by omega
  rcases h3 with rfl | rfl | rfl | rfl | rfl | rfl | rfl | rfl | rfl | rfl | rfl | rfl | rfl | rfl <;> first | exact absurd rfl h2 | rfl
theorem pC_6_1 {w : PW} {b : Nat} {s : NS} {v : Int32} : pfd (setC w b s) 4 1 (b + 6) (.int v) = some (setC w b (us s 20 11 v)) := by
  rw [pfd_at (v := .int v) (ty := .int) setC_6 (by decide +kernel) ⟨by simp only [List.length_cons, List.length_nil]; decide, rfl⟩]
  exact congrArg some fC_6_1
theorem gC_6_2 {w : PW} {b : Nat} {s : NS} : gfd (setC w b s) 4 2 (b + 6) = some (.int (s 20 12)) := by rw [gfd_at setC_6 (by decide)]; rfl
theorem fC_6_2 {w : PW} {b : Nat} {s : NS} {v : Int32} : pupd (setC w b s) (b + 6) (.inr (4, [.ref (b + 7), .int (s 20 11), .int v, .int (s 20 13)])) = setC w b (us s 20 12 v) := by
  refine setW_pupd (k := 6) (by decide) rfl (fun j h1 h2 => ?_)
  have h3 : j = 0 ∨ j = 1 ∨ j = 2 ∨ j = 3 ∨ j = 4 ∨ j = 5 ∨ j = 6 ∨ j = 7 ∨ j = 8 ∨ j = 9 ∨ j = 10 ∨ j = 11 ∨ j = 12 ∨ j = 13 := by omega
  rcases h3 with rfl | rfl | rfl | rfl | rfl | rfl | rfl | rfl | rfl | rfl | rfl | rfl | rfl | rfl <;> first | exact absurd rfl h2 | rfl
theorem pC_6_2 {w : PW} {b : Nat} {s : NS} {v : Int32} : pfd (setC w b s) 4 2 (b + 6) (.int v) = some (setC w b (us s 20 12 v)) := by
  rw [pfd_at (v := .int v) (ty := .int) setC_6 (by decide +kernel) ⟨by simp only [List.length_cons, List.length_nil]; decide, rfl⟩]
  exact congrArg some fC_6_2
theorem gC_6_3 {w : PW} {b : Nat} {s : NS} : gfd (setC w b s) 4 3 (b + 6) = some (.int (s 20 13)) := by rw [gfd_at setC_6 (by decide)]; rfl
theorem fC_6_3 {w : PW} {b : Nat} {s : NS} {v : Int32} : pupd (setC w b s) (b + 6) (.inr (4, [.ref (b + 7), .int (s 20 11), .int (s 20 12), .int v])) = setC w b (us s 20 13 v) := by
  refine setW_pupd (k := 6) (by decide) rfl (fun j h1 h2 => ?_)
  have h3 : j = 0 ∨ j = 1 ∨ j = 2 ∨ j = 3 ∨ j = 4 ∨ j = 5 ∨ j = 6 ∨ j = 7 ∨ j = 8 ∨ j = 9 ∨ j = 10 ∨ j = 11 ∨ j = 12 ∨ j = 13 := by omega
  rcases h3 with rfl | rfl | rfl | rfl | rfl | rfl | rfl | rfl | rfl | rfl | rfl | rfl | rfl | rfl <;> first | exact absurd rfl h2 | rfl
theorem pC_6_3 {w : PW} {b : Nat} {s : NS} {v : Int32} : pfd (setC w b s) 4 3 (b + 6) (.int v) = some (setC w b (us s 20 13 v)) := by
  rw [pfd_at (v := .int v) (ty := .int) setC_6 (by decide +kernel) ⟨by simp only [List.length_cons, List.length_nil]; decide, rfl⟩]
  exact congrArg some fC_6_3
theorem lC_7 {x : SX} {w : PW} {b : Nat} {s : NS} {i : Int32} : ald 0 x (setC w b s) 0 (b + 7) i = (fin 6 i).map (s 7) := ald_at setC_7
theorem nC_7 {x : SX} {w : PW} {b : Nat} {s : NS} : aln x (setC w b s) 0 (b + 7) = some 6 := aln_at (by decide) setC_7
theorem fC_7 {w : PW} {b : Nat} {s : NS} {f : Nat → Int32} : pupd (setC w b s) (b + 7) (.inl (0, 6, .inl f)) = setC w b (ua s 7 f) := by
  refine setW_pupd (k := 7) (by decide) rfl (fun j h1 h2 => ?_)
  have h3 : j = 0 ∨ j = 1 ∨ j = 2 ∨ j = 3 ∨ j = 4 ∨ j = 5 ∨ j = 6 ∨ j = 7 ∨ j = 8 ∨ j = 9 ∨ j = 10 ∨ j = 11 ∨ j = 12 ∨ j = 13 := by omega
  rcases h3 with rfl | rfl | rfl | rfl | rfl | rfl | rfl | rfl | rfl | rfl | rfl | rfl | rfl | rfl <;> first | exact absurd rfl h2 | rfl
theorem sC_7 {w : PW} {b : Nat} {s : NS} {i v : Int32} : ast 0 (setC w b s) (b + 7) i v = (fin 6 i).map fun j => setC w b (us s 7 j v) := by
  rw [ast_at setC_7]
  congr 1
  funext j
  exact fC_7
theorem gC_8_0 {w : PW} {b : Nat} {s : NS} : gfd (setC w b s) 1 0 (b + 8) = some (.ref (b + 9)) := by rw [gfd_at setC_8 (by decide)]; rfl
theorem gC_8_1 {w : PW} {b : Nat} {s : NS} : gfd (setC w b s) 1 1 (b + 8) = some (.ref (b + 10)) := by rw [gfd_at setC_8 (by decide)]; rfl
theorem gC_8_2 {w : PW} {b : Nat} {s : NS} : gfd (setC w b s) 1 2 (b + 8) = some (.ref (b + 11)) := by rw [gfd_at setC_8 (by decide)]; rfl
theorem gC_8_3 {w : PW} {b : Nat} {s : NS} : gfd (setC w b s) 1 3 (b + 8) = some (.ref (b + 12)) := by rw [gfd_at setC_8 (by decide)]; rfl
theorem gC_8_4 {w : PW} {b : Nat} {s : NS} : gfd (setC w b s) 1 4 (b + 8) = some (.ref (b + 13)) := by rw [gfd_at setC_8 (by decide)]; rfl
theorem gC_8_5 {w : PW} {b : Nat} {s : NS} : gfd (setC w b s) 1 5 (b + 8) = some (.int (s 20 25)) := by rw [gfd_at setC_8 (by decide)]; rfl
theorem fC_8_5 {w : PW} {b : Nat} {s : NS} {v : Int32} : pupd (setC w b s) (b + 8) (.inr (1, [.ref (b + 9), .ref (b + 10), .ref (b + 11), .ref (b + 12), .ref (b + 13), .int v, .int (s 20 26)])) = setC w b (us s 20 25 v) := by
  refine setW_pupd (k := 8) (by decide) rfl (fun j h1 h2 => ?_)
  have h3 : j = 0 ∨ j = 1 ∨ j = 2 ∨ j = 3 ∨ j = 4 ∨ j = 5 ∨ j = 6 ∨ j = 7 ∨ j = 8 ∨ j = 9 ∨ j = 10 ∨ j = 11 ∨ j = 12 ∨ j = 13 := by omega
  rcases h3 with rfl | rfl | rfl | rfl | rfl | rfl | rfl | rfl | rfl | rfl | rfl | rfl | rfl | rfl <;> first | exact absurd rfl h2 | rfl
theorem pC_8_5 {w : PW} {b : Nat} {s : NS} {v : Int32} : pfd (setC w b s) 1 5 (b + 8) (.int v) = some (setC w b (us s 20 25 v)) := by
  rw [pfd_at (v := .int v) (ty := .int) setC_8 (by decide +kernel) ⟨by simp only [List.length_cons, List.length_nil]; decide, rfl⟩]
  exact congrArg some fC_8_5
theorem gC_8_6 {w : PW} {b : Nat} {s : NS} : gfd (setC w b s) 1 6 (b + 8) = some (.int (s 20 26)) := by rw [gfd_at setC_8 (by decide)]; rfl
theorem fC_8_6 {w : PW} {b : Nat} {s : NS} {v : Int32} : pupd (setC w b s) (b + 8) (.inr (1, [.ref (b + 9), .ref (b + 10), .ref (b + 11), .ref (b + 12), .ref (b + 13), .int (s 20 25), .int v])) = setC w b (us s 20 26 v) := by
  refine setW_pupd (k := 8) (by decide) rfl (fun j h1 h2 => ?_)
  have h3 : j = 0 ∨ j = 1 ∨ j = 2 ∨ j = 3 ∨ j = 4 ∨ j = 5 ∨ j = 6 ∨ j = 7 ∨ j = 8 ∨ j = 9 ∨ j = 10 ∨ j = 11 ∨ j = 12 ∨ j = 13 := by omega
  rcases h3 with rfl | rfl | rfl | rfl | rfl | rfl | rfl | rfl | rfl | rfl | rfl | rfl | rfl | rfl <;> first | exact absurd rfl h2 | rfl
theorem pC_8_6 {w : PW} {b : Nat} {s : NS} {v : Int32} : pfd (setC w b s) 1 6 (b + 8) (.int v) = some (setC w b (us s 20 26 v)) := by
  rw [pfd_at (v := .int v) (ty := .int) setC_8 (by decide +kernel) ⟨by simp only [List.length_cons, List.length_nil]; decide, rfl⟩]
  exact congrArg some fC_8_6
theorem lC_9 {x : SX} {w : PW} {b : Nat} {s : NS} {i : Int32} : ald 0 x (setC w b s) 0 (b + 9) i = (fin 8 i).map (s 9) := ald_at setC_9
theorem nC_9 {x : SX} {w : PW} {b : Nat} {s : NS} : aln x (setC w b s) 0 (b + 9) = some 8 := aln_at (by decide) setC_9
theorem fC_9 {w : PW} {b : Nat} {s : NS} {f : Nat → Int32} : pupd (setC w b s) (b + 9) (.inl (0, 8, .inl f)) = setC w b (ua s 9 f) := by
  refine setW_pupd (k := 9) (by decide) rfl (fun j h1 h2 => ?_)
  have h3 : j = 0 ∨ j = 1 ∨ j = 2 ∨ j = 3 ∨ j = 4 ∨ j = 5 ∨ j = 6 ∨ j = 7 ∨ j = 8 ∨ j = 9 ∨ j = 10 ∨ j = 11 ∨ j = 12 ∨ j = 13 := by omega
  rcases h3 with rfl | rfl | rfl | rfl | rfl | rfl | rfl | rfl | rfl | rfl | rfl | rfl | rfl | rfl <;> first | exact absurd rfl h2 | rfl
theorem sC_9 {w : PW} {b : Nat} {s : NS} {i v : Int32} : ast 0 (setC w b s) (b + 9) i v = (fin 8 i).map fun j => setC w b (us s 9 j v) := by
  rw [ast_at setC_9]
  congr 1
  funext j
  exact fC_9
theorem lC_10 {x : SX} {w : PW} {b : Nat} {s : NS} {i : Int32} : ald 0 x (setC w b s) 0 (b + 10) i = (fin 8 i).map (s 10) := ald_at setC_10
theorem nC_10 {x : SX} {w : PW} {b : Nat} {s : NS} : aln x (setC w b s) 0 (b + 10) = some 8 := aln_at (by decide) setC_10
theorem fC_10 {w : PW} {b : Nat} {s : NS} {f : Nat → Int32} : pupd (setC w b s) (b + 10) (.inl (0, 8, .inl f)) = setC w b (ua s 10 f) := by
  refine setW_pupd (k := 10) (by decide) rfl (fun j h1 h2 => ?_)
  have h3 : j = 0 ∨ j = 1 ∨ j = 2 ∨ j = 3 ∨ j = 4 ∨ j = 5 ∨ j = 6 ∨ j = 7 ∨ j = 8 ∨ j = 9 ∨ j = 10 ∨ j = 11 ∨ j = 12 ∨ j = 13 := by omega
  rcases h3 with rfl | rfl | rfl | rfl | rfl | rfl | rfl | rfl | rfl | rfl | rfl | rfl | rfl | rfl <;> first | exact absurd rfl h2 | rfl
theorem sC_10 {w : PW} {b : Nat} {s : NS} {i v : Int32} : ast 0 (setC w b s) (b + 10) i v = (fin 8 i).map fun j => setC w b (us s 10 j v) := by
  rw [ast_at setC_10]
  congr 1
  funext j
  exact fC_10
theorem lC_11 {x : SX} {w : PW} {b : Nat} {s : NS} {i : Int32} : ald 0 x (setC w b s) 0 (b + 11) i = (fin 8 i).map (s 11) := ald_at setC_11
theorem nC_11 {x : SX} {w : PW} {b : Nat} {s : NS} : aln x (setC w b s) 0 (b + 11) = some 8 := aln_at (by decide) setC_11
theorem fC_11 {w : PW} {b : Nat} {s : NS} {f : Nat → Int32} : pupd (setC w b s) (b + 11) (.inl (0, 8, .inl f)) = setC w b (ua s 11 f) := by
  refine setW_pupd (k := 11) (by decide) rfl (fun j h1 h2 => ?_)
  have h3 : j = 0 ∨ j = 1 ∨ j = 2 ∨ j = 3 ∨ j = 4 ∨ j = 5 ∨ j = 6 ∨ j = 7 ∨ j = 8 ∨ j = 9 ∨ j = 10 ∨ j = 11 ∨ j = 12 ∨ j = 13 := by omega
  rcases h3 with rfl | rfl | rfl | rfl | rfl | rfl | rfl | rfl | rfl | rfl | rfl | rfl | rfl | rfl <;> first | exact absurd rfl h2 | rfl
theorem sC_11 {w : PW} {b : Nat} {s : NS} {i v : Int32} : ast 0 (setC w b s) (b + 11) i v = (fin 8 i).map fun j => setC w b (us s 11 j v) := by
  rw [ast_at setC_11]
  congr 1
  funext j
  exact fC_11
theorem lC_12 {x : SX} {w : PW} {b : Nat} {s : NS} {i : Int32} : ald 0 x (setC w b s) 0 (b + 12) i = (fin 8 i).map (s 12) := ald_at setC_12
theorem nC_12 {x : SX} {w : PW} {b : Nat} {s : NS} : aln x (setC w b s) 0 (b + 12) = some 8 := aln_at (by decide) setC_12
theorem fC_12 {w : PW} {b : Nat} {s : NS} {f : Nat → Int32} : pupd (setC w b s) (b + 12) (.inl (0, 8, .inl f)) = setC w b (ua s 12 f) := by
  refine setW_pupd (k := 12) (by decide) rfl (fun j h1 h2 => ?_)
  have h3 : j = 0 ∨ j = 1 ∨ j = 2 ∨ j = 3 ∨ j = 4 ∨ j = 5 ∨ j = 6 ∨ j = 7 ∨ j = 8 ∨ j = 9 ∨ j = 10 ∨ j = 11 ∨ j = 12 ∨ j = 13 := by omega
  rcases h3 with rfl | rfl | rfl | rfl | rfl | rfl | rfl | rfl | rfl | rfl | rfl | rfl | rfl | rfl <;> first | exact absurd rfl h2 | rfl
theorem sC_12 {w : PW} {b : Nat} {s : NS} {i v : Int32} : ast 0 (setC w b s) (b + 12) i v = (fin 8 i).map fun j => setC w b (us s 12 j v) := by
  rw [ast_at setC_12]
  congr 1
  funext j
  exact fC_12
theorem lC_13 {x : SX} {w : PW} {b : Nat} {s : NS} {i : Int32} : ald 0 x (setC w b s) 0 (b + 13) i = (fin 8 i).map (s 13) := ald_at setC_13
theorem nC_13 {x : SX} {w : PW} {b : Nat} {s : NS} : aln x (setC w b s) 0 (b + 13) = some 8 := aln_at (by decide) setC_13
theorem fC_13 {w : PW} {b : Nat} {s : NS} {f : Nat → Int32} : pupd (setC w b s) (b + 13) (.inl (0, 8, .inl f)) = setC w b (ua s 13 f) := by
  refine setW_pupd (k := 13) (by decide) rfl (fun j h1 h2 => ?_)
  have h3 : j = 0 ∨ j = 1 ∨ j = 2 ∨ j = 3 ∨ j = 4 ∨ j = 5 ∨ j = 6 ∨ j = 7 ∨ j = 8 ∨ j = 9 ∨ j = 10 ∨ j = 11 ∨ j = 12 ∨ j = 13 := by omega
  rcases h3 with rfl | rfl | rfl | rfl | rfl | rfl | rfl | rfl | rfl | rfl | rfl | rfl | rfl | rfl <;> first | exact absurd rfl h2 | rfl
theorem sC_13 {w : PW} {b : Nat} {s : NS} {i v : Int32} : ast 0 (setC w b s) (b + 13) i v = (fin 8 i).map fun j => setC w b (us s 13 j v) := by
  rw [ast_at setC_13]
  congr 1
  funext j
  exact fC_13
/-- the Script -/
def cellS (b : Nat) (s : NS) : Nat → PE
  | 0 => .inr (5, [.ref (b + 1), .int (s 20 1), .ref (b + 2), .ref (b + 3), .int (s 20 4), .int (s 20 5), .int (s 20 6)])
  | 1 => .inl (1, 60, .inl (s 1))
  | 2 => .inl (0, 15, .inl (s 2))
  | _ => .inl (0, 45, .inl (s 3))
def setS (w : PW) (b : Nat) (s : NS) : PW := setW w b 4 (cellS b s)
theorem setS_out {w : PW} {b i : Nat} {s : NS} (h : i < b ∨ b + 4 ≤ i) : setS w b s i = w i := setW_out h
theorem setS_0 {w : PW} {b : Nat} {s : NS} : setS w b s b = some (.inr (5, [.ref (b + 1), .int (s 20 1), .ref (b + 2), .ref (b + 3), .int (s 20 4), .int (s 20 5), .int (s 20 6)])) := setW_at (k := 0) (by decide)
theorem setS_1 {w : PW} {b : Nat} {s : NS} : setS w b s (b + 1) = some (.inl (1, 60, .inl (s 1))) := setW_at (k := 1) (by decide)
theorem setS_2 {w : PW} {b : Nat} {s : NS} : setS w b s (b + 2) = some (.inl (0, 15, .inl (s 2))) := setW_at (k := 2) (by decide)
theorem setS_3 {w : PW} {b : Nat} {s : NS} : setS w b s (b + 3) = some (.inl (0, 45, .inl (s 3))) := setW_at (k := 3) (by decide)
theorem gS_0_0 {w : PW} {b : Nat} {s : NS} : gfd (setS w b s) 5 0 b = some (.ref (b + 1)) := by rw [gfd_at setS_0 (by decide)]; rfl
theorem gS_0_1 {w : PW} {b : Nat} {s : NS} : gfd (setS w b s) 5 1 b = some (.int (s 20 1)) := by rw [gfd_at setS_0 (by decide)]; rfl
theorem fS_0_1 {w : PW} {b : Nat} {s : NS} {v : Int32} : pupd (setS w b s) b (.inr (5, [.ref (b + 1), .int v, .ref (b + 2), .ref (b + 3), .int (s 20 4), .int (s 20 5), .int (s 20 6)])) = setS w b (us s 20 1 v) := by
  refine setW_pupd (k := 0) (by decide) rfl (fun j h1 h2 => ?_)
  have h3 : j = 0 ∨ j = 1 ∨ j = 2 ∨ j = 3 := by omega
  rcases h3 with rfl | rfl | rfl | rfl <;> first | exact absurd rfl h2 | rfl
theorem pS_0_1 {w : PW} {b : Nat} {s : NS} {v : Int32} : pfd (setS w b s) 5 1 b (.int v) = some (setS w b (us s 20 1 v)) := by
  rw [pfd_at (v := .int v) (ty := .int) setS_0 (by decide +kernel) ⟨by simp only [List.length_cons, List.length_nil]; decide, rfl⟩]
  exact congrArg some fS_0_1
theorem gS_0_2 {w : PW} {b : Nat} {s : NS} : gfd (setS w b s) 5 2 b = some (.ref (b + 2)) := by rw [gfd_at setS_0 (by decide)]; rfl
theorem gS_0_3 {w : PW} {b : Nat} {s : NS} : gfd (setS w b s) 5 3 b = some (.ref (b + 3)) := by rw [gfd_at setS_0 (by decide)]; rfl
theorem gS_0_4 {w : PW} {b : Nat} {s : NS} : gfd (setS w b s) 5 4 b = some (.int (s 20 4)) := by rw [gfd_at setS_0 (by decide)]; rfl
theorem fS_0_4 {w : PW} {b : Nat} {s : NS} {v : Int32} : pupd (setS w b s) b (.inr (5, [.ref (b + 1), .int (s 20 1), .ref (b + 2), .ref (b + 3), .int v, .int (s 20 5), .int (s 20 6)])) = setS w b (us s 20 4 v) := by
  refine setW_pupd (k := 0) (by decide) rfl (fun j h1 h2 => ?_)
  have h3 : j = 0 ∨ j = 1 ∨ j = 2 ∨ j = 3 := by omega
  rcases h3 with rfl | rfl | rfl | rfl <;> first | exact absurd rfl h2 | rfl
theorem pS_0_4 {w : PW} {b : Nat} {s : NS} {v : Int32} : pfd (setS w b s) 5 4 b (.int v) = some (setS w b (us s 20 4 v)) := by
  rw [pfd_at (v := .int v) (ty := .int) setS_0 (by decide +kernel) ⟨by simp only [List.length_cons, List.length_nil]; decide, rfl⟩]
  exact congrArg some fS_0_4
theorem gS_0_5 {w : PW} {b : Nat} {s : NS} : gfd (setS w b s) 5 5 b = some (.int (s 20 5)) := by rw [gfd_at setS_0 (by decide)]; rfl
theorem fS_0_5 {w : PW} {b : Nat} {s : NS} {v : Int32} : pupd (setS w b s) b (.inr (5, [.ref (b + 1), .int (s 20 1), .ref (b + 2), .ref (b + 3), .int (s 20 4), .int v, .int (s 20 6)])) = setS w b (us s 20 5 v) := by
  refine setW_pupd (k := 0) (by decide) rfl (fun j h1 h2 => ?_)
  have h3 : j = 0 ∨ j = 1 ∨ j = 2 ∨ j = 3 := by omega
  rcases h3 with rfl | rfl | rfl | rfl <;> first | exact absurd rfl h2 | rfl
theorem pS_0_5 {w : PW} {b : Nat} {s : NS} {v : Int32} : pfd (setS w b s) 5 5 b (.int v) = some (setS w b (us s 20 5 v)) := by
  rw [pfd_at (v := .int v) (ty := .int) setS_0 (by decide +kernel) ⟨by simp only [List.length_cons, List.length_nil]; decide, rfl⟩]
  exact congrArg some fS_0_5
theorem gS_0_6 {w : PW} {b : Nat} {s : NS} : gfd (setS w b s) 5 6 b = some (.int (s 20 6)) := by rw [gfd_at setS_0 (by decide)]; rfl
theorem fS_0_6 {w : PW} {b : Nat} {s : NS} {v : Int32} : pupd (setS w b s) b (.inr (5, [.ref (b + 1), .int (s 20 1), .ref (b + 2), .ref (b + 3), .int (s 20 4), .int (s 20 5), .int v])) = setS w b (us s 20 6 v) := by
  refine setW_pupd (k := 0) (by decide) rfl (fun j h1 h2 => ?_)
  have h3 : j = 0 ∨ j = 1 ∨ j = 2 ∨ j = 3 := by omega
  rcases h3 with rfl | rfl | rfl | rfl <;> first | exact absurd rfl h2 | rfl
theorem pS_0_6 {w : PW} {b : Nat} {s : NS} {v : Int32} : pfd (setS w b s) 5 6 b (.int v) = some (setS w b (us s 20 6 v)) := by
  rw [pfd_at (v := .int v) (ty := .int) setS_0 (by decide +kernel) ⟨by simp only [List.length_cons, List.length_nil]; decide, rfl⟩]
  exact congrArg some fS_0_6
theorem lS_1 {x : SX} {w : PW} {b : Nat} {s : NS} {i : Int32} : ald 1 x (setS w b s) 0 (b + 1) i = (fin 60 i).map (s 1) := ald_at setS_1
theorem nS_1 {x : SX} {w : PW} {b : Nat} {s : NS} : aln x (setS w b s) 0 (b + 1) = some 60 := aln_at (by decide) setS_1
theorem fS_1 {w : PW} {b : Nat} {s : NS} {f : Nat → Int32} : pupd (setS w b s) (b + 1) (.inl (1, 60, .inl f)) = setS w b (ua s 1 f) := by
  refine setW_pupd (k := 1) (by decide) rfl (fun j h1 h2 => ?_)
  have h3 : j = 0 ∨ j = 1 ∨ j = 2 ∨ j = 3 := by omega
  rcases h3 with rfl | rfl | rfl | rfl <;> first | exact absurd rfl h2 | rfl
theorem sS_1 {w : PW} {b : Nat} {s : NS} {i v : Int32} : ast 1 (setS w b s) (b + 1) i v = (fin 60 i).map fun j => setS w b (us s 1 j v) := by
  rw [ast_at setS_1]
  congr 1
  funext j
  exact fS_1
theorem lS_2 {x : SX} {w : PW} {b : Nat} {s : NS} {i : Int32} : ald 0 x (setS w b s) 0 (b + 2) i = (fin 15 i).map (s 2) := ald_at setS_2
theorem nS_2 {x : SX} {w : PW} {b : Nat} {s : NS} : aln x (setS w b s) 0 (b + 2) = some 15 := aln_at (by decide) setS_2
theorem fS_2 {w : PW} {b : Nat} {s : NS} {f : Nat → Int32} : pupd (setS w b s) (b + 2) (.inl (0, 15, .inl f)) = setS w b (ua s 2 f) := by
  refine setW_pupd (k := 2) (by decide) rfl (fun j h1 h2 => ?_)
  have h3 : j = 0 ∨ j = 1 ∨ j = 2 ∨ j = 3 := by omega
  rcases h3 with rfl | rfl | rfl | rfl <;> first | exact absurd rfl h2 | rfl
theorem sS_2 {w : PW} {b : Nat} {s : NS} {i v : Int32} : ast 0 (setS w b s) (b + 2) i v = (fin 15 i).map fun j => setS w b (us s 2 j v) := by
  rw [ast_at setS_2]
  congr 1
  funext j
  exact fS_2
theorem lS_3 {x : SX} {w : PW} {b : Nat} {s : NS} {i : Int32} : ald 0 x (setS w b s) 0 (b + 3) i = (fin 45 i).map (s 3) := ald_at setS_3
theorem nS_3 {x : SX} {w : PW} {b : Nat} {s : NS} : aln x (setS w b s) 0 (b + 3) = some 45 := aln_at (by decide) setS_3
theorem fS_3 {w : PW} {b : Nat} {s : NS} {f : Nat → Int32} : pupd (setS w b s) (b + 3) (.inl (0, 45, .inl f)) = setS w b (ua s 3 f) := by
  refine setW_pupd (k := 3) (by decide) rfl (fun j h1 h2 => ?_)
  have h3 : j = 0 ∨ j = 1 ∨ j = 2 ∨ j = 3 := by omega
  rcases h3 with rfl | rfl | rfl | rfl <;> first | exact absurd rfl h2 | rfl
theorem sS_3 {w : PW} {b : Nat} {s : NS} {i v : Int32} : ast 0 (setS w b s) (b + 3) i v = (fin 45 i).map fun j => setS w b (us s 3 j v) := by
  rw [ast_at setS_3]
  congr 1
  funext j
  exact fS_3
/-- the model -/
def cellM (b : Nat) (s : NS) : Nat → PE
  | 0 => .inr (7, [.ref (b + 1), .ref (b + 2), .ref (b + 3), .ref (b + 4), .int (s 20 4), .ref (b + 5), .int (s 20 6), .ref (b + 6), .int (s 20 8), .int (s 20 9), .int (s 20 10), .ref (b + 7), .int (s 20 12), .int (s 20 13), .ref (b + 8), .int (s 20 15), .int (s 20 16), .ref (b + 9)])
  | 1 => .inl (0, 84, .inl (s 1))
  | 2 => .inl (0, 84, .inl (s 2))
  | 3 => .inl (0, 84, .inl (s 3))
  | 4 => .inl (0, 672, .inl (s 4))
  | 5 => .inl (0, 84, .inl (s 5))
  | 6 => .inl (1, 60, .inl (s 6))
  | 7 => .inl (1, 100, .inl (s 7))
  | 8 => .inl (0, 5, .inl (s 8))
  | _ => .inl (0, 240, .inl (s 9))
def setM (w : PW) (b : Nat) (s : NS) : PW := setW w b 10 (cellM b s)
theorem setM_out {w : PW} {b i : Nat} {s : NS} (h : i < b ∨ b + 10 ≤ i) : setM w b s i = w i := setW_out h
theorem setM_0 {w : PW} {b : Nat} {s : NS} : setM w b s b = some (.inr (7, [.ref (b + 1), .ref (b + 2), .ref (b + 3), .ref (b + 4), .int (s 20 4), .ref (b + 5), .int (s 20 6), .ref (b + 6), .int (s 20 8), .int (s 20 9), .int (s 20 10), .ref (b + 7), .int (s 20 12), .int (s 20 13), .ref (b + 8), .int (s 20 15), .int (s 20 16), .ref (b + 9)])) := setW_at (k := 0) (by decide)
theorem setM_1 {w : PW} {b : Nat} {s : NS} : setM w b s (b + 1) = some (.inl (0, 84, .inl (s 1))) := setW_at (k := 1) (by decide)
theorem setM_2 {w : PW} {b : Nat} {s : NS} : setM w b s (b + 2) = some (.inl (0, 84, .inl (s 2))) := setW_at (k := 2) (by decide)
theorem setM_3 {w : PW} {b : Nat} {s : NS} : setM w b s (b + 3) = some (.inl (0, 84, .inl (s 3))) := setW_at (k := 3) (by decide)
theorem setM_4 {w : PW} {b : Nat} {s : NS} : setM w b s (b + 4) = some (.inl (0, 672, .inl (s 4))) := setW_at (k := 4) (by decide)
theorem setM_5 {w : PW} {b : Nat} {s : NS} : setM w b s (b + 5) = some (.inl (0, 84, .inl (s 5))) := setW_at (k := 5) (by decide)
theorem setM_6 {w : PW} {b : Nat} {s : NS} : setM w b s (b + 6) = some (.inl (1, 60, .inl (s 6))) := setW_at (k := 6) (by decide)
theorem setM_7 {w : PW} {b : Nat} {s : NS} : setM w b s (b + 7) = some (.inl (1, 100, .inl (s 7))) := setW_at (k := 7) (by decide)
theorem setM_8 {w : PW} {b : Nat} {s : NS} : setM w b s (b + 8) = some (.inl (0, 5, .inl (s 8))) := setW_at (k := 8) (by decide)
theorem setM_9 {w : PW} {b : Nat} {s : NS} : setM w b s (b + 9) = some (.inl (0, 240, .inl (s 9))) := setW_at (k := 9) (by decide)
theorem gM_0_0 {w : PW} {b : Nat} {s : NS} : gfd (setM w b s) 7 0 b = some (.ref (b + 1)) := by rw [gfd_at setM_0 (by decide)]; rfl
theorem gM_0_1 {w : PW} {b : Nat} {s : NS} : gfd (setM w b s) 7 1 b = some (.ref (b + 2)) := by rw [gfd_at setM_0 (by decide)]; rfl
theorem gM_0_2 {w : PW} {b : Nat} {s : NS} : gfd (setM w b s) 7 2 b = some (.ref (b + 3)) := by rw [gfd_at setM_0 (by decide)]; rfl
theorem gM_0_3 {w : PW} {b : Nat} {s : NS} : gfd (setM w b s) 7 3 b = some (.ref (b + 4)) := by rw [gfd_at setM_0 (by decide)]; rfl
theorem gM_0_4 {w : PW} {b : Nat} {s : NS} : gfd (setM w b s) 7 4 b = some (.int (s 20 4)) := by rw [gfd_at setM_0 (by decide)]; rfl
theorem fM_0_4 {w : PW} {b : Nat} {s : NS} {v : Int32} : pupd (setM w b s) b (.inr (7, [.ref (b + 1), .ref (b + 2), .ref (b + 3), .ref (b + 4), .int v, .ref (b + 5), .int (s 20 6), .ref (b + 6), .int (s 20 8), .int (s 20 9), .int (s 20 10), .ref (b + 7), .int (s 20 12), .int (s 20 13), .ref (b + 8), .int (s 20 15), .int (s 20 16), .ref (b + 9)])) = setM w b (us s 20 4 v) := by
  refine setW_pupd (k := 0) (by decide) rfl (fun j h1 h2 => ?_)
  have h3 : j = 0 ∨ j = 1 ∨ j = 2 ∨ j = 3 ∨ j = 4 ∨ j = 5 ∨ j = 6 ∨ j = 7 ∨ j = 8 ∨ j = 9 := by omega
  rcases h3 with rfl | rfl | rfl | rfl | rfl | rfl | rfl | rfl | rfl | rfl <;> first | exact absurd rfl h2 | rfl
theorem pM_0_4 {w : PW} {b : Nat} {s : NS} {v : Int32} : pfd (setM w b s) 7 4 b (.int v) = some (setM w b (us s 20 4 v)) := by
  rw [pfd_at (v := .int v) (ty := .int) setM_0 (by decide +kernel) ⟨by simp only [List.length_cons, List.length_nil]; decide, rfl⟩]
  exact congrArg some fM_0_4
theorem gM_0_5 {w : PW} {b : Nat} {s : NS} : gfd (setM w b s) 7 5 b = some (.ref (b + 5)) := by rw [gfd_at setM_0 (by decide)]; rfl
theorem gM_0_6 {w : PW} {b : Nat} {s : NS} : gfd (setM w b s) 7 6 b = some (.int (s 20 6)) := by rw [gfd_at setM_0 (by decide)]; rfl
theorem fM_0_6 {w : PW} {b : Nat} {s : NS} {v : Int32} : pupd (setM w b s) b (.inr (7, [.ref (b + 1), .ref (b + 2), .ref (b + 3), .ref (b + 4), .int (s 20 4), .ref (b + 5), .int v, .ref (b + 6), .int (s 20 8), .int (s 20 9), .int (s 20 10), .ref (b + 7), .int (s 20 12), .int (s 20 13), .ref (b + 8), .int (s 20 15), .int (s 20 16), .ref (b + 9)])) = setM w b (us s 20 6 v) := by
  refine setW_pupd (k := 0) (by decide) rfl (fun j h1 h2 => ?_)
  have h3 : j = 0 ∨ j = 1 ∨ j = 2 ∨ j = 3 ∨ j = 4 ∨ j = 5 ∨ j = 6 ∨ j = 7 ∨ j = 8 ∨ j = 9 := by omega
  rcases h3 with rfl | rfl | rfl | rfl | rfl | rfl | rfl | rfl | rfl | rfl <;> first | exact absurd rfl h2 | rfl
theorem pM_0_6 {w : PW} {b : Nat} {s : NS} {v : Int32} (hv : v = 0 ∨ v = 1) : pfd (setM w b s) 7 6 b (.int v) = some (setM w b (us s 20 6 v)) := by
  rw [pfd_at (v := .int v) (ty := .boolean) setM_0 (by decide +kernel) ⟨by simp only [List.length_cons, List.length_nil]; decide, decide_eq_true hv⟩]
  exact congrArg some fM_0_6
theorem gM_0_7 {w : PW} {b : Nat} {s : NS} : gfd (setM w b s) 7 7 b = some (.ref (b + 6)) := by rw [gfd_at setM_0 (by decide)]; rfl
theorem gM_0_8 {w : PW} {b : Nat} {s : NS} : gfd (setM w b s) 7 8 b = some (.int (s 20 8)) := by rw [gfd_at setM_0 (by decide)]; rfl
theorem fM_0_8 {w : PW} {b : Nat} {s : NS} {v : Int32} : pupd (setM w b s) b (.inr (7, [.ref (b + 1), .ref (b + 2), .ref (b + 3), .ref (b + 4), .int (s 20 4), .ref (b + 5), .int (s 20 6), .ref (b + 6), .int v, .int (s 20 9), .int (s 20 10), .ref (b + 7), .int (s 20 12), .int (s 20 13), .ref (b + 8), .int (s 20 15), .int (s 20 16), .ref (b + 9)])) = setM w b (us s 20 8 v) := by
  refine setW_pupd (k := 0) (by decide) rfl (fun j h1 h2 => ?_)
  have h3 : j = 0 ∨ j = 1 ∨ j = 2 ∨ j = 3 ∨ j = 4 ∨ j = 5 ∨ j = 6 ∨ j = 7 ∨ j = 8 ∨ j = 9 := by omega
  rcases h3 with rfl | rfl | rfl | rfl | rfl | rfl | rfl | rfl | rfl | rfl <;> first | exact absurd rfl h2 | rfl
theorem pM_0_8 {w : PW} {b : Nat} {s : NS} {v : Int32} : pfd (setM w b s) 7 8 b (.int v) = some (setM w b (us s 20 8 v)) := by
  rw [pfd_at (v := .int v) (ty := .int) setM_0 (by decide +kernel) ⟨by simp only [List.length_cons, List.length_nil]; decide, rfl⟩]
  exact congrArg some fM_0_8
theorem gM_0_9 {w : PW} {b : Nat} {s : NS} : gfd (setM w b s) 7 9 b = some (.int (s 20 9)) := by rw [gfd_at setM_0 (by decide)]; rfl
theorem fM_0_9 {w : PW} {b : Nat} {s : NS} {v : Int32} : pupd (setM w b s) b (.inr (7, [.ref (b + 1), .ref (b + 2), .ref (b + 3), .ref (b + 4), .int (s 20 4), .ref (b + 5), .int (s 20 6), .ref (b + 6), .int (s 20 8), .int v, .int (s 20 10), .ref (b + 7), .int (s 20 12), .int (s 20 13), .ref (b + 8), .int (s 20 15), .int (s 20 16), .ref (b + 9)])) = setM w b (us s 20 9 v) := by
  refine setW_pupd (k := 0) (by decide) rfl (fun j h1 h2 => ?_)
  have h3 : j = 0 ∨ j = 1 ∨ j = 2 ∨ j = 3 ∨ j = 4 ∨ j = 5 ∨ j = 6 ∨ j = 7 ∨ j = 8 ∨ j = 9 := by omega
  rcases h3 with rfl | rfl | rfl | rfl | rfl | rfl | rfl | rfl | rfl | rfl <;> first | exact absurd rfl h2 | rfl
theorem pM_0_9 {w : PW} {b : Nat} {s : NS} {v : Int32} : pfd (setM w b s) 7 9 b (.int v) = some (setM w b (us s 20 9 v)) := by
  rw [pfd_at (v := .int v) (ty := .int) setM_0 (by decide +kernel) ⟨by simp only [List.length_cons, List.length_nil]; decide, rfl⟩]
  exact congrArg some fM_0_9
theorem gM_0_10 {w : PW} {b : Nat} {s : NS} : gfd (setM w b s) 7 10 b = some (.int (s 20 10)) := by rw [gfd_at setM_0 (by decide)]; rfl
theorem fM_0_10 {w : PW} {b : Nat} {s : NS} {v : Int32} : pupd (setM w b s) b (.inr (7, [.ref (b + 1), .ref (b + 2), .ref (b + 3), .ref (b + 4), .int (s 20 4), .ref (b + 5), .int (s 20 6), .ref (b + 6), .int (s 20 8), .int (s 20 9), .int v, .ref (b + 7), .int (s 20 12), .int (s 20 13), .ref (b + 8), .int (s 20 15), .int (s 20 16), .ref (b + 9)])) = setM w b (us s 20 10 v) := by
  refine setW_pupd (k := 0) (by decide) rfl (fun j h1 h2 => ?_)
  have h3 : j = 0 ∨ j = 1 ∨ j = 2 ∨ j = 3 ∨ j = 4 ∨ j = 5 ∨ j = 6 ∨ j = 7 ∨ j = 8 ∨ j = 9 := by omega
  rcases h3 with rfl | rfl | rfl | rfl | rfl | rfl | rfl | rfl | rfl | rfl <;> first | exact absurd rfl h2 | rfl
theorem pM_0_10 {w : PW} {b : Nat} {s : NS} {v : Int32} : pfd (setM w b s) 7 10 b (.int v) = some (setM w b (us s 20 10 v)) := by
  rw [pfd_at (v := .int v) (ty := .int) setM_0 (by decide +kernel) ⟨by simp only [List.length_cons, List.length_nil]; decide, rfl⟩]
  exact congrArg some fM_0_10
theorem gM_0_11 {w : PW} {b : Nat} {s : NS} : gfd (setM w b s) 7 11 b = some (.ref (b + 7)) := by rw [gfd_at setM_0 (by decide)]; rfl
theorem gM_0_12 {w : PW} {b : Nat} {s : NS} : gfd (setM w b s) 7 12 b = some (.int (s 20 12)) := by rw [gfd_at setM_0 (by decide)]; rfl
theorem fM_0_12 {w : PW} {b : Nat} {s : NS} {v : Int32} : pupd (setM w b s) b (.inr (7, [.ref (b + 1), .ref (b + 2), .ref (b + 3), .ref (b + 4), .int (s 20 4), .ref (b + 5), .int (s 20 6), .ref (b + 6), .int (s 20 8), .int (s 20 9), .int (s 20 10), .ref (b + 7), .int v, .int (s 20 13), .ref (b + 8), .int (s 20 15), .int (s 20 16), .ref (b + 9)])) = setM w b (us s 20 12 v) := by
  refine setW_pupd (k := 0) (by decide) rfl (fun j h1 h2 => ?_)
  have h3 : j = 0 ∨ j = 1 ∨ j = 2 ∨ j = 3 ∨ j = 4 ∨ j = 5 ∨ j = 6 ∨ j = 7 ∨ j = 8 ∨ j = 9 := by omega
  rcases h3 with rfl | rfl | rfl | rfl | rfl | rfl | rfl | rfl | rfl | rfl <;> first | exact absurd rfl h2 | rfl
theorem pM_0_12 {w : PW} {b : Nat} {s : NS} {v : Int32} : pfd (setM w b s) 7 12 b (.int v) = some (setM w b (us s 20 12 v)) := by
  rw [pfd_at (v := .int v) (ty := .int) setM_0 (by decide +kernel) ⟨by simp only [List.length_cons, List.length_nil]; decide, rfl⟩]
  exact congrArg some fM_0_12
theorem gM_0_13 {w : PW} {b : Nat} {s : NS} : gfd (setM w b s) 7 13 b = some (.int (s 20 13)) := by rw [gfd_at setM_0 (by decide)]; rfl
theorem fM_0_13 {w : PW} {b : Nat} {s : NS} {v : Int32} : pupd (setM w b s) b (.inr (7, [.ref (b + 1), .ref (b + 2), .ref (b + 3), .ref (b + 4), .int (s 20 4), .ref (b + 5), .int (s 20 6), .ref (b + 6), .int (s 20 8), .int (s 20 9), .int (s 20 10), .ref (b + 7), .int (s 20 12), .int v, .ref (b + 8), .int (s 20 15), .int (s 20 16), .ref (b + 9)])) = setM w b (us s 20 13 v) := by
  refine setW_pupd (k := 0) (by decide) rfl (fun j h1 h2 => ?_)
  have h3 : j = 0 ∨ j = 1 ∨ j = 2 ∨ j = 3 ∨ j = 4 ∨ j = 5 ∨ j = 6 ∨ j = 7 ∨ j = 8 ∨ j = 9 := by omega
  rcases h3 with rfl | rfl | rfl | rfl | rfl | rfl | rfl | rfl | rfl | rfl <;> first | exact absurd rfl h2 | rfl
theorem pM_0_13 {w : PW} {b : Nat} {s : NS} {v : Int32} : pfd (setM w b s) 7 13 b (.int v) = some (setM w b (us s 20 13 v)) := by
  rw [pfd_at (v := .int v) (ty := .int) setM_0 (by decide +kernel) ⟨by simp only [List.length_cons, List.length_nil]; decide, rfl⟩]
  exact congrArg some fM_0_13
theorem gM_0_14 {w : PW} {b : Nat} {s : NS} : gfd (setM w b s) 7 14 b = some (.ref (b + 8)) := by rw [gfd_at setM_0 (by decide)]; rfl
theorem gM_0_15 {w : PW} {b : Nat} {s : NS} : gfd (setM w b s) 7 15 b = some (.int (s 20 15)) := by rw [gfd_at setM_0 (by decide)]; rfl
theorem fM_0_15 {w : PW} {b : Nat} {s : NS} {v : Int32} : pupd (setM w b s) b (.inr (7, [.ref (b + 1), .ref (b + 2), .ref (b + 3), .ref (b + 4), .int (s 20 4), .ref (b + 5), .int (s 20 6), .ref (b + 6), .int (s 20 8), .int (s 20 9), .int (s 20 10), .ref (b + 7), .int (s 20 12), .int (s 20 13), .ref (b + 8), .int v, .int (s 20 16), .ref (b + 9)])) = setM w b (us s 20 15 v) := by
  refine setW_pupd (k := 0) (by decide) rfl (fun j h1 h2 => ?_)
  have h3 : j = 0 ∨ j = 1 ∨ j = 2 ∨ j = 3 ∨ j = 4 ∨ j = 5 ∨ j = 6 ∨ j = 7 ∨ j = 8 ∨ j = 9 := by omega
  rcases h3 with rfl | rfl | rfl | rfl | rfl | rfl | rfl | rfl | rfl | rfl <;> first | exact absurd rfl h2 | rfl
theorem pM_0_15 {w : PW} {b : Nat} {s : NS} {v : Int32} : pfd (setM w b s) 7 15 b (.int v) = some (setM w b (us s 20 15 v)) := by
  rw [pfd_at (v := .int v) (ty := .int) setM_0 (by decide +kernel) ⟨by simp only [List.length_cons, List.length_nil]; decide, rfl⟩]
  exact congrArg some fM_0_15
theorem gM_0_16 {w : PW} {b : Nat} {s : NS} : gfd (setM w b s) 7 16 b = some (.int (s 20 16)) := by rw [gfd_at setM_0 (by decide)]; rfl
theorem fM_0_16 {w : PW} {b : Nat} {s : NS} {v : Int32} : pupd (setM w b s) b (.inr (7, [.ref (b + 1), .ref (b + 2), .ref (b + 3), .ref (b + 4), .int (s 20 4), .ref (b + 5), .int (s 20 6), .ref (b + 6), .int (s 20 8), .int (s 20 9), .int (s 20 10), .ref (b + 7), .int (s 20 12), .int (s 20 13), .ref (b + 8), .int (s 20 15), .int v, .ref (b + 9)])) = setM w b (us s 20 16 v) := by
  refine setW_pupd (k := 0) (by decide) rfl (fun j h1 h2 => ?_)
  have h3 : j = 0 ∨ j = 1 ∨ j = 2 ∨ j = 3 ∨ j = 4 ∨ j = 5 ∨ j = 6 ∨ j = 7 ∨ j = 8 ∨ j = 9 := by omega
  rcases h3 with rfl | rfl | rfl | rfl | rfl | rfl | rfl | rfl | rfl | rfl <;> first | exact absurd rfl h2 | rfl
theorem pM_0_16 {w : PW} {b : Nat} {s : NS} {v : Int32} (hv : v = 0 ∨ v = 1) : pfd (setM w b s) 7 16 b (.int v) = some (setM w b (us s 20 16 v)) := by
  rw [pfd_at (v := .int v) (ty := .boolean) setM_0 (by decide +kernel) ⟨by simp only [List.length_cons, List.length_nil]; decide, decide_eq_true hv⟩]
  exact congrArg some fM_0_16
theorem gM_0_17 {w : PW} {b : Nat} {s : NS} : gfd (setM w b s) 7 17 b = some (.ref (b + 9)) := by rw [gfd_at setM_0 (by decide)]; rfl
theorem lM_1 {x : SX} {w : PW} {b : Nat} {s : NS} {i : Int32} : ald 0 x (setM w b s) 0 (b + 1) i = (fin 84 i).map (s 1) := ald_at setM_1
theorem nM_1 {x : SX} {w : PW} {b : Nat} {s : NS} : aln x (setM w b s) 0 (b + 1) = some 84 := aln_at (by decide) setM_1
theorem fM_1 {w : PW} {b : Nat} {s : NS} {f : Nat → Int32} : pupd (setM w b s) (b + 1) (.inl (0, 84, .inl f)) = setM w b (ua s 1 f) := by
  refine setW_pupd (k := 1) (by decide) rfl (fun j h1 h2 => ?_)
  have h3 : j = 0 ∨ j = 1 ∨ j = 2 ∨ j = 3 ∨ j = 4 ∨ j = 5 ∨ j = 6 ∨ j = 7 ∨ j = 8 ∨ j = 9 := by omega
  rcases h3 with rfl | rfl | rfl | rfl | rfl | rfl | rfl | rfl | rfl | rfl <;> first | exact absurd rfl h2 | rfl
theorem sM_1 {w : PW} {b : Nat} {s : NS} {i v : Int32} : ast 0 (setM w b s) (b + 1) i v = (fin 84 i).map fun j => setM w b (us s 1 j v) := by
  rw [ast_at setM_1]
  congr 1
  funext j
  exact fM_1
theorem lM_2 {x : SX} {w : PW} {b : Nat} {s : NS} {i : Int32} : ald 0 x (setM w b s) 0 (b + 2) i = (fin 84 i).map (s 2) := ald_at setM_2
theorem nM_2 {x : SX} {w : PW} {b : Nat} {s : NS} : aln x (setM w b s) 0 (b + 2) = some 84 := aln_at (by decide) setM_2
theorem fM_2 {w : PW} {b : Nat} {s : NS} {f : Nat → Int32} : pupd (setM w b s) (b + 2) (.inl (0, 84, .inl f)) = setM w b (ua s 2 f) := by
  refine setW_pupd (k := 2) (by decide) rfl (fun j h1 h2 => ?_)
  have h3 : j = 0 ∨ j = 1 ∨ j = 2 ∨ j = 3 ∨ j = 4 ∨ j = 5 ∨ j = 6 ∨ j = 7 ∨ j = 8 ∨ j = 9 := by omega
  rcases h3 with rfl | rfl | rfl | rfl | rfl | rfl | rfl | rfl | rfl | rfl <;> first | exact absurd rfl h2 | rfl
theorem sM_2 {w : PW} {b : Nat} {s : NS} {i v : Int32} : ast 0 (setM w b s) (b + 2) i v = (fin 84 i).map fun j => setM w b (us s 2 j v) := by
  rw [ast_at setM_2]
  congr 1
  funext j
  exact fM_2
theorem lM_3 {x : SX} {w : PW} {b : Nat} {s : NS} {i : Int32} : ald 0 x (setM w b s) 0 (b + 3) i = (fin 84 i).map (s 3) := ald_at setM_3
theorem nM_3 {x : SX} {w : PW} {b : Nat} {s : NS} : aln x (setM w b s) 0 (b + 3) = some 84 := aln_at (by decide) setM_3
theorem fM_3 {w : PW} {b : Nat} {s : NS} {f : Nat → Int32} : pupd (setM w b s) (b + 3) (.inl (0, 84, .inl f)) = setM w b (ua s 3 f) := by
  refine setW_pupd (k := 3) (by decide) rfl (fun j h1 h2 => ?_)
  have h3 : j = 0 ∨ j = 1 ∨ j = 2 ∨ j = 3 ∨ j = 4 ∨ j = 5 ∨ j = 6 ∨ j = 7 ∨ j = 8 ∨ j = 9 := by omega
  rcases h3 with rfl | rfl | rfl | rfl | rfl | rfl | rfl | rfl | rfl | rfl <;> first | exact absurd rfl h2 | rfl
theorem sM_3 {w : PW} {b : Nat} {s : NS} {i v : Int32} : ast 0 (setM w b s) (b + 3) i v = (fin 84 i).map fun j => setM w b (us s 3 j v) := by
  rw [ast_at setM_3]
  congr 1
  funext j
  exact fM_3
theorem lM_4 {x : SX} {w : PW} {b : Nat} {s : NS} {i : Int32} : ald 0 x (setM w b s) 0 (b + 4) i = (fin 672 i).map (s 4) := ald_at setM_4
theorem nM_4 {x : SX} {w : PW} {b : Nat} {s : NS} : aln x (setM w b s) 0 (b + 4) = some 672 := aln_at (by decide) setM_4
theorem fM_4 {w : PW} {b : Nat} {s : NS} {f : Nat → Int32} : pupd (setM w b s) (b + 4) (.inl (0, 672, .inl f)) = setM w b (ua s 4 f) := by
  refine setW_pupd (k := 4) (by decide) rfl (fun j h1 h2 => ?_)
  have h3 : j = 0 ∨ j = 1 ∨ j = 2 ∨ j = 3 ∨ j = 4 ∨ j = 5 ∨ j = 6 ∨ j = 7 ∨ j = 8 ∨ j = 9 := by omega
  rcases h3 with rfl | rfl | rfl | rfl | rfl | rfl | rfl | rfl | rfl | rfl <;> first | exact absurd rfl h2 | rfl
theorem sM_4 {w : PW} {b : Nat} {s : NS} {i v : Int32} : ast 0 (setM w b s) (b + 4) i v = (fin 672 i).map fun j => setM w b (us s 4 j v) := by
  rw [ast_at setM_4]
  congr 1
  funext j
  exact fM_4
theorem lM_5 {x : SX} {w : PW} {b : Nat} {s : NS} {i : Int32} : ald 0 x (setM w b s) 0 (b + 5) i = (fin 84 i).map (s 5) := ald_at setM_5
theorem nM_5 {x : SX} {w : PW} {b : Nat} {s : NS} : aln x (setM w b s) 0 (b + 5) = some 84 := aln_at (by decide) setM_5
theorem fM_5 {w : PW} {b : Nat} {s : NS} {f : Nat → Int32} : pupd (setM w b s) (b + 5) (.inl (0, 84, .inl f)) = setM w b (ua s 5 f) := by
  refine setW_pupd (k := 5) (by decide) rfl (fun j h1 h2 => ?_)
  have h3 : j = 0 ∨ j = 1 ∨ j = 2 ∨ j = 3 ∨ j = 4 ∨ j = 5 ∨ j = 6 ∨ j = 7 ∨ j = 8 ∨ j = 9 := by omega
  rcases h3 with rfl | rfl | rfl | rfl | rfl | rfl | rfl | rfl | rfl | rfl <;> first | exact absurd rfl h2 | rfl
theorem sM_5 {w : PW} {b : Nat} {s : NS} {i v : Int32} : ast 0 (setM w b s) (b + 5) i v = (fin 84 i).map fun j => setM w b (us s 5 j v) := by
  rw [ast_at setM_5]
  congr 1
  funext j
  exact fM_5
theorem lM_6 {x : SX} {w : PW} {b : Nat} {s : NS} {i : Int32} : ald 1 x (setM w b s) 0 (b + 6) i = (fin 60 i).map (s 6) := ald_at setM_6
theorem nM_6 {x : SX} {w : PW} {b : Nat} {s : NS} : aln x (setM w b s) 0 (b + 6) = some 60 := aln_at (by decide) setM_6
theorem fM_6 {w : PW} {b : Nat} {s : NS} {f : Nat → Int32} : pupd (setM w b s) (b + 6) (.inl (1, 60, .inl f)) = setM w b (ua s 6 f) := by
  refine setW_pupd (k := 6) (by decide) rfl (fun j h1 h2 => ?_)
  have h3 : j = 0 ∨ j = 1 ∨ j = 2 ∨ j = 3 ∨ j = 4 ∨ j = 5 ∨ j = 6 ∨ j = 7 ∨ j = 8 ∨ j = 9 := by omega
  rcases h3 with rfl | rfl | rfl | rfl | rfl | rfl | rfl | rfl | rfl | rfl <;> first | exact absurd rfl h2 | rfl
theorem sM_6 {w : PW} {b : Nat} {s : NS} {i v : Int32} : ast 1 (setM w b s) (b + 6) i v = (fin 60 i).map fun j => setM w b (us s 6 j v) := by
  rw [ast_at setM_6]
  congr 1
  funext j
  exact fM_6
theorem lM_7 {x : SX} {w : PW} {b : Nat} {s : NS} {i : Int32} : ald 1 x (setM w b s) 0 (b + 7) i = (fin 100 i).map (s 7) := ald_at setM_7
theorem nM_7 {x : SX} {w : PW} {b : Nat} {s : NS} : aln x (setM w b s) 0 (b + 7) = some 100 := aln_at (by decide) setM_7
theorem fM_7 {w : PW} {b : Nat} {s : NS} {f : Nat → Int32} : pupd (setM w b s) (b + 7) (.inl (1, 100, .inl f)) = setM w b (ua s 7 f) := by
  refine setW_pupd (k := 7) (by decide) rfl (fun j h1 h2 => ?_)
  have h3 : j = 0 ∨ j = 1 ∨ j = 2 ∨ j = 3 ∨ j = 4 ∨ j = 5 ∨ j = 6 ∨ j = 7 ∨ j = 8 ∨ j = 9 := by omega
  rcases h3 with rfl | rfl | rfl | rfl | rfl | rfl | rfl | rfl | rfl | rfl <;> first | exact absurd rfl h2 | rfl
theorem sM_7 {w : PW} {b : Nat} {s : NS} {i v : Int32} : ast 1 (setM w b s) (b + 7) i v = (fin 100 i).map fun j => setM w b (us s 7 j v) := by
  rw [ast_at setM_7]
  congr 1
  funext j
  exact fM_7
theorem lM_8 {x : SX} {w : PW} {b : Nat} {s : NS} {i : Int32} : ald 0 x (setM w b s) 0 (b + 8) i = (fin 5 i).map (s 8) := ald_at setM_8
theorem nM_8 {x : SX} {w : PW} {b : Nat} {s : NS} : aln x (setM w b s) 0 (b + 8) = some 5 := aln_at (by decide) setM_8
theorem fM_8 {w : PW} {b : Nat} {s : NS} {f : Nat → Int32} : pupd (setM w b s) (b + 8) (.inl (0, 5, .inl f)) = setM w b (ua s 8 f) := by
  refine setW_pupd (k := 8) (by decide) rfl (fun j h1 h2 => ?_)
  have h3 : j = 0 ∨ j = 1 ∨ j = 2 ∨ j = 3 ∨ j = 4 ∨ j = 5 ∨ j = 6 ∨ j = 7 ∨ j = 8 ∨ j = 9 := by omega
  rcases h3 with rfl | rfl | rfl | rfl | rfl | rfl | rfl | rfl | rfl | rfl <;> first | exact absurd rfl h2 | rfl
theorem sM_8 {w : PW} {b : Nat} {s : NS} {i v : Int32} : ast 0 (setM w b s) (b + 8) i v = (fin 5 i).map fun j => setM w b (us s 8 j v) := by
  rw [ast_at setM_8]
  congr 1
  funext j
  exact fM_8
theorem lM_9 {x : SX} {w : PW} {b : Nat} {s : NS} {i : Int32} : ald 0 x (setM w b s) 0 (b + 9) i = (fin 240 i).map (s 9) := ald_at setM_9
theorem nM_9 {x : SX} {w : PW} {b : Nat} {s : NS} : aln x (setM w b s) 0 (b + 9) = some 240 := aln_at (by decide) setM_9
theorem fM_9 {w : PW} {b : Nat} {s : NS} {f : Nat → Int32} : pupd (setM w b s) (b + 9) (.inl (0, 240, .inl f)) = setM w b (ua s 9 f) := by
  refine setW_pupd (k := 9) (by decide) rfl (fun j h1 h2 => ?_)
  have h3 : j = 0 ∨ j = 1 ∨ j = 2 ∨ j = 3 ∨ j = 4 ∨ j = 5 ∨ j = 6 ∨ j = 7 ∨ j = 8 ∨ j = 9 := by omega
  rcases h3 with rfl | rfl | rfl | rfl | rfl | rfl | rfl | rfl | rfl | rfl <;> first | exact absurd rfl h2 | rfl
theorem sM_9 {w : PW} {b : Nat} {s : NS} {i v : Int32} : ast 0 (setM w b s) (b + 9) i v = (fin 240 i).map fun j => setM w b (us s 9 j v) := by
  rw [ast_at setM_9]
  congr 1
  funext j
  exact fM_9
end REC
