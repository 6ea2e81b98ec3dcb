/-! THE MACHINE AT THE LAW'S ENTRY -/
section MCX
variable {s : State} {b L : Nat} {xs : Nat → Int32}
abbrev ev0 (s : State) (b : Nat) (t : Jvm.Term) : Option Value := t.eval #[Value.ref b] s none [] s
def adr (s : State) (b p : Nat) : Nat := match ev0 s b (tmX p) with
  | some (.ref a) => a
  | _ => 0
theorem adr_of {p a : Nat} {t : Jvm.Term} (ht : tmX p = t) (h : ev0 s b t = some (.ref a)) : adr s b p = a := by
  unfold adr
  rw [ht, h]
def Gv (s : State) (b : Nat) : Prop := ∀ w ∈ FL, w.before #[Value.ref b] s = true
theorem Gv.sub (h : Gv s b) {l : List Jvm.Cond} (hl : subB l FL = true) {c : Jvm.Cond} (hc : c ∈ l) : c.before #[Value.ref b] s = true := h c (subB_ok _ _ hl c hc)
theorem tab_of (h : Gv s b) {tm : Jvm.Term} {n : Nat} {f : Nat → Int32} (hn : n < 2 ^ 31) (hs : ∀ c ∈ tabE tm n f, c.before #[Value.ref b] s = true) {A : Nat → Prop} (hA : ∀ a : Nat, a < s.heap.size → ¬ A a) :
    ∃ t : Nat, ev0 s b tm = some (.ref t) ∧ va_T .byte t n (fun j => .int (f j)) A s s.heap := by
  refine va_Tof hn (hs _ ?_) (va_eqt (hs _ ?_)) (fun j hj => va_eqt (hs _ ?_)) hA
  · exact List.mem_cons_self
  · exact List.mem_cons_of_mem _ List.mem_cons_self
  · exact List.mem_cons_of_mem _ (List.mem_cons_of_mem _ (List.mem_map.mpr ⟨j, List.mem_range.mpr hj, rfl⟩))
theorem Tab_of (hts : ∀ w ∈ lw_tbl, w.before #[Value.ref b] s = true) : Tab s := by
  intro w hw hk a
  have h0 : w.before #[Value.ref b] s = true := by
    rcases List.mem_append.mp hw with hw | hw
    · obtain ⟨y, hy, rfl⟩ := List.mem_map.mp hw
      obtain ⟨h1, h2, h3, h4⟩ := W_sel y hy
      refine selects_sub h2 (hts _ W_asb.1) ?_ (hts _ h3) (hts _ h4)
      obtain ⟨c, r, m, g1, g2, g3, g4, mk, g5, g6⟩ := Cond.selects_spec (hts _ W_asb.2)
      have g7 := findClass_of_methodNamed g3
      refine ⟨mk, ?_, g6⟩
      rw [h1]
      have g8 : s.vm.findClass "java/lang/AbstractStringBuilder" = some m.cls := g7
      rw [g8, Option.getD_some]
      exact g5
    · exact hts w hw
  simp only [okw, Bool.or_eq_true] at hk
  rcases hk with (hk | hk) | hk
  · exact word_at (State.WarmedH.refl s) (good_of_word hk) h0
  · cases w <;> first | (simp [isNest] at hk; done) | exact va_tabs rfl rfl h0
  · cases w <;> first | (simp [isDC] at hk; done) | exact va_tabs rfl rfl h0
theorem string_ev {own tx : String} {k : Nat} (h : (Jvm.Cond.stringRef own k tx).before #[Value.ref b] s = true) : ∃ a, vk_R own k tx a s ∧ ev0 s b (.string own k) = some (.ref a) := by
  cases hc : s.vm.findClass own with
  | none => simp [Cond.before, Cond.holds, Cond.value, hc, State.names, State.poolOf?] at h
  | some cur =>
    obtain ⟨-, -, -, a, -, -, -, -, -, h2⟩ := Cond.stringRef_spec hc h
    exact ⟨a, vk_R.of h h2, h2⟩
theorem XV_of (hts : ∀ w ∈ lw_tbl, w.before #[Value.ref b] s = true) (hg : Gv s b) {E : ENV} (hE : eX E = adr s b) : XV E s := by
  refine ⟨fun q hq => ?_, fun q hq => ?_, fun q hq => ?_, ?_⟩
  · obtain ⟨a, h1, h2⟩ := string_ev (hts _ (W_str q hq))
    rw [hE, adr_of (P_str q hq).1 h2]
    exact h1
  · obtain ⟨w, hw, hq2⟩ := List.mem_filterMap.mp hq
    have h0 := hts w hw
    cases w <;> first | (cases hq2; done) | skip
    cases hq2
    obtain ⟨a, h1, -⟩ := string_ev h0
    exact ⟨a, h1⟩
  · exact va_Nc.of (hg.sub E_ncl (List.mem_map.mpr ⟨q, hq, rfl⟩))
  · exact va_AO.of (hts _ W_oth.1)
theorem arr_of (hts : ∀ w ∈ lw_tbl, w.before #[Value.ref b] s = true) (t : Nat) : ∃ cA : ClassId, ArrOfT s cA (tyT t) ∧ va_RA s cA (tyT t) := by
  have hprim : t < 5 → ∃ cA : ClassId, ArrOfT s cA (tyT t) ∧ s.vm.findClass ("[" ++ (tyT t).toString) = some cA := by
    intro ht
    obtain ⟨c, k, comp, h1, h2, h3⟩ := Cond.arrayClass_spec (hts _ (W_arr t ht))
    refine ⟨c, fun n z => ⟨fun j h => ?_, k, h2, comp, h3⟩, h1⟩
    cases h
  match t, hprim with
  | 0, h => exact h (by decide)
  | 1, h => exact h (by decide)
  | 2, h => exact h (by decide)
  | 3, h => exact h (by decide)
  | 4, h => exact h (by decide)
  | t + 5, _ =>
    obtain ⟨comp, c, k, h1, h2, h3, h4, h5⟩ := Cond.arrayOver_spec (hts _ W_oth.1)
    exact ⟨c, fun n z => ⟨fun j h => (by cases h), k, h3, comp, h4⟩, k, comp, h3, h4, h1, h5⟩
theorem know_of (hts : ∀ w ∈ lw_tbl, w.before #[Value.ref b] s = true) : ∃ (D : va_G) (eT' : Nat → ClassId), ∀ (N : Nat) (U : Value) (X : Nat → Nat), va_K D CLS (TYS (D, eT', N, U, X)) s := by
  have h1 : ∀ k : Nat, ∃ p : ClassId × (Nat → Nat), ∀ q : vw_C, CLS[k]? = some q → u_Kn s q.1 q.2.1 q.2.2 p.1 p.2 := by
    intro k
    cases hq : CLS[k]? with
    | none => exact ⟨(0, fun _ => 0), fun q h => by cases h⟩
    | some q =>
      obtain ⟨g1, g2⟩ := W_cls q (List.mem_of_getElem? hq)
      obtain ⟨cC, iS, h⟩ := u_known (n := q.2.2) hts g1 (hts _ g2)
      exact ⟨(cC, iS), fun q' h' => by cases h'; exact h⟩
  obtain ⟨f, hf⟩ := Classical.axiomOfChoice h1
  obtain ⟨g, hg⟩ := Classical.axiomOfChoice (arr_of (b := b) hts)
  refine ⟨(fun k => (f k).1, fun k => (f k).2), g, fun N U X => ⟨fun c q hq => hf c q hq, fun k q hq => ?_⟩⟩
  match k, hq with
  | 0, hq => cases hq; exact hg 0
  | 1, hq => cases hq; exact hg 1
  | 2, hq => cases hq; exact hg 2
  | 3, hq => cases hq; exact hg 3
  | 4, hq => cases hq; exact hg 4
  | 5, hq => cases hq; exact hg 5
  | k + 6, hq => simp [TYS] at hq
theorem flt_ev (hg : Gv s b) {q : String × Nat} (hq : q ∈ FNM) : ∃ a, ev0 s b (fltT q.1) = some (.ref a) ∧ adr s b q.2 = a ∧ ev0 s b (.field (fltT q.1) "java/lang/Enum" "ordinal" "I") = some (.int (Int32.ofNat q.2)) := by
  obtain ⟨a, c, cell, k, h1, -⟩ := Cond.exactly_spec (hg.sub (E_flt q hq) List.mem_cons_self)
  exact ⟨a, h1, adr_of (P_flt q hq) h1, va_eqt (hg.sub (E_flt q hq) (List.mem_cons_of_mem _ List.mem_cons_self))⟩
theorem flt_inj (hg : Gv s b) : ∀ i j, i < 6 → j < 6 → adr s b i = adr s b j → i = j := by
  have key : ∀ i, i < 6 → ∃ q ∈ FNM, q.2 = i := by decide
  intro i j hi hj h
  obtain ⟨q, hq, rfl⟩ := key i hi
  obtain ⟨r, hr, rfl⟩ := key j hj
  obtain ⟨a, g1, g2, g3⟩ := flt_ev hg hq
  obtain ⟨a', g1', g2', g3'⟩ := flt_ev hg hr
  have haa : a = a' := by rw [← g2, ← g2', h]
  subst haa
  have e1 : ev0 s b (.field (fltT q.1) "java/lang/Enum" "ordinal" "I") = ev0 s b (.field (fltT r.1) "java/lang/Enum" "ordinal" "I") := by
    simp only [ev0] at g1 g1' ⊢
    simp only [Term.eval] at g1 g1' ⊢
    rw [g1, g1']
  rw [g3, g3'] at e1
  have e2 : Int32.ofNat q.2 = Int32.ofNat r.2 := by injection e1 with e1; injection e1
  have inj : ∀ i, i < 6 → ∀ j, j < 6 → Int32.ofNat i = Int32.ofNat j → i = j := by decide
  exact inj _ hi _ hj e2
end MCX
