/-! .. AND ITS OLD THINGS -/
section MCY
variable {s : State} {b L : Nat} {xs : Nat → Int32}
theorem sio_ev (hg : Gv s b) : ∃ v, ev0 s b (.static "jdk/internal/util/Preconditions" "SIOOBE_FORMATTER" "Ljava/util/function/BiFunction;") = some v ∧ v.category = 1 := by
  obtain ⟨v, h1, h2⟩ := Cond.isRef_spec (hg.sub E_oth (List.mem_cons_of_mem _ List.mem_cons_self))
  refine ⟨v, h1, ?_⟩
  cases v <;> first | rfl | cases h2
theorem sta_ev (hg : Gv s b) {E : ENV} (hE : eX E = adr s b) (hU : ev0 s b (.static "jdk/internal/util/Preconditions" "SIOOBE_FORMATTER" "Ljava/util/function/BiFunction;") = some (eU E)) {A : Nat → Prop} (hA : ∀ a : Nat, a < s.heap.size → ¬ A a) :
    ∀ q ∈ STATS, ev0 s b (.static q.1 q.2.1 q.2.2.1) = some (cv E (eX E) q.2.2.2) := by
  have hf : ∀ q ∈ FNM, ev0 s b (fltT q.1) = some (.ref (adr s b q.2)) := by
    intro q hq
    obtain ⟨a, h1, h2, -⟩ := flt_ev hg hq
    rw [h1, h2]
  have h7 : ev0 s b (digT "DigitOnes") = some (.ref (adr s b 7)) := by
    obtain ⟨t, h1, -⟩ := tab_of hg (by decide) (fun c hc => hg.sub E_one hc) hA
    rw [h1, adr_of P_oth.2.1 h1]
  have h8 : ev0 s b (digT "DigitTens") = some (.ref (adr s b 8)) := by
    obtain ⟨t, h1, -⟩ := tab_of hg (by decide) (fun c hc => hg.sub E_ten hc) hA
    rw [h1, adr_of P_oth.2.2 h1]
  have hs : ev0 s b (.static "java/lang/String" "COMPACT_STRINGS" "Z") = some (.int 1) := va_eqt (hg.sub E_oth List.mem_cons_self)
  unfold STATS
  refine List.forall_mem_cons.mpr ⟨?_, List.forall_mem_cons.mpr ⟨?_, List.forall_mem_cons.mpr ⟨?_, List.forall_mem_cons.mpr ⟨?_, List.forall_mem_cons.mpr ⟨?_, List.forall_mem_cons.mpr ⟨?_, List.forall_mem_cons.mpr ⟨?_, List.forall_mem_cons.mpr ⟨?_, List.forall_mem_cons.mpr ⟨?_, List.forall_mem_cons.mpr ⟨?_, fun _ h => absurd h List.not_mem_nil⟩⟩⟩⟩⟩⟩⟩⟩⟩⟩
  · rw [hE]; exact hf ("NOTHING", 0) (by decide)
  · rw [hE]; exact hf ("NO_SUCH_PLACE", 1) (by decide)
  · rw [hE]; exact hf ("BAD_ARGUMENT", 2) (by decide)
  · rw [hE]; exact hf ("FULL_CANAL", 3) (by decide)
  · rw [hE]; exact hf ("FULL_REACH", 4) (by decide)
  · rw [hE]; exact hf ("NO_SUCH_BARGE", 5) (by decide)
  · exact hU
  · rw [hE]; exact h7
  · rw [hE]; exact h8
  · exact hs
theorem ext_T (hg : Gv s b) (hX : va_X b L xs s s.heap) {E : ENV} (hE : eX E = adr s b) {A : Nat → Prop} (hA : ∀ a : Nat, a < s.heap.size → ¬ A a) :
    ∀ p t n f, extA (L, xs) p = some (t, n, f) → va_T (tyT t) (eX E p) n (fun j => .int (f j)) A s s.heap := by
  intro p t n f h
  rw [hE]
  unfold extA at h
  split at h
  · next hp =>
    cases h
    obtain ⟨t, h1, h2⟩ := tab_of hg (by decide) (fun c hc => hg.sub E_one hc) hA
    rw [hp, adr_of P_oth.2.1 h1]
    exact h2
  · split at h
    · next hp =>
      cases h
      obtain ⟨t, h1, h2⟩ := tab_of hg (by decide) (fun c hc => hg.sub E_ten hc) hA
      rw [hp, adr_of P_oth.2.2 h1]
      exact h2
    · split at h
      · next hp =>
        cases h
        rw [hp, adr_of (a := b) P_oth.1 rfl]
        obtain ⟨scr, h1, h2, h3, h4, h5⟩ := hX
        exact ⟨scr, h1, h2, h3, by rw [h4]; exact Nat.le_refl _, by rw [h4] <;> rfl, h5, hA b (Array.getElem?_eq_some_iff.mp h1).1⟩
      · obtain ⟨q, hq, h9⟩ := Option.map_eq_some_iff.mp h
        cases h9
        have hm := List.mem_of_find?_eq_some hq
        have hp := List.find?_some hq
        simp only [beq_iff_eq] at hp
        have hlen : ∀ q ∈ STRS, q.2.2.2.1.length < 2 ^ 31 := by decide +kernel
        obtain ⟨t, h1, h2⟩ := tab_of hg (hlen q hm) (fun c hc => hg.sub (E_str q hm) (List.mem_cons_of_mem _ (List.mem_cons_of_mem _ hc))) hA
        rw [← hp, adr_of (P_str q hm).2 h1]
        exact h2
theorem XT_of (hts : ∀ w ∈ lw_tbl, w.before #[Value.ref b] s = true) (hg : Gv s b) (hX : va_X b L xs s s.heap) {E : ENV} (hE : eX E = adr s b) (hU : ev0 s b (.static "jdk/internal/util/Preconditions" "SIOOBE_FORMATTER" "Ljava/util/function/BiFunction;") = some (eU E)) (hN : eN E = s.heap.size) : XT (L, xs) E s s.heap := by
  have hA : ∀ a : Nat, a < s.heap.size → ¬ eA E a := fun a h => by show ¬ eN E ≤ a; rw [hN]; omega
  refine ⟨fun q hq => va_Zof (hts _ (W_sta q hq).1) (hts _ (W_sta q hq).2) (sta_ev hg hE hU hA q hq) hA, fun q hq => ?_, ext_T hg hX hE hA, by rw [hE]; exact flt_inj hg, ?_, ?_⟩
  · have hex : (Jvm.Cond.exactly (strT q) "java/lang/String").before #[Value.ref b] s = true := hg.sub (E_str q hq) List.mem_cons_self
    obtain ⟨a, h1, h2⟩ := string_ev (hts _ (W_str q hq))
    have hlen : ∀ q ∈ STRS, q.2.2.2.1.length < 2 ^ 31 := by decide +kernel
    obtain ⟨t, h3, -⟩ := tab_of hg (hlen q hq) (fun c hc => hg.sub (E_str q hq) (List.mem_cons_of_mem _ (List.mem_cons_of_mem _ hc))) hA
    rw [hE, adr_of (P_str q hq).1 h2, adr_of (P_str q hq).2 h3]
    exact ⟨va_Oof hex h2 hA, vk_OFof h2 (va_eqt (hg.sub (E_str q hq) (List.mem_cons_of_mem _ List.mem_cons_self))) hA, vk_OFof h2 h3 hA⟩
  · exact vx_Zqof (hts _ W_oth.2.1) (hts _ W_oth.2.2.2) (hg.sub E_oth (List.mem_cons_of_mem _ (List.mem_cons_of_mem _ List.mem_cons_self))) hA
  · exact vx_Zqof (hts _ W_oth.2.2.1) (hts _ W_oth.2.2.2) (hg.sub E_oth (List.mem_cons_of_mem _ (List.mem_cons_of_mem _ (List.mem_cons_of_mem _ List.mem_cons_self)))) hA
theorem ctx_of (hts : ∀ w ∈ lw_tbl, w.before #[Value.ref b] s = true) (hg : Gv s b) (hX : va_X b L xs s s.heap) :
    ∃ E : ENV, eN E = s.heap.size ∧ eX E 9 = b ∧ Tab s ∧ XV E s ∧ va_K (eD E) CLS (TYS E) s ∧ XT (L, xs) E s s.heap ∧ (eU E).category = 1 := by
  obtain ⟨D, eT', hK⟩ := know_of hts
  obtain ⟨v, hv, hc⟩ := sio_ev hg
  have h9 : adr s b 9 = b := adr_of (s := s) (a := b) (t := .arg 0) P_oth.1 rfl
  exact ⟨(D, eT', s.heap.size, v, adr s b), rfl, h9, Tab_of hts, XV_of hts hg rfl, hK _ _ _, XT_of hts hg hX rfl hv rfl, hc⟩
end MCY
