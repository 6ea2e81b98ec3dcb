/-! THE FUNCTION IS SOUND -/
section SND
theorem thx_ok {k pc : Nat} {X : String} (h : thx k pc = some X) : THR k pc X := by
  unfold thx at h
  obtain ⟨q, hq, rfl⟩ := Option.map_eq_some_iff.mp h
  have h1 := List.find?_some hq
  have h2 := List.mem_of_find?_eq_some hq
  simp only [Bool.and_eq_true, beq_iff_eq] at h1
  have h3 := THT_ok q h2
  rw [h1.1, h1.2] at h3
  exact h3
theorem hnx_ok {k pc hpc : Nat} {X : String} (h : hnx k pc X = some hpc) : covs k pc hpc X := by
  unfold hnx at h
  obtain ⟨q, hq, rfl⟩ := Option.map_eq_some_iff.mp h
  have h1 := List.find?_some hq
  have h2 := List.mem_of_find?_eq_some hq
  simp only [Bool.and_eq_true, beq_iff_eq] at h1
  have h3 := HND_ok q h2
  rw [h1.1, h1.2.1, h1.2.2] at h3
  exact h3
theorem rokB_ok {w : PW} {j : Nat} {as : List Value} (h : rokB w j as = true) : rok w j as := by
  unfold rokB at h
  split at h
  · next a r =>
    simp only [Bool.or_eq_true, Bool.and_eq_true, decide_eq_true_eq] at h
    unfold rok
    rcases h with h | h
    · left
      split at h
      · next ci fs hw => exact ⟨ci, fs, hw, of_decide_eq_true h⟩
      · cases h
    · exact Or.inr h
  · cases h
/-! it is sound -/
def EQO (r : RR) : QT := fun o w' n' => o = r.1 ∧ w' = r.2.1 ∧ n' = r.2.2
def GDV (x : SX) (t : TK) (r : RR) : Prop := t.2.2 ≤ r.2.2 ∧ V x t.1 (r.2.2 - t.2.2) (1000 * (r.2.2 - t.2.2)) t.2.2 t.2.1 (EQO r)
theorem V_throw1 {x : SX} {k mc ms n pc : Nat} {lv : LV} {st : List Value} {w : PW} {X : String} {Q : QT} (ht : THR k pc X) (hst : (st.map fun v => v.category).sum ≤ 8) (hc : 1 ≤ mc) (hs : 6 ≤ ms) (hQ : Q (.inr X) w (n + 1)) : V x k mc ms n (pc, lv, st, w) Q := by
  intro p l e R s m args below meth c Z E M ad cells slots h1 h2 hE H locs ls hC hS hl hlv hst'
  obtain ⟨ik, is, ic, text, wide, hok⟩ := id ht
  have hU := M.2.2.2.2.2.2.2.2.2.2.2.2.2.2.2.1
  have hml := M.2.2.2.1
  refine (hE.2 X w (n + 1) ad hQ (Nat.le_succ _) agr_rf hok.1 cells slots H locs ⟨hC.1, wok_mono (Nat.le_succ n) hC.2.1, Nat.le_succ_of_le hC.2.2.1, hC.2.2.2⟩ hS).2 pc ls _ ht (by rw [hl.1.1, hml]) ?_ (by omega) (by omega)
  rw [List.map_map]
  have : ((fun v => Value.category v) ∘ cv E ad) = fun v => Value.category v := by funext v; exact cv_cat hU v
  rw [this]
  exact hst
theorem GD_of {x : SX} {k n mc ms : Nat} {g : CFG} {r : RR} (hn : n ≤ r.2.2) (h1 : mc ≤ r.2.2 - n) (h2 : ms ≤ 1000 * (r.2.2 - n)) (h : V x k mc ms n g (EQO r)) : GDV x (k, g, n) r := ⟨hn, V_room h1 h2 h⟩
variable {x : SX} {k n pc : Nat} {q : FE} {lv : LV} {st : List Value} {w : PW} {f : TK → Option RR} {r : RR} {s : S2}
theorem GD_done {o : OUT} {w' : PW} (h : some (.inl (.inl (o, w', n))) = some s) (ha : app2 f s = some r) (hV : V x k 0 0 n (pc, lv, st, w) (EQO (o, w', n))) : GDV x (k, (pc, lv, st, w), n) r := by
  cases h
  have h9 : some (o, w', n) = some r := ha
  cases h9
  exact GD_of (Nat.le_refl _) (Nat.zero_le _) (Nat.zero_le _) hV
theorem GD_callN {a j i c' : Nat} (hf : ∀ t r, f t = some r → GDV x t r) (hfe : fetch k pc = some (cins a i, 3, a, j, c')) (hs : callN k pc a j lv st w n = some s) (ha : app2 f s = some r) : GDV x (k, (pc, lv, st, w), n) r := by
  unfold callN at hs
  split at hs
  · next hc =>
    obtain ⟨c1, c2, c3, c4, c5⟩ := hc
    cases hs
    simp only [app2] at ha
    obtain ⟨r1, h1, h2⟩ := Option.bind_eq_some_iff.mp ha
    obtain ⟨s1, h3, h4⟩ := Option.bind_eq_some_iff.mp h2
    obtain ⟨g1, g2⟩ := hf _ _ h1
    simp only [okj, Bool.and_eq_true, decide_eq_true_eq] at c1
    obtain ⟨ck, cj, cp, -⟩ := c1
    have he := Ev_of_V (Q := EQO r1) cj cp c4 g2
    have hok : okc k a j (cgN a j) = true := by
      unfold okc cgN
      rw [ck, decide_eq_true rfl]
      rfl
    obtain ⟨o1, w1, n1⟩ := r1
    cases o1 with
    | inl v =>
      have h3' : some (Sum.inr (k, (pc + 3, lv, v.toList ++ st.drop (cgN a j), w1), n1)) = some s1 := h3
      cases h3'
      obtain ⟨e1, e2⟩ := hf _ _ h4
      dsimp only at g1 e1 e2 he
      refine GD_of (Nat.le_trans g1 e1) (mc := (r.2.2 - n1) + (n1 - n)) (ms := 1000 * (r.2.2 - n1) + 1000 * (n1 - n)) (by omega) (by omega) ?_
      refine V_callQ hok hfe c2 c3 (c5.imp id (fun h => h.imp id rokB_ok)) he (Or.inr (Or.inr fun X w' n' h => by cases h.1)) (fun r' w' n' hq _ => ?_) (fun X w' n' h => by cases h.1)
      obtain ⟨q1, rfl, rfl⟩ := hq
      cases q1
      exact e2
    | inr X =>
      unfold aft at h3
      dsimp only at h3
      split at h3
      · next ha01 =>
        split at h3
        · next hmt =>
          cases h3
          have h4' : some (Sum.inr X, w1, n1) = some r := h4
          cases h4'
          dsimp only at g1 he
          refine GD_of g1 (mc := 0 + (n1 - n)) (ms := 0 + 1000 * (n1 - n)) (by show 0 + (n1 - n) ≤ n1 - n; omega) (by show 0 + 1000 * (n1 - n) ≤ 1000 * (n1 - n); omega) ?_
          refine V_callQ hok hfe c2 c3 (c5.imp id (fun h => h.imp id rokB_ok)) he (ha01.imp id Or.inl) (fun r' w' n' hq _ => by cases hq.1) (fun X' w' n' hq _ => ?_)
          refine Or.inl ⟨List.isEmpty_iff.mp hmt, ?_⟩
          exact hq
        · split at h3
          · next hpc hh =>
            cases h3
            obtain ⟨e1, e2⟩ := hf _ _ h4
            dsimp only at g1 e1 e2 he
            refine GD_of (Nat.le_trans g1 (Nat.le_of_succ_le e1)) (mc := (r.2.2 - (n1 + 1)) + (n1 - n)) (ms := 1000 * (r.2.2 - (n1 + 1)) + 1000 * (n1 - n)) (by omega) (by omega) ?_
            refine V_callQ hok hfe c2 c3 (c5.imp id (fun h => h.imp id rokB_ok)) he (ha01.imp id Or.inl) (fun r' w' n' hq _ => by cases hq.1) (fun X' w' n' hq _ => ?_)
            obtain ⟨q1, rfl, rfl⟩ := hq
            cases q1
            exact Or.inr ⟨hpc, hnx_ok hh, e2⟩
          · cases h3
      · cases h3
  · cases hs
theorem GD_tail1 {g : CFG} {ms : Nat} (hf : ∀ t r, f t = some r → GDV x t r) (h : tail k g (n + 1) = some s) (ha : app2 f s = some r) (hms : ms ≤ 1000) (hV : ∀ m1 m2, V x k m1 m2 (n + 1) g (EQO r) → V x k (m1 + 1) (m2 + ms) n (pc, lv, st, w) (EQO r)) : GDV x (k, (pc, lv, st, w), n) r := by
  cases h
  obtain ⟨e1, e2⟩ := hf _ _ ha
  dsimp only at e1 e2
  exact GD_of (Nat.le_of_succ_le e1) (by omega) (by omega) (hV _ _ e2)
theorem GD_tail {g : CFG} (hf : ∀ t r, f t = some r → GDV x t r) (h : tail k g n = some s) (ha : app2 f s = some r) (hV : ∀ m1 m2, V x k m1 m2 n g (EQO r) → V x k m1 m2 n (pc, lv, st, w) (EQO r)) : GDV x (k, (pc, lv, st, w), n) r := by
  cases h
  obtain ⟨e1, e2⟩ := hf _ _ ha
  exact ⟨e1, hV _ _ e2⟩
set_option maxHeartbeats 4000000 in
set_option maxRecDepth 20000 in
theorem STQ_GD (hf : ∀ t r, f t = some r → GDV x t r) (hfe : fetch k pc = some q) (hs : STQ x k q pc lv st w n = some s) (ha : app2 f s = some r) : GDV x (k, (pc, lv, st, w), n) r := by
  obtain ⟨i, len, a, b, c'⟩ := q
  unfold STQ at hs
  dsimp only at hs
  split at hs
  · split at hs
    · split at hs
      · next v hr =>
        obtain ⟨ty, h1, h2⟩ := retB_n hr
        exact GD_done hs ha (V_retI hfe rfl h1 h2 ⟨rfl, rfl, rfl⟩)
      · cases hs
    · cases hs
  · split at hs
    · split at hs
      · next v hr =>
        obtain ⟨ty, h1, h2⟩ := retAB_n hr
        exact GD_done hs ha (V_retA hfe rfl h1 h2 ⟨rfl, rfl, rfl⟩)
      · cases hs
    · cases hs
  · split at hs
    · split at hs
      · next v hr => exact GD_done hs ha (V_retF hfe rfl (isF_n hr) ⟨rfl, rfl, rfl⟩)
      · cases hs
    · cases hs
  · split at hs
    · split at hs
      · next v hr => exact GD_done hs ha (V_retD hfe rfl (isD_n hr) ⟨rfl, rfl, rfl⟩)
      · cases hs
    · cases hs
  · split at hs
    · split at hs
      · next hr => exact GD_done hs ha (V_retV hfe rfl (isV_n hr) ⟨rfl, rfl, rfl⟩)
      · cases hs
    · cases hs
  · split at hs
    · next hlen =>
      subst hlen
      split at hs
      · next X hX =>
        split at hs
        · next hsm =>
          cases hs
          have h9 : some (Sum.inr X, w, n + 1) = some r := ha
          cases h9
          exact GD_of (Nat.le_succ n) (mc := 1) (ms := 6) (by show 1 ≤ n + 1 - n; omega) (by show 6 ≤ 1000 * (n + 1 - n); omega) (V_throw1 (thx_ok hX) hsm (Nat.le_refl _) (Nat.le_refl _) ⟨rfl, rfl, rfl⟩)
        · cases hs
      · split at hs
        · next r0 hr0 =>
          split at hs
          · next h1000 => exact GD_tail1 hf hs ha h1000 (fun m1 m2 hV => V_new hfe (by rw [hr0]; rfl) hV)
          · cases hs
        · cases hs
    · cases hs
  · split at hs
    · split at hs
      · next v r0 hc =>
        obtain ⟨hlen, h1, h2⟩ := hc
        subst hlen
        exact GD_tail1 hf hs ha h2 (fun m1 m2 hV => V_newarray hfe h1 rfl (by omega) hV)
      · cases hs
    · cases hs
  · split at hs
    · split at hs
      · next v r0 hc =>
        obtain ⟨hlen, h5, h1, h2⟩ := hc
        subst hlen
        subst h5
        exact GD_tail1 hf hs ha h2 (fun m1 m2 hV => V_anewarray hfe h1 rfl (by omega) hV)
      · cases hs
    · cases hs
  · split at hs
    · next i' hc =>
      obtain ⟨hlen, h0⟩ := hc
      subst hlen
      subst h0
      exact GD_callN (a := 0) (i := i') (j := b) (c' := c') hf hfe hs ha
    · cases hs
  · next i' =>
    split at hs
    · next hlen =>
      subst hlen
      split at hs
      · next h8 =>
        subst h8
        split at hs
        · next v dp a1 sp a0 r0 =>
          unfold acp at hs
          split at hs
          · next t n0 f0 t1 n1 f1 hw0 hw1 =>
            split at hs
            · next hc =>
              obtain ⟨rfl, h1, h2, h3, h4, h5, h6, h7, h9⟩ := hc
              exact GD_tail hf hs ha (fun m1 m2 hV => V_copy hfe h1 hw0 hw1 h2 h3 h4 h5 h6 h9 (Nat.le_of_ble_eq_true h7) hV)
            · cases hs
          · cases hs
        · cases hs
      · split at hs
        · next hc =>
          obtain ⟨rfl, rfl⟩ := hc
          split at hs
          · split at hs
            · next h7 => exact GD_tail hf hs ha (fun m1 m2 hV => V_mmin hfe h7 hV)
            · cases hs
          · cases hs
        · split at hs
          · next hc =>
            obtain ⟨rfl, rfl⟩ := hc
            split at hs
            · split at hs
              · next h7 => exact GD_tail hf hs ha (fun m1 m2 hV => V_mmax hfe h7 hV)
              · cases hs
            · cases hs
          · split at hs
            · next hc =>
              rcases hc with rfl | rfl
              · exact GD_callN (a := 1) (i := i') (j := b) (c' := c') hf hfe hs ha
              · exact GD_callN (a := 4) (i := i') (j := b) (c' := c') hf hfe hs ha
            · cases hs
    · cases hs
  · next i' =>
    split at hs
    · next hlen =>
      subst hlen
      split at hs
      · next h7 =>
        subst h7
        split at hs
        · split at hs
          · next h8 => exact GD_tail hf hs ha (fun m1 m2 hV => V_objInit hfe h8 hV)
          · cases hs
        · cases hs
      · split at hs
        · next hc =>
          rcases hc with rfl | rfl | rfl
          · exact GD_callN (a := 2) (i := i') (j := b) (c' := c') hf hfe hs ha
          · exact GD_callN (a := 5) (i := i') (j := b) (c' := c') hf hfe hs ha
          · exact GD_callN (a := 6) (i := i') (j := b) (c' := c') hf hfe hs ha
        · cases hs
    · cases hs
  · split at hs
    · next g hg =>
      refine GD_tail hf hs ha (fun m1 m2 hV => V_stp ?_ hV)
      unfold stp
      rw [hfe]
      exact hg
    · cases hs
theorem rn_GD (F : Nat) : ∀ (t : TK) (r : RR), rn x F t = some r → GDV x t r := by
  induction F with
  | zero => intro t r h; cases h
  | succ F ih =>
    intro t r h
    have h' : PHI x (rn x F) t = some r := h
    unfold PHI at h'
    obtain ⟨s, h1, h2⟩ := Option.bind_eq_some_iff.mp h'
    unfold STEP at h1
    split at h1
    · next q hq =>
      obtain ⟨k, ⟨pc, lv, st, w⟩, n⟩ := t
      exact STQ_GD ih hq h1 h2
    · cases h1
/-- what the function gives is a contract -/
theorem R_GD {t : TK} {r : RR} (h : R x t = some r) : GDV x t r := by
  obtain ⟨F, hF⟩ := R_ex h
  exact rn_GD F t r hF
end SND
