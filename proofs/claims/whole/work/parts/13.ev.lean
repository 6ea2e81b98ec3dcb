/-! A CONTRACT OUT OF A RUN over configurations -/
section EVV
def lvl : List Value → LV
  | [] => []
  | v :: vs => if v.category = 2 then some v :: none :: lvl vs else some v :: lvl vs
def lvs (n : Nat) (as : List Value) : LV := lvl as ++ List.replicate (n - (lvl as).length) none
theorem lg_cons (u : Value) (us : List Value) : lg_sl (u :: us) = (if u.category = 2 then [.val u, .second] else [.val u]) ++ lg_sl us := by
  unfold lg_sl
  rw [List.flatMap_cons]
theorem lvl_len {E : ENV} {ad : Nat → Nat} (hU : (eU E).category = 1) (as : List Value) : (lg_sl (as.map (cv E ad))).length = (lvl as).length := by
  induction as with
  | nil => rfl
  | cons v vs ih =>
    rw [List.map_cons, lg_cons, cv_cat hU]
    unfold lvl
    split
    · simp only [List.length_append, List.length_cons, List.length_nil, ih]; omega
    · simp only [List.length_append, List.length_cons, List.length_nil, ih]; omega
theorem lvl_mem {E : ENV} {ad : Nat → Nat} (hU : (eU E).category = 1) {v : Value} : ∀ (as : List Value) (o i : Nat), (lvl as)[i]? = some (some v) → (o + i, cv E ad v) ∈ lv_args o (as.map (cv E ad)) := by
  intro as
  induction as with
  | nil => intro o i h; cases h
  | cons u us ih =>
    intro o i h
    rw [List.map_cons]
    unfold lv_args
    unfold lvl at h
    rw [cv_cat hU]
    split at h
    · next hc =>
      rw [if_pos hc]
      match i, h with
      | 0, h => cases h; exact List.mem_cons_self
      | 1, h => cases h
      | i + 2, h =>
        have h9 := ih (o + 2) i (by simpa using h)
        rw [show o + 2 + i = o + (i + 2) by omega] at h9
        exact List.mem_cons_of_mem _ h9
    · next hc =>
      rw [if_neg hc]
      match i, h with
      | 0, h => cases h; exact List.mem_cons_self
      | i + 1, h =>
        have h9 := ih (o + 1) i (by simpa using h)
        rw [show o + 1 + i = o + (i + 1) by omega] at h9
        exact List.mem_cons_of_mem _ h9
theorem lvl_ok {n : Nat} {v : Value} : ∀ {as : List Value}, (∀ v ∈ as, vok n v) → ∀ {i : Nat}, (lvl as)[i]? = some (some v) → vok n v := by
  intro as
  induction as with
  | nil => intro _ i h; cases h
  | cons u us ih =>
    intro hv i h
    unfold lvl at h
    split at h
    · match i, h with
      | 0, h => cases h; exact hv _ List.mem_cons_self
      | 1, h => cases h
      | i + 2, h => exact ih (fun w hw => hv w (List.mem_cons_of_mem _ hw)) (i := i) (by simpa using h)
    · match i, h with
      | 0, h => cases h; exact hv _ List.mem_cons_self
      | i + 1, h => exact ih (fun w hw => hv w (List.mem_cons_of_mem _ hw)) (i := i) (by simpa using h)
theorem lvs_at {n i : Nat} {as : List Value} {v : Value} (h : (lvs n as)[i]? = some (some v)) : (lvl as)[i]? = some (some v) := by
  unfold lvs at h
  by_cases hi : i < (lvl as).length
  · rwa [List.getElem?_append_left hi] at h
  · rw [List.getElem?_append_right (by omega), List.getElem?_replicate] at h
    split at h <;> cases h
theorem lvs_len {n : Nat} {as : List Value} (h : (lvl as).length ≤ n) : (lvs n as).length = n := by
  unfold lvs
  rw [List.length_append, List.length_replicate]
  omega
theorem lvs_lz {E : ENV} {ad : Nat → Nat} (hU : (eU E).category = 1) {n : Nat} {as : List Value} (h : (lvl as).length ≤ n) :
    lz E ad n ((lg_sl (as.map (cv E ad)) ++ List.replicate (n - (lg_sl (as.map (cv E ad))).length) Slot.unset).toArray) (lvs n as) := by
  have h0 := lv_entry (as.map (cv E ad)) (n := n) (by rw [lvl_len hU]; exact h)
  refine ⟨⟨h0.1, h0.2.1, fun q hq => h0.2.2 q ?_⟩, lvs_len h⟩
  obtain ⟨v, hv, e⟩ := asc_of hq
  have h1 := lvl_mem (E := E) (ad := ad) hU as 0 q.1 (lvs_at hv)
  rw [Nat.zero_add, ← e] at h1
  exact h1
theorem HC_kept {E : ENV} {ad : Nat → Nat} {n : Nat} {w : PW} {H H1 : Heap} (h : HC E ad n w H) (hk : ∀ q : Nat, q < H.size → H1[q]? = H[q]?) : HC E ad n w H1 := ⟨HW_kept h.1 fun q hq _ => hk q hq, h.2⟩
theorem Ev_of_V {x : SX} {k mc ms n : Nat} {as : List Value} {w : PW} {Q : QT} (hk : k < KN) (hp : plainName (mY k).cls = true) (hl : (lvl as).length ≤ mL k) (h : V x k mc ms n (0, lvs (mL k) as, [], w) Q) : Ev x k mc ms as w n Q := by
  intro hvk l hst E ad
  have body : ∀ (p : Program) (e : Env) (s : State) (m : MethodId) (args : Array Value) (below : List Frame) (meth : Method) (c : Code) (s₁ : State), BodyLoose p l (mY k) (headSpec [cw k] (rmk k mc ms)) (mB k) (mL k) (mR k) e s m args below meth c s₁ → c.maxLocals = mL k → c.exceptionTable.toList = tableOf (mH k) → PreC x E ad n w as args s →
      W p l e (headSpec [cw k] (rmk k mc ms)).room s m args below meth c s.heap [] 0 0 (vx_MQ below (QcC E ad n Q) (XcC E ad n Q) args s mc ms (eA E)) (entryFrame m args (mL k)) := by
    intro p e s m args below meth c s₁ B hml htab hP
    obtain ⟨hargs, hN, hT, hV, hK, hX, hC, hU⟩ := hP
    have M : MC x k p l (headSpec [cw k] (rmk k mc ms)).room s m meth c E := ⟨hk, B.exec, B.bytes, hml, findClass_of_methodNamed B.named, B.returns, B.notSynchronized, htab, fun h0 => (name_of_methodNamed B.named B.method).1.trans h0, hst, hT, hV, hK, hX, hN, hU, Nat.le_refl _, Nat.le_refl _⟩
    subst hargs
    rw [lg_entry_eq]
    have hown := findClass_of_methodNamed B.named
    refine h p l e (headSpec [cw k] (rmk k mc ms)).room s m _ below meth c _ E M ad 0 0 (by show 0 + mc ≤ mc; omega) (by show 0 + ms ≤ ms; omega) ?_ s.heap [] _ hC va_S.rf (lvs_lz hU hl) (fun i v hi => lvl_ok hvk (lvs_at hi)) (fun v hv => by cases hv)
    rw [Nat.zero_add, Nat.zero_add]
    refine ⟨fun r w' n' ad' hQ hn ha hv pc hr cells slots hc hs H locs ls hC1 hS1 => ?_, fun X w' n' ad' hQ hn ha h0 cells slots H locs hC1 hS1 => ⟨fun pc ls st q cx hc hs hcx hcv hcl => ?_, fun pc ls st hthr hsz hsum hc hs => ?_⟩⟩
    · have hq : ∀ t : State, t.heap = H → s.WarmedH t.vm → QcC E ad n Q (as.map (cv E ad)).toArray s (.returned (r.map (cv E ad'))) t := fun t ht _ => ⟨r, w', n', ad', rfl, hQ, hn, ha, by rw [ht]; exact hC1, hv, hS1.F ht⟩
      refine W.widen hc hs (vx_ret ?_)
      have hlk := B.notSynchronized
      cases r with
      | none => exact W.vret B.exec B.bytes (B.returns.trans hr.2) hq hS1.2.2 hr.1 hlk
      | some v =>
        cases v with
        | int v => obtain ⟨h1, ty, h2, h3⟩ := hr; exact W.zret B.exec B.bytes (B.returns.trans h2) h3 hq hS1.2.2 h1 hlk
        | float v => exact W.fret B.exec B.bytes (B.returns.trans hr.2) hq hS1.2.2 hr.1 hlk
        | double v => exact W.dret B.exec B.bytes (B.returns.trans hr.2) hq hS1.2.2 hr.1 hlk
        | ref v => obtain ⟨h1, ty, h2, h3⟩ := hr; exact W.aret B.exec B.bytes (B.returns.trans h2) h3 (Or.inr ⟨_, rfl⟩) hq hS1.2.2 h1 hlk
        | null => obtain ⟨h1, ty, h2, h3⟩ := hr; exact W.aret B.exec B.bytes (B.returns.trans h2) h3 (Or.inl rfl) hq hS1.2.2 h1 hlk
        | long v => exact hr.elim
        | retAddr v => exact hr.elim
    · refine vx_out (fun z hz => ?_) B.notSynchronized hcx hcv hcl (fun t ht _ => ⟨w', n', ad', hQ, hn, ha, by rw [ht]; exact hC1, hS1.F ht⟩) hS1.2.2 hc hs
      rw [htab, h0] at hz
      cases hz
    · obtain ⟨ik, is, ic, text, wide, t0, t1, t2, t3, t4, t5, t6⟩ := hthr
      obtain ⟨sa, hsa⟩ := hV.2.1 _ t4
      have hwd : ∀ w ∈ Cond.classLink (mC k) ik X :: Cond.initialized X :: atX (mC k) ic X "java/lang/RuntimeException" ["java/lang/Exception"], w.before (as.map (cv E ad)).toArray s = true := fun w hw => hT w (t5 w hw).1 (t5 w hw).2.1 _
      have hout : ∀ z ∈ c.exceptionTable.toList, ∀ (q : Nat), covers z q = false := by
        intro z hz q
        rw [htab, h0] at hz
        cases hz
      have hx : ∀ t : State, s.vm.Alike t.vm → H.size ≤ t.heap.size → (∀ q : Nat, q < H.size → t.heap[q]? = H[q]?) → XcC E ad n Q X s t := fun t _ hz hq => ⟨w', n', ad', hQ, hn, ha, HC_kept hC1 hq, Nat.le_trans hS1.1 hz, fun q h1 h2 => (hq q (Nat.lt_of_lt_of_le h1 hS1.1)).trans (hS1.2.1 q h1 h2)⟩
      have hnm : ∀ n ∈ ["java/lang/Exception"], Bundle.fit n = true := by decide +kernel
      have hsu : Bundle.fit "java/lang/RuntimeException" = true := by decide +kernel
      have hat : ∀ w ∈ atX (mC k) ic X "java/lang/RuntimeException" ["java/lang/Exception"], w.before (as.map (cv E ad)).toArray s = true := fun w hw => hwd w (List.mem_cons_of_mem _ (List.mem_cons_of_mem _ hw))
      have hR1 : (["java/lang/Exception"] : List String).length + 4 < (headSpec [cw k] (rmk k mc ms)).room.frames := by
        show 1 + 4 < 16 + mK k
        omega
      have hR2 : (st.map fun v => v.category).sum + (13 * ((["java/lang/Exception"] : List String).length + 2) + 43) ≤ (headSpec [cw k] (rmk k mc ms)).room.locals := by
        show (st.map fun v => v.category).sum + (13 * (1 + 2) + 43) ≤ 200 + 80 * mK k
        omega
      have hd : ∃ ln, ((ln = 2 ∧ decode (mB k) (pc + 4) = .ok (.ldc is, 2)) ∨ (ln = 3 ∧ decode (mB k) (pc + 4) = .ok (.ldc_w is, 3))) ∧ decode (mB k) (pc + 4 + ln) = .ok (.invokespecial ic, 3) ∧ decode (mB k) (pc + 4 + ln + 3) = .ok (.athrow, 1) := by
        cases wide with
        | false => exact ⟨2, Or.inl ⟨rfl, t3.1⟩, t3.2.1, t3.2.2⟩
        | true => exact ⟨3, Or.inr ⟨rfl, t3.1⟩, t3.2.1, t3.2.2⟩
      obtain ⟨ln, u1, u2, u3⟩ := hd
      exact throwX B.exec B.bytes hst hown t6 hsu hnm (hwd _ List.mem_cons_self) (hwd _ (List.mem_cons_of_mem _ List.mem_cons_self)) hsa hat (fun w hw => (t5 w hw).2.2) hX.2.2.2.2.1 hX.2.2.2.2.2 hS1 hsz t1 t2 u1 u2 u3 hout hR1 hR2 (by show cells + 1 ≤ mc; exact hc) (by show slots + 6 ≤ ms; exact hs) B.notSynchronized hx hS1.2.2 hc hs
  by_cases hH : mH k = []
  · refine vx_ofW (cc := mB k) (maxL := mL k) (ret := mR k) (ws' := []) hp (by rw [cw_nil hH]) (fun p e s m args below meth c s₁ B hml ht hP => ?_)
    refine body p e s m args below meth c s₁ B hml ?_ hP
    rw [hH]
    exact List.eq_nil_iff_forall_not_mem.mpr fun z hz => ht z hz
  · refine vx_ofWH (cc := mB k) (maxL := mL k) (ret := mR k) (hh := mH k) (ws' := []) hp (by rw [cw_cons hH]) (fun p e s m args below meth c s₁ B hml hP => ?_)
    refine body p e s m args below meth c s₁ B hml (vx_table (x := mY k) (bytes := mB k) (maxL' := mL k) (ret' := mR k) B (atoms_spec (ws := [cw k]) B.pre _ ?_)) hP
    rw [cw_cons hH]
    exact List.mem_cons_self
end EVV
