/-! ONE INSTRUCTION IS RIGHT: from the machine behind it to the machine at it -/
section SND
theorem STRS_lt : ∀ q ∈ STRS, q.2.2.2.2 + 1 < XN := by decide +kernel
theorem extA_lt {x : SX} {p : Nat} {r : Nat × Nat × (Nat → Int32)} (h : extA x p = some r) : p < XN := by
  unfold extA at h
  split at h
  · next hp => rw [hp]; decide
  · split at h
    · next hp => rw [hp]; decide
    · split at h
      · next hp => rw [hp]; decide
      · obtain ⟨q, hq, -⟩ := Option.map_eq_some_iff.mp h
        have h1 := List.find?_some hq
        have h2 := STRS_lt q (List.mem_of_find?_eq_some hq)
        simp only [beq_iff_eq] at h1
        omega
theorem chk_len {k pc : Nat} {i : Instr} {len a b c : Nat} (h : chk k (pc, i, len, a, b, c) = true) : lenok i len = true := by
  simp only [chk, Bool.and_eq_true] at h
  exact h.1
theorem CLS_ok : ∀ (ci : Nat) (r : vw_C), CLS[ci]? = some r → (∀ w ∈ u_ws r.1 r.2.1 r.2.2, w ∈ TB ∧ okw w = true) ∧ (∃ ty : Nat → FieldType, ∀ k, k < r.2.2 → parseFieldDescriptor (r.2.1 k).2.2.1 = some (ty k)) ∧ (∀ a, a < r.2.2 → ∀ b, b < r.2.2 → a ≠ b → (r.2.1 a).2.1 ≠ (r.2.1 b).2.1) := by
  intro ci r h
  match ci, h with
  | 0, h => cases h; exact ⟨by decide +kernel, ⟨tyX0, tyX0_ok⟩, nmX0⟩
  | 1, h => cases h; exact ⟨by decide +kernel, ⟨tyX3, tyX3_ok⟩, nmX3⟩
  | 2, h => cases h; exact ⟨by decide +kernel, ⟨tyX4, tyX4_ok⟩, nmX4⟩
  | 3, h => cases h; exact ⟨by decide +kernel, ⟨tyX5, tyX5_ok⟩, nmX5⟩
  | 4, h => cases h; exact ⟨by decide +kernel, ⟨tyX6, tyX6_ok⟩, nmX6⟩
  | 5, h => cases h; exact ⟨by decide +kernel, ⟨tyX7, tyX7_ok⟩, nmX7⟩
  | 6, h => cases h; exact ⟨by decide +kernel, ⟨tyX8, tyX8_ok⟩, nmX8⟩
  | 7, h => cases h; exact ⟨by decide +kernel, ⟨tyX9, tyX9_ok⟩, nmX9⟩
  | 8, h => cases h; exact ⟨by decide +kernel, ⟨tyJ4, tyJ4_ok⟩, nmJ4⟩
  | n + 9, h => simp [CLS] at h
theorem bin_inv {f : Int32 → Int32 → Value} {st s' : List Value} (h : bin f st = some s') : ∃ x y r, st = .int y :: .int x :: r ∧ s' = f x y :: r := by
  unfold bin at h
  split at h
  · cases h; exact ⟨_, _, _, rfl, rfl⟩
  · cases h
theorem un_inv {f : Int32 → Value} {st s' : List Value} (h : un f st = some s') : ∃ x r, st = .int x :: r ∧ s' = f x :: r := by
  unfold un at h
  split at h
  · cases h; exact ⟨_, _, rfl, rfl⟩
  · cases h
theorem bdiv_inv {f : Int32 → Int32 → Int32} {st s' : List Value} (h : bdiv f st = some s') : ∃ x y r, st = .int y :: .int x :: r ∧ s' = .int (f x y) :: r ∧ ¬ y = 0 := by
  unfold bdiv at h
  split at h
  · split at h
    · cases h
    · next hy => cases h; exact ⟨_, _, _, rfl, rfl, hy⟩
  · cases h
theorem ldk_inv {t : Nat} {lv : LV} {i : Nat} {v : Value} (h : ldk t lv i = some v) : lv[i]? = some (some v) ∧ kd v = t := by
  unfold ldk at h
  split at h
  · next hv => split at h
               · next hk => cases h; exact ⟨hv, hk⟩
               · cases h
  · cases h
theorem kd0 {v : Value} (h : kd v = 0) : ∃ x, v = .int x := by cases v <;> first | exact ⟨_, rfl⟩ | cases h
theorem kd2 {v : Value} (h : kd v = 2) : ∃ x, v = .float x := by cases v <;> first | exact ⟨_, rfl⟩ | cases h
theorem kd3 {v : Value} (h : kd v = 3) : ∃ x, v = .double x := by cases v <;> first | exact ⟨_, rfl⟩ | cases h
theorem kd4 {v : Value} (h : kd v = 4) : v = .null ∨ ∃ x, v = .ref x := by cases v <;> first | exact Or.inl rfl | exact Or.inr ⟨_, rfl⟩ | cases h
theorem fin_inv {n : Nat} {i : Int32} {j : Nat} (h : fin n i = some j) : vp_in i n ∧ j = i.toNatClampNeg := by
  unfold fin at h
  split at h
  · next hi => cases h; exact ⟨inb_in hi, rfl⟩
  · cases h
theorem rf_cv {E : ENV} {ad : Nat → Nat} (r : Option Nat) : va_rf (r.map ad) = cv E ad (va_rf r) := by cases r <;> rfl
theorem cr_up {ad : Nat → Nat} {f : Nat → Option Nat} {j : Nat} {r : Option Nat} : cr ad (va_up f j r) = va_up (cr ad f) j (r.map ad) := by
  funext q
  simp only [cr, va_up]
  split <;> rfl
theorem cv_rf {E : ENV} {ad : Nat → Nat} (a : Nat) : cv E ad (.ref a) = .ref (ad a) := rfl
theorem P1 {D : va_G} {cl : List vw_C} {q : Nat × va_E} {H : Heap} (h : va_at D cl q H) : va_P D cl [q] H := by
  intro k q' hk
  match k, hk with
  | 0, hk => cases hk; exact h
  | k + 1, hk => simp at hk
theorem TYS_at (E : ENV) {t : Nat} (h : t < 6) : (TYS E)[t]? = some (eT E t, tyT t) := by
  match t, h with
  | 0, _ => rfl
  | 1, _ => rfl
  | 2, _ => rfl
  | 3, _ => rfl
  | 4, _ => rfl
  | 5, _ => rfl
  | t + 6, h => omega
theorem ca_1 (ad : Nat → Nat) (a : vp_A) : (ca ad a).1 = a.1 := by obtain ⟨n, f | f | f | f | f⟩ := a <;> rfl
theorem STATS_vok : ∀ q ∈ STATS, vok XN q.2.2.2 := by
  have h : (STATS.all fun q => match q.2.2.2 with | .ref a => decide (a < XN) | _ => true) = true := by decide +kernel
  intro q hq
  have h1 := List.all_eq_true.mp h q hq
  revert h1
  cases q.2.2.2 <;> simp [vok]
theorem pfit_ok {E : ENV} {ad : Nat → Nat} {ty : FieldType} {v : Value} (h : pfit ty v = true) : narrow ty (cv E ad v) = cv E ad v ∧ fits ty (cv E ad v) = true := by
  unfold pfit at h
  split at h
  · exact ⟨rfl, rfl⟩
  · rcases of_decide_eq_true h with rfl | rfl <;> exact ⟨rfl, rfl⟩
  · rcases of_decide_eq_true h with rfl | rfl <;> exact ⟨rfl, rfl⟩
  · exact ⟨rfl, rfl⟩
  · exact ⟨rfl, rfl⟩
  · exact ⟨rfl, rfl⟩
  · exact ⟨rfl, rfl⟩
  · cases h
variable {x : SX} {k : Nat} {p : Program} {l : Launch} {e : Env} {R : Room} {s : State} {m : MethodId} {args : Array Value} {below : List Frame} {meth : Method} {c : Code} {cells slots : Nat} {Q : State → Prop} {E : ENV} {ad : Nat → Nat} {n : Nat}
/-- the machine at the configuration g, wherever its world lies -/
def SK (k : Nat) (p : Program) (l : Launch) (e : Env) (R : Room) (s : State) (m : MethodId) (args : Array Value) (below : List Frame) (meth : Method) (c : Code) (cells slots : Nat) (Q : State → Prop) (E : ENV) (ad : Nat → Nat) (n : Nat) (g : CFG) : Prop :=
  ∀ (H : Heap) (locs : List Loc) (ls : Array Slot), HC E ad n g.2.2.2 H → va_S (eA E) s.heap H locs → lz E ad (mL k) ls g.2.1 → lvok n g.2.1 → (∀ v ∈ g.2.2.1, vok n v) →
    W p l e R s m args below meth c H locs cells slots Q (F0 m g.1 ls (g.2.2.1.map (cv E ad)))
theorem vok_t {v : Value} {r : List Value} (h : ∀ u ∈ v :: r, vok n u) : ∀ u ∈ r, vok n u := fun u hu => h u (List.mem_cons_of_mem _ hu)
theorem vok_c {v : Value} {r : List Value} (hv : vok n v) (h : ∀ u ∈ r, vok n u) : ∀ u ∈ v :: r, vok n u := fun u hu => (List.mem_cons.mp hu).elim (fun e => e ▸ hv) (h u)
theorem SK_set {g : CFG} {H : Heap} {ws : va_W} {q a : Nat} {e0 e' : PE} {w : PW} (M : MC x k p l R s m meth c E) (hC : HC E ad n w H) (hi : ∀ i e, w i = some e → ∃ k : Nat, ws[k]? = some (ad i, ce E ad e)) (hj : ∀ i j ei ej, w i = some ei → w j = some ej → ad i = ad j → i = j)
    (ha : w a = some e0) (hq : ws[q]? = some (ad a, ce E ad e0)) (hg : g.2.2.2 = pupd w a e') (heo : eok n e') {y : va_E} (hy : y = ce E ad e')
    (kk : SK k p l e R s m args below meth c cells slots Q E ad n g) {ls : Array Slot} (hl : lz E ad (mL k) ls g.2.1) (hlv : lvok n g.2.1) (hst : ∀ v ∈ g.2.2.1, vok n v) :
    ∀ (H1 : Heap) (locs1 : List Loc), va_P (eD E) CLS (ws.set q (ad a, y)) H1 → va_D (eA E) (ws.set q (ad a, y)) → va_S (eA E) s.heap H1 locs1 → W p l e R s m args below meth c H1 locs1 cells slots Q (F0 m g.1 ls (g.2.2.1.map (cv E ad))) := by
  intro H1 locs1 hP hD hS
  refine kk H1 locs1 ls ?_ hS hl hlv hst
  rw [hg]
  exact ⟨HW_set hi hj ha hq hy hP hD, wok_upd hC.2.1 ha heo, hC.2.2⟩
set_option maxHeartbeats 4000000 in
set_option maxRecDepth 100000 in
theorem ex_sound {pc : Nat} {q : FE} {lv : LV} {st : List Value} {w : PW} {g : CFG} (M : MC x k p l R s m meth c E) (hd : decode (mB k) pc = .ok (q.1, q.2.1)) (hc : chk k (pc, q) = true) (h : ex x pc q lv st w = some g)
    (kk : SK k p l e R s m args below meth c cells slots Q E ad n g) : SK k p l e R s m args below meth c cells slots Q E ad n (pc, lv, st, w) := by
  intro H locs ls hC hS hl hlv hst
  obtain ⟨hkn, hx, hb, hml, hown, hret, hlocks, htab, hin, hfl, hT, hV, hK, hX, hN, hU, hR1, hR2⟩ := id M
  obtain ⟨i, len, a, b, cw'⟩ := q
  dsimp only at hC hl hlv hst ⊢
  have hlen := hl.2
  have hln := chk_len hc
  cases i <;> first
    | (have h9 : (none : Option CFG) = some g := h; cases h9; done) | skip
  case iconst v =>
    obtain rfl : len = 1 := by simpa [lenok, ilen] using hln
    simp only [ex, Option.some.injEq] at h
    subst h
    exact lv_iconst hx hb hd rfl (kk H locs ls hC hS hl hlv (vok_c trivial hst))
  case bipush v =>
    obtain rfl : len = 2 := by simpa [lenok, ilen] using hln
    simp only [ex, Option.some.injEq] at h
    subst h
    exact lv_bipush hx hb hd rfl (kk H locs ls hC hS hl hlv (vok_c trivial hst))
  case sipush v =>
    obtain rfl : len = 3 := by simpa [lenok, ilen] using hln
    simp only [ex, Option.some.injEq] at h
    subst h
    exact lv_sipush hx hb hd rfl (kk H locs ls hC hS hl hlv (vok_c trivial hst))
  case lconst v =>
    obtain rfl : len = 1 := by simpa [lenok, ilen] using hln
    simp only [ex, Option.some.injEq] at h
    subst h
    exact lv_lconst hx hb hd rfl (kk H locs ls hC hS hl hlv (vok_c trivial hst))
  case aconst_null =>
    obtain rfl : len = 1 := by simpa [lenok, ilen] using hln
    simp only [ex, Option.some.injEq] at h
    subst h
    exact lv_null hx hb hd (kk H locs ls hC hS hl hlv (vok_c trivial hst))
  case fconst v =>
    obtain rfl : len = 1 := by simpa [lenok, ilen] using hln
    simp only [ex] at h
    split at h
    · next hv =>
      subst hv
      obtain rfl := Option.some.inj h
      exact lv_fconst0 hx hb hd (kk H locs ls hC hS hl hlv (vok_c trivial hst))
    · cases h
  case iload i =>
    obtain rfl : len = 2 := by simpa [lenok, ilen] using hln
    simp only [ex, Option.map_eq_some_iff] at h
    obtain ⟨v, h1, rfl⟩ := h
    obtain ⟨h2, h3⟩ := ldk_inv h1
    obtain ⟨y, rfl⟩ := kd0 h3
    exact lv_iload hx hb hd (lz_at hl h2) (kk H locs ls hC hS hl hlv (vok_c trivial hst))
  case fload i =>
    obtain rfl : len = 2 := by simpa [lenok, ilen] using hln
    simp only [ex, Option.map_eq_some_iff] at h
    obtain ⟨v, h1, rfl⟩ := h
    obtain ⟨h2, h3⟩ := ldk_inv h1
    obtain ⟨y, rfl⟩ := kd2 h3
    exact lv_fload hx hb hd (lz_at hl h2) (kk H locs ls hC hS hl hlv (vok_c trivial hst))
  case dload i =>
    obtain rfl : len = 2 := by simpa [lenok, ilen] using hln
    simp only [ex, Option.map_eq_some_iff] at h
    obtain ⟨v, h1, rfl⟩ := h
    obtain ⟨h2, h3⟩ := ldk_inv h1
    obtain ⟨y, rfl⟩ := kd3 h3
    exact lv_dload hx hb hd (lz_at hl h2) (kk H locs ls hC hS hl hlv (vok_c trivial hst))
  case iload_n i =>
    obtain rfl : len = 1 := by simpa [lenok, ilen] using hln
    simp only [ex, Option.map_eq_some_iff] at h
    obtain ⟨v, h1, rfl⟩ := h
    obtain ⟨h2, h3⟩ := ldk_inv h1
    obtain ⟨y, rfl⟩ := kd0 h3
    exact lv_iload_n hx hb hd rfl (lz_at hl h2) (kk H locs ls hC hS hl hlv (vok_c trivial hst))
  case aload i =>
    obtain rfl : len = 2 := by simpa [lenok, ilen] using hln
    simp only [ex, Option.map_eq_some_iff] at h
    obtain ⟨v, h1, rfl⟩ := h
    obtain ⟨h2, h3⟩ := ldk_inv h1
    rcases kd4 h3 with rfl | ⟨y, rfl⟩
    · exact lv_aloadN hx hb hd (lz_at hl h2) (kk H locs ls hC hS hl hlv (vok_c trivial hst))
    · exact lv_aload hx hb hd (lz_at hl h2) (kk H locs ls hC hS hl hlv (vok_c (hlv _ _ h2) hst))
  case aload_n i =>
    obtain rfl : len = 1 := by simpa [lenok, ilen] using hln
    simp only [ex, Option.map_eq_some_iff] at h
    obtain ⟨v, h1, rfl⟩ := h
    obtain ⟨h2, h3⟩ := ldk_inv h1
    rcases kd4 h3 with rfl | ⟨y, rfl⟩
    · exact lv_aload_nN hx hb hd rfl (lz_at hl h2) (kk H locs ls hC hS hl hlv (vok_c trivial hst))
    · exact lv_aload_n hx hb hd rfl (lz_at hl h2) (kk H locs ls hC hS hl hlv (vok_c (hlv _ _ h2) hst))
  case istore i =>
    obtain rfl : len = 2 := by simpa [lenok, ilen] using hln
    simp only [ex] at h
    split at h
    · split at h
      · next hh =>
        obtain rfl := Option.some.inj h
        exact lv_istore hx hb hd hl.1 (by omega) rfl (fun ls' h' => kk H locs ls' hC hS (lz_st1 hU hh.2 hlen (by omega) h') (lvok_st1 hlv trivial) (vok_t hst))
      · cases h
    · cases h
  case istore_n i =>
    obtain rfl : len = 1 := by simpa [lenok, ilen] using hln
    simp only [ex] at h
    split at h
    · split at h
      · next hh =>
        obtain rfl := Option.some.inj h
        exact lv_istore_n hx hb hd rfl hl.1 (by omega) rfl (fun ls' h' => kk H locs ls' hC hS (lz_st1 hU hh.2 hlen (by omega) h') (lvok_st1 hlv trivial) (vok_t hst))
      · cases h
    · cases h
  case fstore i =>
    obtain rfl : len = 2 := by simpa [lenok, ilen] using hln
    simp only [ex] at h
    split at h
    · split at h
      · next hh =>
        obtain rfl := Option.some.inj h
        exact lv_fstore hx hb hd hl.1 (by omega) rfl (fun ls' h' => kk H locs ls' hC hS (lz_st1 hU hh.2 hlen (by omega) h') (lvok_st1 hlv trivial) (vok_t hst))
      · cases h
    · cases h
  case dstore i =>
    obtain rfl : len = 2 := by simpa [lenok, ilen] using hln
    simp only [ex] at h
    split at h
    · split at h
      · next hh =>
        obtain rfl := Option.some.inj h
        exact lv_dstore hx hb hd hl.1 (by omega) rfl (fun ls' h' => kk H locs ls' hC hS (lz_st2 hU hh.2 hlen (by omega) h') (lvok_st2 hlv trivial) (vok_t hst))
      · cases h
    · cases h
  case astore i =>
    obtain rfl : len = 2 := by simpa [lenok, ilen] using hln
    simp only [ex] at h
    split at h
    · split at h
      · next hh =>
        obtain rfl := Option.some.inj h
        exact lv_astore hx hb hd hl.1 (by omega) rfl (fun ls' h' => kk H locs ls' hC hS (lz_st1 hU hh.2 hlen (by omega) h') (lvok_st1 hlv (hst _ List.mem_cons_self)) (vok_t hst))
      · cases h
    · split at h
      · next hh =>
        obtain rfl := Option.some.inj h
        exact lv_astoreN hx hb hd hl.1 (by omega) rfl (fun ls' h' => kk H locs ls' hC hS (lz_st1 hU hh.2 hlen (by omega) h') (lvok_st1 hlv trivial) (vok_t hst))
      · cases h
    · cases h
  case astore_n i =>
    obtain rfl : len = 1 := by simpa [lenok, ilen] using hln
    simp only [ex] at h
    split at h
    · split at h
      · next hh =>
        obtain rfl := Option.some.inj h
        exact lv_astore_n hx hb hd rfl hl.1 (by omega) rfl (fun ls' h' => kk H locs ls' hC hS (lz_st1 hU hh.2 hlen (by omega) h') (lvok_st1 hlv (hst _ List.mem_cons_self)) (vok_t hst))
      · cases h
    · split at h
      · next hh =>
        obtain rfl := Option.some.inj h
        exact lv_astore_nN hx hb hd rfl hl.1 (by omega) rfl (fun ls' h' => kk H locs ls' hC hS (lz_st1 hU hh.2 hlen (by omega) h') (lvok_st1 hlv trivial) (vok_t hst))
      · cases h
    · cases h
  case iinc i v =>
    simp only [ex] at h
    split at h
    · next y hy =>
      split at h
      · next hh =>
        obtain ⟨hh1, hh2, rfl⟩ := hh
        obtain rfl := Option.some.inj h
        obtain ⟨j, hj⟩ := List.getElem?_of_mem (asc_mem (E := E) (ad := ad) hy)
        exact lv_iinc hx hb hd hl.1 hj rfl (by omega) rfl (fun ls' h' => kk H locs ls' hC hS (lz_st1 hU hh2 hlen (by omega) h') (lvok_st1 hlv trivial) hst)
      · cases h
    · cases h
  case iadd =>
    obtain rfl : len = 1 := by simpa [lenok, ilen] using hln
    simp only [ex, Option.map_eq_some_iff] at h
    obtain ⟨s', h1, rfl⟩ := h
    obtain ⟨u, v, r, rfl, rfl⟩ := bin_inv h1
    exact lv_iadd hx hb hd (kk H locs ls hC hS hl hlv (vok_c trivial (vok_t (vok_t hst))))
  case isub =>
    obtain rfl : len = 1 := by simpa [lenok, ilen] using hln
    simp only [ex, Option.map_eq_some_iff] at h
    obtain ⟨s', h1, rfl⟩ := h
    obtain ⟨u, v, r, rfl, rfl⟩ := bin_inv h1
    exact lv_isub hx hb hd (kk H locs ls hC hS hl hlv (vok_c trivial (vok_t (vok_t hst))))
  case imul =>
    obtain rfl : len = 1 := by simpa [lenok, ilen] using hln
    simp only [ex, Option.map_eq_some_iff] at h
    obtain ⟨s', h1, rfl⟩ := h
    obtain ⟨u, v, r, rfl, rfl⟩ := bin_inv h1
    exact lv_imul hx hb hd (kk H locs ls hC hS hl hlv (vok_c trivial (vok_t (vok_t hst))))
  case iand =>
    obtain rfl : len = 1 := by simpa [lenok, ilen] using hln
    simp only [ex, Option.map_eq_some_iff] at h
    obtain ⟨s', h1, rfl⟩ := h
    obtain ⟨u, v, r, rfl, rfl⟩ := bin_inv h1
    exact lv_iand hx hb hd (kk H locs ls hC hS hl hlv (vok_c trivial (vok_t (vok_t hst))))
  case ior =>
    obtain rfl : len = 1 := by simpa [lenok, ilen] using hln
    simp only [ex, Option.map_eq_some_iff] at h
    obtain ⟨s', h1, rfl⟩ := h
    obtain ⟨u, v, r, rfl, rfl⟩ := bin_inv h1
    exact lv_ior hx hb hd (kk H locs ls hC hS hl hlv (vok_c trivial (vok_t (vok_t hst))))
  case ishl =>
    obtain rfl : len = 1 := by simpa [lenok, ilen] using hln
    simp only [ex, Option.map_eq_some_iff] at h
    obtain ⟨s', h1, rfl⟩ := h
    obtain ⟨u, v, r, rfl, rfl⟩ := bin_inv h1
    exact lv_ishl hx hb hd (kk H locs ls hC hS hl hlv (vok_c trivial (vok_t (vok_t hst))))
  case ishr =>
    obtain rfl : len = 1 := by simpa [lenok, ilen] using hln
    simp only [ex, Option.map_eq_some_iff] at h
    obtain ⟨s', h1, rfl⟩ := h
    obtain ⟨u, v, r, rfl, rfl⟩ := bin_inv h1
    exact lv_ishr hx hb hd (kk H locs ls hC hS hl hlv (vok_c trivial (vok_t (vok_t hst))))
  case idiv =>
    obtain rfl : len = 1 := by simpa [lenok, ilen] using hln
    simp only [ex, Option.map_eq_some_iff] at h
    obtain ⟨s', h1, rfl⟩ := h
    obtain ⟨u, v, r, rfl, rfl, hv⟩ := bdiv_inv h1
    exact lv_idiv hx hb hd hv (kk H locs ls hC hS hl hlv (vok_c trivial (vok_t (vok_t hst))))
  case irem =>
    obtain rfl : len = 1 := by simpa [lenok, ilen] using hln
    simp only [ex, Option.map_eq_some_iff] at h
    obtain ⟨s', h1, rfl⟩ := h
    obtain ⟨u, v, r, rfl, rfl, hv⟩ := bdiv_inv h1
    exact lv_irem hx hb hd hv (kk H locs ls hC hS hl hlv (vok_c trivial (vok_t (vok_t hst))))
  case ineg =>
    obtain rfl : len = 1 := by simpa [lenok, ilen] using hln
    simp only [ex, Option.map_eq_some_iff] at h
    obtain ⟨s', h1, rfl⟩ := h
    obtain ⟨u, r, rfl, rfl⟩ := un_inv h1
    exact lv_ineg hx hb hd (kk H locs ls hC hS hl hlv (vok_c trivial (vok_t hst)))
  case i2l =>
    obtain rfl : len = 1 := by simpa [lenok, ilen] using hln
    simp only [ex, Option.map_eq_some_iff] at h
    obtain ⟨s', h1, rfl⟩ := h
    obtain ⟨u, r, rfl, rfl⟩ := un_inv h1
    exact lv_i2l hx hb hd rfl (kk H locs ls hC hS hl hlv (vok_c trivial (vok_t hst)))
  case i2c =>
    obtain rfl : len = 1 := by simpa [lenok, ilen] using hln
    simp only [ex, Option.map_eq_some_iff] at h
    obtain ⟨s', h1, rfl⟩ := h
    obtain ⟨u, r, rfl, rfl⟩ := un_inv h1
    exact lv_i2c hx hb hd rfl (kk H locs ls hC hS hl hlv (vok_c trivial (vok_t hst)))
  case i2b =>
    obtain rfl : len = 1 := by simpa [lenok, ilen] using hln
    simp only [ex, Option.map_eq_some_iff] at h
    obtain ⟨s', h1, rfl⟩ := h
    obtain ⟨u, r, rfl, rfl⟩ := un_inv h1
    exact lv_i2b hx hb hd rfl (kk H locs ls hC hS hl hlv (vok_c trivial (vok_t hst)))
  case i2f =>
    obtain rfl : len = 1 := by simpa [lenok, ilen] using hln
    simp only [ex, Option.map_eq_some_iff] at h
    obtain ⟨s', h1, rfl⟩ := h
    obtain ⟨u, r, rfl, rfl⟩ := un_inv h1
    exact lv_i2f hx hb hd (kk H locs ls hC hS hl hlv (vok_c trivial (vok_t hst)))
  case i2d =>
    obtain rfl : len = 1 := by simpa [lenok, ilen] using hln
    simp only [ex, Option.map_eq_some_iff] at h
    obtain ⟨s', h1, rfl⟩ := h
    obtain ⟨u, r, rfl, rfl⟩ := un_inv h1
    exact lv_i2d hx hb hd (kk H locs ls hC hS hl hlv (vok_c trivial (vok_t hst)))
  case f2d =>
    obtain rfl : len = 1 := by simpa [lenok, ilen] using hln
    simp only [ex] at h
    split at h
    · split at h
      · next hh =>
        obtain rfl := Option.some.inj h
        exact lv_f2d hx hb hd hh (kk H locs ls hC hS hl hlv (vok_c trivial (vok_t hst)))
      · cases h
    · cases h
  case fdiv =>
    obtain rfl : len = 1 := by simpa [lenok, ilen] using hln
    simp only [ex] at h
    split at h
    · split at h
      · next hh =>
        obtain rfl := Option.some.inj h
        exact lv_fdiv hx hb hd hh (kk H locs ls hC hS hl hlv (vok_c trivial (vok_t (vok_t hst))))
      · cases h
    · cases h
  case ddiv =>
    obtain rfl : len = 1 := by simpa [lenok, ilen] using hln
    simp only [ex] at h
    split at h
    · split at h
      · next hh =>
        obtain rfl := Option.some.inj h
        exact lv_ddiv hx hb hd hh (kk H locs ls hC hS hl hlv (vok_c trivial (vok_t (vok_t hst))))
      · cases h
    · cases h
  case lcmp =>
    obtain rfl : len = 1 := by simpa [lenok, ilen] using hln
    simp only [ex] at h
    split at h
    · obtain rfl := Option.some.inj h
      exact W.lcmp hx hb hd (kk H locs ls hC hS hl hlv (vok_c trivial (vok_t (vok_t hst))))
    · cases h
  case dcmp op =>
    obtain rfl : len = 1 := by simpa [lenok, ilen] using hln
    simp only [ex] at h
    split at h
    · obtain rfl := Option.some.inj h
      exact lv_dcmp hx hb hd (kk H locs ls hC hS hl hlv (vok_c trivial (vok_t (vok_t hst))))
    · cases h
  case fcmp op =>
    obtain rfl : len = 1 := by simpa [lenok, ilen] using hln
    simp only [ex] at h
    split at h
    · obtain rfl := Option.some.inj h
      exact lv_fcmp hx hb hd (kk H locs ls hC hS hl hlv (vok_c trivial (vok_t (vok_t hst))))
    · cases h
  case dup =>
    obtain rfl : len = 1 := by simpa [lenok, ilen] using hln
    simp only [ex] at h
    split at h
    · split at h
      · next hh =>
        obtain rfl := Option.some.inj h
        exact lv_dup hx hb hd (by rw [cv_cat hU]; exact hh) (kk H locs ls hC hS hl hlv (vok_c (hst _ List.mem_cons_self) hst))
      · cases h
    · cases h
  case pop =>
    obtain rfl : len = 1 := by simpa [lenok, ilen] using hln
    simp only [ex] at h
    split at h
    · split at h
      · next hh =>
        obtain rfl := Option.some.inj h
        exact lv_pop hx hb hd (by rw [cv_cat hU]; exact hh) (kk H locs ls hC hS hl hlv (vok_t hst))
      · cases h
    · cases h
  case dup2 =>
    obtain rfl : len = 1 := by simpa [lenok, ilen] using hln
    simp only [ex] at h
    split at h
    · split at h
      · next hh =>
        obtain rfl := Option.some.inj h
        exact lv_dup2_11 hx hb hd (by rw [cv_cat hU]; exact hh.1) (by rw [cv_cat hU]; exact hh.2) (kk H locs ls hC hS hl hlv (vok_c (hst _ List.mem_cons_self) (vok_c (hst _ (List.mem_cons_of_mem _ List.mem_cons_self)) hst)))
      · cases h
    · cases h
  case dup_x1 =>
    obtain rfl : len = 1 := by simpa [lenok, ilen] using hln
    simp only [ex] at h
    split at h
    · split at h
      · next hh =>
        obtain rfl := Option.some.inj h
        exact lv_dup_x1 hx hb hd (by rw [cv_cat hU]; exact hh.1) (by rw [cv_cat hU]; exact hh.2) (kk H locs ls hC hS hl hlv (vok_c (hst _ List.mem_cons_self) (vok_c (hst _ (List.mem_cons_of_mem _ List.mem_cons_self)) (vok_c (hst _ List.mem_cons_self) (vok_t (vok_t hst))))))
      · cases h
    · cases h
  case ifCond cc o =>
    obtain rfl : len = 3 := by simpa [lenok, ilen] using hln
    simp only [ex] at h
    split at h
    · next v r =>
      split at h
      · next ho =>
        obtain rfl := Option.some.inj h
        have k2 := kk H locs ls hC hS hl hlv (vok_t hst)
        dsimp only at k2
        cases cc
        case eq => exact lv_if_eq hx hb hd (tgt_eq ho) (fun h => by rw [if_pos (show icnd .eq v 0 = true from decide_eq_true h)] at k2; exact k2) (fun h => by rw [if_neg (show ¬ icnd .eq v 0 = true from fun z => h ((of_decide_eq_true z)))] at k2; exact k2)
        case ne => exact lv_if_ne hx hb hd (tgt_eq ho) (fun h => by rw [if_pos (show icnd .ne v 0 = true from decide_eq_true h)] at k2; exact k2) (fun h => by rw [if_neg (show ¬ icnd .ne v 0 = true from fun z => (of_decide_eq_true z) h)] at k2; exact k2)
        case lt => exact lv_if_lt hx hb hd (tgt_eq ho) (fun h => by rw [if_pos (show icnd .lt v 0 = true from decide_eq_true h)] at k2; exact k2) (fun h => by rw [if_neg (show ¬ icnd .lt v 0 = true from fun z => h ((of_decide_eq_true z)))] at k2; exact k2)
        case ge => exact lv_if_ge hx hb hd (tgt_eq ho) (fun h => by rw [if_pos (show icnd .ge v 0 = true from decide_eq_true h)] at k2; exact k2) (fun h => by rw [if_neg (show ¬ icnd .ge v 0 = true from fun z => h ((of_decide_eq_true z)))] at k2; exact k2)
        case gt => exact lv_if_gt hx hb hd (tgt_eq ho) (fun h => by rw [if_pos (show icnd .gt v 0 = true from decide_eq_true h)] at k2; exact k2) (fun h => by rw [if_neg (show ¬ icnd .gt v 0 = true from fun z => h ((of_decide_eq_true z)))] at k2; exact k2)
        case le => exact lv_if_le hx hb hd (tgt_eq ho) (fun h => by rw [if_pos (show icnd .le v 0 = true from decide_eq_true h)] at k2; exact k2) (fun h => by rw [if_neg (show ¬ icnd .le v 0 = true from fun z => h ((of_decide_eq_true z)))] at k2; exact k2)
      · cases h
    · cases h
  case if_icmp cc o =>
    obtain rfl : len = 3 := by simpa [lenok, ilen] using hln
    simp only [ex] at h
    split at h
    · next v u r =>
      split at h
      · next ho =>
        obtain rfl := Option.some.inj h
        have k2 := kk H locs ls hC hS hl hlv (vok_t (vok_t hst))
        dsimp only at k2
        cases cc
        case eq => exact lv_icmp_eq hx hb hd (tgt_eq ho) (fun h => by rw [if_pos (show icnd .eq u v = true from decide_eq_true h)] at k2; exact k2) (fun h => by rw [if_neg (show ¬ icnd .eq u v = true from fun z => h ((of_decide_eq_true z)))] at k2; exact k2)
        case ne => exact lv_icmp_ne hx hb hd (tgt_eq ho) (fun h => by rw [if_pos (show icnd .ne u v = true from decide_eq_true h)] at k2; exact k2) (fun h => by rw [if_neg (show ¬ icnd .ne u v = true from fun z => (of_decide_eq_true z) h)] at k2; exact k2)
        case lt => exact lv_icmp_lt hx hb hd (tgt_eq ho) (fun h => by rw [if_pos (show icnd .lt u v = true from decide_eq_true h)] at k2; exact k2) (fun h => by rw [if_neg (show ¬ icnd .lt u v = true from fun z => h ((of_decide_eq_true z)))] at k2; exact k2)
        case ge => exact lv_icmp_ge hx hb hd (tgt_eq ho) (fun h => by rw [if_pos (show icnd .ge u v = true from decide_eq_true h)] at k2; exact k2) (fun h => by rw [if_neg (show ¬ icnd .ge u v = true from fun z => h ((of_decide_eq_true z)))] at k2; exact k2)
        case gt => exact lv_icmp_gt hx hb hd (tgt_eq ho) (fun h => by rw [if_pos (show icnd .gt u v = true from decide_eq_true h)] at k2; exact k2) (fun h => by rw [if_neg (show ¬ icnd .gt u v = true from fun z => h ((of_decide_eq_true z)))] at k2; exact k2)
        case le => exact lv_icmp_le hx hb hd (tgt_eq ho) (fun h => by rw [if_pos (show icnd .le u v = true from decide_eq_true h)] at k2; exact k2) (fun h => by rw [if_neg (show ¬ icnd .le u v = true from fun z => h ((of_decide_eq_true z)))] at k2; exact k2)
      · cases h
    · cases h
  case if_acmp cc o =>
    obtain rfl : len = 3 := by simpa [lenok, ilen] using hln
    simp only [ex] at h
    split at h
    · next v u r =>
      split at h
      · next ho =>
        obtain ⟨ho, hv6, hu6⟩ := ho
        obtain rfl := Option.some.inj h
        have k2 := kk H locs ls hC hS hl hlv (vok_t (vok_t hst))
        dsimp only at k2
        have hadv : ad v = eX E v := hC.2.2.2 v (Nat.lt_of_lt_of_le hv6 (by decide))
        have hadu : ad u = eX E u := hC.2.2.2 u (Nat.lt_of_lt_of_le hu6 (by decide))
        have hiff : (some (ad u) = some (ad v)) ↔ u = v := by
          rw [hadv, hadu]
          exact ⟨fun z => hX.2.2.2.1 u v hu6 hv6 (Option.some.inj z), fun z => by rw [z]⟩
        cases cc
        case eq => exact lv_acmp_eq (rx := some (ad u)) (ry := some (ad v)) hx hb hd (tgt_eq ho) (fun h => by rw [if_pos (decide_eq_true (hiff.mp h))] at k2; exact k2) (fun h => by rw [if_neg (fun z => h (hiff.mpr (of_decide_eq_true z)))] at k2; exact k2)
        case ne => exact lv_acmp_ne (rx := some (ad u)) (ry := some (ad v)) hx hb hd (tgt_eq ho) (fun h => by rw [if_pos (decide_eq_true (show ¬ u = v from fun z => h (hiff.mpr z)))] at k2; exact k2) (fun h => by rw [if_neg (fun z => (of_decide_eq_true z) (hiff.mp h))] at k2; exact k2)
      · cases h
    · cases h
  case ifnull o =>
    obtain rfl : len = 3 := by simpa [lenok, ilen] using hln
    simp only [ex] at h
    split at h
    · obtain rfl := Option.some.inj h
      exact lv_ifnull hx hb hd (kk H locs ls hC hS hl hlv (vok_t hst))
    · split at h
      · next ho =>
        obtain rfl := Option.some.inj h
        exact lv_ifnullN hx hb hd (tgt_eq ho) (kk H locs ls hC hS hl hlv (vok_t hst))
      · cases h
    · cases h
  case goto o =>
    obtain rfl : len = 3 := by simpa [lenok, ilen] using hln
    simp only [ex] at h
    split at h
    · next ho =>
      obtain rfl := Option.some.inj h
      exact lv_goto hx hb hd (tgt_eq ho) (kk H locs ls hC hS hl hlv hst)
    · cases h
  case tableswitch d lo hi offs =>
    simp only [ex] at h
    split at h
    · next v r =>
      simp only [Option.map_eq_some_iff] at h
      obtain ⟨t, h1, rfl⟩ := h
      unfold swt at h1
      split at h1
      · next hr =>
        split at h1
        · next ho =>
          obtain rfl := Option.some.inj h1
          exact lv_tableOut hx hb hd hr (tgt_eq ho) (kk H locs ls hC hS hl hlv (vok_t hst))
        · cases h1
      · next hr =>
        split at h1
        · next o9 ho9 =>
          split at h1
          · next ho =>
            obtain rfl := Option.some.inj h1
            exact lv_tableIn hx hb hd (fun z => hr (Or.inl z)) (fun z => hr (Or.inr z)) ho9 (tgt_eq ho) (kk H locs ls hC hS hl hlv (vok_t hst))
          · cases h1
        · cases h1
    · cases h
  case lookupswitch d ps =>
    simp only [ex] at h
    split at h
    · next v r =>
      simp only [Option.map_eq_some_iff] at h
      obtain ⟨t, h1, rfl⟩ := h
      unfold swl at h1
      dsimp only at h1
      split at h1
      · next hp =>
        split at h1
        · next ho =>
          obtain rfl := Option.some.inj h1
          exact lv_lookup hx hb hd hp rfl (tgt_eq ho) (kk H locs ls hC hS hl hlv (vok_t hst))
        · cases h1
      · cases h1
    · cases h
  case ldc i =>
    obtain rfl : len = 2 := by simpa [lenok, ilen] using hln
    simp only [ex] at h
    simp only [chk, Bool.and_eq_true] at hc
    replace hc := hc.2
    split at h
    · next ha =>
      rw [if_pos ha] at hc
      obtain rfl := Option.some.inj h
      exact lv_ldc hx hb hown (hT.use (wat_at hc) rfl _) hd (kk H locs ls hC hS hl hlv (vok_c trivial hst))
    · next ha =>
      rw [if_neg ha] at hc
      split at h
      · next ha1 =>
        rw [if_pos ha1] at hc
        obtain rfl := Option.some.inj h
        obtain ⟨q9, hq9, hq⟩ := List.any_eq_true.mp hc
        obtain ⟨e1, e2, e3⟩ := of_decide_eq_true hq
        have hbX := STRS_lt q9 hq9
        have hR := hV.1 q9 hq9
        rw [e1, e2, e3] at hR
        have had : ad b = eX E b := hC.2.2.2 b (by omega)
        exact va_ldcS hx hb hown (by rw [← had] at hR; exact hR) hd (kk H locs ls hC hS hl hlv (vok_c (show b < n from Nat.lt_of_lt_of_le (by omega) hC.2.2.1) hst))
      · cases h
  case ldc2_w i =>
    obtain rfl : len = 3 := by simpa [lenok, ilen] using hln
    simp only [ex] at h
    simp only [chk, Bool.and_eq_true] at hc
    replace hc := hc.2
    split at h
    · next ha =>
      rw [if_pos ha] at hc
      obtain rfl := Option.some.inj h
      exact lv_ldc2d hx hb hown (hT.use (wat_at hc) rfl _) hd (kk H locs ls hC hS hl hlv (vok_c trivial hst))
    · cases h
  case getstatic i =>
    obtain rfl : len = 3 := by simpa [lenok, ilen] using hln
    simp only [ex, Option.map_eq_some_iff] at h
    obtain ⟨q9, hq9, rfl⟩ := h
    simp only [chk, Bool.and_eq_true] at hc
    replace hc := hc.2
    rw [hq9] at hc
    have hm9 := List.mem_of_getElem? hq9
    have hv9 := STATS_vok q9 hm9
    have e9 : cv E ad q9.2.2.2 = cv E (eX E) q9.2.2.2 := cv_agr (fun i hi => hC.2.2.2 i hi) hv9
    have h0 := kk H locs ls hC hS hl hlv (vok_c (vok_mono hC.2.2.1 hv9) hst)
    refine va_gets (v := cv E (eX E) q9.2.2.2) hx hb (hX.1 q9 hm9) hS hown (hT.use (wat_at hc) rfl _) (fun _ h => h) hd ?_
    rw [← e9]
    exact h0
  case getfield i =>
    obtain rfl : len = 3 := by simpa [lenok, ilen] using hln
    simp only [ex, Option.map_eq_some_iff] at h
    obtain ⟨s', h1, rfl⟩ := h
    simp only [chk, Bool.and_eq_true] at hc
    replace hc := hc.2
    unfold getf at h1
    split at h1
    · next a9 r =>
      split at h1
      · next ha =>
        rw [if_pos ha] at hc
        split at h1
        · next hs9 =>
          obtain rfl := Option.some.inj h1
          obtain ⟨q9, hq9, hqa⟩ := List.any_eq_true.mp hs9
          simp only [beq_iff_eq] at hqa
          have hbX := STRS_lt q9 hq9
          obtain ⟨-, -, hF⟩ := hX.2.1 q9 hq9
          rw [hqa] at hF
          have h2 : ad a9 = eX E a9 := hC.2.2.2 a9 (by omega)
          have h3 : ad (a9 + 1) = eX E (a9 + 1) := hC.2.2.2 (a9 + 1) (by omega)
          have h0 := kk H locs ls hC hS hl hlv (vok_c (show a9 + 1 < n from Nat.lt_of_lt_of_le (by omega) hC.2.2.1) (vok_t hst))
          show W p l e R s m args below meth c H locs cells slots Q (F0 m pc ls (.ref (ad a9) :: List.map (cv E ad) r))
          rw [h2]
          refine va_getX (N := 1) (i := 0) (v := fun _ => .ref (eX E (a9 + 1))) (ad := fun _ => eX E a9) hx hb (fun _ _ => hF) (by decide) hS hown (hT.use (wat_at hc) rfl _) (fun _ h => h) hd ?_
          rw [← h3]
          exact h0
        · cases h1
      · next ha =>
        rw [if_neg ha] at hc
        split at h1
        · next hb1 =>
          rw [if_pos hb1] at hc
          split at h1
          · next hs9 =>
            obtain rfl := Option.some.inj h1
            obtain ⟨q9, hq9, hqa⟩ := List.any_eq_true.mp hs9
            simp only [beq_iff_eq] at hqa
            have hbX := STRS_lt q9 hq9
            obtain ⟨-, hF, -⟩ := hX.2.1 q9 hq9
            rw [hqa] at hF
            have h2 : ad a9 = eX E a9 := hC.2.2.2 a9 (by omega)
            have h0 := kk H locs ls hC hS hl hlv (vok_c trivial (vok_t hst))
            show W p l e R s m args below meth c H locs cells slots Q (F0 m pc ls (.ref (ad a9) :: List.map (cv E ad) r))
            rw [h2]
            exact va_getX (N := 1) (i := 0) (v := fun _ => .int 0) (ad := fun _ => eX E a9) hx hb (fun _ _ => hF) (by decide) hS hown (hT.use (wat_at hc) rfl _) (fun _ h => h) hd h0
          · cases h1
        · next hb1 =>
          rw [if_neg hb1] at hc
          split at h1
          · next c9 fs hw9 =>
            split at h1
            · next hca =>
              subst hca
              simp only [Option.map_eq_some_iff] at h1
              obtain ⟨v9, hv9, rfl⟩ := h1
              have hat := HW_at hC.1 hw9
              obtain ⟨r9, hr9, -⟩ := id hat
              have hr9' : CLS[c9]? = some r9 := hr9
              rw [hr9'] at hc
              simp only [Bool.and_eq_true, Bool.or_eq_true, decide_eq_true_eq] at hc
              obtain ⟨hk9, hlk⟩ := hc
              obtain ⟨hws, -, -⟩ := CLS_ok c9 r9 hr9'
              have hts : ∀ w ∈ u_ws r9.1 r9.2.1 r9.2.2, w.before args s = true := fun w hw => hT w (hws w hw).1 (hws w hw).2 _
              have hvv : vok n v9 := (hC.2.1 _ _ hw9).2.2 v9 (List.mem_of_getElem? hv9)
              have hv9' : (fs.map (cv E ad))[b]? = some (cv E ad v9) := by rw [List.getElem?_map, hv9]; rfl
              have h0 := kk H locs ls hC hS hl hlv (vok_c hvv (vok_t hst))
              rcases hlk with hlk | hlk
              · exact va_get (C := r9.1) (T := r9.2.1) (N := r9.2.2) hx hb hts (fun _ h => h) hown hK (P1 hat) 0 rfl hr9' b hk9 (hT.use (wat_at hlk) rfl _) (fun _ h => h) hv9' hd h0
              · exact va_getN (C := r9.1) (T := r9.2.1) (N := r9.2.2) hx hb hts (fun _ h => h) hown hK (P1 hat) 0 rfl hr9' b hk9 (hT.use (wat_at hlk) rfl _) (fun _ h => h) hv9' hd h0
            · cases h1
          · cases h1
    · cases h1
  case putfield i =>
    obtain rfl : len = 3 := by simpa [lenok, ilen] using hln
    simp only [ex, Option.map_eq_some_iff] at h
    obtain ⟨s', h1, rfl⟩ := h
    simp only [chk, Bool.and_eq_true] at hc
    replace hc := hc.2
    unfold putf at h1
    split at h1
    · next v9 a9 r =>
      split at h1
      · next c9 fs ty hw9 hty9 =>
        split at h1
        · next hh =>
          obtain ⟨hca, hlf, hpf⟩ := hh
          subst hca
          obtain rfl := Option.some.inj h1
          obtain ⟨ws, hP, hD, hi, hj⟩ := id hC.1
          obtain ⟨q0, hq0⟩ := hi a9 _ hw9
          have hat := HW_at hC.1 hw9
          obtain ⟨r9, hr9, -⟩ := id hat
          have hr9' : CLS[c9]? = some r9 := hr9
          rw [hr9'] at hc
          simp only [Bool.and_eq_true, Bool.or_eq_true, decide_eq_true_eq] at hc
          obtain ⟨⟨hk9, hlk⟩, hfn⟩ := hc
          obtain ⟨hws, ⟨ty0, hty0⟩, hnm⟩ := CLS_ok c9 r9 hr9'
          have hts : ∀ w ∈ u_ws r9.1 r9.2.1 r9.2.2, w.before args s = true := fun w hw => hT w (hws w hw).1 (hws w hw).2 _
          have hd9 : parseFieldDescriptor (r9.2.1 b).2.2.1 = some ty := by
            unfold fty at hty9
            rw [hr9'] at hty9
            exact hty9
          obtain ⟨hna, hfi⟩ := pfit_ok (E := E) (ad := ad) hpf
          have hvo : vok n v9 := hst _ List.mem_cons_self
          have heo : eok n (.inr (c9, fs.set b v9)) := by
            intro u hu
            rcases List.mem_or_eq_of_mem_set hu with hu | hu
            · exact (hC.2.1 _ _ hw9).2.2 u hu
            · rw [hu]; exact hvo
          have hset : ∀ (H1 : Heap) (locs1 : List Loc), va_P (eD E) CLS (ws.set q0 (ad a9, .inr (c9, (fs.map (cv E ad)).set b (cv E ad v9)))) H1 → va_D (eA E) (ws.set q0 (ad a9, .inr (c9, (fs.map (cv E ad)).set b (cv E ad v9)))) → va_S (eA E) s.heap H1 locs1 → W p l e R s m args below meth c H1 locs1 cells slots Q (F0 m (pc + 3) ls (r.map (cv E ad))) :=
            SK_set (g := (pc + 3, lv, r, pupd w a9 (.inr (c9, fs.set b v9)))) M hC hi hj hw9 hq0 rfl heo (by simp only [ce, List.map_set]) kk hl hlv (vok_t (vok_t hst))
          cases hf9 : (r9.2.1 b).2.2.2 with
          | false =>
            exact va_put (C := r9.1) (T := r9.2.1) (N := r9.2.2) hx hb hts (fun _ h => h) ty0 hty0 hnm hown hK hP hD hS q0 hq0 hr9' b hk9 (hT.use (wat_at hlk) rfl _) (fun _ h => h) hf9 hd9 hna hfi (by rw [List.length_map]; exact hlf) hd hset
          | true =>
            rw [hf9] at hfn
            simp only [Bool.not_true, Bool.false_eq_true, false_or] at hfn
            exact va_putF (C := r9.1) (T := r9.2.1) (N := r9.2.2) hx hb hts (fun _ h => h) ty0 hty0 hnm hown hK hP hD hS q0 hq0 hr9' b hk9 (hT.use (wat_at hlk) rfl _) (fun _ h => h) hf9 (hin hfn.1) hfn.2 hd9 hna hfi (by rw [List.length_map]; exact hlf) hd hset
        · cases h1
      · cases h1
    · cases h1
  case iaload =>
    obtain rfl : len = 1 := by simpa [lenok, ilen] using hln
    simp only [ex, Option.map_eq_some_iff] at h
    obtain ⟨s', h1, rfl⟩ := h
    unfold xald at h1
    split at h1
    · next i9 a9 r =>
      split at h1
      · next t' N9 f9 hr9 =>
        split at h1
        · next ht =>
          subst ht
          simp only [Option.map_eq_some_iff] at h1
          obtain ⟨j, hj, rfl⟩ := h1
          obtain ⟨hji, rfl⟩ := fin_inv hj
          have h0 := kk H locs ls hC hS hl hlv (vok_c trivial (vok_t (vok_t hst)))
          unfold rowI at hr9
          split at hr9
          · obtain ⟨cell, g1, g2, g3, g4, g5, g6, g7⟩ := (hX.2.2.1 a9 _ _ _ hr9).kept hS.2.1
            have haX : a9 < XN := extA_lt hr9
            have h2 : ad a9 = eX E a9 := hC.2.2.2 a9 haX
            have hlt : i9.toNatClampNeg < N9 := Nat.not_le.mp fun q => hji (Or.inr q)
            show W p l e R s m args below meth c H locs cells slots Q (F0 m pc ls (.int i9 :: .ref (ad a9) :: List.map (cv E ad) r))
            rw [h2]
            exact W.iald (v := .int (f9 i9.toNatClampNeg)) hx hb g1 g2 g3 (fun q => q.elim (fun z => hji (Or.inl z)) (fun z => by omega)) (g6 _ hlt) rfl rfl hd h0
          · split at hr9
            · next hw9 =>
              cases hr9
              exact va_iald hx hb hK (P1 (HW_at hC.1 hw9)) 0 0 rfl rfl hji hd h0
            · cases hr9
        · cases h1
      · cases h1
    · cases h1
  case caload =>
    obtain rfl : len = 1 := by simpa [lenok, ilen] using hln
    simp only [ex, Option.map_eq_some_iff] at h
    obtain ⟨s', h1, rfl⟩ := h
    unfold xald at h1
    split at h1
    · next i9 a9 r =>
      split at h1
      · next t' N9 f9 hr9 =>
        split at h1
        · next ht =>
          subst ht
          simp only [Option.map_eq_some_iff] at h1
          obtain ⟨j, hj, rfl⟩ := h1
          obtain ⟨hji, rfl⟩ := fin_inv hj
          have h0 := kk H locs ls hC hS hl hlv (vok_c trivial (vok_t (vok_t hst)))
          unfold rowI at hr9
          split at hr9
          · obtain ⟨cell, g1, g2, g3, g4, g5, g6, g7⟩ := (hX.2.2.1 a9 _ _ _ hr9).kept hS.2.1
            have haX : a9 < XN := extA_lt hr9
            have h2 : ad a9 = eX E a9 := hC.2.2.2 a9 haX
            have hlt : i9.toNatClampNeg < N9 := Nat.not_le.mp fun q => hji (Or.inr q)
            show W p l e R s m args below meth c H locs cells slots Q (F0 m pc ls (.int i9 :: .ref (ad a9) :: List.map (cv E ad) r))
            rw [h2]
            exact W.cald (v := .int (f9 i9.toNatClampNeg)) hx hb g1 g2 g3 (fun q => q.elim (fun z => hji (Or.inl z)) (fun z => by omega)) (g6 _ hlt) rfl rfl hd h0
          · split at hr9
            · next hw9 =>
              cases hr9
              exact va_cald hx hb hK (P1 (HW_at hC.1 hw9)) 0 1 rfl rfl hji hd h0
            · cases hr9
        · cases h1
      · cases h1
    · cases h1
  case baload =>
    obtain rfl : len = 1 := by simpa [lenok, ilen] using hln
    simp only [ex, Option.map_eq_some_iff] at h
    obtain ⟨s', h1, rfl⟩ := h
    unfold xald at h1
    split at h1
    · next i9 a9 r =>
      split at h1
      · next t' N9 f9 hr9 =>
        split at h1
        · next ht =>
          subst ht
          simp only [Option.map_eq_some_iff] at h1
          obtain ⟨j, hj, rfl⟩ := h1
          obtain ⟨hji, rfl⟩ := fin_inv hj
          have h0 := kk H locs ls hC hS hl hlv (vok_c trivial (vok_t (vok_t hst)))
          unfold rowI at hr9
          split at hr9
          · obtain ⟨cell, g1, g2, g3, g4, g5, g6, g7⟩ := (hX.2.2.1 a9 _ _ _ hr9).kept hS.2.1
            have haX : a9 < XN := extA_lt hr9
            have h2 : ad a9 = eX E a9 := hC.2.2.2 a9 haX
            have hlt : i9.toNatClampNeg < N9 := Nat.not_le.mp fun q => hji (Or.inr q)
            show W p l e R s m args below meth c H locs cells slots Q (F0 m pc ls (.int i9 :: .ref (ad a9) :: List.map (cv E ad) r))
            rw [h2]
            exact W.bald (v := .int (f9 i9.toNatClampNeg)) hx hb g1 g2 g3 (fun q => q.elim (fun z => hji (Or.inl z)) (fun z => by omega)) (g6 _ hlt) rfl rfl hd h0
          · split at hr9
            · next hw9 =>
              cases hr9
              exact va_bald hx hb hK (P1 (HW_at hC.1 hw9)) 0 2 rfl rfl hji hd h0
            · cases hr9
        · cases h1
      · cases h1
    · cases h1
  case iastore =>
    obtain rfl : len = 1 := by simpa [lenok, ilen] using hln
    simp only [ex, Option.map_eq_some_iff] at h
    obtain ⟨s', h1, rfl⟩ := h
    unfold xast at h1
    split at h1
    · next v9 i9 a9 r =>
      split at h1
      · next t' N9 f9 hw9 =>
        split at h1
        · next ht =>
          subst ht
          simp only [Option.map_eq_some_iff] at h1
          obtain ⟨j, hj, rfl⟩ := h1
          obtain ⟨hji, rfl⟩ := fin_inv hj
          obtain ⟨ws, hP, hD, hi, hj9⟩ := id hC.1
          obtain ⟨q0, hq0⟩ := hi a9 _ hw9
          exact va_iast hx hb hK hP hD hS q0 0 hq0 rfl hji hd (SK_set (g := (pc + 1, lv, r, _)) (e' := .inl (0, N9, .inl (upd f9 i9.toNatClampNeg (v9)))) M hC hi hj9 hw9 hq0 rfl trivial rfl kk hl hlv (vok_t (vok_t (vok_t hst))))
        · cases h1
      · cases h1
    · cases h1
  case castore =>
    obtain rfl : len = 1 := by simpa [lenok, ilen] using hln
    simp only [ex, Option.map_eq_some_iff] at h
    obtain ⟨s', h1, rfl⟩ := h
    unfold xast at h1
    split at h1
    · next v9 i9 a9 r =>
      split at h1
      · next t' N9 f9 hw9 =>
        split at h1
        · next ht =>
          subst ht
          simp only [Option.map_eq_some_iff] at h1
          obtain ⟨j, hj, rfl⟩ := h1
          obtain ⟨hji, rfl⟩ := fin_inv hj
          obtain ⟨ws, hP, hD, hi, hj9⟩ := id hC.1
          obtain ⟨q0, hq0⟩ := hi a9 _ hw9
          exact va_cast hx hb hK hP hD hS q0 1 hq0 rfl hji hd (SK_set (g := (pc + 1, lv, r, _)) (e' := .inl (1, N9, .inl (upd f9 i9.toNatClampNeg (vp_nar .char v9)))) M hC hi hj9 hw9 hq0 rfl trivial rfl kk hl hlv (vok_t (vok_t (vok_t hst))))
        · cases h1
      · cases h1
    · cases h1
  case bastore =>
    obtain rfl : len = 1 := by simpa [lenok, ilen] using hln
    simp only [ex, Option.map_eq_some_iff] at h
    obtain ⟨s', h1, rfl⟩ := h
    unfold xast at h1
    split at h1
    · next v9 i9 a9 r =>
      split at h1
      · next t' N9 f9 hw9 =>
        split at h1
        · next ht =>
          subst ht
          simp only [Option.map_eq_some_iff] at h1
          obtain ⟨j, hj, rfl⟩ := h1
          obtain ⟨hji, rfl⟩ := fin_inv hj
          obtain ⟨ws, hP, hD, hi, hj9⟩ := id hC.1
          obtain ⟨q0, hq0⟩ := hi a9 _ hw9
          exact va_bast hx hb hK hP hD hS q0 2 hq0 rfl hji hd (SK_set (g := (pc + 1, lv, r, _)) (e' := .inl (2, N9, .inl (upd f9 i9.toNatClampNeg (vp_nar .byte v9)))) M hC hi hj9 hw9 hq0 rfl trivial rfl kk hl hlv (vok_t (vok_t (vok_t hst))))
        · cases h1
      · cases h1
    · cases h1
  case laload =>
    obtain rfl : len = 1 := by simpa [lenok, ilen] using hln
    simp only [ex, Option.map_eq_some_iff] at h
    obtain ⟨s', h1, rfl⟩ := h
    unfold lald at h1
    split at h1
    · next i9 a9 r =>
      split at h1
      · next N9 f9 hw9 =>
        simp only [Option.map_eq_some_iff] at h1
        obtain ⟨j, hj, rfl⟩ := h1
        obtain ⟨hji, rfl⟩ := fin_inv hj
        exact va_lald hx hb hK (P1 (HW_at hC.1 hw9)) 0 3 rfl rfl hji hd (kk H locs ls hC hS hl hlv (vok_c trivial (vok_t (vok_t hst))))
      · cases h1
    · cases h1
  case daload =>
    obtain rfl : len = 1 := by simpa [lenok, ilen] using hln
    simp only [ex, Option.map_eq_some_iff] at h
    obtain ⟨s', h1, rfl⟩ := h
    unfold dald at h1
    split at h1
    · next i9 a9 r =>
      split at h1
      · next N9 f9 hw9 =>
        simp only [Option.map_eq_some_iff] at h1
        obtain ⟨j, hj, rfl⟩ := h1
        obtain ⟨hji, rfl⟩ := fin_inv hj
        exact va_dald hx hb hK (P1 (HW_at hC.1 hw9)) 0 4 rfl rfl hji hd (kk H locs ls hC hS hl hlv (vok_c trivial (vok_t (vok_t hst))))
      · cases h1
    · cases h1
  case lastore =>
    obtain rfl : len = 1 := by simpa [lenok, ilen] using hln
    simp only [ex, Option.map_eq_some_iff] at h
    obtain ⟨s', h1, rfl⟩ := h
    unfold last at h1
    split at h1
    · next v9 i9 a9 r =>
      split at h1
      · next N9 f9 hw9 =>
        simp only [Option.map_eq_some_iff] at h1
        obtain ⟨j, hj, rfl⟩ := h1
        obtain ⟨hji, rfl⟩ := fin_inv hj
        obtain ⟨ws, hP, hD, hi, hj9⟩ := id hC.1
        obtain ⟨q0, hq0⟩ := hi a9 _ hw9
        exact va_last hx hb hK hP hD hS q0 3 hq0 rfl hji hd (SK_set (g := (pc + 1, lv, r, _)) (e' := .inl (3, N9, .inr (.inl (vp_updL f9 i9.toNatClampNeg v9)))) M hC hi hj9 hw9 hq0 rfl trivial rfl kk hl hlv (vok_t (vok_t (vok_t hst))))
      · cases h1
    · cases h1
  case dastore =>
    obtain rfl : len = 1 := by simpa [lenok, ilen] using hln
    simp only [ex, Option.map_eq_some_iff] at h
    obtain ⟨s', h1, rfl⟩ := h
    unfold dast at h1
    split at h1
    · next v9 i9 a9 r =>
      split at h1
      · next N9 f9 hw9 =>
        simp only [Option.map_eq_some_iff] at h1
        obtain ⟨j, hj, rfl⟩ := h1
        obtain ⟨hji, rfl⟩ := fin_inv hj
        obtain ⟨ws, hP, hD, hi, hj9⟩ := id hC.1
        obtain ⟨q0, hq0⟩ := hi a9 _ hw9
        exact va_dast hx hb hK hP hD hS q0 4 hq0 rfl hji hd (SK_set (g := (pc + 1, lv, r, _)) (e' := .inl (4, N9, .inr (.inr (.inr (.inl (vf_upd f9 i9.toNatClampNeg v9)))))) M hC hi hj9 hw9 hq0 rfl trivial rfl kk hl hlv (vok_t (vok_t (vok_t hst))))
      · cases h1
    · cases h1
  case aaload =>
    obtain rfl : len = 1 := by simpa [lenok, ilen] using hln
    simp only [ex, Option.map_eq_some_iff] at h
    obtain ⟨s', h1, rfl⟩ := h
    unfold qald at h1
    split at h1
    · next i9 a9 r =>
      split at h1
      · next N9 f9 hw9 =>
        simp only [Option.map_eq_some_iff] at h1
        obtain ⟨j, hj, rfl⟩ := h1
        obtain ⟨hji, rfl⟩ := fin_inv hj
        have hvv : vok n (va_rf (f9 i9.toNatClampNeg)) := by
          have h5 := (hC.2.1 _ _ hw9).2.2
          cases hf : f9 i9.toNatClampNeg with
          | none => trivial
          | some y => exact h5 _ _ hf
        have h0 := kk H locs ls hC hS hl hlv (vok_c hvv (vok_t (vok_t hst)))
        refine va_aldq (f := cr ad f9) hx hb hK (P1 (HW_at hC.1 hw9)) 0 5 rfl rfl hji hd ?_
        rw [show va_rf (cr ad f9 i9.toNatClampNeg) = cv E ad (va_rf (f9 i9.toNatClampNeg)) from rf_cv _]
        exact h0
      · cases h1
    · cases h1
  case aastore =>
    obtain rfl : len = 1 := by simpa [lenok, ilen] using hln
    simp only [ex, Option.map_eq_some_iff] at h
    obtain ⟨s', h1, rfl⟩ := h
    unfold qast at h1
    split at h1
    · next v9 i9 a9 r =>
      split at h1
      · next N9 f9 fs9 hw9 hwv =>
        simp only [Option.map_eq_some_iff] at h1
        obtain ⟨j, hj, rfl⟩ := h1
        obtain ⟨hji, rfl⟩ := fin_inv hj
        obtain ⟨ws, hP, hD, hi, hj9⟩ := id hC.1
        obtain ⟨q0, hq0⟩ := hi a9 _ hw9
        obtain ⟨q1, hq1⟩ := hi v9 _ hwv
        have hvo : v9 < n := hst _ List.mem_cons_self
        have heo : eok n (.inl (5, N9, .inr (.inr (.inr (.inr (va_up f9 i9.toNatClampNeg (some v9))))))) := by
          intro z y hz
          simp only [va_up] at hz
          split at hz
          · cases hz; exact hvo
          · exact (hC.2.1 _ _ hw9).2.2 z y hz
        exact va_astq hx hb hK hP hD hS q0 5 q1 0 (r := (RX0, TX0, 6)) hq0 rfl hq1 rfl hji hd (SK_set (g := (pc + 1, lv, r, _)) M hC hi hj9 hw9 hq0 rfl heo (by simp only [ce, ca, cr_up]; rfl) kk hl hlv (vok_t (vok_t (vok_t hst))))
      · cases h1
    · cases h1
  case arraylength =>
    obtain rfl : len = 1 := by simpa [lenok, ilen] using hln
    simp only [ex, Option.map_eq_some_iff] at h
    obtain ⟨s', h1, rfl⟩ := h
    unfold alen at h1
    split at h1
    · next a9 r =>
      split at h1
      · simp only [Option.map_eq_some_iff] at h1
        obtain ⟨⟨t9, N9, f9⟩, hr9, rfl⟩ := h1
        obtain ⟨cell, g1, g2, g3, g4, g5, g6, g7⟩ := (hX.2.2.1 a9 _ _ _ hr9).kept hS.2.1
        have haX : a9 < XN := extA_lt hr9
        have h2 : ad a9 = eX E a9 := hC.2.2.2 a9 haX
        have h0 := kk H locs ls hC hS hl hlv (vok_c trivial (vok_t hst))
        show W p l e R s m args below meth c H locs cells slots Q (F0 m pc ls (.ref (ad a9) :: List.map (cv E ad) r))
        rw [h2]
        exact W.alen (n := Int32.ofNat N9) hx hb g1 g2 g5 rfl rfl hd h0
      · split at h1
        · next t9 q9 hw9 =>
          split at h1
          · next ht =>
            obtain rfl := Option.some.inj h1
            exact va_alen hx hb hK (P1 (HW_at hC.1 hw9)) 0 t9 rfl (TYS_at E ht) (by rw [ca_1]) hd (kk H locs ls hC hS hl hlv (vok_c trivial (vok_t hst)))
          · cases h1
        · cases h1
    · cases h1
end SND
