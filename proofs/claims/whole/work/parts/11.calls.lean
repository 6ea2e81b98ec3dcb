/-! NEW CELLS AND CALLS, over configurations -/
section CAL
variable {x : SX} {k mc ms n : Nat} {g : CFG} {Q : QT}
theorem ENDS_up {p : Program} {l : Launch} {e : Env} {R : Room} {s : State} {m : MethodId} {args : Array Value} {below : List Frame} {meth : Method} {c : Code} {Z : State → Prop} {E : ENV} {ad ad1 : Nat → Nat} {n n1 C S C1 S1 : Nat} {Q : QT}
    (hn : n ≤ n1) (ha : agr n ad ad1) (hC : C1 ≤ C) (hS : S1 ≤ S) (h : ENDS x k p l e R s m args below meth c Z E ad n C S Q) : ENDS x k p l e R s m args below meth c Z E ad1 n1 C1 S1 Q := by
  refine ⟨fun r w' n' ad' hQ i1 i2 i3 pc i4 c' s' j1 j2 => h.1 r w' n' ad' hQ (by omega) (agr_tr hn ha i2) i3 pc i4 c' s' (by omega) (by omega), fun X w' n' ad' hQ i1 i2 i3 c' s' H locs i4 i5 => ?_⟩
  obtain ⟨g1, g2⟩ := h.2 X w' n' ad' hQ (by omega) (agr_tr hn ha i2) i3 c' s' H locs i4 i5
  exact ⟨fun pc ls st q cx j1 j2 => g1 pc ls st q cx (by omega) (by omega), fun pc ls st j0 j1 j2 j3 j4 => g2 pc ls st j0 j1 j2 (by omega) (by omega)⟩
theorem SK_new {p : Program} {l : Launch} {e : Env} {R : Room} {s : State} {m : MethodId} {args : Array Value} {below : List Frame} {meth : Method} {c : Code} {cells slots : Nat} {Z : State → Prop} {E : ENV} {ad : Nat → Nat} {n pc' q : Nat} {lv : LV} {st : List Value} {w : PW} {H : Heap} {ws : va_W} {e' : PE} {y : va_E} {ls : Array Slot}
    (hC : HC E ad n w H) (hi : ∀ i e, w i = some e → ∃ k : Nat, ws[k]? = some (ad i, ce E ad e)) (hj : ∀ i j ei ej, w i = some ei → w j = some ej → ad i = ad j → i = j) (heo : eok (n + 1) e') (hy : y = ce E (va_up ad n q) e')
    (kk : SK k p l e R s m args below meth c cells slots Z E (va_up ad n q) (n + 1) (pc', lv, .ref n :: st, pupd w n e')) (hl : lz E ad (mL k) ls lv) (hlv : lvok n lv) (hst : ∀ v ∈ st, vok n v) :
    ∀ (H1 : Heap) (locs1 : List Loc), va_P (eD E) CLS (ws ++ [(q, y)]) H1 → va_D (eA E) (ws ++ [(q, y)]) → va_S (eA E) s.heap H1 locs1 → W p l e R s m args below meth c H1 locs1 cells slots Z (F0 m pc' ls (.ref q :: st.map (cv E ad))) := by
  intro H1 locs1 hP hD hS
  have ha : agr n ad (va_up ad n q) := fun i h => by simp only [va_up]; rw [if_neg (Nat.ne_of_lt h)]
  have hnn : va_up ad n q n = q := by simp [va_up]
  have h0 := kk H1 locs1 ls ⟨HW_new hC.2.1 hi hj hy hP hD, wok_new hC.2.2.1 hC.2.1 heo, Nat.le_succ_of_le hC.2.2.1, fun i hi => (ha i (Nat.lt_of_lt_of_le hi hC.2.2.1)).trans (hC.2.2.2 i hi)⟩ hS (lz_agr ha hlv hl) (fun i v h => vok_mono (Nat.le_succ n) (hlv i v h)) (fun v hv => (List.mem_cons.mp hv).elim (fun e => by rw [e]; exact Nat.lt_succ_self n) (fun h => vok_mono (Nat.le_succ n) (hst v h)))
  dsimp only at h0
  rw [List.map_cons, cvs_agr ha hst, show cv E (va_up ad n q) (.ref n) = .ref q by rw [cv_rf, hnn]] at h0
  exact h0
def dfl (ci : Nat) : List Value := match CLS[ci]? with
  | some r => (List.range r.2.2).map fun j => match parseFieldDescriptor (r.2.1 j).2.2.1 with
    | some ty => defaultValue ty
    | none => .null
  | none => []
theorem CLS_new : ∀ (ci : Nat) (r : vw_C), CLS[ci]? = some r → (Jvm.Cond.instantiable r.1 r.2.2 ∈ TB ∧ okw (.instantiable r.1 r.2.2) = true) ∧ Jvm.Cond.initialized r.1 ∈ TB ∧ okw (.initialized r.1) = true := by
  intro ci r h
  match ci, h with
  | 0, h => cases h; decide +kernel
  | 1, h => cases h; decide +kernel
  | 2, h => cases h; decide +kernel
  | 3, h => cases h; decide +kernel
  | 4, h => cases h; decide +kernel
  | 5, h => cases h; decide +kernel
  | 6, h => cases h; decide +kernel
  | 7, h => cases h; decide +kernel
  | 8, h => cases h; decide +kernel
  | n + 9, h => simp [CLS] at h
theorem dfl_at {ci : Nat} {r : vw_C} (h : CLS[ci]? = some r) (ty : Nat → FieldType) (hty : ∀ k, k < r.2.2 → parseFieldDescriptor (r.2.1 k).2.2.1 = some (ty k)) : ∀ j, j < r.2.2 → defaultValue (ty j) = vp_V (dfl ci) j := by
  intro j hj
  simp only [dfl, h, vp_V]
  rw [List.getD_eq_getElem?_getD, List.getElem?_map, List.getElem?_range hj]
  simp only [Option.map_some, Option.getD_some, hty j hj]
theorem dfl_vok {n ci : Nat} : ∀ v ∈ dfl ci, vok n v := by
  intro v hv
  unfold dfl at hv
  split at hv
  · obtain ⟨j, -, rfl⟩ := List.mem_map.mp hv
    split
    · next ty _ => cases ty <;> trivial
    · trivial
  · cases hv
theorem dfl_cv {E : ENV} {ad : Nat → Nat} {ci : Nat} : (dfl ci).map (cv E ad) = dfl ci := by
  conv => rhs; rw [← List.map_id (dfl ci)]
  refine List.map_congr_left fun v hv => ?_
  have h := dfl_vok (n := 0) v hv
  unfold dfl at hv
  split at hv
  · obtain ⟨j, -, rfl⟩ := List.mem_map.mp hv
    split
    · next ty _ => cases ty <;> rfl
    · rfl
  · cases hv
theorem V_new {pc i a b c' N : Nat} {lv : LV} {st : List Value} {w : PW} (hf : fetch k pc = some (.new i, 3, a, b, c')) (hN : (CLS[a]?).map (fun r => r.2.2) = some N)
    (h : V x k mc ms (n + 1) (pc + 3, lv, .ref n :: st, pupd w n (.inr (a, dfl a))) Q) : V x k (mc + 1) (ms + N) n (pc, lv, st, w) Q := by
  intro p l e R s m args below meth c Z E M ad cells slots h1 h2 hE H locs ls hC hS hl hlv hst
  obtain ⟨hd, hm⟩ := fetch_dec M.1 hf
  have hc := chk_all M.1 hm
  obtain ⟨r, hr, rfl⟩ := Option.map_eq_some_iff.mp hN
  simp only [chk, Bool.and_eq_true] at hc
  replace hc := hc.2
  rw [hr] at hc
  obtain ⟨hkn, hx, hb, hml, hown, hret, hlocks, htab, hin, hfl, hT, hV, hK, hX, hN', hU, hR1, hR2⟩ := id M
  obtain ⟨ws, hP, hD, hi, hj⟩ := id hC.1
  obtain ⟨hws, ⟨ty, hty⟩, -⟩ := CLS_ok a r hr
  obtain ⟨hn1, hn2⟩ := CLS_new a r hr
  have hts : ∀ w ∈ u_ws r.1 r.2.1 r.2.2, w.before args s = true := fun w hw => hT w (hws w hw).1 (hws w hw).2 _
  dsimp only at hl hlv hst ⊢
  refine va_new (C := r.1) (T := r.2.1) (N := r.2.2) (ci := a) (fs := dfl a) hx hb hts (fun _ h => h) ty hty hown (hT.use (wat_at hc) rfl _) (hT _ hn1.1 hn1.2 _) (hT _ hn2.1 hn2.2 _) hK hP hD hS (fun q hq => Nat.le_trans hN' hq) hr (dfl_at hr ty hty) (by omega) (by omega) hd ?_
  intro q H1 hP1 hD1 hS1
  refine SK_new (w := w) (e' := .inr (a, dfl a)) hC hi hj (fun v hv => dfl_vok v hv) (by simp only [ce, dfl_cv]) ?_ hl hlv hst H1 locs hP1 hD1 hS1
  refine h p l e R s m args below meth c Z E M _ (cells + 1) (slots + r.2.2) (by omega) (by omega) (ENDS_up (Nat.le_succ n) (fun i h => ?_) (by omega) (by omega) hE)
  simp only [va_up]; rw [if_neg (Nat.ne_of_lt h)]
/-- a fresh row -/
def zA (t N : Nat) : PE := .inl (t, N, match t with
  | 3 => .inr (.inl fun _ => 0)
  | 4 => .inr (.inr (.inr (.inl fun _ => 0)))
  | 5 => .inr (.inr (.inr (.inr fun _ => none)))
  | _ => .inl fun _ => 0)
theorem ARR_ok : ∀ t : Nat, t < 5 → Jvm.Cond.arrayClass (tyT t) ∈ TB ∧ okw (.arrayClass (tyT t)) = true := by decide +kernel
theorem ty_uniq {s : State} {D : va_G} {tys : List (ClassId × FieldType)} {c : ClassId} {t : FieldType} {j : Nat} {c2 : ClassId} (hK1 : va_K D CLS (tys ++ [(c2, t)]) s) (hj : tys[j]? = some (c, t)) : c2 = c := by
  have h1 := (hK1.2 j _ (by rw [List.getElem?_append_left (List.getElem?_eq_some_iff.mp hj).1]; exact hj)).2
  have h2 := (hK1.2 tys.length (c2, t) (by simp)).2
  unfold va_RA at h1 h2
  cases t
  case object C =>
    obtain ⟨_, _, _, _, _, h1⟩ := h1
    obtain ⟨_, _, _, _, _, h2⟩ := h2
    exact Option.some.inj (h2.symm.trans h1)
  all_goals exact Option.some.inj (h2.symm.trans h1)
theorem V_newarray {pc t9 b c' N : Nat} {t : ArrayType} {v : Int32} {lv : LV} {st : List Value} {w : PW} (hf : fetch k pc = some (.newarray t, 2, t9, b, c')) (hv : ¬ v < 0) (hN : v.toNatClampNeg = N) (hB : N * 8 ≤ 536870912)
    (h : V x k mc ms (n + 1) (pc + 2, lv, .ref n :: st, pupd w n (zA t9 N)) Q) : V x k (mc + 1) (ms + N) n (pc, lv, .int v :: st, w) Q := by
  intro p l e R s m args below meth c Z E M ad cells slots h1 h2 hE H locs ls hC hS hl hlv hst
  obtain ⟨hd, hm⟩ := fetch_dec M.1 hf
  have hc := chk_all M.1 hm
  simp only [chk, Bool.and_eq_true, decide_eq_true_eq] at hc
  obtain ⟨-, ht5, htt⟩ := hc
  obtain ⟨hkn, hx, hb, hml, hown, hret, hlocks, htab, hin, hfl, hT, hV, hK, hX, hN', hU, hR1, hR2⟩ := id M
  obtain ⟨ws, hP, hD, hi, hj⟩ := id hC.1
  obtain ⟨ha1, ha2⟩ := ARR_ok t9 ht5
  dsimp only at hl hlv hst ⊢
  have hst' := vok_t hst
  have hcb : componentBytes (tyT t9) ≤ 8 := by
    match t9, ht5 with
    | 0, _ => decide
    | 1, _ => decide
    | 2, _ => decide
    | 3, _ => decide
    | 4, _ => decide
    | t + 5, h => omega
  have hBB : N * componentBytes (tyT t9) ≤ 536870912 := Nat.le_trans (Nat.mul_le_mul_left N hcb) hB
  have key : ∀ a0 : vp_A, zA t9 N = .inl (t9, a0) → (∀ cA : ClassId, vp_cell cA a0 = arrV cA N (fun _ => defaultValue (tyT t9))) → (∀ ad : Nat → Nat, ca ad a0 = a0) → aok (n + 1) a0 →
      W p l e R s m args below meth c H locs cells slots Z (F0 m pc ls (.int v :: st.map (cv E ad))) := by
    intro a0 he ha hca hok
    refine va_newa (ty := tyT t9) (a0 := a0) hx hb (by rw [htt]; exact hT _ ha1 ha2 _) htt hK hP hD hS (fun q hq => Nat.le_trans hN' hq) ha hv hN hBB (by omega) (by omega) hd ?_
    intro q cA H1 hK1 hP1 hD1 hS1
    have hcA : cA = eT E t9 := ty_uniq hK1 (TYS_at E (by omega))
    subst hcA
    refine SK_new (w := w) (e' := .inl (t9, a0)) hC hi hj hok (by simp only [ce, hca]) ?_ hl hlv hst' H1 locs hP1 hD1 hS1
    have hh := h p l e R s m args below meth c Z E M (va_up ad n q) (cells + 1) (slots + N) (by omega) (by omega) (ENDS_up (Nat.le_succ n) (fun i h => by simp only [va_up]; rw [if_neg (Nat.ne_of_lt h)]) (by omega) (by omega) hE)
    rw [he] at hh
    exact hh
  match t9, ht5, key with
  | 0, _, key => exact key _ rfl (fun _ => rfl) (fun _ => rfl) trivial
  | 1, _, key => exact key _ rfl (fun _ => rfl) (fun _ => rfl) trivial
  | 2, _, key => exact key _ rfl (fun _ => rfl) (fun _ => rfl) trivial
  | 3, _, key => exact key _ rfl (fun _ => rfl) (fun _ => rfl) trivial
  | 4, _, key => exact key _ rfl (fun _ => rfl) (fun _ => rfl) trivial
  | t + 5, h, _ => omega
theorem V_anewarray {pc i b c' N : Nat} {v : Int32} {lv : LV} {st : List Value} {w : PW} (hf : fetch k pc = some (.anewarray i, 3, 5, b, c')) (hv : ¬ v < 0) (hN : v.toNatClampNeg = N) (hB : N * 8 ≤ 536870912)
    (h : V x k mc ms (n + 1) (pc + 3, lv, .ref n :: st, pupd w n (zA 5 N)) Q) : V x k (mc + 1) (ms + N) n (pc, lv, .int v :: st, w) Q := by
  intro p l e R s m args below meth c Z E M ad cells slots h1 h2 hE H locs ls hC hS hl hlv hst
  obtain ⟨hd, hm⟩ := fetch_dec M.1 hf
  have hc := chk_all M.1 hm
  simp only [chk, Bool.and_eq_true] at hc
  replace hc := hc.2
  rw [if_pos trivial] at hc
  obtain ⟨hkn, hx, hb, hml, hown, hret, hlocks, htab, hin, hfl, hT, hV, hK, hX, hN', hU, hR1, hR2⟩ := id M
  obtain ⟨ws, hP, hD, hi, hj⟩ := id hC.1
  dsimp only at hl hlv hst ⊢
  have hst' := vok_t hst
  refine va_newq (C := RX0) hx hb hown (hT.use (wat_at hc) rfl _) hV.2.2.2 hK hP hD hS (fun q hq => Nat.le_trans hN' hq) hv hN (by omega) (by omega) (by omega) hd ?_
  intro q cA H1 hK1 hP1 hD1 hS1
  have hcA : cA = eT E 5 := ty_uniq hK1 (TYS_at E (by omega))
  subst hcA
  refine SK_new (w := w) (e' := zA 5 N) hC hi hj (fun _ _ h => by cases h) rfl ?_ hl hlv hst' H1 locs hP1 hD1 hS1
  exact h p l e R s m args below meth c Z E M (va_up ad n q) (cells + 1) (slots + N) (by omega) (by omega) (ENDS_up (Nat.le_succ n) (fun i h => by simp only [va_up]; rw [if_neg (Nat.ne_of_lt h)]) (by omega) (by omega) hE)
theorem OBJ_ok : (Jvm.Cond.instanceMethod objI ∈ TB ∧ okw (.instanceMethod objI) = true) ∧ Jvm.Cond.code objI ⟨#[0xb1]⟩ 1 none ∈ TB ∧ okw (.code objI ⟨#[0xb1]⟩ 1 none) = true := by decide +kernel
theorem cat_cv {E : ENV} {ad : Nat → Nat} (hU : (eU E).category = 1) (st : List Value) : ((st.map (cv E ad)).map fun v => v.category) = st.map fun v => v.category := by
  rw [List.map_map]
  exact List.map_congr_left fun v _ => cv_cat hU v
theorem V_objInit {pc i b c' a : Nat} {lv : LV} {st : List Value} {w : PW} (hf : fetch k pc = some (.invokespecial i, 3, 7, b, c')) (hs : (st.map fun v => v.category).sum ≤ 8)
    (h : V x k mc ms n (pc + 3, lv, st, w) Q) : V x k mc ms n (pc, lv, .ref a :: st, w) Q := by
  intro p l e R s m args below meth c Z E M ad cells slots h1 h2 hE H locs ls hC hS hl hlv hst
  obtain ⟨hd, hm⟩ := fetch_dec M.1 hf
  have hc := chk_all M.1 hm
  simp only [chk, Bool.and_eq_true] at hc
  replace hc := hc.2
  obtain ⟨hkn, hx, hb, hml, hown, hret, hlocks, htab, hin, hfl, hT, hV, hK, hX, hN', hU, hR1, hR2⟩ := id M
  obtain ⟨o1, o2⟩ := OBJ_ok
  dsimp only at hl hlv hst ⊢
  refine W.objInit (g := F0 m pc ls (.ref (ad a) :: st.map (cv E ad))) hx hb hown (hT.use (wat_at hc) rfl _) (hT _ o1.1 o1.2 _) (hT _ o2.1 o2.2 _) rfl (by rw [hml]; exact hl.1.1) rfl hd (by omega) (by
    show 2 * 0 + ((st.map (cv E ad)).map fun v => v.category).sum + 12 ≤ R.locals
    rw [cat_cv hU]; omega) ?_
  exact h p l e R s m args below meth c Z E M ad cells slots h1 h2 hE H locs ls hC hS hl hlv (vok_t hst)
theorem ACP_ok : (Jvm.Cond.native arraycopyName ∈ TB ∧ okw (.native arraycopyName) = true) ∧ (Jvm.Cond.static arraycopyName ∈ TB ∧ okw (.static arraycopyName) = true) ∧ Jvm.Cond.initialized "java/lang/System" ∈ TB ∧ okw (.initialized "java/lang/System") = true := by decide +kernel
/-- System.arraycopy between two rows of ints, chars or bytes of the world -/
theorem V_copy {pc i b c' a0 a1 t n0 n1 : Nat} {f0 f1 : Nat → Int32} {sp dp v : Int32} {lv : LV} {st : List Value} {w : PW} (hf : fetch k pc = some (.invokestatic i, 3, 8, b, c')) (ht : t < 3) (hw0 : w a0 = some (.inl (t, n0, .inl f0))) (hw1 : w a1 = some (.inl (t, n1, .inl f1)))
    (g1 : ¬ sp < 0) (g2 : ¬ dp < 0) (g3 : ¬ v < 0) (g4 : sp.toNatClampNeg + v.toNatClampNeg ≤ n0) (g5 : dp.toNatClampNeg + v.toNatClampNeg ≤ n1) (hfit : ∀ i, i < v.toNatClampNeg → fits (tyT t) (.int (f0 (sp.toNatClampNeg + i))) = true) (hs : (st.map fun v => v.category).sum ≤ 8)
    (h : V x k mc ms n (pc + 3, lv, st, pupd w a1 (.inl (t, n1, .inl (va_cpy f0 f1 sp.toNatClampNeg dp.toNatClampNeg v.toNatClampNeg)))) Q) : V x k mc ms n (pc, lv, .int v :: .int dp :: .ref a1 :: .int sp :: .ref a0 :: st, w) Q := by
  intro p l e R s m args below meth c Z E M ad cells slots h1 h2 hE H locs ls hC hS hl hlv hst
  obtain ⟨hd, hm⟩ := fetch_dec M.1 hf
  have hc := chk_all M.1 hm
  simp only [chk, Bool.and_eq_true] at hc
  replace hc := hc.2
  obtain ⟨hkn, hx, hb, hml, hown, hret, hlocks, htab, hin, hfl, hT, hV, hK, hX, hN', hU, hR1, hR2⟩ := id M
  obtain ⟨o1, o2, o3⟩ := ACP_ok
  obtain ⟨ws, hP, hD, hi, hj⟩ := id hC.1
  obtain ⟨q0, hq0⟩ := hi a0 _ hw0
  obtain ⟨q1, hq1⟩ := hi a1 _ hw1
  dsimp only at hl hlv hst ⊢
  have hst5 := vok_t (vok_t (vok_t (vok_t (vok_t hst))))
  have ht6 := TYS_at E (t := t) (by omega)
  have hpr : refKind (tyT t) = false := by
    match t, ht with
    | 0, _ => rfl
    | 1, _ => rfl
    | 2, _ => rfl
    | t + 3, h => omega
  refine va_copyi (ty := tyT t) hx hb (by rw [hml]; exact hl.1.1.symm) hown (hT.use (wat_at hc) rfl _) (hT _ o1.1 o1.2 _) (hT _ o2.1 o2.2 _) (hT _ o3.1 o3.2 _) hK hP hD hS q0 q1 t t (f := f0) (g := f1) hq0 hq1 ht6 ht6 hpr g1 g2 g3 g4 g5 hfit (by omega) (by
    show ((st.map (cv E ad)).map fun v => v.category).sum + (nativeFrameWords "java/lang/System" "arraycopy" 5 + 11) ≤ R.locals
    rw [cat_cv hU]
    have : nativeFrameWords "java/lang/System" "arraycopy" 5 ≤ 100 := by decide +kernel
    omega) hd ?_
  intro H1 locs1 hP1 hD1 hS1
  exact SK_set (g := (pc + 3, lv, st, _)) (e' := .inl (t, n1, .inl (va_cpy f0 f1 sp.toNatClampNeg dp.toNatClampNeg v.toNatClampNeg))) M hC hi hj hw1 hq1 rfl trivial rfl (h p l e R s m args below meth c Z E M ad cells slots h1 h2 hE) hl hlv hst5 H1 locs1 hP1 hD1 hS1
end CAL
