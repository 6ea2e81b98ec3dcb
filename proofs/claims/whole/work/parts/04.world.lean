/-! ABSTRACT WORLDS: places instead of addresses. A world is a partial function from places to cells; a value's reference is a place;
'ad' says where a place lies in the heap. Places below XN stand for things that were there before (constants, String constants, the script). -/
abbrev PE : Type := (Nat × vp_A) ⊕ (Nat × List Value)
abbrev PW : Type := Nat → Option PE
abbrev LV : Type := List (Option Value)
abbrev OUT : Type := (Option Value) ⊕ String
abbrev CFG : Type := Nat × LV × List Value × PW
abbrev QT : Type := OUT → PW → Nat → Prop
/-- class ids and slots; class ids of arrays by tag; where the old heap ends; a reference that nobody asks for; where the old things lie -/
abbrev ENV : Type := va_G × (Nat → ClassId) × Nat × Value × (Nat → Nat)
abbrev eD (E : ENV) : va_G := E.1
abbrev eT (E : ENV) : Nat → ClassId := E.2.1
abbrev eN (E : ENV) : Nat := E.2.2.1
abbrev eU (E : ENV) : Value := E.2.2.2.1
abbrev eX (E : ENV) : Nat → Nat := E.2.2.2.2
/-- how many old places -/
abbrev XN : Nat := 64
def cv (E : ENV) (ad : Nat → Nat) : Value → Value
  | .ref a => .ref (ad a)
  | .retAddr _ => eU E
  | v => v
def cr (ad : Nat → Nat) (f : Nat → Option Nat) : Nat → Option Nat := fun k => (f k).map ad
def ca (ad : Nat → Nat) : vp_A → vp_A
  | (n, .inr (.inr (.inr (.inr f)))) => (n, .inr (.inr (.inr (.inr (cr ad f)))))
  | x => x
def ce (E : ENV) (ad : Nat → Nat) : PE → va_E
  | .inl (t, a) => .inl (eT E t, ca ad a)
  | .inr (c, fs) => .inr (c, fs.map (cv E ad))
def tyT : Nat → FieldType
  | 0 => .int
  | 1 => .char
  | 2 => .byte
  | 3 => .long
  | 4 => .double
  | _ => .object RX0
abbrev TYS (E : ENV) : List (ClassId × FieldType) := [(eT E 0, .int), (eT E 1, .char), (eT E 2, .byte), (eT E 3, .long), (eT E 4, .double), (eT E 5, .object RX0)]
/-- the classes whose objects the worlds hold -/
abbrev CLS : List vw_C := [(RX0, TX0, 6), (RX3, TX3, 7), (RX4, TX4, 4), (RX5, TX5, 2), (RX6, TX6, 4), (RX7, TX7, 7), (RX8, TX8, 9), (RX9, TX9, 18), (RJ4, TJ4, 4)]
def vok (n : Nat) : Value → Prop
  | .ref a => a < n
  | _ => True
def aok (n : Nat) : vp_A → Prop
  | (_, .inr (.inr (.inr (.inr f)))) => ∀ k b, f k = some b → b < n
  | _ => True
def eok (n : Nat) : PE → Prop
  | .inl (_, a) => aok n a
  | .inr (_, fs) => ∀ v ∈ fs, vok n v
def wok (n : Nat) (w : PW) : Prop := ∀ i e, w i = some e → i < n ∧ XN ≤ i ∧ eok n e
def pupd (w : PW) (a : Nat) (e : PE) : PW := fun j => if j = a then some e else w j
theorem pupd_same (w : PW) (a : Nat) (e : PE) : pupd w a e a = some e := if_pos rfl
theorem pupd_ne {w : PW} {a b : Nat} {e : PE} (h : b ≠ a) : pupd w a e b = w b := if_neg h
theorem vok_mono {n n' : Nat} (h : n ≤ n') {v : Value} (hv : vok n v) : vok n' v := by
  cases v <;> first | trivial | exact Nat.lt_of_lt_of_le hv h
theorem aok_mono {n n' : Nat} (h : n ≤ n') {a : vp_A} (ha : aok n a) : aok n' a := by
  obtain ⟨k, f | f | f | f | f⟩ := a <;> first | trivial | exact fun k b hb => Nat.lt_of_lt_of_le (ha k b hb) h
theorem eok_mono {n n' : Nat} (h : n ≤ n') {e : PE} (he : eok n e) : eok n' e := by
  obtain ⟨t, a⟩ | ⟨c, fs⟩ := e
  · exact aok_mono h he
  · exact fun v hv => vok_mono h (he v hv)
/-- two placings agree below n -/
def agr (n : Nat) (ad ad' : Nat → Nat) : Prop := ∀ i, i < n → ad' i = ad i
theorem agr_rf {n : Nat} {ad : Nat → Nat} : agr n ad ad := fun _ _ => rfl
theorem agr_tr {n n' : Nat} {a b c : Nat → Nat} (h : n ≤ n') (h1 : agr n a b) (h2 : agr n' b c) : agr n a c := fun i hi => (h2 i (Nat.lt_of_lt_of_le hi h)).trans (h1 i hi)
theorem cv_agr {E : ENV} {n : Nat} {ad ad' : Nat → Nat} (h : agr n ad ad') {v : Value} (hv : vok n v) : cv E ad' v = cv E ad v := by
  cases v <;> first | rfl | exact congrArg Value.ref (h _ hv)
theorem cvs_agr {E : ENV} {n : Nat} {ad ad' : Nat → Nat} (h : agr n ad ad') {l : List Value} (hl : ∀ v ∈ l, vok n v) : l.map (cv E ad') = l.map (cv E ad) :=
  List.map_congr_left fun v hv => cv_agr h (hl v hv)
theorem ca_agr {n : Nat} {ad ad' : Nat → Nat} (h : agr n ad ad') {a : vp_A} (ha : aok n a) : ca ad' a = ca ad a := by
  obtain ⟨k, f | f | f | f | f⟩ := a <;> first | rfl | skip
  simp only [ca]
  congr 5
  funext j
  simp only [cr]
  cases hj : f j with
  | none => rfl
  | some b => simp only [Option.map_some]; rw [h b (ha j b hj)]
theorem ce_agr {E : ENV} {n : Nat} {ad ad' : Nat → Nat} (h : agr n ad ad') {e : PE} (he : eok n e) : ce E ad' e = ce E ad e := by
  obtain ⟨t, a⟩ | ⟨c, fs⟩ := e
  · simp only [ce]; rw [ca_agr h he]
  · simp only [ce]; rw [cvs_agr h he]
/-- the world lies in the heap, at addresses behind the old heap -/
def HW (E : ENV) (ad : Nat → Nat) (w : PW) (H : Heap) : Prop :=
  ∃ ws : va_W, va_P (eD E) CLS ws H ∧ va_D (fun q : Nat => eN E ≤ q) ws ∧ (∀ i e, w i = some e → ∃ k : Nat, ws[k]? = some (ad i, ce E ad e)) ∧ (∀ i j ei ej, w i = some ei → w j = some ej → ad i = ad j → i = j)
/-- .. and its references are places that there are -/
def HC (E : ENV) (ad : Nat → Nat) (n : Nat) (w : PW) (H : Heap) : Prop := HW E ad w H ∧ wok n w ∧ XN ≤ n ∧ ∀ i, i < XN → ad i = eX E i
theorem HW_at {E : ENV} {ad : Nat → Nat} {w : PW} {H : Heap} (h : HW E ad w H) {a : Nat} {e : PE} (ha : w a = some e) : va_at (eD E) CLS (ad a, ce E ad e) H := by
  obtain ⟨ws, hP, -, hi, -⟩ := h
  obtain ⟨k, hk⟩ := hi a e ha
  exact hP k _ hk
theorem HW_N {E : ENV} {ad : Nat → Nat} {w : PW} {H : Heap} (h : HW E ad w H) {a : Nat} {e : PE} (ha : w a = some e) : eN E ≤ ad a := by
  obtain ⟨ws, hP, hD, hi, -⟩ := h
  obtain ⟨k, hk⟩ := hi a e ha
  exact hD.2 k _ hk
/-- one cell of the world is written: the list that a row gives back holds the new world -/
theorem HW_set {E : ENV} {ad : Nat → Nat} {w : PW} {H1 : Heap} {ws : va_W} {k a : Nat} {e e' : PE} (hi : ∀ i e, w i = some e → ∃ k : Nat, ws[k]? = some (ad i, ce E ad e)) (hj : ∀ i j ei ej, w i = some ei → w j = some ej → ad i = ad j → i = j)
    (ha : w a = some e) (hk : ws[k]? = some (ad a, ce E ad e)) {x : va_E} (hx : x = ce E ad e') (hP : va_P (eD E) CLS (ws.set k (ad a, x)) H1) (hD : va_D (fun q : Nat => eN E ≤ q) (ws.set k (ad a, x))) : HW E ad (pupd w a e') H1 := by
  subst hx
  have hl := (List.getElem?_eq_some_iff.mp hk).1
  have key : ∀ i ei, pupd w a e' i = some ei → ∃ e0, w i = some e0 := by
    intro i ei h
    by_cases hia : i = a
    · exact ⟨e, by rw [hia]; exact ha⟩
    · exact ⟨ei, by rw [← h, pupd_ne hia]⟩
  refine ⟨_, hP, hD, fun i ei h => ?_, fun i j ei ej h1 h2 h3 => ?_⟩
  · by_cases hia : i = a
    · subst hia
      rw [pupd_same] at h
      cases h
      exact ⟨k, by rw [List.getElem?_set_self hl]⟩
    · rw [pupd_ne hia] at h
      obtain ⟨q, hq⟩ := hi i ei h
      refine ⟨q, ?_⟩
      rw [List.getElem?_set_ne]
      · exact hq
      · intro hkq
        rw [← hkq, hk] at hq
        have h9 : ad a = ad i := congrArg Prod.fst (Option.some.inj hq)
        exact hia (hj i a ei e h ha h9.symm)
  · obtain ⟨e1, g1⟩ := key i ei h1
    obtain ⟨e2, g2⟩ := key j ej h2
    exact hj i j e1 e2 g1 g2 h3
/-- a new cell, at the next place -/
theorem HW_new {E : ENV} {ad : Nat → Nat} {n : Nat} {w : PW} {H1 : Heap} {ws : va_W} {q : Nat} {e : PE} (hw : wok n w) (hi : ∀ i e, w i = some e → ∃ k : Nat, ws[k]? = some (ad i, ce E ad e)) (hj : ∀ i j ei ej, w i = some ei → w j = some ej → ad i = ad j → i = j)
    {x : va_E} (hx : x = ce E (va_up ad n q) e) (hP : va_P (eD E) CLS (ws ++ [(q, x)]) H1) (hD : va_D (fun q : Nat => eN E ≤ q) (ws ++ [(q, x)])) : HW E (va_up ad n q) (pupd w n e) H1 := by
  subst hx
  have ha : agr n ad (va_up ad n q) := fun i h => by simp only [va_up]; rw [if_neg (Nat.ne_of_lt h)]
  have hnn : va_up ad n q n = q := by simp [va_up]
  have hold : ∀ i ei, w i = some ei → ∃ k : Nat, (ws ++ [(q, ce E (va_up ad n q) e)])[k]? = some (va_up ad n q i, ce E (va_up ad n q) ei) ∧ k < ws.length := by
    intro i ei h
    obtain ⟨k, hk⟩ := hi i ei h
    obtain ⟨h1, -, h3⟩ := hw i ei h
    refine ⟨k, ?_, (List.getElem?_eq_some_iff.mp hk).1⟩
    rw [List.getElem?_append_left (List.getElem?_eq_some_iff.mp hk).1, hk, ha i h1, ce_agr ha h3]
  have hlast : (ws ++ [(q, ce E (va_up ad n q) e)])[ws.length]? = some (va_up ad n q n, ce E (va_up ad n q) e) := by
    rw [List.getElem?_append_right (Nat.le_refl _), Nat.sub_self, hnn]; rfl
  refine ⟨_, hP, hD, fun i ei h => ?_, fun i j ei ej h1 h2 h3 => ?_⟩
  · by_cases hin : i = n
    · subst hin
      rw [pupd_same] at h
      cases h
      exact ⟨_, hlast⟩
    · rw [pupd_ne hin] at h
      obtain ⟨k, hk, -⟩ := hold i ei h
      exact ⟨k, hk⟩
  · by_cases hin : i = n <;> by_cases hjn : j = n
    · omega
    · exfalso
      subst hin
      rw [pupd_ne hjn] at h2
      obtain ⟨k, hk, hkl⟩ := hold j ej h2
      have h9 := hD.1 _ _ _ _ hlast hk h3
      omega
    · exfalso
      subst hjn
      rw [pupd_ne hin] at h1
      obtain ⟨k, hk, hkl⟩ := hold i ei h1
      have h9 := hD.1 _ _ _ _ hk hlast h3
      omega
    · rw [pupd_ne hin] at h1
      rw [pupd_ne hjn] at h2
      rw [ha i (hw i ei h1).1, ha j (hw j ej h2).1] at h3
      exact hj i j ei ej h1 h2 h3
theorem wok_upd {n : Nat} {w : PW} {a : Nat} {e e' : PE} (hw : wok n w) (ha : w a = some e) (he : eok n e') : wok n (pupd w a e') := by
  intro i ei h
  by_cases hia : i = a
  · subst hia
    rw [pupd_same] at h
    cases h
    exact ⟨(hw _ _ ha).1, (hw _ _ ha).2.1, he⟩
  · rw [pupd_ne hia] at h
    exact hw i ei h
theorem wok_mono {n n' : Nat} {w : PW} (h : n ≤ n') (hw : wok n w) : wok n' w := fun i e hi => ⟨Nat.lt_of_lt_of_le (hw i e hi).1 h, (hw i e hi).2.1, eok_mono h (hw i e hi).2.2⟩
theorem wok_new {n : Nat} {w : PW} {e : PE} (hX : XN ≤ n) (hw : wok n w) (he : eok (n + 1) e) : wok (n + 1) (pupd w n e) := by
  intro i ei h
  by_cases hin : i = n
  · subst hin
    rw [pupd_same] at h
    cases h
    exact ⟨Nat.lt_succ_self _, hX, he⟩
  · rw [pupd_ne hin] at h
    exact wok_mono (Nat.le_succ n) hw i ei h
theorem HW_agr {E : ENV} {ad ad' : Nat → Nat} {n : Nat} {w : PW} {H : Heap} (hw : wok n w) (ha : agr n ad ad') (h : HW E ad w H) : HW E ad' w H := by
  obtain ⟨ws, hP, hD, hi, hj⟩ := h
  refine ⟨ws, hP, hD, fun i e h => ?_, fun i j ei ej h1 h2 h3 => ?_⟩
  · obtain ⟨k, hk⟩ := hi i e h
    refine ⟨k, ?_⟩
    rw [hk, ha i (hw i e h).1, ce_agr ha (hw i e h).2.2]
  · rw [ha i (hw i ei h1).1, ha j (hw j ej h2).1] at h3
    exact hj i j ei ej h1 h2 h3
/-- the heap behind the old one stays -/
theorem HW_kept {E : ENV} {ad : Nat → Nat} {w : PW} {H H1 : Heap} (h : HW E ad w H) (hk : ∀ q : Nat, q < H.size → eN E ≤ q → H1[q]? = H[q]?) : HW E ad w H1 := by
  obtain ⟨ws, hP, hD, hi, hj⟩ := h
  exact ⟨ws, hP.kept fun k q hq => hk q.1 ((hP k q hq).lt) (hD.2 k q hq), hD, hi, hj⟩
/-! LOCALS: a list of what is known, by index -/
def asc (E : ENV) (ad : Nat → Nat) (lv : LV) : List (Nat × Value) := (lv.zipIdx).filterMap fun q => q.1.map fun v => (q.2, cv E ad v)
theorem asc_mem {E : ENV} {ad : Nat → Nat} {lv : LV} {i : Nat} {v : Value} (h : lv[i]? = some (some v)) : (i, cv E ad v) ∈ asc E ad lv := by
  refine List.mem_filterMap.mpr ⟨(some v, i), ?_, rfl⟩
  rw [List.mem_zipIdx_iff_getElem?]
  exact h
theorem asc_of {E : ENV} {ad : Nat → Nat} {lv : LV} {q : Nat × Value} (h : q ∈ asc E ad lv) : ∃ v, lv[q.1]? = some (some v) ∧ q.2 = cv E ad v := by
  obtain ⟨x, hx, hq⟩ := List.mem_filterMap.mp h
  obtain ⟨v0, i⟩ := x
  rw [List.mem_zipIdx_iff_getElem?] at hx
  cases v0 with
  | none => cases hq
  | some v => cases hq; exact ⟨v, hx, rfl⟩
def lz (E : ENV) (ad : Nat → Nat) (nL : Nat) (ls : Array Slot) (lv : LV) : Prop := lv_has ls nL (asc E ad lv) ∧ lv.length = nL
theorem lz_at {E : ENV} {ad : Nat → Nat} {nL : Nat} {ls : Array Slot} {lv : LV} (h : lz E ad nL ls lv) {i : Nat} {v : Value} (hi : lv[i]? = some (some v)) : ls[i]? = some (.val (cv E ad v)) := h.1.2.2 _ (asc_mem hi)
def lvok (n : Nat) (lv : LV) : Prop := ∀ (i : Nat) (v : Value), lv[i]? = some (some v) → vok n v
theorem cv_cat {E : ENV} {ad : Nat → Nat} (hU : (eU E).category = 1) (v : Value) : (cv E ad v).category = v.category := by
  cases v <;> first | rfl | exact hU
/-- the local behind which a wide value would be cut: none such -/
def cut1 (lv : LV) (i : Nat) : Bool := match i with
  | 0 => true
  | j + 1 => match lv[j]? with
    | some (some v) => v.category == 1
    | _ => true
def st1 (lv : LV) (i : Nat) (v : Value) : LV := lv.set i (some v)
def st2 (lv : LV) (i : Nat) (v : Value) : LV := (lv.set i (some v)).set (i + 1) none
theorem lz_st1 {E : ENV} {ad : Nat → Nat} {nL : Nat} {ls' : Array Slot} {lv : LV} {i : Nat} {v : Value} (hU : (eU E).category = 1) (hcut : cut1 lv i = true) (hlen : lv.length = nL) (hi : i < nL)
    (h : lv_has ls' nL ((i, cv E ad v) :: (asc E ad lv).filter (fun q => !(q.1 == i) && !(q.1 + 1 == i && q.2.category == 2)))) : lz E ad nL ls' (st1 lv i v) := by
  refine ⟨⟨h.1, h.2.1, fun q hq => h.2.2 q ?_⟩, by simp [st1, hlen]⟩
  obtain ⟨u, hu, e⟩ := asc_of hq
  by_cases hqi : q.1 = i
  · have : u = v := by
      rw [hqi, st1, List.getElem?_set_self (by omega)] at hu
      cases hu
      rfl
    subst this
    have : q = (i, cv E ad u) := by rw [← hqi, ← e]
    rw [this]
    exact List.mem_cons_self
  · rw [st1, List.getElem?_set_ne (fun h => hqi h.symm)] at hu
    refine List.mem_cons_of_mem _ (List.mem_filter.mpr ⟨?_, ?_⟩)
    · have := asc_mem (E := E) (ad := ad) hu
      rw [← e] at this
      exact this
    · have h1 : (q.1 == i) = false := by simp [hqi]
      have h2 : (q.1 + 1 == i && q.2.category == 2) = false := by
        by_cases hq1 : q.1 + 1 = i
        · subst hq1
          simp only [cut1, hu] at hcut
          rw [e, cv_cat hU]
          simp only [beq_iff_eq] at hcut
          simp [hcut]
        · simp [hq1]
      rw [h1, h2]
      rfl
theorem lz_st2 {E : ENV} {ad : Nat → Nat} {nL : Nat} {ls' : Array Slot} {lv : LV} {i : Nat} {v : Value} (hU : (eU E).category = 1) (hcut : cut1 lv i = true) (hlen : lv.length = nL) (hi : i + 1 < nL)
    (h : lv_has ls' nL ((i, cv E ad v) :: (asc E ad lv).filter (fun q => !(q.1 == i) && (!(q.1 == i + 1) && !(q.1 + 1 == i && q.2.category == 2))))) : lz E ad nL ls' (st2 lv i v) := by
  refine ⟨⟨h.1, h.2.1, fun q hq => h.2.2 q ?_⟩, by simp [st2, hlen]⟩
  obtain ⟨u, hu, e⟩ := asc_of hq
  by_cases hq2 : q.1 = i + 1
  · rw [hq2, st2, List.getElem?_set_self (by simp; omega)] at hu
    cases hu
  rw [st2, List.getElem?_set_ne (fun h => hq2 h.symm)] at hu
  by_cases hqi : q.1 = i
  · have : u = v := by
      rw [hqi, List.getElem?_set_self (by omega)] at hu
      cases hu
      rfl
    subst this
    have : q = (i, cv E ad u) := by rw [← hqi, ← e]
    rw [this]
    exact List.mem_cons_self
  · rw [List.getElem?_set_ne (fun h => hqi h.symm)] at hu
    refine List.mem_cons_of_mem _ (List.mem_filter.mpr ⟨?_, ?_⟩)
    · have := asc_mem (E := E) (ad := ad) hu
      rw [← e] at this
      exact this
    · have h1 : (q.1 == i) = false := by simp [hqi]
      have h1b : (q.1 == i + 1) = false := by simp [hq2]
      have h2 : (q.1 + 1 == i && q.2.category == 2) = false := by
        by_cases hq1 : q.1 + 1 = i
        · subst hq1
          simp only [cut1, hu] at hcut
          rw [e, cv_cat hU]
          simp only [beq_iff_eq] at hcut
          simp [hcut]
        · simp [hq1]
      rw [h1, h1b, h2]
      rfl
theorem lz_agr {E : ENV} {n : Nat} {ad ad' : Nat → Nat} {nL : Nat} {ls : Array Slot} {lv : LV} (ha : agr n ad ad') (hv : lvok n lv) (h : lz E ad nL ls lv) : lz E ad' nL ls lv := by
  refine ⟨⟨h.1.1, h.1.2.1, fun q hq => ?_⟩, h.2⟩
  obtain ⟨u, hu, e⟩ := asc_of hq
  have h9 := lz_at h hu
  rw [e, cv_agr ha (hv _ _ hu)]
  exact h9
theorem lz_weak {E : ENV} {ad : Nat → Nat} {nL : Nat} {ls : Array Slot} {lv lv' : LV} (hl : lv'.length = lv.length) (hs : ∀ (i : Nat) (v : Value), lv'[i]? = some (some v) → lv[i]? = some (some v)) (h : lz E ad nL ls lv) : lz E ad nL ls lv' := by
  refine ⟨⟨h.1.1, h.1.2.1, fun q hq => ?_⟩, hl.trans h.2⟩
  obtain ⟨u, hu, e⟩ := asc_of hq
  rw [e]
  exact lz_at h (hs _ _ hu)
theorem lvok_st1 {n : Nat} {lv : LV} {i : Nat} {v : Value} (h : lvok n lv) (hv : vok n v) : lvok n (st1 lv i v) := by
  intro j u hj
  by_cases hji : i = j
  · subst hji
    rw [st1, List.getElem?_set] at hj
    simp only [if_true] at hj
    split at hj
    · cases hj; exact hv
    · cases hj
  · rw [st1, List.getElem?_set_ne hji] at hj
    exact h j u hj
theorem lvok_st2 {n : Nat} {lv : LV} {i : Nat} {v : Value} (h : lvok n lv) (hv : vok n v) : lvok n (st2 lv i v) := by
  intro j u hj
  by_cases hj1 : i + 1 = j
  · subst hj1
    rw [st2, List.getElem?_set] at hj
    simp only [if_true] at hj
    split at hj <;> cases hj
  · rw [st2, List.getElem?_set_ne hj1] at hj
    exact lvok_st1 h hv j u hj
