/-! THE MODEL'S CHANGES with their beginning and their keeping -/
section MWR
set_option maxRecDepth 20000
variable {x : SX} {n b c q : Nat} {w : PW} {m s z7 : NS} {K : Nat → NS} {cs : Nat → Nat}
def MW (x : SX) (n b : Nat) (w : PW) (m s : NS) (c q : Nat) (K : Nat → NS) (cs : Nat → Nat) (z7 : NS) (k u v z : Int32) (code : Nat → Int32) (o : Option RR) : Prop :=
  (ftS s c k u v z = 0 → ∃ m', o = some (.inl (some (.int (pfS s c k u v z).1)), setM w b m', n) ∧ RJ (pfS s c k u v z).2 (m' 1) (pcS s c k u v z) ∧ HM m' (hiN q) (K1 K z7) (cs1 cs c) ∧ m' 20 13 = 0 ∧ Keep m m') ∧
  (¬ ftS s c k u v z = 0 → ∃ m', o = some (.inl (some (.int 0)), setM w b m', n) ∧ RJ s (m' 1) c ∧ HM m' q K cs ∧ m' 20 13 = code (ftS s c k u v z) ∧ Keep m m')
theorem mw_of {k u v z : Int32} {code : Nat → Int32} {o : NS → Option RR} {O : Option RR} (hR : RJ s (m 1) c) (hH : HM m q K cs) (hcode : ∀ f, ¬ f = 0 → ¬ code f = 0)
    (hM : ∀ m : NS, Rel s (m 1) c → MCH x n b w m s c k u v z code (o m)) (hJ : ftS s c k u v z = 0 → JC (pfS s c k u v z).2 (pcS s c k u v z)) (hz7 : EC z7 s)
    (hO : ∀ mm m' r, (ftS s c k u v z = 0 → r = (pfS s c k u v z).1) → (¬ ftS s c k u v z = 0 → r = 0) → o (ua m 2 (cp84 (m 1) 0 (m 2) 0 84)) = some (.inl (some (.int r)), setM w b mm, n) → RM x 199 [.ref b, .int r] (setM w b mm) n = some (.inl (some (.int r)), setM w b m', n) → O = some (.inl (some (.int r)), setM w b m', n)) :
    MW x n b w m s c q K cs z7 k u v z code O := by
  obtain ⟨h1, h2⟩ := kept_of hR hH hcode hM hJ z7 hz7
  refine ⟨fun hf => ?_, fun hf => ?_⟩
  · obtain ⟨mm, m', a1, a2, a3⟩ := h1 hf
    exact ⟨m', hO mm m' _ (fun _ => rfl) (fun h => absurd hf h) a1 a2, a3⟩
  · obtain ⟨mm, m', a1, a2, a3⟩ := h2 hf
    exact ⟨m', hO mm m' _ (fun h => absurd h hf) (fun _ => rfl) a1 a2, a3⟩
theorem code0_n : ∀ f, ¬ f = 0 → ¬ code0 f = 0 := fun f _ => by unfold code0; decide
theorem code1_n : ∀ f, ¬ f = 0 → ¬ code1 f = 0 := fun f _ => by
  unfold code1
  split
  · decide
  · split <;> decide
theorem code5_n : ∀ f, ¬ f = 0 → ¬ code5 f = 0 := fun f _ => by
  unfold code5
  split
  · decide
  · split <;> decide
theorem codeB_n : ∀ f, ¬ f = 0 → ¬ codeB f = 0 := fun f _ => by
  unfold codeB
  split <;> decide
variable {u v z : Int32}
theorem c218 {d : Bool} (hR : RJ s (m 1) c) (hH : HM m q K cs) (hz7 : EC z7 s) (hJ : ftS s c 0 u v (cond d 100 117) = 0 → JC (pfS s c 0 u v (cond d 100 117)).2 (pcS s c 0 u v (cond d 100 117))) : MW x n b w m s c q K cs z7 0 u v (cond d 100 117) codeB (RM x 218 [.ref b, .int u, .int v, .int (bi d)] (setM w b m) n) := by
  refine mw_of hR hH codeB_n (o := fun m => RM x 217 [.ref b, .int u, .int v, .int (bi d)] (setM w b m) n) (fun m h => c217 h) hJ hz7 (fun mm m' r _ _ e1 e2 => ?_)
  simp only [csN, csm_i, csm_r, Nat.reduceAdd, Nat.reduceLeDiff, wdI, wdR, wdN, clM_0, clC_0, clC_1, clC_6, clC_8, true_or, or_true, i10, i01, ob_some, ob_map, cal_v, rvs_some, rvs_none, XO_at, cal_x, m218, r218_0, r218_1, r218_4, r218_5, r218_6, r218_7, r218_8, r218_9, r218_12, r218_15, c198, e1, e2]
theorem c222 (hR : RJ s (m 1) c) (hH : HM m q K cs) (hz7 : EC z7 s) (hJ : ftS s c 1 u v z = 0 → JC (pfS s c 1 u v z).2 (pcS s c 1 u v z)) : MW x n b w m s c q K cs z7 1 u v z code1 (RM x 222 [.ref b, .int u, .int v, .int z] (setM w b m) n) := by
  refine mw_of hR hH code1_n (o := fun m => RM x 221 [.ref b, .int u, .int v, .int z] (setM w b m) n) (fun m h => c221 h) hJ hz7 (fun mm m' r _ _ e1 e2 => ?_)
  simp only [csN, csm_i, csm_r, Nat.reduceAdd, Nat.reduceLeDiff, wdI, wdR, wdN, clM_0, clC_0, clC_1, clC_6, clC_8, true_or, or_true, i10, i01, ob_some, ob_map, cal_v, rvs_some, rvs_none, XO_at, cal_x, m222, r222_0, r222_1, r222_4, r222_5, r222_6, r222_7, r222_8, r222_9, r222_12, r222_15, c198, e1, e2]
theorem c224 (hR : RJ s (m 1) c) (hH : HM m q K cs) (hz7 : EC z7 s) (hJ : ftS s c 2 u v z = 0 → JC (pfS s c 2 u v z).2 (pcS s c 2 u v z)) : MW x n b w m s c q K cs z7 2 u v z code1 (RM x 224 [.ref b, .int u, .int v] (setM w b m) n) := by
  refine mw_of hR hH code1_n (o := fun m => RM x 223 [.ref b, .int u, .int v] (setM w b m) n) (fun m h => c223 h) hJ hz7 (fun mm m' r _ _ e1 e2 => ?_)
  simp only [csN, csm_i, csm_r, Nat.reduceAdd, Nat.reduceLeDiff, wdI, wdR, wdN, clM_0, clC_0, clC_1, clC_6, clC_8, true_or, or_true, i10, i01, ob_some, ob_map, cal_v, rvs_some, rvs_none, XO_at, cal_x, m224, r224_0, r224_1, r224_4, r224_5, r224_6, r224_7, r224_8, r224_11, r224_14, c198, e1, e2]
theorem c228 (hR : RJ s (m 1) c) (hH : HM m q K cs) (hz7 : EC z7 s) (hJ : ftS s c 4 u v z = 0 → JC (pfS s c 4 u v z).2 (pcS s c 4 u v z)) : MW x n b w m s c q K cs z7 4 u v z code0 (RM x 228 [.ref b, .int u] (setM w b m) n) := by
  refine mw_of hR hH code0_n (o := fun m => RM x 227 [.ref b, .int u] (setM w b m) n) (fun m h => c227 h) hJ hz7 (fun mm m' r _ _ e1 e2 => ?_)
  simp only [csN, csm_i, csm_r, Nat.reduceAdd, Nat.reduceLeDiff, wdI, wdR, wdN, clM_0, clC_0, clC_1, clC_6, clC_8, true_or, or_true, i10, i01, ob_some, ob_map, cal_v, rvs_some, rvs_none, XO_at, cal_x, m228, r228_0, r228_1, r228_4, r228_5, r228_6, r228_7, r228_10, r228_13, c198, e1, e2]
theorem c230 (hR : RJ s (m 1) c) (hH : HM m q K cs) (hz7 : EC z7 s) (hJ : ftS s c 5 u v z = 0 → JC (pfS s c 5 u v z).2 (pcS s c 5 u v z)) : MW x n b w m s c q K cs z7 5 u v z code5 (RM x 230 [.ref b, .int u, .int v] (setM w b m) n) := by
  refine mw_of hR hH code5_n (o := fun m => RM x 229 [.ref b, .int u, .int v] (setM w b m) n) (fun m h => c229 h hR.2.1) hJ hz7 (fun mm m' r _ _ e1 e2 => ?_)
  simp only [csN, csm_i, csm_r, Nat.reduceAdd, Nat.reduceLeDiff, wdI, wdR, wdN, clM_0, clC_0, clC_1, clC_6, clC_8, true_or, or_true, i10, i01, ob_some, ob_map, cal_v, rvs_some, rvs_none, XO_at, cal_x, m230, r230_0, r230_1, r230_4, r230_5, r230_6, r230_7, r230_8, r230_11, r230_14, c198, e1, e2]
theorem c220 (hR : RJ s (m 1) c) (hH : HM m q K cs) (hz7 : EC z7 s) (hJ : ftS s c 6 u v z = 0 → JC (pfS s c 6 u v z).2 (pcS s c 6 u v z)) : MW x n b w m s c q K cs z7 6 u v z code0 (RM x 220 [.ref b, .int u] (setM w b m) n) := by
  refine mw_of hR hH code0_n (o := fun m => RM x 219 [.ref b, .int u] (setM w b m) n) (fun m h => c219 h) hJ hz7 (fun mm m' r _ _ e1 e2 => ?_)
  simp only [csN, csm_i, csm_r, Nat.reduceAdd, Nat.reduceLeDiff, wdI, wdR, wdN, clM_0, clC_0, clC_1, clC_6, clC_8, true_or, or_true, i10, i01, ob_some, ob_map, cal_v, rvs_some, rvs_none, XO_at, cal_x, m220, r220_0, r220_1, r220_4, r220_5, r220_6, r220_7, r220_10, r220_13, c198, e1, e2]
theorem c236 (hR : RJ s (m 1) c) (hH : HM m q K cs) (hz7 : EC z7 s) (hJ : ftS s c 7 u v z = 0 → JC (pfS s c 7 u v z).2 (pcS s c 7 u v z)) : MW x n b w m s c q K cs z7 7 u v z code0 (RM x 236 [.ref b, .int u] (setM w b m) n) := by
  refine mw_of hR hH code0_n (o := fun m => RM x 235 [.ref b, .int u] (setM w b m) n) (fun m h => c235 h) hJ hz7 (fun mm m' r _ _ e1 e2 => ?_)
  simp only [csN, csm_i, csm_r, Nat.reduceAdd, Nat.reduceLeDiff, wdI, wdR, wdN, clM_0, clC_0, clC_1, clC_6, clC_8, true_or, or_true, i10, i01, ob_some, ob_map, cal_v, rvs_some, rvs_none, XO_at, cal_x, m236, r236_0, r236_1, r236_4, r236_5, r236_6, r236_7, r236_10, r236_13, c198, e1, e2]
theorem c226 (hR : RJ s (m 1) c) (hH : HM m q K cs) (hz7 : EC z7 s) (hJ : ftS s c 3 u v z = 0 → JC (pfS s c 3 u v z).2 (pcS s c 3 u v z)) : MW x n b w m s c q K cs z7 3 u v z code1 (RM x 226 [.ref b, .int u, .int v] (setM w b m) n) := by
  have hk := hR.1.1.1.1.2.2
  have cz : ((0 : Int32).toUInt32 % 65536).toInt32 = 0 ∧ (0 : Int32).toUInt32.toUInt16.toUInt32.toInt32 = 0 := by decide
  have ck : ∀ y : Int32, isKd y → (y.toUInt32 % 65536).toInt32 = y ∧ y.toUInt32.toUInt16.toUInt32.toInt32 = y := fun y hy => by
    rcases hy with rfl | rfl | rfl | rfl <;> decide
  refine mw_of hR hH code1_n (o := fun m => RM x 225 [.ref b, .int u, .int v] (setM w b m) n) (fun m h => c225 h) hJ hz7 (fun mm m' r r0 r1 e1 e2 => ?_)
  have hr : (r.toUInt32 % 65536).toInt32 = r ∧ r.toUInt32.toUInt16.toUInt32.toInt32 = r := by
    by_cases hf : ftS s c 3 u v z = 0
    · rw [r0 hf]
      have hu : rg u 5 = true := by
        unfold ftS at hf
        rw [if_neg (by decide), if_neg (by decide), if_neg (by decide), if_pos rfl] at hf
        cases h : rg u 5 with
        | true => rfl
        | false => rw [h] at hf; cases hf
      obtain ⟨g, hg, rfl⟩ := rg_nat (N := 5) (by omega) hu
      have : (pfS s c 3 (Int32.ofNat g) v z).1 = s 2 g := by
        unfold pfS
        rw [if_neg (by decide), if_neg (by decide), if_neg (by decide), if_pos rfl, i32_cl (by omega)]
      rw [this]
      exact ck _ (hk g hg)
    · rw [r1 hf]; exact cz
  simp only [csN, csm_i, csm_r, Nat.reduceAdd, Nat.reduceLeDiff, wdI, wdR, wdN, clM_0, clC_0, clC_1, clC_6, clC_8, true_or, or_true, i10, i01, ob_some, ob_map, cal_v, rvs_some, rvs_none, XO_at, cal_x, m226, r226_0, r226_1, r226_4, r226_5, r226_6, r226_7, r226_8, r226_11, r226_14, r226_15, c198, e1, e2, hr.1, hr.2]
end MWR
