/-! WHAT THE TURNS REST ON: by program (wip/whole/mk23.py) -/
section TRN
variable {x : SX} {n p q : Nat} {lv l : LV} {st : List Value} {w : PW} {u v : Int32} {ju jv : Int64} {fu fv : UInt32} {du dv : UInt64} {a0 a1 a2 a3 a4 a5 a6 a7 a8 a9 a10 a11 a12 a13 a14 a15 a16 : Option Value}
theorem icm1 : Int32.ofInt (-1) = (-1) := by decide +kernel
theorem ic0 : Int32.ofInt 0 = 0 := by decide +kernel
theorem ic1 : Int32.ofInt 1 = 1 := by decide +kernel
theorem ic2 : Int32.ofInt 2 = 2 := by decide +kernel
theorem ic3 : Int32.ofInt 3 = 3 := by decide +kernel
theorem ic4 : Int32.ofInt 4 = 4 := by decide +kernel
theorem ic5 : Int32.ofInt 5 = 5 := by decide +kernel
theorem ic8 : Int32.ofInt 8 = 8 := by decide +kernel
theorem ibm100 : (Int8.ofInt (-100)).toInt32 = (-100) := by decide +kernel
theorem ibm10 : (Int8.ofInt (-10)).toInt32 = (-10) := by decide +kernel
theorem ibm9 : (Int8.ofInt (-9)).toInt32 = (-9) := by decide +kernel
theorem ib6 : (Int8.ofInt 6).toInt32 = 6 := by decide +kernel
theorem ib7 : (Int8.ofInt 7).toInt32 = 7 := by decide +kernel
theorem ib8 : (Int8.ofInt 8).toInt32 = 8 := by decide +kernel
theorem ib9 : (Int8.ofInt 9).toInt32 = 9 := by decide +kernel
theorem ib10 : (Int8.ofInt 10).toInt32 = 10 := by decide +kernel
theorem ib11 : (Int8.ofInt 11).toInt32 = 11 := by decide +kernel
theorem ib12 : (Int8.ofInt 12).toInt32 = 12 := by decide +kernel
theorem ib14 : (Int8.ofInt 14).toInt32 = 14 := by decide +kernel
theorem ib15 : (Int8.ofInt 15).toInt32 = 15 := by decide +kernel
theorem ib16 : (Int8.ofInt 16).toInt32 = 16 := by decide +kernel
theorem ib19 : (Int8.ofInt 19).toInt32 = 19 := by decide +kernel
theorem ib20 : (Int8.ofInt 20).toInt32 = 20 := by decide +kernel
theorem ib29 : (Int8.ofInt 29).toInt32 = 29 := by decide +kernel
theorem ib32 : (Int8.ofInt 32).toInt32 = 32 := by decide +kernel
theorem ib39 : (Int8.ofInt 39).toInt32 = 39 := by decide +kernel
theorem ib42 : (Int8.ofInt 42).toInt32 = 42 := by decide +kernel
theorem ib44 : (Int8.ofInt 44).toInt32 = 44 := by decide +kernel
theorem ib45 : (Int8.ofInt 45).toInt32 = 45 := by decide +kernel
theorem ib48 : (Int8.ofInt 48).toInt32 = 48 := by decide +kernel
theorem ib52 : (Int8.ofInt 52).toInt32 = 52 := by decide +kernel
theorem ib57 : (Int8.ofInt 57).toInt32 = 57 := by decide +kernel
theorem ib58 : (Int8.ofInt 58).toInt32 = 58 := by decide +kernel
theorem ib59 : (Int8.ofInt 59).toInt32 = 59 := by decide +kernel
theorem ib60 : (Int8.ofInt 60).toInt32 = 60 := by decide +kernel
theorem ib63 : (Int8.ofInt 63).toInt32 = 63 := by decide +kernel
theorem ib68 : (Int8.ofInt 68).toInt32 = 68 := by decide +kernel
theorem ib73 : (Int8.ofInt 73).toInt32 = 73 := by decide +kernel
theorem ib76 : (Int8.ofInt 76).toInt32 = 76 := by decide +kernel
theorem ib77 : (Int8.ofInt 77).toInt32 = 77 := by decide +kernel
theorem ib84 : (Int8.ofInt 84).toInt32 = 84 := by decide +kernel
theorem ib90 : (Int8.ofInt 90).toInt32 = 90 := by decide +kernel
theorem ib97 : (Int8.ofInt 97).toInt32 = 97 := by decide +kernel
theorem ib100 : (Int8.ofInt 100).toInt32 = 100 := by decide +kernel
theorem ib101 : (Int8.ofInt 101).toInt32 = 101 := by decide +kernel
theorem ib103 : (Int8.ofInt 103).toInt32 = 103 := by decide +kernel
theorem ib105 : (Int8.ofInt 105).toInt32 = 105 := by decide +kernel
theorem ib108 : (Int8.ofInt 108).toInt32 = 108 := by decide +kernel
theorem ib109 : (Int8.ofInt 109).toInt32 = 109 := by decide +kernel
theorem ib110 : (Int8.ofInt 110).toInt32 = 110 := by decide +kernel
theorem ib111 : (Int8.ofInt 111).toInt32 = 111 := by decide +kernel
theorem ib114 : (Int8.ofInt 114).toInt32 = 114 := by decide +kernel
theorem ib117 : (Int8.ofInt 117).toInt32 = 117 := by decide +kernel
theorem ib118 : (Int8.ofInt 118).toInt32 = 118 := by decide +kernel
theorem ib119 : (Int8.ofInt 119).toInt32 = 119 := by decide +kernel
theorem ib120 : (Int8.ofInt 120).toInt32 = 120 := by decide +kernel
theorem ib124 : (Int8.ofInt 124).toInt32 = 124 := by decide +kernel
theorem ib126 : (Int8.ofInt 126).toInt32 = 126 := by decide +kernel
theorem is137 : (Int16.ofInt 137).toInt32 = 137 := by decide +kernel
theorem is145 : (Int16.ofInt 145).toInt32 = 145 := by decide +kernel
theorem is200 : (Int16.ofInt 200).toInt32 = 200 := by decide +kernel
theorem is240 : (Int16.ofInt 240).toInt32 = 240 := by decide +kernel
theorem is255 : (Int16.ofInt 255).toInt32 = 255 := by decide +kernel
theorem is273 : (Int16.ofInt 273).toInt32 = 273 := by decide +kernel
theorem is360 : (Int16.ofInt 360).toInt32 = 360 := by decide +kernel
theorem is588 : (Int16.ofInt 588).toInt32 = 588 := by decide +kernel
theorem is672 : (Int16.ofInt 672).toInt32 = 672 := by decide +kernel
theorem is4095 : (Int16.ofInt 4095).toInt32 = 4095 := by decide +kernel
theorem ne_ti {v i : Int32} {j : Int} (h : ¬ v = i) (hj : i.toInt = j) : ¬ v.toInt = j := fun e => h (Int32.toInt_inj.mp (e.trans hj.symm))
theorem ok1 {a0 a1 : Option Value} {l : LV} (h : wd a0 = true) : oks (a0 :: a1 :: l) 1 = true := oks_1.trans h
theorem ok2 {a0 a1 a2 : Option Value} {l : LV} (h : wd a1 = true) : oks (a0 :: a1 :: a2 :: l) 2 = true := (oks_s (i := 0)).trans (ok1 h)
theorem ok3 {a0 a1 a2 a3 : Option Value} {l : LV} (h : wd a2 = true) : oks (a0 :: a1 :: a2 :: a3 :: l) 3 = true := (oks_s (i := 1)).trans (ok2 h)
theorem ok4 {a0 a1 a2 a3 a4 : Option Value} {l : LV} (h : wd a3 = true) : oks (a0 :: a1 :: a2 :: a3 :: a4 :: l) 4 = true := (oks_s (i := 2)).trans (ok3 h)
theorem ok5 {a0 a1 a2 a3 a4 a5 : Option Value} {l : LV} (h : wd a4 = true) : oks (a0 :: a1 :: a2 :: a3 :: a4 :: a5 :: l) 5 = true := (oks_s (i := 3)).trans (ok4 h)
theorem ok6 {a0 a1 a2 a3 a4 a5 a6 : Option Value} {l : LV} (h : wd a5 = true) : oks (a0 :: a1 :: a2 :: a3 :: a4 :: a5 :: a6 :: l) 6 = true := (oks_s (i := 4)).trans (ok5 h)
theorem ok7 {a0 a1 a2 a3 a4 a5 a6 a7 : Option Value} {l : LV} (h : wd a6 = true) : oks (a0 :: a1 :: a2 :: a3 :: a4 :: a5 :: a6 :: a7 :: l) 7 = true := (oks_s (i := 5)).trans (ok6 h)
theorem ok8 {a0 a1 a2 a3 a4 a5 a6 a7 a8 : Option Value} {l : LV} (h : wd a7 = true) : oks (a0 :: a1 :: a2 :: a3 :: a4 :: a5 :: a6 :: a7 :: a8 :: l) 8 = true := (oks_s (i := 6)).trans (ok7 h)
theorem inc0 {a0 : Option Value} {l : LV} {v e : Int32} {d : Int} (hd : Int32.ofInt d = e) : incv (some (.int v) :: l) 0 d = some (some (.int (v + e)) :: l) := by
  subst hd
  exact incv_z
theorem inc1 {a0 : Option Value} {l : LV} {v e : Int32} {d : Int} (hd : Int32.ofInt d = e) (h : wd a0 = true) : incv (a0 :: some (.int v) :: l) 1 d = some (a0 :: some (.int (v + e)) :: l) := by
  subst hd
  show cond (oks _ 1) (some (st1 _ 1 _)) none = _
  rw [ok1 h]
  rfl
theorem inc2 {a0 a1 : Option Value} {l : LV} {v e : Int32} {d : Int} (hd : Int32.ofInt d = e) (h : wd a1 = true) : incv (a0 :: a1 :: some (.int v) :: l) 2 d = some (a0 :: a1 :: some (.int (v + e)) :: l) := by
  subst hd
  show cond (oks _ 2) (some (st1 _ 2 _)) none = _
  rw [ok2 h]
  rfl
theorem inc3 {a0 a1 a2 : Option Value} {l : LV} {v e : Int32} {d : Int} (hd : Int32.ofInt d = e) (h : wd a2 = true) : incv (a0 :: a1 :: a2 :: some (.int v) :: l) 3 d = some (a0 :: a1 :: a2 :: some (.int (v + e)) :: l) := by
  subst hd
  show cond (oks _ 3) (some (st1 _ 3 _)) none = _
  rw [ok3 h]
  rfl
theorem inc4 {a0 a1 a2 a3 : Option Value} {l : LV} {v e : Int32} {d : Int} (hd : Int32.ofInt d = e) (h : wd a3 = true) : incv (a0 :: a1 :: a2 :: a3 :: some (.int v) :: l) 4 d = some (a0 :: a1 :: a2 :: a3 :: some (.int (v + e)) :: l) := by
  subst hd
  show cond (oks _ 4) (some (st1 _ 4 _)) none = _
  rw [ok4 h]
  rfl
theorem inc5 {a0 a1 a2 a3 a4 : Option Value} {l : LV} {v e : Int32} {d : Int} (hd : Int32.ofInt d = e) (h : wd a4 = true) : incv (a0 :: a1 :: a2 :: a3 :: a4 :: some (.int v) :: l) 5 d = some (a0 :: a1 :: a2 :: a3 :: a4 :: some (.int (v + e)) :: l) := by
  subst hd
  show cond (oks _ 5) (some (st1 _ 5 _)) none = _
  rw [ok5 h]
  rfl
theorem inc6 {a0 a1 a2 a3 a4 a5 : Option Value} {l : LV} {v e : Int32} {d : Int} (hd : Int32.ofInt d = e) (h : wd a5 = true) : incv (a0 :: a1 :: a2 :: a3 :: a4 :: a5 :: some (.int v) :: l) 6 d = some (a0 :: a1 :: a2 :: a3 :: a4 :: a5 :: some (.int (v + e)) :: l) := by
  subst hd
  show cond (oks _ 6) (some (st1 _ 6 _)) none = _
  rw [ok6 h]
  rfl
theorem inc7 {a0 a1 a2 a3 a4 a5 a6 : Option Value} {l : LV} {v e : Int32} {d : Int} (hd : Int32.ofInt d = e) (h : wd a6 = true) : incv (a0 :: a1 :: a2 :: a3 :: a4 :: a5 :: a6 :: some (.int v) :: l) 7 d = some (a0 :: a1 :: a2 :: a3 :: a4 :: a5 :: a6 :: some (.int (v + e)) :: l) := by
  subst hd
  show cond (oks _ 7) (some (st1 _ 7 _)) none = _
  rw [ok7 h]
  rfl
theorem inc8 {a0 a1 a2 a3 a4 a5 a6 a7 : Option Value} {l : LV} {v e : Int32} {d : Int} (hd : Int32.ofInt d = e) (h : wd a7 = true) : incv (a0 :: a1 :: a2 :: a3 :: a4 :: a5 :: a6 :: a7 :: some (.int v) :: l) 8 d = some (a0 :: a1 :: a2 :: a3 :: a4 :: a5 :: a6 :: a7 :: some (.int (v + e)) :: l) := by
  subst hd
  show cond (oks _ 8) (some (st1 _ 8 _)) none = _
  rw [ok8 h]
  rfl
def XO : String → PW → Nat → Option RR := fun X w n => some (.inr X, w, n)
def XNo : String → PW → Nat → Option RR := fun _ _ _ => none
theorem XO_at {X : String} : XO X w n = some (.inr X, w, n) := rfl
section CLB
variable {k pc c i a j N L : Nat} {st0 as st' : List Value}
theorem rc_callL (hf : fetch k pc = some (cins a i, 3, a, j, c)) (hL : mL j = L) (hk : (a == 0 || a == 1 || a == 2 || a == 4 || a == 5 || a == 6) = true) (hj : (j == 11 || j == 12) = false) (ok : okj k a j L = true) (hN : cgN a j = N) (hl : (st0.take N).length = N) (has : (st0.take N).reverse = as) (hst : st0.drop N = st')
    (hlv : Nat.ble (lvl as).length L = true) (h : csm st' ≤ 8) (hr : a = 1 ∨ a = 4 ∨ rokB w j as = true) : RC x k pc lv st0 w n = cal (RM x j as w n) (fun v w' n' => RC x k (pc + 3) lv (rvs v st') w' n') (xat k pc a lv x) := by
  subst hL
  exact rc_call hf hk hj ok hN hl has hst (Nat.le_of_ble_eq_true hlv) h hr
theorem rc_callO (hf : fetch k pc = some (cins a i, 3, a, j, c)) (hL : mL j = L) (hk : (a == 0 || a == 1 || a == 2 || a == 4 || a == 5 || a == 6) = true) (hj : (j == 11 || j == 12) = false) (ok : okj k a j L = true) (hN : cgN a j = N) (hl : (st0.take N).length = N) (has : (st0.take N).reverse = as) (hst : st0.drop N = st')
    (hlv : Nat.ble (lvl as).length L = true) (h : csm st' ≤ 8) (hr : a = 1 ∨ a = 4 ∨ rokB w j as = true) (hm : ((mH k).isEmpty && (a == 0 || a == 1)) = true) : RC x k pc lv st0 w n = cal (RM x j as w n) (fun v w' n' => RC x k (pc + 3) lv (rvs v st') w' n') XO := by
  rw [rc_callL hf hL hk hj ok hN hl has hst hlv h hr]
  rw [Bool.and_eq_true] at hm
  congr 1
  funext X w' n'
  exact xat_n hm.2 hm.1
theorem rc_callS (hf : fetch k pc = some (cins a i, 3, a, j, c)) (hL : mL j = L) (hk : (a == 2 || a == 4 || a == 5 || a == 6) = true) (hj : (j == 11 || j == 12) = false) (ok : okj k a j L = true) (hN : cgN a j = N) (hl : (st0.take N).length = N) (has : (st0.take N).reverse = as) (hst : st0.drop N = st')
    (hlv : Nat.ble (lvl as).length L = true) (h : csm st' ≤ 8) (hr : a = 1 ∨ a = 4 ∨ rokB w j as = true) : RC x k pc lv st0 w n = cal (RM x j as w n) (fun v w' n' => RC x k (pc + 3) lv (rvs v st') w' n') XNo := by
  have ha : ¬ (a = 0 ∨ a = 1) := by
    intro z
    rcases z with rfl | rfl <;> cases hk
  rw [rc_callL hf hL (by simp only [Bool.or_eq_true] at hk ⊢; rcases hk with ((h1 | h1) | h1) | h1 <;> simp [h1]) hj ok hN hl has hst hlv h hr]
  congr 1
  funext X w' n'
  unfold xat
  rw [if_neg ha]
  rfl
end CLB
def fs0 : List Value := [.null, .null, .null, .int 0, .int 0, .int 0]
theorem dfl0 : dfl 0 = fs0 := by rfl
def fs1 : List Value := [.null, .null, .null, .null, .null, .int 0, .int 0]
theorem dfl1 : dfl 1 = fs1 := by rfl
def fs2 : List Value := [.null, .null, .null, .null]
theorem dfl2 : dfl 2 = fs2 := by rfl
def fs3 : List Value := [.null, .int 0]
theorem dfl3 : dfl 3 = fs3 := by rfl
def fs4 : List Value := [.null, .int 0, .int 0, .int 0]
theorem dfl4 : dfl 4 = fs4 := by rfl
def fs5 : List Value := [.null, .int 0, .null, .null, .int 0, .int 0, .int 0]
theorem dfl5 : dfl 5 = fs5 := by rfl
def fs6 : List Value := [.null, .null, .null, .int 0, .null, .null, .null, .int 0, .int 0]
theorem dfl6 : dfl 6 = fs6 := by rfl
def fs7 : List Value := [.null, .null, .null, .null, .int 0, .null, .int 0, .null, .int 0, .int 0, .int 0, .null, .int 0, .int 0, .null, .int 0, .int 0, .null]
theorem dfl7 : dfl 7 = fs7 := by rfl
def fs8 : List Value := [.null, .int 0, .int 0, .int 0]
theorem dfl8 : dfl 8 = fs8 := by rfl
theorem ml0 : mL 0 = 2 := by decide +kernel
theorem m0 {z0 : Nat} {z1 : Int32} : RM x 0 [.ref z0, .int z1] w n = RC x 0 0 [some (.ref z0), some (.int z1)] [] w n := by unfold RM; rw [ml0]; rfl
theorem ml1 : mL 1 = 1 := by decide +kernel
theorem m1 {z0 : Nat} : RM x 1 [.ref z0] w n = RC x 1 0 [some (.ref z0)] [] w n := by unfold RM; rw [ml1]; rfl
theorem ml2 : mL 2 = 3 := by decide +kernel
theorem m2 {z0 : Nat} {z1 : Int32} : RM x 2 [.ref z0, .int z1] w n = RC x 2 0 [some (.ref z0), some (.int z1), none] [] w n := by unfold RM; rw [ml2]; rfl
theorem ml3 : mL 3 = 6 := by decide +kernel
theorem m3 {z0 : Nat} {z1 : Int32} : RM x 3 [.ref z0, .int z1] w n = RC x 3 0 [some (.ref z0), some (.int z1), none, none, none, none] [] w n := by unfold RM; rw [ml3]; rfl
theorem ml4 : mL 4 = 2 := by decide +kernel
theorem m4 {z0 : Nat} {z1 : Int32} : RM x 4 [.ref z0, .int z1] w n = RC x 4 0 [some (.ref z0), some (.int z1)] [] w n := by unfold RM; rw [ml4]; rfl
theorem ml5 : mL 5 = 5 := by decide +kernel
theorem m5 {z0 : Nat} {z1 : Int32} : RM x 5 [.ref z0, .int z1] w n = RC x 5 0 [some (.ref z0), some (.int z1), none, none, none] [] w n := by unfold RM; rw [ml5]; rfl
theorem ml6 : mL 6 = 2 := by decide +kernel
theorem m6 {z0 : Nat} {z1 : Int32} : RM x 6 [.ref z0, .int z1] w n = RC x 6 0 [some (.ref z0), some (.int z1)] [] w n := by unfold RM; rw [ml6]; rfl
theorem ml7 : mL 7 = 4 := by decide +kernel
theorem m7 {z0 : Nat} {z1 : Int32} : RM x 7 [.ref z0, .int z1] w n = RC x 7 0 [some (.ref z0), some (.int z1), none, none] [] w n := by unfold RM; rw [ml7]; rfl
theorem ml8 : mL 8 = 1 := by decide +kernel
theorem m8 {z0 : Nat} : RM x 8 [.ref z0] w n = RC x 8 0 [some (.ref z0)] [] w n := by unfold RM; rw [ml8]; rfl
theorem ml9 : mL 9 = 7 := by decide +kernel
theorem m9 {z0 : Int32} {z1 : Int32} {z2 : Nat} : RM x 9 [.int z0, .int z1, .ref z2] w n = RC x 9 0 [some (.int z0), some (.int z1), some (.ref z2), none, none, none, none] [] w n := by unfold RM; rw [ml9]; rfl
theorem ml10 : mL 10 = 4 := by decide +kernel
theorem m10 {z0 : Int32} : RM x 10 [.int z0] w n = RC x 10 0 [some (.int z0), none, none, none] [] w n := by unfold RM; rw [ml10]; rfl
theorem ml13 : mL 13 = 1 := by decide +kernel
theorem m13 {z0 : Nat} : RM x 13 [.ref z0] w n = RC x 13 0 [some (.ref z0)] [] w n := by unfold RM; rw [ml13]; rfl
theorem ml14 : mL 14 = 2 := by decide +kernel
theorem m14 {z0 : Nat} {z1 : Int32} : RM x 14 [.ref z0, .int z1] w n = RC x 14 0 [some (.ref z0), some (.int z1)] [] w n := by unfold RM; rw [ml14]; rfl
theorem ml15 : mL 15 = 2 := by decide +kernel
theorem m15 {z0 : Nat} {z1 : Int32} : RM x 15 [.ref z0, .int z1] w n = RC x 15 0 [some (.ref z0), some (.int z1)] [] w n := by unfold RM; rw [ml15]; rfl
theorem ml16 : mL 16 = 3 := by decide +kernel
theorem m16 {z0 : Nat} {z1 : Int32} {z2 : Int32} : RM x 16 [.ref z0, .int z1, .int z2] w n = RC x 16 0 [some (.ref z0), some (.int z1), some (.int z2)] [] w n := by unfold RM; rw [ml16]; rfl
theorem ml17 : mL 17 = 1 := by decide +kernel
theorem m17 {z0 : Nat} : RM x 17 [.ref z0] w n = RC x 17 0 [some (.ref z0)] [] w n := by unfold RM; rw [ml17]; rfl
theorem ml18 : mL 18 = 1 := by decide +kernel
theorem m18 {z0 : Nat} : RM x 18 [.ref z0] w n = RC x 18 0 [some (.ref z0)] [] w n := by unfold RM; rw [ml18]; rfl
theorem ml19 : mL 19 = 2 := by decide +kernel
theorem m19 {z0 : Int32} {z1 : Int32} : RM x 19 [.int z0, .int z1] w n = RC x 19 0 [some (.int z0), some (.int z1)] [] w n := by unfold RM; rw [ml19]; rfl
theorem ml20 : mL 20 = 1 := by decide +kernel
theorem m20 {z0 : Nat} : RM x 20 [.ref z0] w n = RC x 20 0 [some (.ref z0)] [] w n := by unfold RM; rw [ml20]; rfl
theorem ml21 : mL 21 = 2 := by decide +kernel
theorem m21 {z0 : Nat} {z1 : Int32} : RM x 21 [.ref z0, .int z1] w n = RC x 21 0 [some (.ref z0), some (.int z1)] [] w n := by unfold RM; rw [ml21]; rfl
theorem ml22 : mL 22 = 2 := by decide +kernel
theorem m22 {z0 : Nat} {z1 : Int32} : RM x 22 [.ref z0, .int z1] w n = RC x 22 0 [some (.ref z0), some (.int z1)] [] w n := by unfold RM; rw [ml22]; rfl
theorem ml23 : mL 23 = 2 := by decide +kernel
theorem m23 {z0 : Nat} {z1 : Int32} : RM x 23 [.ref z0, .int z1] w n = RC x 23 0 [some (.ref z0), some (.int z1)] [] w n := by unfold RM; rw [ml23]; rfl
theorem ml24 : mL 24 = 2 := by decide +kernel
theorem m24 {z0 : Nat} {z1 : Int32} : RM x 24 [.ref z0, .int z1] w n = RC x 24 0 [some (.ref z0), some (.int z1)] [] w n := by unfold RM; rw [ml24]; rfl
theorem ml25 : mL 25 = 1 := by decide +kernel
theorem m25 {z0 : Nat} : RM x 25 [.ref z0] w n = RC x 25 0 [some (.ref z0)] [] w n := by unfold RM; rw [ml25]; rfl
theorem ml26 : mL 26 = 2 := by decide +kernel
theorem m26 {z0 : Nat} {z1 : Int32} : RM x 26 [.ref z0, .int z1] w n = RC x 26 0 [some (.ref z0), some (.int z1)] [] w n := by unfold RM; rw [ml26]; rfl
theorem ml27 : mL 27 = 1 := by decide +kernel
theorem m27 {z0 : Int32} : RM x 27 [.int z0] w n = RC x 27 0 [some (.int z0)] [] w n := by unfold RM; rw [ml27]; rfl
theorem ml28 : mL 28 = 1 := by decide +kernel
theorem m28 {z0 : Int32} : RM x 28 [.int z0] w n = RC x 28 0 [some (.int z0)] [] w n := by unfold RM; rw [ml28]; rfl
theorem ml29 : mL 29 = 4 := by decide +kernel
theorem m29 {z0 : Nat} {z1 : Int32} {z2 : Int32} {z3 : Int32} : RM x 29 [.ref z0, .int z1, .int z2, .int z3] w n = RC x 29 0 [some (.ref z0), some (.int z1), some (.int z2), some (.int z3)] [] w n := by unfold RM; rw [ml29]; rfl
theorem ml30 : mL 30 = 6 := by decide +kernel
theorem m30 {z0 : Nat} {z1 : Int32} {z2 : Int32} {z3 : Int32} : RM x 30 [.ref z0, .int z1, .int z2, .int z3] w n = RC x 30 0 [some (.ref z0), some (.int z1), some (.int z2), some (.int z3), none, none] [] w n := by unfold RM; rw [ml30]; rfl
theorem ml31 : mL 31 = 3 := by decide +kernel
theorem m31 {z0 : Nat} {z1 : Int32} : RM x 31 [.ref z0, .int z1] w n = RC x 31 0 [some (.ref z0), some (.int z1), none] [] w n := by unfold RM; rw [ml31]; rfl
theorem ml32 : mL 32 = 4 := by decide +kernel
theorem m32 {z0 : Int32} {z1 : Int32} {z2 : Int32} : RM x 32 [.int z0, .int z1, .int z2] w n = RC x 32 0 [some (.int z0), some (.int z1), some (.int z2), none] [] w n := by unfold RM; rw [ml32]; rfl
theorem ml33 : mL 33 = 3 := by decide +kernel
theorem m33 {z0 : Int32} {z1 : Int32} {z2 : Nat} : RM x 33 [.int z0, .int z1, .ref z2] w n = RC x 33 0 [some (.int z0), some (.int z1), some (.ref z2)] [] w n := by unfold RM; rw [ml33]; rfl
theorem ml34 : mL 34 = 1 := by decide +kernel
theorem m34 {z0 : Nat} : RM x 34 [.ref z0] w n = RC x 34 0 [some (.ref z0)] [] w n := by unfold RM; rw [ml34]; rfl
theorem ml35 : mL 35 = 4 := by decide +kernel
theorem m35 {z0 : Nat} {z1 : Int32} {z2 : Int32} {z3 : Int32} : RM x 35 [.ref z0, .int z1, .int z2, .int z3] w n = RC x 35 0 [some (.ref z0), some (.int z1), some (.int z2), some (.int z3)] [] w n := by unfold RM; rw [ml35]; rfl
theorem ml36 : mL 36 = 4 := by decide +kernel
theorem m36 {z0 : Nat} {z1 : Int32} {z2 : Int32} {z3 : Int32} : RM x 36 [.ref z0, .int z1, .int z2, .int z3] w n = RC x 36 0 [some (.ref z0), some (.int z1), some (.int z2), some (.int z3)] [] w n := by unfold RM; rw [ml36]; rfl
theorem ml37 : mL 37 = 3 := by decide +kernel
theorem m37 {z0 : Nat} {z1 : Int32} {z2 : Int32} : RM x 37 [.ref z0, .int z1, .int z2] w n = RC x 37 0 [some (.ref z0), some (.int z1), some (.int z2)] [] w n := by unfold RM; rw [ml37]; rfl
theorem ml38 : mL 38 = 3 := by decide +kernel
theorem m38 {z0 : Nat} {z1 : Int32} {z2 : Int32} : RM x 38 [.ref z0, .int z1, .int z2] w n = RC x 38 0 [some (.ref z0), some (.int z1), some (.int z2)] [] w n := by unfold RM; rw [ml38]; rfl
theorem ml39 : mL 39 = 2 := by decide +kernel
theorem m39 {z0 : Nat} {z1 : Int32} : RM x 39 [.ref z0, .int z1] w n = RC x 39 0 [some (.ref z0), some (.int z1)] [] w n := by unfold RM; rw [ml39]; rfl
theorem ml40 : mL 40 = 3 := by decide +kernel
theorem m40 {z0 : Nat} {z1 : Int32} {z2 : Int32} : RM x 40 [.ref z0, .int z1, .int z2] w n = RC x 40 0 [some (.ref z0), some (.int z1), some (.int z2)] [] w n := by unfold RM; rw [ml40]; rfl
theorem ml41 : mL 41 = 2 := by decide +kernel
theorem m41 {z0 : Nat} {z1 : Int32} : RM x 41 [.ref z0, .int z1] w n = RC x 41 0 [some (.ref z0), some (.int z1)] [] w n := by unfold RM; rw [ml41]; rfl
theorem ml42 : mL 42 = 2 := by decide +kernel
theorem m42 {z0 : Nat} {z1 : Int32} : RM x 42 [.ref z0, .int z1] w n = RC x 42 0 [some (.ref z0), some (.int z1)] [] w n := by unfold RM; rw [ml42]; rfl
theorem ml43 : mL 43 = 2 := by decide +kernel
theorem m43 {z0 : Nat} {z1 : Int32} : RM x 43 [.ref z0, .int z1] w n = RC x 43 0 [some (.ref z0), some (.int z1)] [] w n := by unfold RM; rw [ml43]; rfl
theorem ml44 : mL 44 = 2 := by decide +kernel
theorem m44 {z0 : Nat} {z1 : Int32} : RM x 44 [.ref z0, .int z1] w n = RC x 44 0 [some (.ref z0), some (.int z1)] [] w n := by unfold RM; rw [ml44]; rfl
theorem ml45 : mL 45 = 3 := by decide +kernel
theorem m45 {z0 : Nat} {z1 : Int32} : RM x 45 [.ref z0, .int z1] w n = RC x 45 0 [some (.ref z0), some (.int z1), none] [] w n := by unfold RM; rw [ml45]; rfl
theorem ml46 : mL 46 = 3 := by decide +kernel
theorem m46 {z0 : Nat} {z1 : Int32} {z2 : Int32} : RM x 46 [.ref z0, .int z1, .int z2] w n = RC x 46 0 [some (.ref z0), some (.int z1), some (.int z2)] [] w n := by unfold RM; rw [ml46]; rfl
theorem ml47 : mL 47 = 4 := by decide +kernel
theorem m47 {z0 : Nat} {z1 : Int32} : RM x 47 [.ref z0, .int z1] w n = RC x 47 0 [some (.ref z0), some (.int z1), none, none] [] w n := by unfold RM; rw [ml47]; rfl
theorem ml48 : mL 48 = 3 := by decide +kernel
theorem m48 {z0 : Nat} {z1 : Int32} : RM x 48 [.ref z0, .int z1] w n = RC x 48 0 [some (.ref z0), some (.int z1), none] [] w n := by unfold RM; rw [ml48]; rfl
theorem ml49 : mL 49 = 3 := by decide +kernel
theorem m49 {z0 : Nat} {z1 : Int32} {z2 : Int32} : RM x 49 [.ref z0, .int z1, .int z2] w n = RC x 49 0 [some (.ref z0), some (.int z1), some (.int z2)] [] w n := by unfold RM; rw [ml49]; rfl
theorem ml50 : mL 50 = 3 := by decide +kernel
theorem m50 {z0 : Nat} {z1 : Int32} {z2 : Int32} : RM x 50 [.ref z0, .int z1, .int z2] w n = RC x 50 0 [some (.ref z0), some (.int z1), some (.int z2)] [] w n := by unfold RM; rw [ml50]; rfl
theorem ml51 : mL 51 = 3 := by decide +kernel
theorem m51 {z0 : Nat} {z1 : Int32} {z2 : Int32} : RM x 51 [.ref z0, .int z1, .int z2] w n = RC x 51 0 [some (.ref z0), some (.int z1), some (.int z2)] [] w n := by unfold RM; rw [ml51]; rfl
theorem ml52 : mL 52 = 2 := by decide +kernel
theorem m52 {z0 : Nat} {z1 : Int32} : RM x 52 [.ref z0, .int z1] w n = RC x 52 0 [some (.ref z0), some (.int z1)] [] w n := by unfold RM; rw [ml52]; rfl
theorem ml53 : mL 53 = 2 := by decide +kernel
theorem m53 {z0 : Nat} {z1 : Int32} : RM x 53 [.ref z0, .int z1] w n = RC x 53 0 [some (.ref z0), some (.int z1)] [] w n := by unfold RM; rw [ml53]; rfl
theorem ml54 : mL 54 = 3 := by decide +kernel
theorem m54 {z0 : Nat} {z1 : Int32} : RM x 54 [.ref z0, .int z1] w n = RC x 54 0 [some (.ref z0), some (.int z1), none] [] w n := by unfold RM; rw [ml54]; rfl
theorem ml55 : mL 55 = 2 := by decide +kernel
theorem m55 {z0 : Nat} {z1 : Int32} : RM x 55 [.ref z0, .int z1] w n = RC x 55 0 [some (.ref z0), some (.int z1)] [] w n := by unfold RM; rw [ml55]; rfl
theorem ml56 : mL 56 = 2 := by decide +kernel
theorem m56 {z0 : Nat} {z1 : Int32} : RM x 56 [.ref z0, .int z1] w n = RC x 56 0 [some (.ref z0), some (.int z1)] [] w n := by unfold RM; rw [ml56]; rfl
theorem ml57 : mL 57 = 4 := by decide +kernel
theorem m57 {z0 : Nat} {z1 : Int32} {z2 : Int32} : RM x 57 [.ref z0, .int z1, .int z2] w n = RC x 57 0 [some (.ref z0), some (.int z1), some (.int z2), none] [] w n := by unfold RM; rw [ml57]; rfl
theorem ml58 : mL 58 = 1 := by decide +kernel
theorem m58 {z0 : Nat} : RM x 58 [.ref z0] w n = RC x 58 0 [some (.ref z0)] [] w n := by unfold RM; rw [ml58]; rfl
theorem ml59 : mL 59 = 2 := by decide +kernel
theorem m59 {z0 : Nat} {z1 : Int32} : RM x 59 [.ref z0, .int z1] w n = RC x 59 0 [some (.ref z0), some (.int z1)] [] w n := by unfold RM; rw [ml59]; rfl
theorem ml60 : mL 60 = 2 := by decide +kernel
theorem m60 {z0 : Nat} {z1 : Int32} : RM x 60 [.ref z0, .int z1] w n = RC x 60 0 [some (.ref z0), some (.int z1)] [] w n := by unfold RM; rw [ml60]; rfl
theorem ml61 : mL 61 = 2 := by decide +kernel
theorem m61 {z0 : Nat} {z1 : Int32} : RM x 61 [.ref z0, .int z1] w n = RC x 61 0 [some (.ref z0), some (.int z1)] [] w n := by unfold RM; rw [ml61]; rfl
theorem ml62 : mL 62 = 2 := by decide +kernel
theorem m62 {z0 : Nat} {z1 : Int32} : RM x 62 [.ref z0, .int z1] w n = RC x 62 0 [some (.ref z0), some (.int z1)] [] w n := by unfold RM; rw [ml62]; rfl
theorem ml63 : mL 63 = 2 := by decide +kernel
theorem m63 {z0 : Nat} {z1 : Int32} : RM x 63 [.ref z0, .int z1] w n = RC x 63 0 [some (.ref z0), some (.int z1)] [] w n := by unfold RM; rw [ml63]; rfl
theorem ml64 : mL 64 = 2 := by decide +kernel
theorem m64 {z0 : Nat} {z1 : Int32} : RM x 64 [.ref z0, .int z1] w n = RC x 64 0 [some (.ref z0), some (.int z1)] [] w n := by unfold RM; rw [ml64]; rfl
theorem ml65 : mL 65 = 2 := by decide +kernel
theorem m65 {z0 : Nat} {z1 : Int32} : RM x 65 [.ref z0, .int z1] w n = RC x 65 0 [some (.ref z0), some (.int z1)] [] w n := by unfold RM; rw [ml65]; rfl
theorem ml66 : mL 66 = 3 := by decide +kernel
theorem m66 {z0 : Nat} {z1 : Int32} : RM x 66 [.ref z0, .int z1] w n = RC x 66 0 [some (.ref z0), some (.int z1), none] [] w n := by unfold RM; rw [ml66]; rfl
theorem ml67 : mL 67 = 4 := by decide +kernel
theorem m67 {z0 : Nat} {z1 : Int32} {z2 : Int32} : RM x 67 [.ref z0, .int z1, .int z2] w n = RC x 67 0 [some (.ref z0), some (.int z1), some (.int z2), none] [] w n := by unfold RM; rw [ml67]; rfl
theorem ml68 : mL 68 = 1 := by decide +kernel
theorem m68 {z0 : Nat} : RM x 68 [.ref z0] w n = RC x 68 0 [some (.ref z0)] [] w n := by unfold RM; rw [ml68]; rfl
theorem ml69 : mL 69 = 1 := by decide +kernel
theorem m69 {z0 : Nat} : RM x 69 [.ref z0] w n = RC x 69 0 [some (.ref z0)] [] w n := by unfold RM; rw [ml69]; rfl
theorem ml70 : mL 70 = 1 := by decide +kernel
theorem m70 {z0 : Nat} : RM x 70 [.ref z0] w n = RC x 70 0 [some (.ref z0)] [] w n := by unfold RM; rw [ml70]; rfl
theorem ml71 : mL 71 = 1 := by decide +kernel
theorem m71 {z0 : Nat} : RM x 71 [.ref z0] w n = RC x 71 0 [some (.ref z0)] [] w n := by unfold RM; rw [ml71]; rfl
theorem ml72 : mL 72 = 1 := by decide +kernel
theorem m72 {z0 : Nat} : RM x 72 [.ref z0] w n = RC x 72 0 [some (.ref z0)] [] w n := by unfold RM; rw [ml72]; rfl
theorem ml73 : mL 73 = 1 := by decide +kernel
theorem m73 {z0 : Nat} : RM x 73 [.ref z0] w n = RC x 73 0 [some (.ref z0)] [] w n := by unfold RM; rw [ml73]; rfl
theorem ml74 : mL 74 = 1 := by decide +kernel
theorem m74 {z0 : Nat} : RM x 74 [.ref z0] w n = RC x 74 0 [some (.ref z0)] [] w n := by unfold RM; rw [ml74]; rfl
theorem ml75 : mL 75 = 1 := by decide +kernel
theorem m75 {z0 : Nat} : RM x 75 [.ref z0] w n = RC x 75 0 [some (.ref z0)] [] w n := by unfold RM; rw [ml75]; rfl
theorem ml76 : mL 76 = 1 := by decide +kernel
theorem m76 {z0 : Nat} : RM x 76 [.ref z0] w n = RC x 76 0 [some (.ref z0)] [] w n := by unfold RM; rw [ml76]; rfl
theorem ml77 : mL 77 = 3 := by decide +kernel
theorem m77 {z0 : Nat} {z1 : Int32} : RM x 77 [.ref z0, .int z1] w n = RC x 77 0 [some (.ref z0), some (.int z1), none] [] w n := by unfold RM; rw [ml77]; rfl
theorem ml78 : mL 78 = 1 := by decide +kernel
theorem m78 {z0 : Nat} : RM x 78 [.ref z0] w n = RC x 78 0 [some (.ref z0)] [] w n := by unfold RM; rw [ml78]; rfl
theorem ml79 : mL 79 = 3 := by decide +kernel
theorem m79 {z0 : Nat} {z1 : Int32} : RM x 79 [.ref z0, .int z1] w n = RC x 79 0 [some (.ref z0), some (.int z1), none] [] w n := by unfold RM; rw [ml79]; rfl
theorem ml80 : mL 80 = 4 := by decide +kernel
theorem m80 {z0 : Nat} : RM x 80 [.ref z0] w n = RC x 80 0 [some (.ref z0), none, none, none] [] w n := by unfold RM; rw [ml80]; rfl
theorem ml81 : mL 81 = 2 := by decide +kernel
theorem m81 {z0 : Nat} {z1 : Int32} : RM x 81 [.ref z0, .int z1] w n = RC x 81 0 [some (.ref z0), some (.int z1)] [] w n := by unfold RM; rw [ml81]; rfl
theorem ml82 : mL 82 = 2 := by decide +kernel
theorem m82 {z0 : Nat} {z1 : Int32} : RM x 82 [.ref z0, .int z1] w n = RC x 82 0 [some (.ref z0), some (.int z1)] [] w n := by unfold RM; rw [ml82]; rfl
theorem ml83 : mL 83 = 3 := by decide +kernel
theorem m83 {z0 : Nat} : RM x 83 [.ref z0] w n = RC x 83 0 [some (.ref z0), none, none] [] w n := by unfold RM; rw [ml83]; rfl
theorem ml84 : mL 84 = 1 := by decide +kernel
theorem m84 {z0 : Nat} : RM x 84 [.ref z0] w n = RC x 84 0 [some (.ref z0)] [] w n := by unfold RM; rw [ml84]; rfl
theorem ml85 : mL 85 = 1 := by decide +kernel
theorem m85 {z0 : Nat} : RM x 85 [.ref z0] w n = RC x 85 0 [some (.ref z0)] [] w n := by unfold RM; rw [ml85]; rfl
theorem ml86 : mL 86 = 1 := by decide +kernel
theorem m86 {z0 : Nat} : RM x 86 [.ref z0] w n = RC x 86 0 [some (.ref z0)] [] w n := by unfold RM; rw [ml86]; rfl
theorem ml87 : mL 87 = 1 := by decide +kernel
theorem m87 {z0 : Nat} : RM x 87 [.ref z0] w n = RC x 87 0 [some (.ref z0)] [] w n := by unfold RM; rw [ml87]; rfl
theorem ml88 : mL 88 = 1 := by decide +kernel
theorem m88 {z0 : Nat} : RM x 88 [.ref z0] w n = RC x 88 0 [some (.ref z0)] [] w n := by unfold RM; rw [ml88]; rfl
theorem ml89 : mL 89 = 5 := by decide +kernel
theorem m89 {z0 : Nat} {z1 : Int32} {z2 : Int32} {z3 : Int32} {z4 : Int32} : RM x 89 [.ref z0, .int z1, .int z2, .int z3, .int z4] w n = RC x 89 0 [some (.ref z0), some (.int z1), some (.int z2), some (.int z3), some (.int z4)] [] w n := by unfold RM; rw [ml89]; rfl
theorem ml90 : mL 90 = 1 := by decide +kernel
theorem m90 {z0 : Nat} : RM x 90 [.ref z0] w n = RC x 90 0 [some (.ref z0)] [] w n := by unfold RM; rw [ml90]; rfl
theorem ml91 : mL 91 = 1 := by decide +kernel
theorem m91 {z0 : Int32} : RM x 91 [.int z0] w n = RC x 91 0 [some (.int z0)] [] w n := by unfold RM; rw [ml91]; rfl
theorem ml92 : mL 92 = 1 := by decide +kernel
theorem m92 {z0 : Int32} : RM x 92 [.int z0] w n = RC x 92 0 [some (.int z0)] [] w n := by unfold RM; rw [ml92]; rfl
theorem ml93 : mL 93 = 2 := by decide +kernel
theorem m93 {z0 : Int32} {z1 : Int32} : RM x 93 [.int z0, .int z1] w n = RC x 93 0 [some (.int z0), some (.int z1)] [] w n := by unfold RM; rw [ml93]; rfl
theorem ml94 : mL 94 = 1 := by decide +kernel
theorem m94 {z0 : Int32} : RM x 94 [.int z0] w n = RC x 94 0 [some (.int z0)] [] w n := by unfold RM; rw [ml94]; rfl
theorem ml95 : mL 95 = 3 := by decide +kernel
theorem m95 {z0 : Nat} {z1 : Int32} : RM x 95 [.ref z0, .int z1] w n = RC x 95 0 [some (.ref z0), some (.int z1), none] [] w n := by unfold RM; rw [ml95]; rfl
theorem ml96 : mL 96 = 2 := by decide +kernel
theorem m96 {z0 : Nat} {z1 : Int32} : RM x 96 [.ref z0, .int z1] w n = RC x 96 0 [some (.ref z0), some (.int z1)] [] w n := by unfold RM; rw [ml96]; rfl
theorem ml97 : mL 97 = 2 := by decide +kernel
theorem m97 {z0 : Nat} {z1 : Nat} : RM x 97 [.ref z0, .ref z1] w n = RC x 97 0 [some (.ref z0), some (.ref z1)] [] w n := by unfold RM; rw [ml97]; rfl
theorem ml98 : mL 98 = 1 := by decide +kernel
theorem m98 {z0 : Nat} : RM x 98 [.ref z0] w n = RC x 98 0 [some (.ref z0)] [] w n := by unfold RM; rw [ml98]; rfl
theorem ml99 : mL 99 = 2 := by decide +kernel
theorem m99 {z0 : Nat} {z1 : Nat} : RM x 99 [.ref z0, .ref z1] w n = RC x 99 0 [some (.ref z0), some (.ref z1)] [] w n := by unfold RM; rw [ml99]; rfl
theorem ml100 : mL 100 = 5 := by decide +kernel
theorem m100 {z0 : Nat} {z1 : Int32} {z2 : Int32} {z3 : Int32} {z4 : Int32} : RM x 100 [.ref z0, .int z1, .int z2, .int z3, .int z4] w n = RC x 100 0 [some (.ref z0), some (.int z1), some (.int z2), some (.int z3), some (.int z4)] [] w n := by unfold RM; rw [ml100]; rfl
theorem ml101 : mL 101 = 3 := by decide +kernel
theorem m101 {z0 : Nat} {z1 : Int32} {z2 : Int32} : RM x 101 [.ref z0, .int z1, .int z2] w n = RC x 101 0 [some (.ref z0), some (.int z1), some (.int z2)] [] w n := by unfold RM; rw [ml101]; rfl
theorem ml102 : mL 102 = 2 := by decide +kernel
theorem m102 {z0 : Int32} {z1 : Int32} : RM x 102 [.int z0, .int z1] w n = RC x 102 0 [some (.int z0), some (.int z1)] [] w n := by unfold RM; rw [ml102]; rfl
theorem ml103 : mL 103 = 3 := by decide +kernel
theorem m103 {z0 : Int32} {z1 : Int32} {z2 : Int32} : RM x 103 [.int z0, .int z1, .int z2] w n = RC x 103 0 [some (.int z0), some (.int z1), some (.int z2)] [] w n := by unfold RM; rw [ml103]; rfl
theorem ml104 : mL 104 = 3 := by decide +kernel
theorem m104 {z0 : Nat} {z1 : Int32} {z2 : Int32} : RM x 104 [.ref z0, .int z1, .int z2] w n = RC x 104 0 [some (.ref z0), some (.int z1), some (.int z2)] [] w n := by unfold RM; rw [ml104]; rfl
theorem ml105 : mL 105 = 5 := by decide +kernel
theorem m105 {z0 : Nat} {z1 : Int32} {z2 : Int32} {z3 : Int32} {z4 : Int32} : RM x 105 [.ref z0, .int z1, .int z2, .int z3, .int z4] w n = RC x 105 0 [some (.ref z0), some (.int z1), some (.int z2), some (.int z3), some (.int z4)] [] w n := by unfold RM; rw [ml105]; rfl
theorem ml106 : mL 106 = 3 := by decide +kernel
theorem m106 {z0 : Nat} {z1 : Int32} : RM x 106 [.ref z0, .int z1] w n = RC x 106 0 [some (.ref z0), some (.int z1), none] [] w n := by unfold RM; rw [ml106]; rfl
theorem ml107 : mL 107 = 7 := by decide +kernel
theorem m107 {z0 : Nat} {z1 : Int32} : RM x 107 [.ref z0, .int z1] w n = RC x 107 0 [some (.ref z0), some (.int z1), none, none, none, none, none] [] w n := by unfold RM; rw [ml107]; rfl
theorem ml108 : mL 108 = 3 := by decide +kernel
theorem m108 {z0 : Nat} {z1 : Int32} : RM x 108 [.ref z0, .int z1] w n = RC x 108 0 [some (.ref z0), some (.int z1), none] [] w n := by unfold RM; rw [ml108]; rfl
theorem ml109 : mL 109 = 3 := by decide +kernel
theorem m109 {z0 : Int32} {z1 : Int32} {z2 : Int32} : RM x 109 [.int z0, .int z1, .int z2] w n = RC x 109 0 [some (.int z0), some (.int z1), some (.int z2)] [] w n := by unfold RM; rw [ml109]; rfl
theorem ml110 : mL 110 = 1 := by decide +kernel
theorem m110 {z0 : Int32} : RM x 110 [.int z0] w n = RC x 110 0 [some (.int z0)] [] w n := by unfold RM; rw [ml110]; rfl
theorem ml111 : mL 111 = 1 := by decide +kernel
theorem m111 {z0 : Int32} : RM x 111 [.int z0] w n = RC x 111 0 [some (.int z0)] [] w n := by unfold RM; rw [ml111]; rfl
theorem ml112 : mL 112 = 1 := by decide +kernel
theorem m112 {z0 : Int32} : RM x 112 [.int z0] w n = RC x 112 0 [some (.int z0)] [] w n := by unfold RM; rw [ml112]; rfl
theorem ml113 : mL 113 = 4 := by decide +kernel
theorem m113 {z0 : Int32} {z1 : Int32} : RM x 113 [.int z0, .int z1] w n = RC x 113 0 [some (.int z0), some (.int z1), none, none] [] w n := by unfold RM; rw [ml113]; rfl
theorem ml114 : mL 114 = 1 := by decide +kernel
theorem m114 {z0 : Int32} : RM x 114 [.int z0] w n = RC x 114 0 [some (.int z0)] [] w n := by unfold RM; rw [ml114]; rfl
theorem ml115 : mL 115 = 1 := by decide +kernel
theorem m115 {z0 : Int32} : RM x 115 [.int z0] w n = RC x 115 0 [some (.int z0)] [] w n := by unfold RM; rw [ml115]; rfl
theorem ml116 : mL 116 = 5 := by decide +kernel
theorem m116 {z0 : Int32} : RM x 116 [.int z0] w n = RC x 116 0 [some (.int z0), none, none, none, none] [] w n := by unfold RM; rw [ml116]; rfl
theorem ml117 : mL 117 = 1 := by decide +kernel
theorem m117 {z0 : Nat} : RM x 117 [.ref z0] w n = RC x 117 0 [some (.ref z0)] [] w n := by unfold RM; rw [ml117]; rfl
theorem ml118 : mL 118 = 2 := by decide +kernel
theorem m118 {z0 : Nat} {z1 : Nat} : RM x 118 [.ref z0, .ref z1] w n = RC x 118 0 [some (.ref z0), some (.ref z1)] [] w n := by unfold RM; rw [ml118]; rfl
theorem ml119 : mL 119 = 1 := by decide +kernel
theorem m119 {z0 : Int32} : RM x 119 [.int z0] w n = RC x 119 0 [some (.int z0)] [] w n := by unfold RM; rw [ml119]; rfl
theorem ml120 : mL 120 = 1 := by decide +kernel
theorem m120 {z0 : Nat} : RM x 120 [.ref z0] w n = RC x 120 0 [some (.ref z0)] [] w n := by unfold RM; rw [ml120]; rfl
theorem ml121 : mL 121 = 5 := by decide +kernel
theorem m121 {z0 : Nat} {z1 : Int32} {z2 : Int32} {z3 : Int32} : RM x 121 [.ref z0, .int z1, .int z2, .int z3] w n = RC x 121 0 [some (.ref z0), some (.int z1), some (.int z2), some (.int z3), none] [] w n := by unfold RM; rw [ml121]; rfl
theorem ml122 : mL 122 = 3 := by decide +kernel
theorem m122 {z0 : Nat} {z1 : Int32} : RM x 122 [.ref z0, .int z1] w n = RC x 122 0 [some (.ref z0), some (.int z1), none] [] w n := by unfold RM; rw [ml122]; rfl
theorem ml123 : mL 123 = 2 := by decide +kernel
theorem m123 {z0 : Nat} {z1 : Int32} : RM x 123 [.ref z0, .int z1] w n = RC x 123 0 [some (.ref z0), some (.int z1)] [] w n := by unfold RM; rw [ml123]; rfl
theorem ml124 : mL 124 = 2 := by decide +kernel
theorem m124 {z0 : Nat} {z1 : Int32} : RM x 124 [.ref z0, .int z1] w n = RC x 124 0 [some (.ref z0), some (.int z1)] [] w n := by unfold RM; rw [ml124]; rfl
theorem ml125 : mL 125 = 2 := by decide +kernel
theorem m125 {z0 : Nat} {z1 : Int32} : RM x 125 [.ref z0, .int z1] w n = RC x 125 0 [some (.ref z0), some (.int z1)] [] w n := by unfold RM; rw [ml125]; rfl
theorem ml126 : mL 126 = 2 := by decide +kernel
theorem m126 {z0 : Nat} {z1 : Int32} : RM x 126 [.ref z0, .int z1] w n = RC x 126 0 [some (.ref z0), some (.int z1)] [] w n := by unfold RM; rw [ml126]; rfl
theorem ml127 : mL 127 = 2 := by decide +kernel
theorem m127 {z0 : Nat} {z1 : Int32} : RM x 127 [.ref z0, .int z1] w n = RC x 127 0 [some (.ref z0), some (.int z1)] [] w n := by unfold RM; rw [ml127]; rfl
theorem ml128 : mL 128 = 2 := by decide +kernel
theorem m128 {z0 : Nat} {z1 : Int32} : RM x 128 [.ref z0, .int z1] w n = RC x 128 0 [some (.ref z0), some (.int z1)] [] w n := by unfold RM; rw [ml128]; rfl
theorem ml129 : mL 129 = 3 := by decide +kernel
theorem m129 {z0 : Nat} {z1 : Int32} : RM x 129 [.ref z0, .int z1] w n = RC x 129 0 [some (.ref z0), some (.int z1), none] [] w n := by unfold RM; rw [ml129]; rfl
theorem ml130 : mL 130 = 2 := by decide +kernel
theorem m130 {z0 : Nat} {z1 : Int32} : RM x 130 [.ref z0, .int z1] w n = RC x 130 0 [some (.ref z0), some (.int z1)] [] w n := by unfold RM; rw [ml130]; rfl
theorem ml131 : mL 131 = 4 := by decide +kernel
theorem m131 {z0 : Nat} {z1 : Int32} : RM x 131 [.ref z0, .int z1] w n = RC x 131 0 [some (.ref z0), some (.int z1), none, none] [] w n := by unfold RM; rw [ml131]; rfl
theorem ml132 : mL 132 = 3 := by decide +kernel
theorem m132 {z0 : Nat} : RM x 132 [.ref z0] w n = RC x 132 0 [some (.ref z0), none, none] [] w n := by unfold RM; rw [ml132]; rfl
theorem ml133 : mL 133 = 3 := by decide +kernel
theorem m133 {z0 : Nat} {z1 : Int32} {z2 : Int32} : RM x 133 [.ref z0, .int z1, .int z2] w n = RC x 133 0 [some (.ref z0), some (.int z1), some (.int z2)] [] w n := by unfold RM; rw [ml133]; rfl
theorem ml134 : mL 134 = 4 := by decide +kernel
theorem m134 {z0 : Nat} {z1 : Int32} : RM x 134 [.ref z0, .int z1] w n = RC x 134 0 [some (.ref z0), some (.int z1), none, none] [] w n := by unfold RM; rw [ml134]; rfl
theorem ml135 : mL 135 = 5 := by decide +kernel
theorem m135 {z0 : Nat} {z1 : Int32} {z2 : Int32} : RM x 135 [.ref z0, .int z1, .int z2] w n = RC x 135 0 [some (.ref z0), some (.int z1), some (.int z2), none, none] [] w n := by unfold RM; rw [ml135]; rfl
theorem ml136 : mL 136 = 2 := by decide +kernel
theorem m136 {z0 : Nat} {z1 : Int32} : RM x 136 [.ref z0, .int z1] w n = RC x 136 0 [some (.ref z0), some (.int z1)] [] w n := by unfold RM; rw [ml136]; rfl
theorem ml137 : mL 137 = 2 := by decide +kernel
theorem m137 {z0 : Nat} : RM x 137 [.ref z0] w n = RC x 137 0 [some (.ref z0), none] [] w n := by unfold RM; rw [ml137]; rfl
theorem ml138 : mL 138 = 2 := by decide +kernel
theorem m138 {z0 : Nat} : RM x 138 [.ref z0] w n = RC x 138 0 [some (.ref z0), none] [] w n := by unfold RM; rw [ml138]; rfl
theorem ml139 : mL 139 = 2 := by decide +kernel
theorem m139 {z0 : Nat} {z1 : Nat} : RM x 139 [.ref z0, .ref z1] w n = RC x 139 0 [some (.ref z0), some (.ref z1)] [] w n := by unfold RM; rw [ml139]; rfl
theorem ml140 : mL 140 = 1 := by decide +kernel
theorem m140 {z0 : Int32} : RM x 140 [.int z0] w n = RC x 140 0 [some (.int z0)] [] w n := by unfold RM; rw [ml140]; rfl
theorem ml141 : mL 141 = 2 := by decide +kernel
theorem m141 {z0 : Int32} {z1 : Int32} : RM x 141 [.int z0, .int z1] w n = RC x 141 0 [some (.int z0), some (.int z1)] [] w n := by unfold RM; rw [ml141]; rfl
theorem ml142 : mL 142 = 2 := by decide +kernel
theorem m142 {z0 : Int32} {z1 : Int32} : RM x 142 [.int z0, .int z1] w n = RC x 142 0 [some (.int z0), some (.int z1)] [] w n := by unfold RM; rw [ml142]; rfl
theorem ml143 : mL 143 = 3 := by decide +kernel
theorem m143 {z0 : Nat} {z1 : Int32} {z2 : Int32} : RM x 143 [.ref z0, .int z1, .int z2] w n = RC x 143 0 [some (.ref z0), some (.int z1), some (.int z2)] [] w n := by unfold RM; rw [ml143]; rfl
theorem ml144 : mL 144 = 3 := by decide +kernel
theorem m144 {z0 : Nat} {z1 : Int32} {z2 : Int32} : RM x 144 [.ref z0, .int z1, .int z2] w n = RC x 144 0 [some (.ref z0), some (.int z1), some (.int z2)] [] w n := by unfold RM; rw [ml144]; rfl
theorem ml145 : mL 145 = 2 := by decide +kernel
theorem m145 {z0 : Nat} {z1 : Int32} : RM x 145 [.ref z0, .int z1] w n = RC x 145 0 [some (.ref z0), some (.int z1)] [] w n := by unfold RM; rw [ml145]; rfl
theorem ml146 : mL 146 = 2 := by decide +kernel
theorem m146 {z0 : Nat} {z1 : Int32} : RM x 146 [.ref z0, .int z1] w n = RC x 146 0 [some (.ref z0), some (.int z1)] [] w n := by unfold RM; rw [ml146]; rfl
theorem ml147 : mL 147 = 3 := by decide +kernel
theorem m147 {z0 : Nat} {z1 : Int32} {z2 : Int32} : RM x 147 [.ref z0, .int z1, .int z2] w n = RC x 147 0 [some (.ref z0), some (.int z1), some (.int z2)] [] w n := by unfold RM; rw [ml147]; rfl
theorem ml148 : mL 148 = 5 := by decide +kernel
theorem m148 {z0 : Nat} {z1 : Int32} {z2 : Int32} : RM x 148 [.ref z0, .int z1, .int z2] w n = RC x 148 0 [some (.ref z0), some (.int z1), some (.int z2), none, none] [] w n := by unfold RM; rw [ml148]; rfl
theorem ml149 : mL 149 = 4 := by decide +kernel
theorem m149 {z0 : Nat} {z1 : Int32} {z2 : Int32} : RM x 149 [.ref z0, .int z1, .int z2] w n = RC x 149 0 [some (.ref z0), some (.int z1), some (.int z2), none] [] w n := by unfold RM; rw [ml149]; rfl
theorem ml150 : mL 150 = 4 := by decide +kernel
theorem m150 {z0 : Nat} : RM x 150 [.ref z0] w n = RC x 150 0 [some (.ref z0), none, none, none] [] w n := by unfold RM; rw [ml150]; rfl
theorem ml151 : mL 151 = 5 := by decide +kernel
theorem m151 {z0 : Nat} {z1 : Int32} {z2 : Int32} {z3 : Int32} : RM x 151 [.ref z0, .int z1, .int z2, .int z3] w n = RC x 151 0 [some (.ref z0), some (.int z1), some (.int z2), some (.int z3), none] [] w n := by unfold RM; rw [ml151]; rfl
theorem ml152 : mL 152 = 4 := by decide +kernel
theorem m152 {z0 : Nat} {z1 : Int32} {z2 : Int32} : RM x 152 [.ref z0, .int z1, .int z2] w n = RC x 152 0 [some (.ref z0), some (.int z1), some (.int z2), none] [] w n := by unfold RM; rw [ml152]; rfl
theorem ml153 : mL 153 = 4 := by decide +kernel
theorem m153 {z0 : Nat} {z1 : Int32} {z2 : Int32} : RM x 153 [.ref z0, .int z1, .int z2] w n = RC x 153 0 [some (.ref z0), some (.int z1), some (.int z2), none] [] w n := by unfold RM; rw [ml153]; rfl
theorem ml154 : mL 154 = 3 := by decide +kernel
theorem m154 {z0 : Nat} {z1 : Int32} : RM x 154 [.ref z0, .int z1] w n = RC x 154 0 [some (.ref z0), some (.int z1), none] [] w n := by unfold RM; rw [ml154]; rfl
theorem ml155 : mL 155 = 6 := by decide +kernel
theorem m155 {z0 : Nat} : RM x 155 [.ref z0] w n = RC x 155 0 [some (.ref z0), none, none, none, none, none] [] w n := by unfold RM; rw [ml155]; rfl
theorem ml156 : mL 156 = 6 := by decide +kernel
theorem m156 {z0 : Nat} : RM x 156 [.ref z0] w n = RC x 156 0 [some (.ref z0), none, none, none, none, none] [] w n := by unfold RM; rw [ml156]; rfl
theorem ml157 : mL 157 = 5 := by decide +kernel
theorem m157 {z0 : Nat} {z1 : Int32} : RM x 157 [.ref z0, .int z1] w n = RC x 157 0 [some (.ref z0), some (.int z1), none, none, none] [] w n := by unfold RM; rw [ml157]; rfl
theorem ml158 : mL 158 = 5 := by decide +kernel
theorem m158 {z0 : Nat} {z1 : Int32} {z2 : Int32} : RM x 158 [.ref z0, .int z1, .int z2] w n = RC x 158 0 [some (.ref z0), some (.int z1), some (.int z2), none, none] [] w n := by unfold RM; rw [ml158]; rfl
theorem ml159 : mL 159 = 2 := by decide +kernel
theorem m159 {z0 : Nat} {z1 : Int32} : RM x 159 [.ref z0, .int z1] w n = RC x 159 0 [some (.ref z0), some (.int z1)] [] w n := by unfold RM; rw [ml159]; rfl
theorem ml160 : mL 160 = 2 := by decide +kernel
theorem m160 {z0 : Nat} : RM x 160 [.ref z0] w n = RC x 160 0 [some (.ref z0), none] [] w n := by unfold RM; rw [ml160]; rfl
theorem ml161 : mL 161 = 4 := by decide +kernel
theorem m161 {z0 : Nat} {z1 : Nat} : RM x 161 [.ref z0, .ref z1] w n = RC x 161 0 [some (.ref z0), some (.ref z1), none, none] [] w n := by unfold RM; rw [ml161]; rfl
theorem ml162 : mL 162 = 4 := by decide +kernel
theorem m162 {z0 : Nat} {z1 : Nat} : RM x 162 [.ref z0, .ref z1] w n = RC x 162 0 [some (.ref z0), some (.ref z1), none, none] [] w n := by unfold RM; rw [ml162]; rfl
theorem ml163 : mL 163 = 1 := by decide +kernel
theorem m163 {z0 : Nat} : RM x 163 [.ref z0] w n = RC x 163 0 [some (.ref z0)] [] w n := by unfold RM; rw [ml163]; rfl
theorem ml164 : mL 164 = 2 := by decide +kernel
theorem m164 {z0 : Nat} : RM x 164 [.ref z0] w n = RC x 164 0 [some (.ref z0), none] [] w n := by unfold RM; rw [ml164]; rfl
theorem ml165 : mL 165 = 2 := by decide +kernel
theorem m165 {z0 : Nat} {z1 : Nat} : RM x 165 [.ref z0, .ref z1] w n = RC x 165 0 [some (.ref z0), some (.ref z1)] [] w n := by unfold RM; rw [ml165]; rfl
theorem ml166 : mL 166 = 1 := by decide +kernel
theorem m166 {z0 : Int32} : RM x 166 [.int z0] w n = RC x 166 0 [some (.int z0)] [] w n := by unfold RM; rw [ml166]; rfl
theorem ml167 : mL 167 = 2 := by decide +kernel
theorem m167 {z0 : Nat} {z1 : Int32} : RM x 167 [.ref z0, .int z1] w n = RC x 167 0 [some (.ref z0), some (.int z1)] [] w n := by unfold RM; rw [ml167]; rfl
theorem ml168 : mL 168 = 3 := by decide +kernel
theorem m168 {z0 : Nat} {z1 : Int32} {z2 : Int32} : RM x 168 [.ref z0, .int z1, .int z2] w n = RC x 168 0 [some (.ref z0), some (.int z1), some (.int z2)] [] w n := by unfold RM; rw [ml168]; rfl
theorem ml169 : mL 169 = 2 := by decide +kernel
theorem m169 {z0 : Nat} {z1 : Int32} : RM x 169 [.ref z0, .int z1] w n = RC x 169 0 [some (.ref z0), some (.int z1)] [] w n := by unfold RM; rw [ml169]; rfl
theorem ml170 : mL 170 = 3 := by decide +kernel
theorem m170 {z0 : Nat} {z1 : Int32} : RM x 170 [.ref z0, .int z1] w n = RC x 170 0 [some (.ref z0), some (.int z1), none] [] w n := by unfold RM; rw [ml170]; rfl
theorem ml171 : mL 171 = 4 := by decide +kernel
theorem m171 {z0 : Nat} {z1 : Int32} {z2 : Int32} : RM x 171 [.ref z0, .int z1, .int z2] w n = RC x 171 0 [some (.ref z0), some (.int z1), some (.int z2), none] [] w n := by unfold RM; rw [ml171]; rfl
theorem ml172 : mL 172 = 6 := by decide +kernel
theorem m172 {z0 : Nat} : RM x 172 [.ref z0] w n = RC x 172 0 [some (.ref z0), none, none, none, none, none] [] w n := by unfold RM; rw [ml172]; rfl
theorem ml173 : mL 173 = 1 := by decide +kernel
theorem m173 {z0 : Nat} : RM x 173 [.ref z0] w n = RC x 173 0 [some (.ref z0)] [] w n := by unfold RM; rw [ml173]; rfl
theorem ml174 : mL 174 = 5 := by decide +kernel
theorem m174 {z0 : Nat} : RM x 174 [.ref z0] w n = RC x 174 0 [some (.ref z0), none, none, none, none] [] w n := by unfold RM; rw [ml174]; rfl
theorem ml175 : mL 175 = 1 := by decide +kernel
theorem m175 {z0 : Nat} : RM x 175 [.ref z0] w n = RC x 175 0 [some (.ref z0)] [] w n := by unfold RM; rw [ml175]; rfl
theorem ml176 : mL 176 = 1 := by decide +kernel
theorem m176 {z0 : Nat} : RM x 176 [.ref z0] w n = RC x 176 0 [some (.ref z0)] [] w n := by unfold RM; rw [ml176]; rfl
theorem ml177 : mL 177 = 2 := by decide +kernel
theorem m177 {z0 : Nat} {z1 : Int32} : RM x 177 [.ref z0, .int z1] w n = RC x 177 0 [some (.ref z0), some (.int z1)] [] w n := by unfold RM; rw [ml177]; rfl
theorem ml178 : mL 178 = 1 := by decide +kernel
theorem m178 {z0 : Nat} : RM x 178 [.ref z0] w n = RC x 178 0 [some (.ref z0)] [] w n := by unfold RM; rw [ml178]; rfl
theorem ml179 : mL 179 = 2 := by decide +kernel
theorem m179 {z0 : Nat} : RM x 179 [.ref z0] w n = RC x 179 0 [some (.ref z0), none] [] w n := by unfold RM; rw [ml179]; rfl
theorem ml180 : mL 180 = 7 := by decide +kernel
theorem m180 {z0 : Nat} {z1 : Nat} : RM x 180 [.ref z0, .ref z1] w n = RC x 180 0 [some (.ref z0), some (.ref z1), none, none, none, none, none] [] w n := by unfold RM; rw [ml180]; rfl
theorem ml181 : mL 181 = 4 := by decide +kernel
theorem m181 {z0 : Nat} : RM x 181 [.ref z0] w n = RC x 181 0 [some (.ref z0), none, none, none] [] w n := by unfold RM; rw [ml181]; rfl
theorem ml182 : mL 182 = 1 := by decide +kernel
theorem m182 {z0 : Int32} : RM x 182 [.int z0] w n = RC x 182 0 [some (.int z0)] [] w n := by unfold RM; rw [ml182]; rfl
theorem ml183 : mL 183 = 2 := by decide +kernel
theorem m183 {z0 : Nat} {z1 : Int32} : RM x 183 [.ref z0, .int z1] w n = RC x 183 0 [some (.ref z0), some (.int z1)] [] w n := by unfold RM; rw [ml183]; rfl
theorem ml184 : mL 184 = 3 := by decide +kernel
theorem m184 {z0 : Nat} {z1 : Int32} : RM x 184 [.ref z0, .int z1] w n = RC x 184 0 [some (.ref z0), some (.int z1), none] [] w n := by unfold RM; rw [ml184]; rfl
theorem ml185 : mL 185 = 3 := by decide +kernel
theorem m185 {z0 : Nat} {z1 : Nat} : RM x 185 [.ref z0, .ref z1] w n = RC x 185 0 [some (.ref z0), some (.ref z1), none] [] w n := by unfold RM; rw [ml185]; rfl
theorem ml186 : mL 186 = 2 := by decide +kernel
theorem m186 {z0 : Nat} {z1 : Int32} : RM x 186 [.ref z0, .int z1] w n = RC x 186 0 [some (.ref z0), some (.int z1)] [] w n := by unfold RM; rw [ml186]; rfl
theorem ml187 : mL 187 = 4 := by decide +kernel
theorem m187 {z0 : Nat} {z1 : Int32} : RM x 187 [.ref z0, .int z1] w n = RC x 187 0 [some (.ref z0), some (.int z1), none, none] [] w n := by unfold RM; rw [ml187]; rfl
theorem ml188 : mL 188 = 3 := by decide +kernel
theorem m188 {z0 : Nat} {z1 : Nat} : RM x 188 [.ref z0, .ref z1] w n = RC x 188 0 [some (.ref z0), some (.ref z1), none] [] w n := by unfold RM; rw [ml188]; rfl
theorem ml189 : mL 189 = 2 := by decide +kernel
theorem m189 {z0 : Nat} {z1 : Int32} : RM x 189 [.ref z0, .int z1] w n = RC x 189 0 [some (.ref z0), some (.int z1)] [] w n := by unfold RM; rw [ml189]; rfl
theorem ml190 : mL 190 = 1 := by decide +kernel
theorem m190 {z0 : Nat} : RM x 190 [.ref z0] w n = RC x 190 0 [some (.ref z0)] [] w n := by unfold RM; rw [ml190]; rfl
theorem ml191 : mL 191 = 2 := by decide +kernel
theorem m191 {z0 : Nat} : RM x 191 [.ref z0] w n = RC x 191 0 [some (.ref z0), none] [] w n := by unfold RM; rw [ml191]; rfl
theorem ml192 : mL 192 = 1 := by decide +kernel
theorem m192 {z0 : Nat} : RM x 192 [.ref z0] w n = RC x 192 0 [some (.ref z0)] [] w n := by unfold RM; rw [ml192]; rfl
theorem ml193 : mL 193 = 3 := by decide +kernel
theorem m193 {z0 : Int32} {z1 : Int32} {z2 : Int32} : RM x 193 [.int z0, .int z1, .int z2] w n = RC x 193 0 [some (.int z0), some (.int z1), some (.int z2)] [] w n := by unfold RM; rw [ml193]; rfl
theorem ml194 : mL 194 = 2 := by decide +kernel
theorem m194 {z0 : Int32} {z1 : Int32} : RM x 194 [.int z0, .int z1] w n = RC x 194 0 [some (.int z0), some (.int z1)] [] w n := by unfold RM; rw [ml194]; rfl
theorem ml195 : mL 195 = 2 := by decide +kernel
theorem m195 {z0 : Nat} {z1 : Int32} : RM x 195 [.ref z0, .int z1] w n = RC x 195 0 [some (.ref z0), some (.int z1)] [] w n := by unfold RM; rw [ml195]; rfl
theorem ml196 : mL 196 = 2 := by decide +kernel
theorem m196 {z0 : Nat} {z1 : Int32} : RM x 196 [.ref z0, .int z1] w n = RC x 196 0 [some (.ref z0), some (.int z1)] [] w n := by unfold RM; rw [ml196]; rfl
theorem ml197 : mL 197 = 5 := by decide +kernel
theorem m197 {z0 : Nat} {z1 : Int32} {z2 : Nat} {z3 : Int32} : RM x 197 [.ref z0, .int z1, .ref z2, .int z3] w n = RC x 197 0 [some (.ref z0), some (.int z1), some (.ref z2), some (.int z3), none] [] w n := by unfold RM; rw [ml197]; rfl
theorem ml198 : mL 198 = 1 := by decide +kernel
theorem m198 {z0 : Nat} : RM x 198 [.ref z0] w n = RC x 198 0 [some (.ref z0)] [] w n := by unfold RM; rw [ml198]; rfl
theorem ml199 : mL 199 = 3 := by decide +kernel
theorem m199 {z0 : Nat} {z1 : Int32} : RM x 199 [.ref z0, .int z1] w n = RC x 199 0 [some (.ref z0), some (.int z1), none] [] w n := by unfold RM; rw [ml199]; rfl
theorem ml200 : mL 200 = 1 := by decide +kernel
theorem m200 {z0 : Int32} : RM x 200 [.int z0] w n = RC x 200 0 [some (.int z0)] [] w n := by unfold RM; rw [ml200]; rfl
theorem ml201 : mL 201 = 2 := by decide +kernel
theorem m201 {z0 : Int32} {z1 : Int32} : RM x 201 [.int z0, .int z1] w n = RC x 201 0 [some (.int z0), some (.int z1)] [] w n := by unfold RM; rw [ml201]; rfl
theorem ml202 : mL 202 = 1 := by decide +kernel
theorem m202 {z0 : Int32} : RM x 202 [.int z0] w n = RC x 202 0 [some (.int z0)] [] w n := by unfold RM; rw [ml202]; rfl
theorem ml203 : mL 203 = 1 := by decide +kernel
theorem m203 {z0 : Int32} : RM x 203 [.int z0] w n = RC x 203 0 [some (.int z0)] [] w n := by unfold RM; rw [ml203]; rfl
theorem ml204 : mL 204 = 1 := by decide +kernel
theorem m204 {z0 : Int32} : RM x 204 [.int z0] w n = RC x 204 0 [some (.int z0)] [] w n := by unfold RM; rw [ml204]; rfl
theorem ml205 : mL 205 = 2 := by decide +kernel
theorem m205 {z0 : Int32} {z1 : Int32} : RM x 205 [.int z0, .int z1] w n = RC x 205 0 [some (.int z0), some (.int z1)] [] w n := by unfold RM; rw [ml205]; rfl
theorem ml206 : mL 206 = 3 := by decide +kernel
theorem m206 {z0 : Int32} : RM x 206 [.int z0] w n = RC x 206 0 [some (.int z0), none, none] [] w n := by unfold RM; rw [ml206]; rfl
theorem ml207 : mL 207 = 1 := by decide +kernel
theorem m207 {z0 : Int32} : RM x 207 [.int z0] w n = RC x 207 0 [some (.int z0)] [] w n := by unfold RM; rw [ml207]; rfl
theorem ml208 : mL 208 = 1 := by decide +kernel
theorem m208 {z0 : Int32} : RM x 208 [.int z0] w n = RC x 208 0 [some (.int z0)] [] w n := by unfold RM; rw [ml208]; rfl
theorem ml209 : mL 209 = 4 := by decide +kernel
theorem m209 {z0 : Nat} {z1 : Int32} {z2 : Int32} : RM x 209 [.ref z0, .int z1, .int z2] w n = RC x 209 0 [some (.ref z0), some (.int z1), some (.int z2), none] [] w n := by unfold RM; rw [ml209]; rfl
theorem ml210 : mL 210 = 4 := by decide +kernel
theorem m210 {z0 : Nat} {z1 : Int32} {z2 : Int32} : RM x 210 [.ref z0, .int z1, .int z2] w n = RC x 210 0 [some (.ref z0), some (.int z1), some (.int z2), none] [] w n := by unfold RM; rw [ml210]; rfl
theorem ml211 : mL 211 = 3 := by decide +kernel
theorem m211 {z0 : Nat} {z1 : Int32} : RM x 211 [.ref z0, .int z1] w n = RC x 211 0 [some (.ref z0), some (.int z1), none] [] w n := by unfold RM; rw [ml211]; rfl
theorem ml212 : mL 212 = 4 := by decide +kernel
theorem m212 {z0 : Nat} {z1 : Int32} : RM x 212 [.ref z0, .int z1] w n = RC x 212 0 [some (.ref z0), some (.int z1), none, none] [] w n := by unfold RM; rw [ml212]; rfl
theorem ml213 : mL 213 = 2 := by decide +kernel
theorem m213 {z0 : Nat} {z1 : Int32} : RM x 213 [.ref z0, .int z1] w n = RC x 213 0 [some (.ref z0), some (.int z1)] [] w n := by unfold RM; rw [ml213]; rfl
theorem ml214 : mL 214 = 2 := by decide +kernel
theorem m214 {z0 : Nat} {z1 : Int32} : RM x 214 [.ref z0, .int z1] w n = RC x 214 0 [some (.ref z0), some (.int z1)] [] w n := by unfold RM; rw [ml214]; rfl
theorem ml215 : mL 215 = 4 := by decide +kernel
theorem m215 {z0 : Nat} {z1 : Int32} : RM x 215 [.ref z0, .int z1] w n = RC x 215 0 [some (.ref z0), some (.int z1), none, none] [] w n := by unfold RM; rw [ml215]; rfl
theorem ml216 : mL 216 = 4 := by decide +kernel
theorem m216 {z0 : Nat} {z1 : Int32} : RM x 216 [.ref z0, .int z1] w n = RC x 216 0 [some (.ref z0), some (.int z1), none, none] [] w n := by unfold RM; rw [ml216]; rfl
theorem ml217 : mL 217 = 5 := by decide +kernel
theorem m217 {z0 : Nat} {z1 : Int32} {z2 : Int32} {z3 : Int32} : RM x 217 [.ref z0, .int z1, .int z2, .int z3] w n = RC x 217 0 [some (.ref z0), some (.int z1), some (.int z2), some (.int z3), none] [] w n := by unfold RM; rw [ml217]; rfl
theorem ml218 : mL 218 = 4 := by decide +kernel
theorem m218 {z0 : Nat} {z1 : Int32} {z2 : Int32} {z3 : Int32} : RM x 218 [.ref z0, .int z1, .int z2, .int z3] w n = RC x 218 0 [some (.ref z0), some (.int z1), some (.int z2), some (.int z3)] [] w n := by unfold RM; rw [ml218]; rfl
theorem ml219 : mL 219 = 3 := by decide +kernel
theorem m219 {z0 : Nat} {z1 : Int32} : RM x 219 [.ref z0, .int z1] w n = RC x 219 0 [some (.ref z0), some (.int z1), none] [] w n := by unfold RM; rw [ml219]; rfl
theorem ml220 : mL 220 = 2 := by decide +kernel
theorem m220 {z0 : Nat} {z1 : Int32} : RM x 220 [.ref z0, .int z1] w n = RC x 220 0 [some (.ref z0), some (.int z1)] [] w n := by unfold RM; rw [ml220]; rfl
theorem ml221 : mL 221 = 5 := by decide +kernel
theorem m221 {z0 : Nat} {z1 : Int32} {z2 : Int32} {z3 : Int32} : RM x 221 [.ref z0, .int z1, .int z2, .int z3] w n = RC x 221 0 [some (.ref z0), some (.int z1), some (.int z2), some (.int z3), none] [] w n := by unfold RM; rw [ml221]; rfl
theorem ml222 : mL 222 = 4 := by decide +kernel
theorem m222 {z0 : Nat} {z1 : Int32} {z2 : Int32} {z3 : Int32} : RM x 222 [.ref z0, .int z1, .int z2, .int z3] w n = RC x 222 0 [some (.ref z0), some (.int z1), some (.int z2), some (.int z3)] [] w n := by unfold RM; rw [ml222]; rfl
theorem ml223 : mL 223 = 4 := by decide +kernel
theorem m223 {z0 : Nat} {z1 : Int32} {z2 : Int32} : RM x 223 [.ref z0, .int z1, .int z2] w n = RC x 223 0 [some (.ref z0), some (.int z1), some (.int z2), none] [] w n := by unfold RM; rw [ml223]; rfl
theorem ml224 : mL 224 = 3 := by decide +kernel
theorem m224 {z0 : Nat} {z1 : Int32} {z2 : Int32} : RM x 224 [.ref z0, .int z1, .int z2] w n = RC x 224 0 [some (.ref z0), some (.int z1), some (.int z2)] [] w n := by unfold RM; rw [ml224]; rfl
theorem ml225 : mL 225 = 4 := by decide +kernel
theorem m225 {z0 : Nat} {z1 : Int32} {z2 : Int32} : RM x 225 [.ref z0, .int z1, .int z2] w n = RC x 225 0 [some (.ref z0), some (.int z1), some (.int z2), none] [] w n := by unfold RM; rw [ml225]; rfl
theorem ml226 : mL 226 = 3 := by decide +kernel
theorem m226 {z0 : Nat} {z1 : Int32} {z2 : Int32} : RM x 226 [.ref z0, .int z1, .int z2] w n = RC x 226 0 [some (.ref z0), some (.int z1), some (.int z2)] [] w n := by unfold RM; rw [ml226]; rfl
theorem ml227 : mL 227 = 3 := by decide +kernel
theorem m227 {z0 : Nat} {z1 : Int32} : RM x 227 [.ref z0, .int z1] w n = RC x 227 0 [some (.ref z0), some (.int z1), none] [] w n := by unfold RM; rw [ml227]; rfl
theorem ml228 : mL 228 = 2 := by decide +kernel
theorem m228 {z0 : Nat} {z1 : Int32} : RM x 228 [.ref z0, .int z1] w n = RC x 228 0 [some (.ref z0), some (.int z1)] [] w n := by unfold RM; rw [ml228]; rfl
theorem ml229 : mL 229 = 3 := by decide +kernel
theorem m229 {z0 : Nat} {z1 : Int32} {z2 : Int32} : RM x 229 [.ref z0, .int z1, .int z2] w n = RC x 229 0 [some (.ref z0), some (.int z1), some (.int z2)] [] w n := by unfold RM; rw [ml229]; rfl
theorem ml230 : mL 230 = 3 := by decide +kernel
theorem m230 {z0 : Nat} {z1 : Int32} {z2 : Int32} : RM x 230 [.ref z0, .int z1, .int z2] w n = RC x 230 0 [some (.ref z0), some (.int z1), some (.int z2)] [] w n := by unfold RM; rw [ml230]; rfl
theorem ml231 : mL 231 = 4 := by decide +kernel
theorem m231 {z0 : Nat} {z1 : Int32} {z2 : Int32} : RM x 231 [.ref z0, .int z1, .int z2] w n = RC x 231 0 [some (.ref z0), some (.int z1), some (.int z2), none] [] w n := by unfold RM; rw [ml231]; rfl
theorem ml232 : mL 232 = 2 := by decide +kernel
theorem m232 {z0 : Nat} {z1 : Int32} : RM x 232 [.ref z0, .int z1] w n = RC x 232 0 [some (.ref z0), some (.int z1)] [] w n := by unfold RM; rw [ml232]; rfl
theorem ml233 : mL 233 = 4 := by decide +kernel
theorem m233 {z0 : Nat} {z1 : Int32} : RM x 233 [.ref z0, .int z1] w n = RC x 233 0 [some (.ref z0), some (.int z1), none, none] [] w n := by unfold RM; rw [ml233]; rfl
theorem ml234 : mL 234 = 4 := by decide +kernel
theorem m234 {z0 : Nat} : RM x 234 [.ref z0] w n = RC x 234 0 [some (.ref z0), none, none, none] [] w n := by unfold RM; rw [ml234]; rfl
theorem ml235 : mL 235 = 4 := by decide +kernel
theorem m235 {z0 : Nat} {z1 : Int32} : RM x 235 [.ref z0, .int z1] w n = RC x 235 0 [some (.ref z0), some (.int z1), none, none] [] w n := by unfold RM; rw [ml235]; rfl
theorem ml236 : mL 236 = 2 := by decide +kernel
theorem m236 {z0 : Nat} {z1 : Int32} : RM x 236 [.ref z0, .int z1] w n = RC x 236 0 [some (.ref z0), some (.int z1)] [] w n := by unfold RM; rw [ml236]; rfl
theorem ml237 : mL 237 = 3 := by decide +kernel
theorem m237 {z0 : Nat} {z1 : Int32} : RM x 237 [.ref z0, .int z1] w n = RC x 237 0 [some (.ref z0), some (.int z1), none] [] w n := by unfold RM; rw [ml237]; rfl
theorem ml238 : mL 238 = 2 := by decide +kernel
theorem m238 {z0 : Nat} {z1 : Int32} : RM x 238 [.ref z0, .int z1] w n = RC x 238 0 [some (.ref z0), some (.int z1)] [] w n := by unfold RM; rw [ml238]; rfl
theorem ml239 : mL 239 = 3 := by decide +kernel
theorem m239 {z0 : Nat} {z1 : Int32} : RM x 239 [.ref z0, .int z1] w n = RC x 239 0 [some (.ref z0), some (.int z1), none] [] w n := by unfold RM; rw [ml239]; rfl
theorem ml240 : mL 240 = 3 := by decide +kernel
theorem m240 {z0 : Nat} {z1 : Int32} {z2 : Int32} : RM x 240 [.ref z0, .int z1, .int z2] w n = RC x 240 0 [some (.ref z0), some (.int z1), some (.int z2)] [] w n := by unfold RM; rw [ml240]; rfl
theorem ml241 : mL 241 = 4 := by decide +kernel
theorem m241 {z0 : Nat} {z1 : Int32} : RM x 241 [.ref z0, .int z1] w n = RC x 241 0 [some (.ref z0), some (.int z1), none, none] [] w n := by unfold RM; rw [ml241]; rfl
theorem ml242 : mL 242 = 3 := by decide +kernel
theorem m242 {z0 : Nat} {z1 : Int32} : RM x 242 [.ref z0, .int z1] w n = RC x 242 0 [some (.ref z0), some (.int z1), none] [] w n := by unfold RM; rw [ml242]; rfl
theorem ml243 : mL 243 = 3 := by decide +kernel
theorem m243 {z0 : Nat} {z1 : Int32} {z2 : Int32} : RM x 243 [.ref z0, .int z1, .int z2] w n = RC x 243 0 [some (.ref z0), some (.int z1), some (.int z2)] [] w n := by unfold RM; rw [ml243]; rfl
theorem ml244 : mL 244 = 4 := by decide +kernel
theorem m244 {z0 : Nat} {z1 : Int32} {z2 : Int32} {z3 : Int32} : RM x 244 [.ref z0, .int z1, .int z2, .int z3] w n = RC x 244 0 [some (.ref z0), some (.int z1), some (.int z2), some (.int z3)] [] w n := by unfold RM; rw [ml244]; rfl
theorem ml245 : mL 245 = 3 := by decide +kernel
theorem m245 {z0 : Nat} {z1 : Int32} {z2 : Int32} : RM x 245 [.ref z0, .int z1, .int z2] w n = RC x 245 0 [some (.ref z0), some (.int z1), some (.int z2)] [] w n := by unfold RM; rw [ml245]; rfl
theorem ml246 : mL 246 = 3 := by decide +kernel
theorem m246 {z0 : Nat} {z1 : Int32} {z2 : Int32} : RM x 246 [.ref z0, .int z1, .int z2] w n = RC x 246 0 [some (.ref z0), some (.int z1), some (.int z2)] [] w n := by unfold RM; rw [ml246]; rfl
theorem ml247 : mL 247 = 2 := by decide +kernel
theorem m247 {z0 : Nat} {z1 : Int32} : RM x 247 [.ref z0, .int z1] w n = RC x 247 0 [some (.ref z0), some (.int z1)] [] w n := by unfold RM; rw [ml247]; rfl
theorem ml248 : mL 248 = 2 := by decide +kernel
theorem m248 {z0 : Nat} {z1 : Int32} : RM x 248 [.ref z0, .int z1] w n = RC x 248 0 [some (.ref z0), some (.int z1)] [] w n := by unfold RM; rw [ml248]; rfl
theorem ml249 : mL 249 = 4 := by decide +kernel
theorem m249 {z0 : Nat} {z1 : Int32} : RM x 249 [.ref z0, .int z1] w n = RC x 249 0 [some (.ref z0), some (.int z1), none, none] [] w n := by unfold RM; rw [ml249]; rfl
theorem ml250 : mL 250 = 5 := by decide +kernel
theorem m250 {z0 : Nat} {z1 : Int32} {z2 : Int32} : RM x 250 [.ref z0, .int z1, .int z2] w n = RC x 250 0 [some (.ref z0), some (.int z1), some (.int z2), none, none] [] w n := by unfold RM; rw [ml250]; rfl
theorem ml251 : mL 251 = 5 := by decide +kernel
theorem m251 {z0 : Nat} {z1 : Int32} : RM x 251 [.ref z0, .int z1] w n = RC x 251 0 [some (.ref z0), some (.int z1), none, none, none] [] w n := by unfold RM; rw [ml251]; rfl
theorem ml252 : mL 252 = 2 := by decide +kernel
theorem m252 {z0 : Nat} {z1 : Int32} : RM x 252 [.ref z0, .int z1] w n = RC x 252 0 [some (.ref z0), some (.int z1)] [] w n := by unfold RM; rw [ml252]; rfl
theorem ml253 : mL 253 = 2 := by decide +kernel
theorem m253 {z0 : Nat} {z1 : Int32} : RM x 253 [.ref z0, .int z1] w n = RC x 253 0 [some (.ref z0), some (.int z1)] [] w n := by unfold RM; rw [ml253]; rfl
theorem ml254 : mL 254 = 5 := by decide +kernel
theorem m254 {z0 : Nat} {z1 : Int32} {z2 : Int32} : RM x 254 [.ref z0, .int z1, .int z2] w n = RC x 254 0 [some (.ref z0), some (.int z1), some (.int z2), none, none] [] w n := by unfold RM; rw [ml254]; rfl
theorem ml255 : mL 255 = 1 := by decide +kernel
theorem m255 {z0 : Nat} : RM x 255 [.ref z0] w n = RC x 255 0 [some (.ref z0)] [] w n := by unfold RM; rw [ml255]; rfl
theorem ml256 : mL 256 = 2 := by decide +kernel
theorem m256 {z0 : Nat} {z1 : Int32} : RM x 256 [.ref z0, .int z1] w n = RC x 256 0 [some (.ref z0), some (.int z1)] [] w n := by unfold RM; rw [ml256]; rfl
theorem ml257 : mL 257 = 4 := by decide +kernel
theorem m257 {z0 : Nat} {z1 : Int32} {z2 : Int32} : RM x 257 [.ref z0, .int z1, .int z2] w n = RC x 257 0 [some (.ref z0), some (.int z1), some (.int z2), none] [] w n := by unfold RM; rw [ml257]; rfl
theorem ml258 : mL 258 = 2 := by decide +kernel
theorem m258 {z0 : Nat} {z1 : Int32} : RM x 258 [.ref z0, .int z1] w n = RC x 258 0 [some (.ref z0), some (.int z1)] [] w n := by unfold RM; rw [ml258]; rfl
theorem ml259 : mL 259 = 2 := by decide +kernel
theorem m259 {z0 : Nat} {z1 : Int32} : RM x 259 [.ref z0, .int z1] w n = RC x 259 0 [some (.ref z0), some (.int z1)] [] w n := by unfold RM; rw [ml259]; rfl
theorem ml260 : mL 260 = 2 := by decide +kernel
theorem m260 {z0 : Nat} {z1 : Int32} : RM x 260 [.ref z0, .int z1] w n = RC x 260 0 [some (.ref z0), some (.int z1)] [] w n := by unfold RM; rw [ml260]; rfl
theorem ml261 : mL 261 = 2 := by decide +kernel
theorem m261 {z0 : Nat} {z1 : Int32} : RM x 261 [.ref z0, .int z1] w n = RC x 261 0 [some (.ref z0), some (.int z1)] [] w n := by unfold RM; rw [ml261]; rfl
theorem ml262 : mL 262 = 3 := by decide +kernel
theorem m262 {z0 : Nat} {z1 : Int32} : RM x 262 [.ref z0, .int z1] w n = RC x 262 0 [some (.ref z0), some (.int z1), none] [] w n := by unfold RM; rw [ml262]; rfl
theorem ml263 : mL 263 = 3 := by decide +kernel
theorem m263 {z0 : Nat} {z1 : Int32} : RM x 263 [.ref z0, .int z1] w n = RC x 263 0 [some (.ref z0), some (.int z1), none] [] w n := by unfold RM; rw [ml263]; rfl
theorem ml264 : mL 264 = 4 := by decide +kernel
theorem m264 {z0 : Nat} {z1 : Int32} : RM x 264 [.ref z0, .int z1] w n = RC x 264 0 [some (.ref z0), some (.int z1), none, none] [] w n := by unfold RM; rw [ml264]; rfl
theorem ml265 : mL 265 = 5 := by decide +kernel
theorem m265 {z0 : Nat} {z1 : Int32} {z2 : Int32} : RM x 265 [.ref z0, .int z1, .int z2] w n = RC x 265 0 [some (.ref z0), some (.int z1), some (.int z2), none, none] [] w n := by unfold RM; rw [ml265]; rfl
theorem ml266 : mL 266 = 1 := by decide +kernel
theorem m266 {z0 : Nat} : RM x 266 [.ref z0] w n = RC x 266 0 [some (.ref z0)] [] w n := by unfold RM; rw [ml266]; rfl
theorem ml267 : mL 267 = 1 := by decide +kernel
theorem m267 {z0 : Nat} : RM x 267 [.ref z0] w n = RC x 267 0 [some (.ref z0)] [] w n := by unfold RM; rw [ml267]; rfl
theorem ml268 : mL 268 = 3 := by decide +kernel
theorem m268 {z0 : Nat} : RM x 268 [.ref z0] w n = RC x 268 0 [some (.ref z0), none, none] [] w n := by unfold RM; rw [ml268]; rfl
theorem ml269 : mL 269 = 1 := by decide +kernel
theorem m269 {z0 : Nat} : RM x 269 [.ref z0] w n = RC x 269 0 [some (.ref z0)] [] w n := by unfold RM; rw [ml269]; rfl
theorem ml270 : mL 270 = 1 := by decide +kernel
theorem m270 {z0 : Nat} : RM x 270 [.ref z0] w n = RC x 270 0 [some (.ref z0)] [] w n := by unfold RM; rw [ml270]; rfl
theorem ml271 : mL 271 = 1 := by decide +kernel
theorem m271 {z0 : Nat} : RM x 271 [.ref z0] w n = RC x 271 0 [some (.ref z0)] [] w n := by unfold RM; rw [ml271]; rfl
theorem ml272 : mL 272 = 1 := by decide +kernel
theorem m272 {z0 : Nat} : RM x 272 [.ref z0] w n = RC x 272 0 [some (.ref z0)] [] w n := by unfold RM; rw [ml272]; rfl
theorem ml273 : mL 273 = 1 := by decide +kernel
theorem m273 {z0 : Nat} : RM x 273 [.ref z0] w n = RC x 273 0 [some (.ref z0)] [] w n := by unfold RM; rw [ml273]; rfl
theorem ml274 : mL 274 = 3 := by decide +kernel
theorem m274 {z0 : Nat} : RM x 274 [.ref z0] w n = RC x 274 0 [some (.ref z0), none, none] [] w n := by unfold RM; rw [ml274]; rfl
theorem ml275 : mL 275 = 4 := by decide +kernel
theorem m275 {z0 : Nat} {z1 : Int32} : RM x 275 [.ref z0, .int z1] w n = RC x 275 0 [some (.ref z0), some (.int z1), none, none] [] w n := by unfold RM; rw [ml275]; rfl
theorem ml276 : mL 276 = 1 := by decide +kernel
theorem m276 {z0 : Nat} : RM x 276 [.ref z0] w n = RC x 276 0 [some (.ref z0)] [] w n := by unfold RM; rw [ml276]; rfl
theorem ml277 : mL 277 = 2 := by decide +kernel
theorem m277 {z0 : Nat} {z1 : Int32} : RM x 277 [.ref z0, .int z1] w n = RC x 277 0 [some (.ref z0), some (.int z1)] [] w n := by unfold RM; rw [ml277]; rfl
theorem ml278 : mL 278 = 2 := by decide +kernel
theorem m278 {z0 : Nat} {z1 : Int32} : RM x 278 [.ref z0, .int z1] w n = RC x 278 0 [some (.ref z0), some (.int z1)] [] w n := by unfold RM; rw [ml278]; rfl
theorem ml279 : mL 279 = 3 := by decide +kernel
theorem m279 {z0 : Nat} {z1 : Int32} : RM x 279 [.ref z0, .int z1] w n = RC x 279 0 [some (.ref z0), some (.int z1), none] [] w n := by unfold RM; rw [ml279]; rfl
theorem ml280 : mL 280 = 3 := by decide +kernel
theorem m280 {z0 : Nat} : RM x 280 [.ref z0] w n = RC x 280 0 [some (.ref z0), none, none] [] w n := by unfold RM; rw [ml280]; rfl
theorem ml281 : mL 281 = 2 := by decide +kernel
theorem m281 {z0 : Nat} {z1 : Int32} : RM x 281 [.ref z0, .int z1] w n = RC x 281 0 [some (.ref z0), some (.int z1)] [] w n := by unfold RM; rw [ml281]; rfl
theorem ml282 : mL 282 = 2 := by decide +kernel
theorem m282 {z0 : Nat} {z1 : Int32} : RM x 282 [.ref z0, .int z1] w n = RC x 282 0 [some (.ref z0), some (.int z1)] [] w n := by unfold RM; rw [ml282]; rfl
theorem ml283 : mL 283 = 1 := by decide +kernel
theorem m283 {z0 : Nat} : RM x 283 [.ref z0] w n = RC x 283 0 [some (.ref z0)] [] w n := by unfold RM; rw [ml283]; rfl
theorem ml284 : mL 284 = 2 := by decide +kernel
theorem m284 {z0 : Nat} {z1 : Int32} : RM x 284 [.ref z0, .int z1] w n = RC x 284 0 [some (.ref z0), some (.int z1)] [] w n := by unfold RM; rw [ml284]; rfl
theorem ml285 : mL 285 = 4 := by decide +kernel
theorem m285 {z0 : Nat} {z1 : Int32} {z2 : Int32} {z3 : Int32} : RM x 285 [.ref z0, .int z1, .int z2, .int z3] w n = RC x 285 0 [some (.ref z0), some (.int z1), some (.int z2), some (.int z3)] [] w n := by unfold RM; rw [ml285]; rfl
theorem ml286 : mL 286 = 4 := by decide +kernel
theorem m286 {z0 : Nat} {z1 : Int32} : RM x 286 [.ref z0, .int z1] w n = RC x 286 0 [some (.ref z0), some (.int z1), none, none] [] w n := by unfold RM; rw [ml286]; rfl
theorem ml287 : mL 287 = 3 := by decide +kernel
theorem m287 {z0 : Nat} {z1 : Int32} : RM x 287 [.ref z0, .int z1] w n = RC x 287 0 [some (.ref z0), some (.int z1), none] [] w n := by unfold RM; rw [ml287]; rfl
theorem ml288 : mL 288 = 2 := by decide +kernel
theorem m288 {z0 : Nat} {z1 : Int32} : RM x 288 [.ref z0, .int z1] w n = RC x 288 0 [some (.ref z0), some (.int z1)] [] w n := by unfold RM; rw [ml288]; rfl
theorem ml289 : mL 289 = 2 := by decide +kernel
theorem m289 {z0 : Nat} {z1 : Int32} : RM x 289 [.ref z0, .int z1] w n = RC x 289 0 [some (.ref z0), some (.int z1)] [] w n := by unfold RM; rw [ml289]; rfl
theorem ml290 : mL 290 = 3 := by decide +kernel
theorem m290 {z0 : Nat} {z1 : Int32} : RM x 290 [.ref z0, .int z1] w n = RC x 290 0 [some (.ref z0), some (.int z1), none] [] w n := by unfold RM; rw [ml290]; rfl
theorem ml291 : mL 291 = 4 := by decide +kernel
theorem m291 {z0 : Nat} {z1 : Int32} : RM x 291 [.ref z0, .int z1] w n = RC x 291 0 [some (.ref z0), some (.int z1), none, none] [] w n := by unfold RM; rw [ml291]; rfl
theorem ml292 : mL 292 = 5 := by decide +kernel
theorem m292 {z0 : Nat} : RM x 292 [.ref z0] w n = RC x 292 0 [some (.ref z0), none, none, none, none] [] w n := by unfold RM; rw [ml292]; rfl
theorem ml293 : mL 293 = 1 := by decide +kernel
theorem m293 {z0 : Nat} : RM x 293 [.ref z0] w n = RC x 293 0 [some (.ref z0)] [] w n := by unfold RM; rw [ml293]; rfl
theorem ml294 : mL 294 = 1 := by decide +kernel
theorem m294 {z0 : Nat} : RM x 294 [.ref z0] w n = RC x 294 0 [some (.ref z0)] [] w n := by unfold RM; rw [ml294]; rfl
theorem ml295 : mL 295 = 1 := by decide +kernel
theorem m295 {z0 : Nat} : RM x 295 [.ref z0] w n = RC x 295 0 [some (.ref z0)] [] w n := by unfold RM; rw [ml295]; rfl
theorem ml296 : mL 296 = 1 := by decide +kernel
theorem m296 {z0 : Nat} : RM x 296 [.ref z0] w n = RC x 296 0 [some (.ref z0)] [] w n := by unfold RM; rw [ml296]; rfl
theorem ml297 : mL 297 = 1 := by decide +kernel
theorem m297 {z0 : Nat} : RM x 297 [.ref z0] w n = RC x 297 0 [some (.ref z0)] [] w n := by unfold RM; rw [ml297]; rfl
theorem ml298 : mL 298 = 6 := by decide +kernel
theorem m298 {z0 : Nat} {z1 : Int32} {z2 : Int32} {z3 : Int32} {z4 : Nat} : RM x 298 [.ref z0, .int z1, .int z2, .int z3, .ref z4] w n = RC x 298 0 [some (.ref z0), some (.int z1), some (.int z2), some (.int z3), some (.ref z4), none] [] w n := by unfold RM; rw [ml298]; rfl
theorem ml299 : mL 299 = 6 := by decide +kernel
theorem m299 {z0 : Nat} {z1 : Int32} {z2 : Int32} {z3 : Int32} {z4 : Nat} : RM x 299 [.ref z0, .int z1, .int z2, .int z3, .ref z4] w n = RC x 299 0 [some (.ref z0), some (.int z1), some (.int z2), some (.int z3), some (.ref z4), none] [] w n := by unfold RM; rw [ml299]; rfl
theorem ml300 : mL 300 = 5 := by decide +kernel
theorem m300 {z0 : Nat} {z1 : Int32} {z2 : Int32} {z3 : Nat} : RM x 300 [.ref z0, .int z1, .int z2, .ref z3] w n = RC x 300 0 [some (.ref z0), some (.int z1), some (.int z2), some (.ref z3), none] [] w n := by unfold RM; rw [ml300]; rfl
theorem ml301 : mL 301 = 5 := by decide +kernel
theorem m301 {z0 : Nat} {z1 : Int32} {z2 : Int32} {z3 : Nat} : RM x 301 [.ref z0, .int z1, .int z2, .ref z3] w n = RC x 301 0 [some (.ref z0), some (.int z1), some (.int z2), some (.ref z3), none] [] w n := by unfold RM; rw [ml301]; rfl
theorem ml302 : mL 302 = 4 := by decide +kernel
theorem m302 {z0 : Nat} {z1 : Int32} {z2 : Nat} : RM x 302 [.ref z0, .int z1, .ref z2] w n = RC x 302 0 [some (.ref z0), some (.int z1), some (.ref z2), none] [] w n := by unfold RM; rw [ml302]; rfl
theorem ml303 : mL 303 = 5 := by decide +kernel
theorem m303 {z0 : Nat} {z1 : Int32} {z2 : Int32} {z3 : Nat} : RM x 303 [.ref z0, .int z1, .int z2, .ref z3] w n = RC x 303 0 [some (.ref z0), some (.int z1), some (.int z2), some (.ref z3), none] [] w n := by unfold RM; rw [ml303]; rfl
theorem ml304 : mL 304 = 4 := by decide +kernel
theorem m304 {z0 : Nat} {z1 : Int32} {z2 : Nat} : RM x 304 [.ref z0, .int z1, .ref z2] w n = RC x 304 0 [some (.ref z0), some (.int z1), some (.ref z2), none] [] w n := by unfold RM; rw [ml304]; rfl
theorem ml305 : mL 305 = 4 := by decide +kernel
theorem m305 {z0 : Nat} {z1 : Int32} {z2 : Nat} : RM x 305 [.ref z0, .int z1, .ref z2] w n = RC x 305 0 [some (.ref z0), some (.int z1), some (.ref z2), none] [] w n := by unfold RM; rw [ml305]; rfl
theorem ml306 : mL 306 = 4 := by decide +kernel
theorem m306 {z0 : Nat} {z1 : Int32} {z2 : Nat} : RM x 306 [.ref z0, .int z1, .ref z2] w n = RC x 306 0 [some (.ref z0), some (.int z1), some (.ref z2), none] [] w n := by unfold RM; rw [ml306]; rfl
theorem ml307 : mL 307 = 4 := by decide +kernel
theorem m307 {z0 : Nat} {z1 : Int32} {z2 : Nat} : RM x 307 [.ref z0, .int z1, .ref z2] w n = RC x 307 0 [some (.ref z0), some (.int z1), some (.ref z2), none] [] w n := by unfold RM; rw [ml307]; rfl
theorem ml308 : mL 308 = 4 := by decide +kernel
theorem m308 {z0 : Nat} {z1 : Int32} {z2 : Nat} : RM x 308 [.ref z0, .int z1, .ref z2] w n = RC x 308 0 [some (.ref z0), some (.int z1), some (.ref z2), none] [] w n := by unfold RM; rw [ml308]; rfl
theorem ml309 : mL 309 = 5 := by decide +kernel
theorem m309 {z0 : Nat} {z1 : Int32} {z2 : Int32} {z3 : Nat} : RM x 309 [.ref z0, .int z1, .int z2, .ref z3] w n = RC x 309 0 [some (.ref z0), some (.int z1), some (.int z2), some (.ref z3), none] [] w n := by unfold RM; rw [ml309]; rfl
theorem ml310 : mL 310 = 4 := by decide +kernel
theorem m310 {z0 : Nat} {z1 : Int32} {z2 : Nat} : RM x 310 [.ref z0, .int z1, .ref z2] w n = RC x 310 0 [some (.ref z0), some (.int z1), some (.ref z2), none] [] w n := by unfold RM; rw [ml310]; rfl
theorem ml311 : mL 311 = 4 := by decide +kernel
theorem m311 {z0 : Nat} {z1 : Int32} {z2 : Nat} : RM x 311 [.ref z0, .int z1, .ref z2] w n = RC x 311 0 [some (.ref z0), some (.int z1), some (.ref z2), none] [] w n := by unfold RM; rw [ml311]; rfl
theorem ml312 : mL 312 = 5 := by decide +kernel
theorem m312 {z0 : Nat} {z1 : Int32} {z2 : Int32} {z3 : Nat} : RM x 312 [.ref z0, .int z1, .int z2, .ref z3] w n = RC x 312 0 [some (.ref z0), some (.int z1), some (.int z2), some (.ref z3), none] [] w n := by unfold RM; rw [ml312]; rfl
theorem ml313 : mL 313 = 5 := by decide +kernel
theorem m313 {z0 : Nat} {z1 : Int32} {z2 : Int32} {z3 : Nat} : RM x 313 [.ref z0, .int z1, .int z2, .ref z3] w n = RC x 313 0 [some (.ref z0), some (.int z1), some (.int z2), some (.ref z3), none] [] w n := by unfold RM; rw [ml313]; rfl
theorem ml314 : mL 314 = 5 := by decide +kernel
theorem m314 {z0 : Nat} {z1 : Int32} {z2 : Int32} {z3 : Nat} : RM x 314 [.ref z0, .int z1, .int z2, .ref z3] w n = RC x 314 0 [some (.ref z0), some (.int z1), some (.int z2), some (.ref z3), none] [] w n := by unfold RM; rw [ml314]; rfl
theorem ml315 : mL 315 = 4 := by decide +kernel
theorem m315 {z0 : Nat} {z1 : Int32} {z2 : Nat} : RM x 315 [.ref z0, .int z1, .ref z2] w n = RC x 315 0 [some (.ref z0), some (.int z1), some (.ref z2), none] [] w n := by unfold RM; rw [ml315]; rfl
theorem ml316 : mL 316 = 4 := by decide +kernel
theorem m316 {z0 : Nat} {z1 : Int32} {z2 : Nat} : RM x 316 [.ref z0, .int z1, .ref z2] w n = RC x 316 0 [some (.ref z0), some (.int z1), some (.ref z2), none] [] w n := by unfold RM; rw [ml316]; rfl
theorem ml317 : mL 317 = 4 := by decide +kernel
theorem m317 {z0 : Nat} {z1 : Int32} {z2 : Nat} : RM x 317 [.ref z0, .int z1, .ref z2] w n = RC x 317 0 [some (.ref z0), some (.int z1), some (.ref z2), none] [] w n := by unfold RM; rw [ml317]; rfl
theorem ml318 : mL 318 = 4 := by decide +kernel
theorem m318 {z0 : Nat} {z1 : Int32} {z2 : Nat} : RM x 318 [.ref z0, .int z1, .ref z2] w n = RC x 318 0 [some (.ref z0), some (.int z1), some (.ref z2), none] [] w n := by unfold RM; rw [ml318]; rfl
theorem ml319 : mL 319 = 4 := by decide +kernel
theorem m319 {z0 : Nat} {z1 : Int32} {z2 : Nat} : RM x 319 [.ref z0, .int z1, .ref z2] w n = RC x 319 0 [some (.ref z0), some (.int z1), some (.ref z2), none] [] w n := by unfold RM; rw [ml319]; rfl
theorem ml320 : mL 320 = 5 := by decide +kernel
theorem m320 {z0 : Nat} {z1 : Int32} {z2 : Int32} {z3 : Nat} : RM x 320 [.ref z0, .int z1, .int z2, .ref z3] w n = RC x 320 0 [some (.ref z0), some (.int z1), some (.int z2), some (.ref z3), none] [] w n := by unfold RM; rw [ml320]; rfl
theorem ml321 : mL 321 = 4 := by decide +kernel
theorem m321 {z0 : Nat} {z1 : Int32} {z2 : Nat} : RM x 321 [.ref z0, .int z1, .ref z2] w n = RC x 321 0 [some (.ref z0), some (.int z1), some (.ref z2), none] [] w n := by unfold RM; rw [ml321]; rfl
theorem ml322 : mL 322 = 4 := by decide +kernel
theorem m322 {z0 : Nat} {z1 : Int32} {z2 : Nat} : RM x 322 [.ref z0, .int z1, .ref z2] w n = RC x 322 0 [some (.ref z0), some (.int z1), some (.ref z2), none] [] w n := by unfold RM; rw [ml322]; rfl
theorem ml323 : mL 323 = 4 := by decide +kernel
theorem m323 {z0 : Nat} {z1 : Int32} {z2 : Nat} : RM x 323 [.ref z0, .int z1, .ref z2] w n = RC x 323 0 [some (.ref z0), some (.int z1), some (.ref z2), none] [] w n := by unfold RM; rw [ml323]; rfl
theorem ml324 : mL 324 = 4 := by decide +kernel
theorem m324 {z0 : Nat} {z1 : Int32} {z2 : Nat} : RM x 324 [.ref z0, .int z1, .ref z2] w n = RC x 324 0 [some (.ref z0), some (.int z1), some (.ref z2), none] [] w n := by unfold RM; rw [ml324]; rfl
theorem ml325 : mL 325 = 4 := by decide +kernel
theorem m325 {z0 : Nat} {z1 : Int32} {z2 : Nat} : RM x 325 [.ref z0, .int z1, .ref z2] w n = RC x 325 0 [some (.ref z0), some (.int z1), some (.ref z2), none] [] w n := by unfold RM; rw [ml325]; rfl
theorem ml326 : mL 326 = 4 := by decide +kernel
theorem m326 {z0 : Nat} {z1 : Int32} {z2 : Nat} : RM x 326 [.ref z0, .int z1, .ref z2] w n = RC x 326 0 [some (.ref z0), some (.int z1), some (.ref z2), none] [] w n := by unfold RM; rw [ml326]; rfl
theorem ml327 : mL 327 = 4 := by decide +kernel
theorem m327 {z0 : Nat} {z1 : Int32} {z2 : Nat} : RM x 327 [.ref z0, .int z1, .ref z2] w n = RC x 327 0 [some (.ref z0), some (.int z1), some (.ref z2), none] [] w n := by unfold RM; rw [ml327]; rfl
theorem ml328 : mL 328 = 5 := by decide +kernel
theorem m328 {z0 : Nat} {z1 : Int32} {z2 : Int32} {z3 : Nat} : RM x 328 [.ref z0, .int z1, .int z2, .ref z3] w n = RC x 328 0 [some (.ref z0), some (.int z1), some (.int z2), some (.ref z3), none] [] w n := by unfold RM; rw [ml328]; rfl
theorem ml329 : mL 329 = 4 := by decide +kernel
theorem m329 {z0 : Nat} {z1 : Int32} {z2 : Nat} : RM x 329 [.ref z0, .int z1, .ref z2] w n = RC x 329 0 [some (.ref z0), some (.int z1), some (.ref z2), none] [] w n := by unfold RM; rw [ml329]; rfl
theorem ml330 : mL 330 = 4 := by decide +kernel
theorem m330 {z0 : Nat} {z1 : Int32} {z2 : Nat} : RM x 330 [.ref z0, .int z1, .ref z2] w n = RC x 330 0 [some (.ref z0), some (.int z1), some (.ref z2), none] [] w n := by unfold RM; rw [ml330]; rfl
theorem ml331 : mL 331 = 4 := by decide +kernel
theorem m331 {z0 : Nat} {z1 : Int32} {z2 : Nat} : RM x 331 [.ref z0, .int z1, .ref z2] w n = RC x 331 0 [some (.ref z0), some (.int z1), some (.ref z2), none] [] w n := by unfold RM; rw [ml331]; rfl
theorem ml332 : mL 332 = 4 := by decide +kernel
theorem m332 {z0 : Nat} {z1 : Int32} {z2 : Nat} : RM x 332 [.ref z0, .int z1, .ref z2] w n = RC x 332 0 [some (.ref z0), some (.int z1), some (.ref z2), none] [] w n := by unfold RM; rw [ml332]; rfl
theorem ml333 : mL 333 = 3 := by decide +kernel
theorem m333 {z0 : Nat} {z1 : Nat} : RM x 333 [.ref z0, .ref z1] w n = RC x 333 0 [some (.ref z0), some (.ref z1), none] [] w n := by unfold RM; rw [ml333]; rfl
theorem ml334 : mL 334 = 3 := by decide +kernel
theorem m334 {z0 : Nat} {z1 : Nat} : RM x 334 [.ref z0, .ref z1] w n = RC x 334 0 [some (.ref z0), some (.ref z1), none] [] w n := by unfold RM; rw [ml334]; rfl
theorem ml335 : mL 335 = 3 := by decide +kernel
theorem m335 {z0 : Nat} {z1 : Nat} : RM x 335 [.ref z0, .ref z1] w n = RC x 335 0 [some (.ref z0), some (.ref z1), none] [] w n := by unfold RM; rw [ml335]; rfl
theorem ml336 : mL 336 = 3 := by decide +kernel
theorem m336 {z0 : Nat} {z1 : Nat} : RM x 336 [.ref z0, .ref z1] w n = RC x 336 0 [some (.ref z0), some (.ref z1), none] [] w n := by unfold RM; rw [ml336]; rfl
theorem ml337 : mL 337 = 3 := by decide +kernel
theorem m337 {z0 : Nat} {z1 : Nat} : RM x 337 [.ref z0, .ref z1] w n = RC x 337 0 [some (.ref z0), some (.ref z1), none] [] w n := by unfold RM; rw [ml337]; rfl
theorem ml338 : mL 338 = 10 := by decide +kernel
theorem m338 {z0 : Nat} : RM x 338 [.ref z0] w n = RC x 338 0 [some (.ref z0), none, none, none, none, none, none, none, none, none] [] w n := by unfold RM; rw [ml338]; rfl
end TRN
