/-! SMALL NUMBERS as ints; a loop; a guarded row -/
section I32
theorem i_add {a b : Nat} : Int32.ofNat a + Int32.ofNat b = Int32.ofNat (a + b) := (Int32.ofNat_add a b).symm
theorem i_addR {a k : Nat} : Int32.ofNat a + (no_index (OfNat.ofNat k)) = Int32.ofNat (a + OfNat.ofNat k) := (Int32.ofNat_add a k).symm
theorem i_addL {a k : Nat} : (no_index (OfNat.ofNat k)) + Int32.ofNat a = Int32.ofNat (OfNat.ofNat k + a) := (Int32.ofNat_add k a).symm
theorem i_mul {a b : Nat} : Int32.ofNat a * Int32.ofNat b = Int32.ofNat (a * b) := (Int32.ofNat_mul a b).symm
theorem i_mulR {a k : Nat} : Int32.ofNat a * (no_index (OfNat.ofNat k)) = Int32.ofNat (a * OfNat.ofNat k) := (Int32.ofNat_mul a k).symm
theorem i_mulL {a k : Nat} : (no_index (OfNat.ofNat k)) * Int32.ofNat a = Int32.ofNat (OfNat.ofNat k * a) := (Int32.ofNat_mul k a).symm
theorem i_sub {a b : Nat} (h : b ≤ a) : Int32.ofNat a - Int32.ofNat b = Int32.ofNat (a - b) := (Int32.ofNat_sub a b h).symm
theorem i_subR {a k : Nat} (h : k ≤ a) : Int32.ofNat a - (no_index (OfNat.ofNat k)) = Int32.ofNat (a - OfNat.ofNat k) := (Int32.ofNat_sub a k h).symm
theorem i_subL {a k : Nat} (h : a ≤ k) : (no_index (OfNat.ofNat k)) - Int32.ofNat a = Int32.ofNat (OfNat.ofNat k - a) := (Int32.ofNat_sub k a h).symm
theorem i_lt {a b : Nat} (ha : a < 2147483648) (hb : b < 2147483648) : (Int32.ofNat a < Int32.ofNat b) = (a < b) := propext (Int32.ofNat_lt_iff_lt ha hb)
theorem i_ltR {a k : Nat} (ha : a < 2147483648) (hb : k < 2147483648) : (Int32.ofNat a < (no_index (OfNat.ofNat k))) = (a < OfNat.ofNat k) := propext (Int32.ofNat_lt_iff_lt ha hb)
theorem i_ltL {a k : Nat} (ha : a < 2147483648) (hb : k < 2147483648) : ((no_index (OfNat.ofNat k)) < Int32.ofNat a) = (OfNat.ofNat k < a) := propext (Int32.ofNat_lt_iff_lt hb ha)
theorem i_le {a b : Nat} (ha : a < 2147483648) (hb : b < 2147483648) : (Int32.ofNat a ≤ Int32.ofNat b) = (a ≤ b) := propext (Int32.ofNat_le_iff_le ha hb)
theorem i_leR {a k : Nat} (ha : a < 2147483648) (hb : k < 2147483648) : (Int32.ofNat a ≤ (no_index (OfNat.ofNat k))) = (a ≤ OfNat.ofNat k) := propext (Int32.ofNat_le_iff_le ha hb)
theorem i_leL {a k : Nat} (ha : a < 2147483648) (hb : k < 2147483648) : ((no_index (OfNat.ofNat k)) ≤ Int32.ofNat a) = (OfNat.ofNat k ≤ a) := propext (Int32.ofNat_le_iff_le hb ha)
theorem i_inj {a b : Nat} (ha : a < 2147483648) (hb : b < 2147483648) (h : Int32.ofNat a = Int32.ofNat b) : a = b := by
  have h1 := congrArg Int32.toInt h
  rw [i32_ti ha, i32_ti hb] at h1
  omega
theorem i_eq {a b : Nat} (ha : a < 2147483648) (hb : b < 2147483648) : (Int32.ofNat a = Int32.ofNat b) = (a = b) := propext ⟨i_inj ha hb, fun h => by rw [h]⟩
theorem i_eqR {a k : Nat} (ha : a < 2147483648) (hb : k < 2147483648) : (Int32.ofNat a = (no_index (OfNat.ofNat k))) = (a = OfNat.ofNat k) := i_eq ha hb
theorem i_eqL {a k : Nat} (ha : a < 2147483648) (hb : k < 2147483648) : ((no_index (OfNat.ofNat k)) = Int32.ofNat a) = (OfNat.ofNat k = a) := i_eq hb ha
theorem i_of {v : Int32} (h : 0 ≤ v) : ∃ a, a < 2147483648 ∧ v = Int32.ofNat a := ⟨v.toNatClampNeg, Int32.toNatClampNeg_lt v, (Int32.ofNat_toNatClampNeg v h).symm⟩
theorem i_in {v : Int32} {k : Nat} (hk : k < 2147483648) (h : 0 ≤ v ∧ v ≤ Int32.ofNat k) : ∃ a, a ≤ k ∧ v = Int32.ofNat a := by
  obtain ⟨a, ha, rfl⟩ := i_of h.1
  exact ⟨a, by rw [← i_le ha hk]; exact h.2, rfl⟩
theorem fin_lit {n k : Nat} (h : k < n) (hn : n ≤ 2147483648) : fin n (no_index (OfNat.ofNat k)) = some (OfNat.ofNat k) := fin_nat h hn
theorem fin_neg {n : Nat} {v : Int32} (h : v < 0) : fin n v = none := by
  unfold fin inb
  rw [if_neg]
  rw [Int32.lt_iff_toInt_lt] at h
  have h0 : (0 : Int32).toInt = 0 := rfl
  simp only [Bool.and_eq_true, decide_eq_true_eq]
  omega
theorem fin_big {n : Nat} {v : Int32} (hn : n < 2147483648) (h : Int32.ofNat n ≤ v) : fin n v = none := by
  unfold fin inb
  rw [if_neg]
  rw [Int32.le_iff_toInt_le, i32_ti hn] at h
  simp only [Bool.and_eq_true, decide_eq_true_eq]
  omega
theorem fin_ok {n : Nat} {v : Int32} (hn : n < 2147483648) (h0 : ¬ v < 0) (h : ¬ Int32.ofNat n ≤ v) : fin n v = some v.toNatClampNeg := by
  have h00 : (0 : Int32).toInt = 0 := rfl
  rw [Int32.lt_iff_toInt_lt, h00] at h0
  rw [Int32.le_iff_toInt_le, i32_ti hn] at h
  exact fin_of (by omega) (by omega)
/-- the row's number at an index, 0 outside -/
def atv (N : Nat) (f : Nat → Int32) (i : Int32) : Int32 := match fin N i with
  | some j => f j
  | none => 0
theorem atv_nat {N a : Nat} {f : Nat → Int32} (h : a < N) (hN : N ≤ 2147483648) : atv N f (Int32.ofNat a) = f a := by
  unfold atv
  rw [fin_nat h hN]
/-- downwards over a loop's head -/
theorem loop_dn {P : Nat → Prop} {N : Nat} (hN : P N) (hs : ∀ i, i < N → P (i + 1) → P i) : ∀ i, i ≤ N → P i := by
  intro i hi
  obtain ⟨d, hd⟩ : ∃ d, d = N - i := ⟨_, rfl⟩
  induction d generalizing i with
  | zero => rw [show i = N by omega]; exact hN
  | succ d ih => exact hs i (by omega) (ih (i + 1) (by omega) (by omega))
theorem upd_at {f : Nat → Int32} {i j : Nat} {v : Int32} : upd f i v j = if j = i then v else f j := rfl
theorem pupd_pupd {w : PW} {a : Nat} {e e' : PE} : pupd (pupd w a e) a e' = pupd w a e' := by
  funext i
  unfold pupd
  split <;> rfl
theorem pupd_self {w : PW} {a : Nat} {e : PE} (h : w a = some e) : pupd w a e = w := by
  funext i
  unfold pupd
  split
  · next hi => rw [hi, h]
  · rfl
end I32
