/-! every row's pool entry means what the tables' words say; every method has what its callers need -/
theorem zipE_app {a b : List RAW} {c d : List RES} (h : a.length = c.length) : zipE (a ++ b) (c ++ d) = zipE a c ++ zipE b d := by
  unfold zipE
  rw [List.zip_append h, List.map_append]
def zok (k : Nat) : Bool := (zipE (mt k).2.2.2.2.2.2.1 (mt k).2.2.2.2.2.2.2).all (chk k)
theorem zg_0 : ∀ i, i < 20 → zok (0 + i) = true := by decide +kernel
theorem zg_1 : ∀ i, i < 20 → zok (20 + i) = true := by decide +kernel
theorem zg_2 : ∀ i, i < 20 → zok (40 + i) = true := by decide +kernel
theorem zg_3 : ∀ i, i < 20 → zok (60 + i) = true := by decide +kernel
theorem zg_4 : ∀ i, i < 20 → zok (80 + i) = true := by decide +kernel
theorem zg_5 : ∀ i, i < 20 → zok (100 + i) = true := by decide +kernel
theorem zg_6 : ∀ i, i < 20 → zok (120 + i) = true := by decide +kernel
theorem zg_7 : ∀ i, i < 20 → zok (140 + i) = true := by decide +kernel
theorem zg_8 : ∀ i, i < 20 → zok (160 + i) = true := by decide +kernel
theorem zg_9 : ∀ i, i < 20 → zok (180 + i) = true := by decide +kernel
theorem zg_10 : ∀ i, i < 20 → zok (200 + i) = true := by decide +kernel
theorem zg_11 : ∀ i, i < 20 → zok (220 + i) = true := by decide +kernel
theorem zg_12 : ∀ i, i < 20 → zok (240 + i) = true := by decide +kernel
theorem zg_13 : ∀ i, i < 20 → zok (260 + i) = true := by decide +kernel
theorem zg_14 : ∀ i, i < 20 → zok (280 + i) = true := by decide +kernel
theorem zg_15 : ∀ i, i < 20 → zok (300 + i) = true := by decide +kernel
theorem zg_16 : ∀ i, i < 18 → zok (320 + i) = true := by decide +kernel
