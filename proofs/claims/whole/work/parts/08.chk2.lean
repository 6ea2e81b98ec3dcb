theorem zl : zok 338 = true := by
  unfold zok
  rw [show (mt 338).2.2.2.2.2.2.1 = q338 from rfl, show (mt 338).2.2.2.2.2.2.2 = r338 from rfl]
  unfold q338 r338
  rw [zipE_app (a := q338_0) (c := r338_0) (by decide +kernel), zipE_app (a := q338_1) (c := r338_1) (by decide +kernel), zipE_app (a := q338_2) (c := r338_2) (by decide +kernel), zipE_app (a := q338_3) (c := r338_3) (by decide +kernel), zipE_app (a := q338_4) (c := r338_4) (by decide +kernel), zipE_app (a := q338_5) (c := r338_5) (by decide +kernel), zipE_app (a := q338_6) (c := r338_6) (by decide +kernel), zipE_app (a := q338_7) (c := r338_7) (by decide +kernel), zipE_app (a := q338_8) (c := r338_8) (by decide +kernel), zipE_app (a := q338_9) (c := r338_9) (by decide +kernel), zipE_app (a := q338_10) (c := r338_10) (by decide +kernel), zipE_app (a := q338_11) (c := r338_11) (by decide +kernel), zipE_app (a := q338_12) (c := r338_12) (by decide +kernel), zipE_app (a := q338_13) (c := r338_13) (by decide +kernel), zipE_app (a := q338_14) (c := r338_14) (by decide +kernel), zipE_app (a := q338_15) (c := r338_15) (by decide +kernel), zipE_app (a := q338_16) (c := r338_16) (by decide +kernel), zipE_app (a := q338_17) (c := r338_17) (by decide +kernel), zipE_app (a := q338_18) (c := r338_18) (by decide +kernel), zipE_app (a := q338_19) (c := r338_19) (by decide +kernel), zipE_app (a := q338_20) (c := r338_20) (by decide +kernel), zipE_app (a := q338_21) (c := r338_21) (by decide +kernel), zipE_app (a := q338_22) (c := r338_22) (by decide +kernel), zipE_app (a := q338_23) (c := r338_23) (by decide +kernel), zipE_app (a := q338_24) (c := r338_24) (by decide +kernel), zipE_app (a := q338_25) (c := r338_25) (by decide +kernel), zipE_app (a := q338_26) (c := r338_26) (by decide +kernel), zipE_app (a := q338_27) (c := r338_27) (by decide +kernel), zipE_app (a := q338_28) (c := r338_28) (by decide +kernel), zipE_app (a := q338_29) (c := r338_29) (by decide +kernel), zipE_app (a := q338_30) (c := r338_30) (by decide +kernel), zipE_app (a := q338_31) (c := r338_31) (by decide +kernel), zipE_app (a := q338_32) (c := r338_32) (by decide +kernel), zipE_app (a := q338_33) (c := r338_33) (by decide +kernel), zipE_app (a := q338_34) (c := r338_34) (by decide +kernel), zipE_app (a := q338_35) (c := r338_35) (by decide +kernel), zipE_app (a := q338_36) (c := r338_36) (by decide +kernel), zipE_app (a := q338_37) (c := r338_37) (by decide +kernel), zipE_app (a := q338_38) (c := r338_38) (by decide +kernel), zipE_app (a := q338_39) (c := r338_39) (by decide +kernel), zipE_app (a := q338_40) (c := r338_40) (by decide +kernel)]
  simp only [List.all_append, zl_0, zl_1, zl_2, zl_3, zl_4, zl_5, zl_6, zl_7, zl_8, zl_9, zl_10, zl_11, zl_12, zl_13, zl_14, zl_15, zl_16, zl_17, zl_18, zl_19, zl_20, zl_21, zl_22, zl_23, zl_24, zl_25, zl_26, zl_27, zl_28, zl_29, zl_30, zl_31, zl_32, zl_33, zl_34, zl_35, zl_36, zl_37, zl_38, zl_39, zl_40, zl_41, Bool.and_self]
theorem zok_all {k : Nat} (h : k < KN) : zok k = true := by
  by_cases h0 : k < 20
  · have h9 := zg_0 (k - 0) (by omega)
    rwa [show 0 + (k - 0) = k by omega] at h9
  by_cases h1 : k < 40
  · have h9 := zg_1 (k - 20) (by omega)
    rwa [show 20 + (k - 20) = k by omega] at h9
  by_cases h2 : k < 60
  · have h9 := zg_2 (k - 40) (by omega)
    rwa [show 40 + (k - 40) = k by omega] at h9
  by_cases h3 : k < 80
  · have h9 := zg_3 (k - 60) (by omega)
    rwa [show 60 + (k - 60) = k by omega] at h9
  by_cases h4 : k < 100
  · have h9 := zg_4 (k - 80) (by omega)
    rwa [show 80 + (k - 80) = k by omega] at h9
  by_cases h5 : k < 120
  · have h9 := zg_5 (k - 100) (by omega)
    rwa [show 100 + (k - 100) = k by omega] at h9
  by_cases h6 : k < 140
  · have h9 := zg_6 (k - 120) (by omega)
    rwa [show 120 + (k - 120) = k by omega] at h9
  by_cases h7 : k < 160
  · have h9 := zg_7 (k - 140) (by omega)
    rwa [show 140 + (k - 140) = k by omega] at h9
  by_cases h8 : k < 180
  · have h9 := zg_8 (k - 160) (by omega)
    rwa [show 160 + (k - 160) = k by omega] at h9
  by_cases h9 : k < 200
  · have h9 := zg_9 (k - 180) (by omega)
    rwa [show 180 + (k - 180) = k by omega] at h9
  by_cases h10 : k < 220
  · have h9 := zg_10 (k - 200) (by omega)
    rwa [show 200 + (k - 200) = k by omega] at h9
  by_cases h11 : k < 240
  · have h9 := zg_11 (k - 220) (by omega)
    rwa [show 220 + (k - 220) = k by omega] at h9
  by_cases h12 : k < 260
  · have h9 := zg_12 (k - 240) (by omega)
    rwa [show 240 + (k - 240) = k by omega] at h9
  by_cases h13 : k < 280
  · have h9 := zg_13 (k - 260) (by omega)
    rwa [show 260 + (k - 260) = k by omega] at h9
  by_cases h14 : k < 300
  · have h9 := zg_14 (k - 280) (by omega)
    rwa [show 280 + (k - 280) = k by omega] at h9
  by_cases h15 : k < 320
  · have h9 := zg_15 (k - 300) (by omega)
    rwa [show 300 + (k - 300) = k by omega] at h9
  by_cases h16 : k < 338
  · have h9 := zg_16 (k - 320) (by omega)
    rwa [show 320 + (k - 320) = k by omega] at h9
  have h9 : k = 338 := by have h8 : k < 339 := h; omega
  rw [h9]; exact zl
theorem chk_all {k : Nat} (h : k < KN) {e : ENT} (he : e ∈ mQ k) : chk k e = true := by
  have h1 := zok_all h
  unfold zok at h1
  rw [← mQ_eq] at h1
  exact List.all_eq_true.mp h1 e he
theorem cg_0 : ∀ i, i < 20 → cchk (0 + i) = true := by decide +kernel
theorem cg_1 : ∀ i, i < 20 → cchk (20 + i) = true := by decide +kernel
theorem cg_2 : ∀ i, i < 20 → cchk (40 + i) = true := by decide +kernel
theorem cg_3 : ∀ i, i < 20 → cchk (60 + i) = true := by decide +kernel
theorem cg_4 : ∀ i, i < 20 → cchk (80 + i) = true := by decide +kernel
theorem cg_5 : ∀ i, i < 20 → cchk (100 + i) = true := by decide +kernel
theorem cg_6 : ∀ i, i < 20 → cchk (120 + i) = true := by decide +kernel
theorem cg_7 : ∀ i, i < 20 → cchk (140 + i) = true := by decide +kernel
theorem cg_8 : ∀ i, i < 20 → cchk (160 + i) = true := by decide +kernel
theorem cg_9 : ∀ i, i < 20 → cchk (180 + i) = true := by decide +kernel
theorem cg_10 : ∀ i, i < 20 → cchk (200 + i) = true := by decide +kernel
theorem cg_11 : ∀ i, i < 20 → cchk (220 + i) = true := by decide +kernel
theorem cg_12 : ∀ i, i < 20 → cchk (240 + i) = true := by decide +kernel
theorem cg_13 : ∀ i, i < 20 → cchk (260 + i) = true := by decide +kernel
theorem cg_14 : ∀ i, i < 20 → cchk (280 + i) = true := by decide +kernel
theorem cg_15 : ∀ i, i < 20 → cchk (300 + i) = true := by decide +kernel
theorem cg_16 : ∀ i, i < 18 → cchk (320 + i) = true := by decide +kernel
theorem cchk_all {k : Nat} (h : k + 1 < KN) : cchk k = true := by
  by_cases h0 : k < 20
  · have h9 := cg_0 (k - 0) (by omega)
    rwa [show 0 + (k - 0) = k by omega] at h9
  by_cases h1 : k < 40
  · have h9 := cg_1 (k - 20) (by omega)
    rwa [show 20 + (k - 20) = k by omega] at h9
  by_cases h2 : k < 60
  · have h9 := cg_2 (k - 40) (by omega)
    rwa [show 40 + (k - 40) = k by omega] at h9
  by_cases h3 : k < 80
  · have h9 := cg_3 (k - 60) (by omega)
    rwa [show 60 + (k - 60) = k by omega] at h9
  by_cases h4 : k < 100
  · have h9 := cg_4 (k - 80) (by omega)
    rwa [show 80 + (k - 80) = k by omega] at h9
  by_cases h5 : k < 120
  · have h9 := cg_5 (k - 100) (by omega)
    rwa [show 100 + (k - 100) = k by omega] at h9
  by_cases h6 : k < 140
  · have h9 := cg_6 (k - 120) (by omega)
    rwa [show 120 + (k - 120) = k by omega] at h9
  by_cases h7 : k < 160
  · have h9 := cg_7 (k - 140) (by omega)
    rwa [show 140 + (k - 140) = k by omega] at h9
  by_cases h8 : k < 180
  · have h9 := cg_8 (k - 160) (by omega)
    rwa [show 160 + (k - 160) = k by omega] at h9
  by_cases h9 : k < 200
  · have h9 := cg_9 (k - 180) (by omega)
    rwa [show 180 + (k - 180) = k by omega] at h9
  by_cases h10 : k < 220
  · have h9 := cg_10 (k - 200) (by omega)
    rwa [show 200 + (k - 200) = k by omega] at h9
  by_cases h11 : k < 240
  · have h9 := cg_11 (k - 220) (by omega)
    rwa [show 220 + (k - 220) = k by omega] at h9
  by_cases h12 : k < 260
  · have h9 := cg_12 (k - 240) (by omega)
    rwa [show 240 + (k - 240) = k by omega] at h9
  by_cases h13 : k < 280
  · have h9 := cg_13 (k - 260) (by omega)
    rwa [show 260 + (k - 260) = k by omega] at h9
  by_cases h14 : k < 300
  · have h9 := cg_14 (k - 280) (by omega)
    rwa [show 280 + (k - 280) = k by omega] at h9
  by_cases h15 : k < 320
  · have h9 := cg_15 (k - 300) (by omega)
    rwa [show 300 + (k - 300) = k by omega] at h9
  by_cases h16 : k < 338
  · have h9 := cg_16 (k - 320) (by omega)
    rwa [show 320 + (k - 320) = k by omega] at h9
  have h8 : k + 1 < 339 := h
  omega
