/-! THE TURNS of the law: by program (wip/whole/mk23.py) -/
section TRN
variable {x : SX} {n p q : Nat} {lv l : LV} {st : List Value} {w : PW} {u v : Int32} {ju jv : Int64} {fu fv : UInt32} {du dv : UInt64} {a0 a1 a2 a3 a4 a5 a6 a7 a8 a9 a10 a11 a12 a13 a14 a15 a16 : Option Value}
theorem mr338 : mR 338 = some FieldType.boolean := by decide +kernel
theorem lw338_0 : RC x 338 0 lv st w n = RC x 338 3 lv (.ref n :: st) (pupd w n (.inr (6, fs6))) (n + 1) := rc_new (N := 9) (show fetch 338 0 = some (.new 8, 3, 6, 0, 96) by decide +kernel) (by decide +kernel) (by decide +kernel) (by decide) dfl6
theorem lw338_3 : RC x 338 3 lv (.ref p :: st) w n = RC x 338 4 lv (.ref p :: .ref p :: st) w n := rc_dupR (show fetch 338 3 = some (.dup, 1, 0, 0, 0) by decide +kernel)
theorem lw338_4 {z0 : Nat} (hc : csm st ≤ 8) (h1 : clo w z0 = some 6) : RC x 338 4 lv (.ref z0 :: st) w n = cal (RM x 34 [.ref z0] w n) (fun v w n => RC x 338 7 lv (rvs v st) w n) XNo := rc_callS (a := 2) (i := 152) (N := 1) (as := [.ref z0]) (L := 1) (show fetch 338 4 = some (.invokespecial 152, 3, 2, 34, 98) by decide +kernel) ml34 (by decide) (by decide) (by decide +kernel) (by decide +kernel) rfl rfl rfl rfl hc (Or.inr (Or.inr (rok_clo h1 (by decide +kernel))))
theorem lw338_7 (h : wd a0 = true) : RC x 338 7 (a0 :: a1 :: l) (.ref p :: st) w n = RC x 338 8 (a0 :: some (.ref p) :: l) st w n := rc_astore_n (show fetch 338 7 = some (.astore_n 1, 1, 0, 0, 0) by decide +kernel) (ok1 h) rfl
theorem lw338_8 : RC x 338 8 lv st w n = RC x 338 11 lv (.ref n :: st) (pupd w n (.inr (7, fs7))) (n + 1) := rc_new (N := 18) (show fetch 338 8 = some (.new 153, 3, 7, 0, 1641) by decide +kernel) (by decide +kernel) (by decide +kernel) (by decide) dfl7
theorem lw338_11 : RC x 338 11 lv (.ref p :: st) w n = RC x 338 12 lv (.ref p :: .ref p :: st) w n := rc_dupR (show fetch 338 11 = some (.dup, 1, 0, 0, 0) by decide +kernel)
theorem lw338_12 {z0 : Nat} (hc : csm st ≤ 8) (h1 : clo w z0 = some 7) : RC x 338 12 lv (.ref z0 :: st) w n = cal (RM x 191 [.ref z0] w n) (fun v w n => RC x 338 15 lv (rvs v st) w n) XNo := rc_callS (a := 2) (i := 155) (N := 1) (as := [.ref z0]) (L := 2) (show fetch 338 12 = some (.invokespecial 155, 3, 2, 191, 1643) by decide +kernel) ml191 (by decide) (by decide) (by decide +kernel) (by decide +kernel) rfl rfl rfl rfl hc (Or.inr (Or.inr (rok_clo h1 (by decide +kernel))))
theorem lw338_15 (h : wd a1 = true) : RC x 338 15 (a0 :: a1 :: a2 :: l) (.ref p :: st) w n = RC x 338 16 (a0 :: a1 :: some (.ref p) :: l) st w n := rc_astore_n (show fetch 338 15 = some (.astore_n 2, 1, 0, 0, 0) by decide +kernel) (ok2 h) rfl
theorem lw338_16 : RC x 338 16 lv st w n = RC x 338 17 lv (.int 1 :: st) w n := rc_iconst (show fetch 338 16 = some (.iconst 1, 1, 0, 0, 0) by decide +kernel) ic1
theorem lw338_17 {N : Nat} (h : ¬ v < 0) (hN : v.toNatClampNeg = N) (h1 : N ≤ 1000) : RC x 338 17 lv (.int v :: st) w n = RC x 338 19 lv (.ref n :: st) (pupd w n (zA 3 N)) (n + 1) := rc_newarray (show fetch 338 17 = some (.newarray .long, 2, 3, 0, 0) by decide +kernel) h hN h1
theorem lw338_19 (h : wd a2 = true) : RC x 338 19 (a0 :: a1 :: a2 :: a3 :: l) (.ref p :: st) w n = RC x 338 20 (a0 :: a1 :: a2 :: some (.ref p) :: l) st w n := rc_astore_n (show fetch 338 19 = some (.astore_n 3, 1, 0, 0, 0) by decide +kernel) (ok3 h) rfl
theorem lw338_20 : RC x 338 20 lv st w n = RC x 338 21 lv (.int 1 :: st) w n := rc_iconst (show fetch 338 20 = some (.iconst 1, 1, 0, 0, 0) by decide +kernel) ic1
theorem lw338_21 {N : Nat} (h : ¬ v < 0) (hN : v.toNatClampNeg = N) (h1 : N ≤ 1000) : RC x 338 21 lv (.int v :: st) w n = RC x 338 23 lv (.ref n :: st) (pupd w n (zA 4 N)) (n + 1) := rc_newarray (show fetch 338 21 = some (.newarray .double, 2, 4, 0, 0) by decide +kernel) h hN h1
theorem lw338_23 (h : wd a3 = true) : RC x 338 23 (a0 :: a1 :: a2 :: a3 :: a4 :: l) (.ref p :: st) w n = RC x 338 25 (a0 :: a1 :: a2 :: a3 :: some (.ref p) :: l) st w n := rc_astore (show fetch 338 23 = some (.astore 4, 2, 0, 0, 0) by decide +kernel) (ok4 h) rfl
theorem lw338_25 : RC x 338 25 lv st w n = RC x 338 26 lv (.int 0 :: st) w n := rc_iconst (show fetch 338 25 = some (.iconst 0, 1, 0, 0, 0) by decide +kernel) ic0
theorem lw338_26 (h : wd a4 = true) : RC x 338 26 (a0 :: a1 :: a2 :: a3 :: a4 :: a5 :: l) (.int v :: st) w n = RC x 338 28 (a0 :: a1 :: a2 :: a3 :: a4 :: some (.int v) :: l) st w n := rc_istore (show fetch 338 26 = some (.istore 5, 2, 0, 0, 0) by decide +kernel) (ok5 h) rfl
theorem lw338_28 : RC x 338 28 (a0 :: a1 :: a2 :: a3 :: a4 :: some (.int v) :: l) st w n = RC x 338 30 (a0 :: a1 :: a2 :: a3 :: a4 :: some (.int v) :: l) (.int v :: st) w n := rc_iload (show fetch 338 28 = some (.iload 5, 2, 0, 0, 0) by decide +kernel) rfl
theorem lw338_30 : RC x 338 30 (some (.ref p) :: l) st w n = RC x 338 31 (some (.ref p) :: l) (.ref p :: st) w n := rc_aload_n (show fetch 338 30 = some (.aload_n 0, 1, 0, 0, 0) by decide +kernel) rfl
theorem lw338_31 : RC x 338 31 lv (.ref p :: st) w n = (aln x w 1 p).bind fun v => RC x 338 32 lv (.int v :: st) w n := rc_arraylength (show fetch 338 31 = some (.arraylength, 1, 1, 0, 0) by decide +kernel)
theorem lw338_32 : RC x 338 32 lv st w n = RC x 338 33 lv (.int 4 :: st) w n := rc_iconst (show fetch 338 32 = some (.iconst 4, 1, 0, 0, 0) by decide +kernel) ic4
theorem lw338_33 : RC x 338 33 lv (.int v :: .int u :: st) w n = RC x 338 34 lv (.int (u - v) :: st) w n := rc_isub (show fetch 338 33 = some (.isub, 1, 0, 0, 0) by decide +kernel)
theorem lw338_34 : RC x 338 34 lv (.int v :: .int u :: st) w n = if v < u then RC x 338 2903 lv st w n else RC x 338 37 lv st w n := rc_if_icmp_gt (show fetch 338 34 = some (.if_icmp .gt 2869, 3, 0, 0, 0) by decide +kernel) (by decide +kernel) (by decide +kernel)
theorem lw338_37 : RC x 338 37 (some (.ref p) :: l) st w n = RC x 338 38 (some (.ref p) :: l) (.ref p :: st) w n := rc_aload_n (show fetch 338 37 = some (.aload_n 0, 1, 0, 0, 0) by decide +kernel) rfl
theorem lw338_38 : RC x 338 38 (a0 :: a1 :: a2 :: a3 :: a4 :: some (.int v) :: l) st w n = RC x 338 40 (a0 :: a1 :: a2 :: a3 :: a4 :: some (.int v) :: l) (.int v :: st) w n := rc_iload (show fetch 338 38 = some (.iload 5, 2, 0, 0, 0) by decide +kernel) rfl
theorem lw338_40 : RC x 338 40 lv (.int v :: .ref p :: st) w n = (ald 0 x w 1 p v).bind fun v => RC x 338 41 lv (.int v :: st) w n := rc_iaload (show fetch 338 40 = some (.iaload, 1, 1, 0, 0) by decide +kernel)
theorem lw338_41 : RC x 338 41 lv st w n = RC x 338 43 lv (.int 63 :: st) w n := rc_bipush (show fetch 338 41 = some (.bipush 63, 2, 0, 0, 0) by decide +kernel) ib63
theorem lw338_43 : RC x 338 43 lv (.int v :: .int u :: st) w n = RC x 338 44 lv (.int (u &&& v) :: st) w n := rc_iand (show fetch 338 43 = some (.iand, 1, 0, 0, 0) by decide +kernel)
theorem sw338_44 {v : Int32} : swt 44 (2853) (0) (53) #[232, 328, 408, 476, 546, 602, 670, 726, 782, 838, 894, 950, 1018, 1074, 1130, 1205, 1273, 1341, 1397, 1453, 1509, 1565, 1621, 1689, 1702, 1727, 1783, 1839, 1902, 1958, 2021, 2077, 2133, 2201, 2214, 2227, 2240, 2253, 2266, 2279, 2292, 2305, 2346, 2424, 2437, 2493, 2506, 2562, 2620, 2664, 2708, 2752, 2796, 2809] v = if v = 0 then some 276 else if v = 1 then some 372 else if v = 2 then some 452 else if v = 3 then some 520 else if v = 4 then some 590 else if v = 5 then some 646 else if v = 6 then some 714 else if v = 7 then some 770 else if v = 8 then some 826 else if v = 9 then some 882 else if v = 10 then some 938 else if v = 11 then some 994 else if v = 12 then some 1062 else if v = 13 then some 1118 else if v = 14 then some 1174 else if v = 15 then some 1249 else if v = 16 then some 1317 else if v = 17 then some 1385 else if v = 18 then some 1441 else if v = 19 then some 1497 else if v = 20 then some 1553 else if v = 21 then some 1609 else if v = 22 then some 1665 else if v = 23 then some 1733 else if v = 24 then some 1746 else if v = 25 then some 1771 else if v = 26 then some 1827 else if v = 27 then some 1883 else if v = 28 then some 1946 else if v = 29 then some 2002 else if v = 30 then some 2065 else if v = 31 then some 2121 else if v = 32 then some 2177 else if v = 33 then some 2245 else if v = 34 then some 2258 else if v = 35 then some 2271 else if v = 36 then some 2284 else if v = 37 then some 2297 else if v = 38 then some 2310 else if v = 39 then some 2323 else if v = 40 then some 2336 else if v = 41 then some 2349 else if v = 42 then some 2390 else if v = 43 then some 2468 else if v = 44 then some 2481 else if v = 45 then some 2537 else if v = 46 then some 2550 else if v = 47 then some 2606 else if v = 48 then some 2664 else if v = 49 then some 2708 else if v = 50 then some 2752 else if v = 51 then some 2796 else if v = 52 then some 2840 else if v = 53 then some 2853 else some 2897 := by
  by_cases h0 : v = 0
  · subst h0; decide +kernel
  by_cases h1 : v = 1
  · subst h1; decide +kernel
  by_cases h2 : v = 2
  · subst h2; decide +kernel
  by_cases h3 : v = 3
  · subst h3; decide +kernel
  by_cases h4 : v = 4
  · subst h4; decide +kernel
  by_cases h5 : v = 5
  · subst h5; decide +kernel
  by_cases h6 : v = 6
  · subst h6; decide +kernel
  by_cases h7 : v = 7
  · subst h7; decide +kernel
  by_cases h8 : v = 8
  · subst h8; decide +kernel
  by_cases h9 : v = 9
  · subst h9; decide +kernel
  by_cases h10 : v = 10
  · subst h10; decide +kernel
  by_cases h11 : v = 11
  · subst h11; decide +kernel
  by_cases h12 : v = 12
  · subst h12; decide +kernel
  by_cases h13 : v = 13
  · subst h13; decide +kernel
  by_cases h14 : v = 14
  · subst h14; decide +kernel
  by_cases h15 : v = 15
  · subst h15; decide +kernel
  by_cases h16 : v = 16
  · subst h16; decide +kernel
  by_cases h17 : v = 17
  · subst h17; decide +kernel
  by_cases h18 : v = 18
  · subst h18; decide +kernel
  by_cases h19 : v = 19
  · subst h19; decide +kernel
  by_cases h20 : v = 20
  · subst h20; decide +kernel
  by_cases h21 : v = 21
  · subst h21; decide +kernel
  by_cases h22 : v = 22
  · subst h22; decide +kernel
  by_cases h23 : v = 23
  · subst h23; decide +kernel
  by_cases h24 : v = 24
  · subst h24; decide +kernel
  by_cases h25 : v = 25
  · subst h25; decide +kernel
  by_cases h26 : v = 26
  · subst h26; decide +kernel
  by_cases h27 : v = 27
  · subst h27; decide +kernel
  by_cases h28 : v = 28
  · subst h28; decide +kernel
  by_cases h29 : v = 29
  · subst h29; decide +kernel
  by_cases h30 : v = 30
  · subst h30; decide +kernel
  by_cases h31 : v = 31
  · subst h31; decide +kernel
  by_cases h32 : v = 32
  · subst h32; decide +kernel
  by_cases h33 : v = 33
  · subst h33; decide +kernel
  by_cases h34 : v = 34
  · subst h34; decide +kernel
  by_cases h35 : v = 35
  · subst h35; decide +kernel
  by_cases h36 : v = 36
  · subst h36; decide +kernel
  by_cases h37 : v = 37
  · subst h37; decide +kernel
  by_cases h38 : v = 38
  · subst h38; decide +kernel
  by_cases h39 : v = 39
  · subst h39; decide +kernel
  by_cases h40 : v = 40
  · subst h40; decide +kernel
  by_cases h41 : v = 41
  · subst h41; decide +kernel
  by_cases h42 : v = 42
  · subst h42; decide +kernel
  by_cases h43 : v = 43
  · subst h43; decide +kernel
  by_cases h44 : v = 44
  · subst h44; decide +kernel
  by_cases h45 : v = 45
  · subst h45; decide +kernel
  by_cases h46 : v = 46
  · subst h46; decide +kernel
  by_cases h47 : v = 47
  · subst h47; decide +kernel
  by_cases h48 : v = 48
  · subst h48; decide +kernel
  by_cases h49 : v = 49
  · subst h49; decide +kernel
  by_cases h50 : v = 50
  · subst h50; decide +kernel
  by_cases h51 : v = 51
  · subst h51; decide +kernel
  by_cases h52 : v = 52
  · subst h52; decide +kernel
  by_cases h53 : v = 53
  · subst h53; decide +kernel
  have e0 := ne_ti h0 (show (0 : Int32).toInt = 0 by decide +kernel)
  have e1 := ne_ti h1 (show (1 : Int32).toInt = 1 by decide +kernel)
  have e2 := ne_ti h2 (show (2 : Int32).toInt = 2 by decide +kernel)
  have e3 := ne_ti h3 (show (3 : Int32).toInt = 3 by decide +kernel)
  have e4 := ne_ti h4 (show (4 : Int32).toInt = 4 by decide +kernel)
  have e5 := ne_ti h5 (show (5 : Int32).toInt = 5 by decide +kernel)
  have e6 := ne_ti h6 (show (6 : Int32).toInt = 6 by decide +kernel)
  have e7 := ne_ti h7 (show (7 : Int32).toInt = 7 by decide +kernel)
  have e8 := ne_ti h8 (show (8 : Int32).toInt = 8 by decide +kernel)
  have e9 := ne_ti h9 (show (9 : Int32).toInt = 9 by decide +kernel)
  have e10 := ne_ti h10 (show (10 : Int32).toInt = 10 by decide +kernel)
  have e11 := ne_ti h11 (show (11 : Int32).toInt = 11 by decide +kernel)
  have e12 := ne_ti h12 (show (12 : Int32).toInt = 12 by decide +kernel)
  have e13 := ne_ti h13 (show (13 : Int32).toInt = 13 by decide +kernel)
  have e14 := ne_ti h14 (show (14 : Int32).toInt = 14 by decide +kernel)
  have e15 := ne_ti h15 (show (15 : Int32).toInt = 15 by decide +kernel)
  have e16 := ne_ti h16 (show (16 : Int32).toInt = 16 by decide +kernel)
  have e17 := ne_ti h17 (show (17 : Int32).toInt = 17 by decide +kernel)
  have e18 := ne_ti h18 (show (18 : Int32).toInt = 18 by decide +kernel)
  have e19 := ne_ti h19 (show (19 : Int32).toInt = 19 by decide +kernel)
  have e20 := ne_ti h20 (show (20 : Int32).toInt = 20 by decide +kernel)
  have e21 := ne_ti h21 (show (21 : Int32).toInt = 21 by decide +kernel)
  have e22 := ne_ti h22 (show (22 : Int32).toInt = 22 by decide +kernel)
  have e23 := ne_ti h23 (show (23 : Int32).toInt = 23 by decide +kernel)
  have e24 := ne_ti h24 (show (24 : Int32).toInt = 24 by decide +kernel)
  have e25 := ne_ti h25 (show (25 : Int32).toInt = 25 by decide +kernel)
  have e26 := ne_ti h26 (show (26 : Int32).toInt = 26 by decide +kernel)
  have e27 := ne_ti h27 (show (27 : Int32).toInt = 27 by decide +kernel)
  have e28 := ne_ti h28 (show (28 : Int32).toInt = 28 by decide +kernel)
  have e29 := ne_ti h29 (show (29 : Int32).toInt = 29 by decide +kernel)
  have e30 := ne_ti h30 (show (30 : Int32).toInt = 30 by decide +kernel)
  have e31 := ne_ti h31 (show (31 : Int32).toInt = 31 by decide +kernel)
  have e32 := ne_ti h32 (show (32 : Int32).toInt = 32 by decide +kernel)
  have e33 := ne_ti h33 (show (33 : Int32).toInt = 33 by decide +kernel)
  have e34 := ne_ti h34 (show (34 : Int32).toInt = 34 by decide +kernel)
  have e35 := ne_ti h35 (show (35 : Int32).toInt = 35 by decide +kernel)
  have e36 := ne_ti h36 (show (36 : Int32).toInt = 36 by decide +kernel)
  have e37 := ne_ti h37 (show (37 : Int32).toInt = 37 by decide +kernel)
  have e38 := ne_ti h38 (show (38 : Int32).toInt = 38 by decide +kernel)
  have e39 := ne_ti h39 (show (39 : Int32).toInt = 39 by decide +kernel)
  have e40 := ne_ti h40 (show (40 : Int32).toInt = 40 by decide +kernel)
  have e41 := ne_ti h41 (show (41 : Int32).toInt = 41 by decide +kernel)
  have e42 := ne_ti h42 (show (42 : Int32).toInt = 42 by decide +kernel)
  have e43 := ne_ti h43 (show (43 : Int32).toInt = 43 by decide +kernel)
  have e44 := ne_ti h44 (show (44 : Int32).toInt = 44 by decide +kernel)
  have e45 := ne_ti h45 (show (45 : Int32).toInt = 45 by decide +kernel)
  have e46 := ne_ti h46 (show (46 : Int32).toInt = 46 by decide +kernel)
  have e47 := ne_ti h47 (show (47 : Int32).toInt = 47 by decide +kernel)
  have e48 := ne_ti h48 (show (48 : Int32).toInt = 48 by decide +kernel)
  have e49 := ne_ti h49 (show (49 : Int32).toInt = 49 by decide +kernel)
  have e50 := ne_ti h50 (show (50 : Int32).toInt = 50 by decide +kernel)
  have e51 := ne_ti h51 (show (51 : Int32).toInt = 51 by decide +kernel)
  have e52 := ne_ti h52 (show (52 : Int32).toInt = 52 by decide +kernel)
  have e53 := ne_ti h53 (show (53 : Int32).toInt = 53 by decide +kernel)
  rw [if_neg h0, if_neg h1, if_neg h2, if_neg h3, if_neg h4, if_neg h5, if_neg h6, if_neg h7, if_neg h8, if_neg h9, if_neg h10, if_neg h11, if_neg h12, if_neg h13, if_neg h14, if_neg h15, if_neg h16, if_neg h17, if_neg h18, if_neg h19, if_neg h20, if_neg h21, if_neg h22, if_neg h23, if_neg h24, if_neg h25, if_neg h26, if_neg h27, if_neg h28, if_neg h29, if_neg h30, if_neg h31, if_neg h32, if_neg h33, if_neg h34, if_neg h35, if_neg h36, if_neg h37, if_neg h38, if_neg h39, if_neg h40, if_neg h41, if_neg h42, if_neg h43, if_neg h44, if_neg h45, if_neg h46, if_neg h47, if_neg h48, if_neg h49, if_neg h50, if_neg h51, if_neg h52, if_neg h53]
  unfold swt
  rw [if_pos (by omega), if_pos (by decide +kernel)]
  rfl
theorem lw338_44 : RC x 338 44 lv (.int v :: st) w n = if v = 0 then RC x 338 276 lv st w n else if v = 1 then RC x 338 372 lv st w n else if v = 2 then RC x 338 452 lv st w n else if v = 3 then RC x 338 520 lv st w n else if v = 4 then RC x 338 590 lv st w n else if v = 5 then RC x 338 646 lv st w n else if v = 6 then RC x 338 714 lv st w n else if v = 7 then RC x 338 770 lv st w n else if v = 8 then RC x 338 826 lv st w n else if v = 9 then RC x 338 882 lv st w n else if v = 10 then RC x 338 938 lv st w n else if v = 11 then RC x 338 994 lv st w n else if v = 12 then RC x 338 1062 lv st w n else if v = 13 then RC x 338 1118 lv st w n else if v = 14 then RC x 338 1174 lv st w n else if v = 15 then RC x 338 1249 lv st w n else if v = 16 then RC x 338 1317 lv st w n else if v = 17 then RC x 338 1385 lv st w n else if v = 18 then RC x 338 1441 lv st w n else if v = 19 then RC x 338 1497 lv st w n else if v = 20 then RC x 338 1553 lv st w n else if v = 21 then RC x 338 1609 lv st w n else if v = 22 then RC x 338 1665 lv st w n else if v = 23 then RC x 338 1733 lv st w n else if v = 24 then RC x 338 1746 lv st w n else if v = 25 then RC x 338 1771 lv st w n else if v = 26 then RC x 338 1827 lv st w n else if v = 27 then RC x 338 1883 lv st w n else if v = 28 then RC x 338 1946 lv st w n else if v = 29 then RC x 338 2002 lv st w n else if v = 30 then RC x 338 2065 lv st w n else if v = 31 then RC x 338 2121 lv st w n else if v = 32 then RC x 338 2177 lv st w n else if v = 33 then RC x 338 2245 lv st w n else if v = 34 then RC x 338 2258 lv st w n else if v = 35 then RC x 338 2271 lv st w n else if v = 36 then RC x 338 2284 lv st w n else if v = 37 then RC x 338 2297 lv st w n else if v = 38 then RC x 338 2310 lv st w n else if v = 39 then RC x 338 2323 lv st w n else if v = 40 then RC x 338 2336 lv st w n else if v = 41 then RC x 338 2349 lv st w n else if v = 42 then RC x 338 2390 lv st w n else if v = 43 then RC x 338 2468 lv st w n else if v = 44 then RC x 338 2481 lv st w n else if v = 45 then RC x 338 2537 lv st w n else if v = 46 then RC x 338 2550 lv st w n else if v = 47 then RC x 338 2606 lv st w n else if v = 48 then RC x 338 2664 lv st w n else if v = 49 then RC x 338 2708 lv st w n else if v = 50 then RC x 338 2752 lv st w n else if v = 51 then RC x 338 2796 lv st w n else if v = 52 then RC x 338 2840 lv st w n else if v = 53 then RC x 338 2853 lv st w n else RC x 338 2897 lv st w n := by
  rw [rc_tsw (show fetch 338 44 = some (.tableswitch 2853 0 53 #[232, 328, 408, 476, 546, 602, 670, 726, 782, 838, 894, 950, 1018, 1074, 1130, 1205, 1273, 1341, 1397, 1453, 1509, 1565, 1621, 1689, 1702, 1727, 1783, 1839, 1902, 1958, 2021, 2077, 2133, 2201, 2214, 2227, 2240, 2253, 2266, 2279, 2292, 2305, 2346, 2424, 2437, 2493, 2506, 2562, 2620, 2664, 2708, 2752, 2796, 2809], 232, 0, 0, 0) by decide +kernel), sw338_44]
  simp only [ob_ite, ob_some]
theorem lw338_2897 (h : wd a4 = true) : RC x 338 2897 (a0 :: a1 :: a2 :: a3 :: a4 :: some (.int v) :: l) st w n = RC x 338 2900 (a0 :: a1 :: a2 :: a3 :: a4 :: some (.int (v + 4)) :: l) st w n := rc_iinc (show fetch 338 2897 = some (.iinc 5 4, 3, 0, 0, 0) by decide +kernel) (inc5 ic4 h)
theorem lw338_2900 : RC x 338 2900 lv st w n = RC x 338 28 lv st w n := rc_goto (show fetch 338 2900 = some (.goto (-2872), 3, 0, 0, 0) by decide +kernel) (by decide +kernel) (by decide +kernel)
theorem lw338_2903 : RC x 338 2903 lv st w n = RC x 338 2904 lv (.int 1 :: st) w n := rc_iconst (show fetch 338 2903 = some (.iconst 1, 1, 0, 0, 0) by decide +kernel) ic1
theorem lw338_2904 (h : v = 0 ∨ v = 1) : RC x 338 2904 lv [.int v] w n = some (.inl (some (.int v)), w, n) := rc_ireturn (show fetch 338 2904 = some (.ireturn, 1, 0, 0, 0) by decide +kernel) mr338 (rt_bool h)
end TRN

