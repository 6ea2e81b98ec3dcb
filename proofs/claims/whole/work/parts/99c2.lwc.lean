/-! THE LAW: its calls, part 2 -/
section LWC
set_option maxRecDepth 20000
variable {x : SX} {i n B : Nat} {w : PW} {e0 : Int32}
theorem lc_14 {a6 a7 a8 a9 : Option Value} (hx : x.1 ≤ 2048) (hi : i + 4 ≤ x.1) (hB : B < 2147483648) (hF : FVe B w n e0) : LC x 1174 i a6 a7 a8 a9 w n B := by
  obtain ⟨m, s, t, y, hs, le, lf, F, K, sc, c, q, cs, hV, hS, hO, -⟩ := hF
  have k64 := (WD_64 hV.1).2.1
  have h1 : Int32.ofNat i + 1 = Int32.ofNat (i + 1) := i_add (b := 1)
  have h2 : Int32.ofNat i + 2 = Int32.ofNat (i + 2) := i_add (b := 2)
  have h3 : Int32.ofNat i + 3 = Int32.ofNat (i + 3) := i_add (b := 3)
  have y1 : ∀ w, ald 0 x w 1 9 (Int32.ofNat (i + 1)) = some (x.2 (i + 1)) := fun w => scr_l hx (by omega)
  have y2 : ∀ w, ald 0 x w 1 9 (Int32.ofNat (i + 2)) = some (x.2 (i + 2)) := fun w => scr_l hx (by omega)
  have y3 : ∀ w, ald 0 x w 1 9 (Int32.ofNat (i + 3)) = some (x.2 (i + 3)) := fun w => scr_l hx (by omega)
  obtain ⟨e, d, w1, n1, w2, n2, B', E1, E2, k227, hn, hz, hl, hF⟩ := PRB_of hS hO (p312 (x := x) (n := n) (u := (x.2 (i + 1))) (v := (x.2 (i + 2))) hV)
  obtain ⟨k2, e192⟩ := thr (x := x) hF
  refine ⟨some (.int e), some (.int (bi d)), a8, a9, w2, n2, B', e, ?_, hn, hl, hF⟩
  by_cases he : e = 0
  · obtain ⟨f, f1, f2⟩ := hz he
    have l0 := lld_0 f1
    rw [f2] at l0
    subst he
    cases d with
    | true =>
      rw [bi_t] at E2 ⊢
      rw [cond_true] at l0
      simp only [csN, csm_i, csm_r, Nat.reduceAdd, Nat.reduceLeDiff, wdI, wdR, wdN, clM_0, clC_0, clC_1, clC_6, clC_8, true_or, or_true, i10, i01, ob_some, ob_map, cal_v, rvs_some, rvs_none, XO_at, cal_x, lw338_1174, lw338_1175, lw338_1176, lw338_1178, lw338_1179, lw338_1180, lw338_1181, lw338_1182, lw338_1184, lw338_1185, lw338_1186, lw338_1187, lw338_1188, lw338_1191, lw338_1193, lw338_1194, lw338_1195, lw338_1197, lw338_1198, lw338_1199, lw338_1200, lw338_1201, lw338_1203, lw338_1204, lw338_1205, lw338_1206, lw338_1209, lw338_1211, lw338_1212, lw338_1215, lw338_1217, lw338_1220, lw338_1221, lw338_1222, lw338_1224, lw338_1227, lw338_1228, lw338_1229, lw338_1230, lw338_1232, lw338_1235, lw338_1236, lw338_1239, lw338_1240, lw338_1241, lw338_1244, lw338_1245, lw338_1246, h1, h2, h3, y1, y2, y3, if_true, if_false, E1, k227, E2, k2, e192, l0, lg_self]
    | false =>
      rw [bi_f] at E2 ⊢
      rw [cond_false] at l0
      simp only [csN, csm_i, csm_r, Nat.reduceAdd, Nat.reduceLeDiff, wdI, wdR, wdN, clM_0, clC_0, clC_1, clC_6, clC_8, true_or, or_true, i10, i01, ob_some, ob_map, cal_v, rvs_some, rvs_none, XO_at, cal_x, lw338_1174, lw338_1175, lw338_1176, lw338_1178, lw338_1179, lw338_1180, lw338_1181, lw338_1182, lw338_1184, lw338_1185, lw338_1186, lw338_1187, lw338_1188, lw338_1191, lw338_1193, lw338_1194, lw338_1195, lw338_1197, lw338_1198, lw338_1199, lw338_1200, lw338_1201, lw338_1203, lw338_1204, lw338_1205, lw338_1206, lw338_1209, lw338_1211, lw338_1212, lw338_1215, lw338_1217, lw338_1220, lw338_1221, lw338_1222, lw338_1224, lw338_1227, lw338_1228, lw338_1229, lw338_1230, lw338_1232, lw338_1235, lw338_1236, lw338_1239, lw338_1240, lw338_1241, lw338_1244, lw338_1245, lw338_1246, h1, h2, h3, y1, y2, y3, if_true, if_false, E1, k227, E2, k2, e192, l0, lg_self]
  · skip
    simp only [csN, csm_i, csm_r, Nat.reduceAdd, Nat.reduceLeDiff, wdI, wdR, wdN, clM_0, clC_0, clC_1, clC_6, clC_8, true_or, or_true, i10, i01, ob_some, ob_map, cal_v, rvs_some, rvs_none, XO_at, cal_x, lw338_1174, lw338_1175, lw338_1176, lw338_1178, lw338_1179, lw338_1180, lw338_1181, lw338_1182, lw338_1184, lw338_1185, lw338_1186, lw338_1187, lw338_1188, lw338_1191, lw338_1193, lw338_1194, lw338_1195, lw338_1197, lw338_1198, lw338_1199, lw338_1200, lw338_1201, lw338_1203, lw338_1204, lw338_1205, lw338_1206, lw338_1209, lw338_1211, lw338_1212, lw338_1215, lw338_1217, lw338_1220, lw338_1221, lw338_1222, lw338_1224, lw338_1227, lw338_1228, lw338_1229, lw338_1230, lw338_1232, lw338_1235, lw338_1236, lw338_1239, lw338_1240, lw338_1241, lw338_1244, lw338_1245, lw338_1246, h1, h2, h3, y1, y2, y3, if_true, if_false, E1, k227, E2, k2, e192, he]
theorem lc_15 {a6 a7 a8 a9 : Option Value} (hx : x.1 ≤ 2048) (hi : i + 4 ≤ x.1) (hB : B < 2147483648) (hF : FVe B w n e0) : LC x 1249 i a6 a7 a8 a9 w n B := by
  obtain ⟨m, s, t, y, hs, le, lf, F, K, sc, c, q, cs, hV, hS, hO, -⟩ := hF
  have k64 := (WD_64 hV.1).2.1
  have h1 : Int32.ofNat i + 1 = Int32.ofNat (i + 1) := i_add (b := 1)
  have h2 : Int32.ofNat i + 2 = Int32.ofNat (i + 2) := i_add (b := 2)
  have h3 : Int32.ofNat i + 3 = Int32.ofNat (i + 3) := i_add (b := 3)
  have y1 : ∀ w, ald 0 x w 1 9 (Int32.ofNat (i + 1)) = some (x.2 (i + 1)) := fun w => scr_l hx (by omega)
  have y2 : ∀ w, ald 0 x w 1 9 (Int32.ofNat (i + 2)) = some (x.2 (i + 2)) := fun w => scr_l hx (by omega)
  have y3 : ∀ w, ald 0 x w 1 9 (Int32.ofNat (i + 3)) = some (x.2 (i + 3)) := fun w => scr_l hx (by omega)
  obtain ⟨e, r, w1, n1, w2, n2, B', E1, E2, k227, hn, hz, hl, hF⟩ := PR_of hS hO (p313 (x := x) (n := n) (u := (x.2 (i + 1))) (v := (x.2 (i + 2))) hV)
  obtain ⟨k2, e192⟩ := thr (x := x) hF
  refine ⟨some (.int e), some (.int r), a8, a9, w2, n2, B', e, ?_, hn, hl, hF⟩
  by_cases he : e = 0
  · obtain ⟨f, f1, f2⟩ := hz he
    have l0 := lld_0 f1
    rw [f2] at l0
    subst he
    simp only [csN, csm_i, csm_r, Nat.reduceAdd, Nat.reduceLeDiff, wdI, wdR, wdN, clM_0, clC_0, clC_1, clC_6, clC_8, true_or, or_true, i10, i01, ob_some, ob_map, cal_v, rvs_some, rvs_none, XO_at, cal_x, lw338_1249, lw338_1250, lw338_1251, lw338_1253, lw338_1254, lw338_1255, lw338_1256, lw338_1257, lw338_1259, lw338_1260, lw338_1261, lw338_1262, lw338_1263, lw338_1266, lw338_1268, lw338_1269, lw338_1270, lw338_1272, lw338_1273, lw338_1274, lw338_1275, lw338_1276, lw338_1278, lw338_1279, lw338_1280, lw338_1281, lw338_1284, lw338_1286, lw338_1287, lw338_1290, lw338_1292, lw338_1295, lw338_1296, lw338_1297, lw338_1299, lw338_1302, lw338_1303, lw338_1304, lw338_1305, lw338_1307, lw338_1308, lw338_1309, lw338_1312, lw338_1313, lw338_1314, h1, h2, h3, y1, y2, y3, if_true, if_false, E1, k227, E2, k2, e192, l0, lg_self]
  · skip
    simp only [csN, csm_i, csm_r, Nat.reduceAdd, Nat.reduceLeDiff, wdI, wdR, wdN, clM_0, clC_0, clC_1, clC_6, clC_8, true_or, or_true, i10, i01, ob_some, ob_map, cal_v, rvs_some, rvs_none, XO_at, cal_x, lw338_1249, lw338_1250, lw338_1251, lw338_1253, lw338_1254, lw338_1255, lw338_1256, lw338_1257, lw338_1259, lw338_1260, lw338_1261, lw338_1262, lw338_1263, lw338_1266, lw338_1268, lw338_1269, lw338_1270, lw338_1272, lw338_1273, lw338_1274, lw338_1275, lw338_1276, lw338_1278, lw338_1279, lw338_1280, lw338_1281, lw338_1284, lw338_1286, lw338_1287, lw338_1290, lw338_1292, lw338_1295, lw338_1296, lw338_1297, lw338_1299, lw338_1302, lw338_1303, lw338_1304, lw338_1305, lw338_1307, lw338_1308, lw338_1309, lw338_1312, lw338_1313, lw338_1314, h1, h2, h3, y1, y2, y3, if_true, if_false, E1, k227, E2, k2, e192, he]
theorem lc_16 {a6 a7 a8 a9 : Option Value} (hx : x.1 ≤ 2048) (hi : i + 4 ≤ x.1) (hB : B < 2147483648) (hF : FVe B w n e0) : LC x 1317 i a6 a7 a8 a9 w n B := by
  obtain ⟨m, s, t, y, hs, le, lf, F, K, sc, c, q, cs, hV, hS, hO, -⟩ := hF
  have k64 := (WD_64 hV.1).2.1
  have h1 : Int32.ofNat i + 1 = Int32.ofNat (i + 1) := i_add (b := 1)
  have h2 : Int32.ofNat i + 2 = Int32.ofNat (i + 2) := i_add (b := 2)
  have h3 : Int32.ofNat i + 3 = Int32.ofNat (i + 3) := i_add (b := 3)
  have y1 : ∀ w, ald 0 x w 1 9 (Int32.ofNat (i + 1)) = some (x.2 (i + 1)) := fun w => scr_l hx (by omega)
  have y2 : ∀ w, ald 0 x w 1 9 (Int32.ofNat (i + 2)) = some (x.2 (i + 2)) := fun w => scr_l hx (by omega)
  have y3 : ∀ w, ald 0 x w 1 9 (Int32.ofNat (i + 3)) = some (x.2 (i + 3)) := fun w => scr_l hx (by omega)
  obtain ⟨e, r, w1, n1, w2, n2, B', E1, E2, k227, hn, hz, hl, hF⟩ := PR_of hS hO (p314 (x := x) (n := n) (u := (x.2 (i + 1))) (v := (x.2 (i + 2))) hV)
  obtain ⟨k2, e192⟩ := thr (x := x) hF
  refine ⟨some (.int e), some (.int r), a8, a9, w2, n2, B', e, ?_, hn, hl, hF⟩
  by_cases he : e = 0
  · obtain ⟨f, f1, f2⟩ := hz he
    have l0 := lld_0 f1
    rw [f2] at l0
    subst he
    simp only [csN, csm_i, csm_r, Nat.reduceAdd, Nat.reduceLeDiff, wdI, wdR, wdN, clM_0, clC_0, clC_1, clC_6, clC_8, true_or, or_true, i10, i01, ob_some, ob_map, cal_v, rvs_some, rvs_none, XO_at, cal_x, lw338_1317, lw338_1318, lw338_1319, lw338_1321, lw338_1322, lw338_1323, lw338_1324, lw338_1325, lw338_1327, lw338_1328, lw338_1329, lw338_1330, lw338_1331, lw338_1334, lw338_1336, lw338_1337, lw338_1338, lw338_1340, lw338_1341, lw338_1342, lw338_1343, lw338_1344, lw338_1346, lw338_1347, lw338_1348, lw338_1349, lw338_1352, lw338_1354, lw338_1355, lw338_1358, lw338_1360, lw338_1363, lw338_1364, lw338_1365, lw338_1367, lw338_1370, lw338_1371, lw338_1372, lw338_1373, lw338_1375, lw338_1376, lw338_1377, lw338_1380, lw338_1381, lw338_1382, h1, h2, h3, y1, y2, y3, if_true, if_false, E1, k227, E2, k2, e192, l0, lg_self]
  · skip
    simp only [csN, csm_i, csm_r, Nat.reduceAdd, Nat.reduceLeDiff, wdI, wdR, wdN, clM_0, clC_0, clC_1, clC_6, clC_8, true_or, or_true, i10, i01, ob_some, ob_map, cal_v, rvs_some, rvs_none, XO_at, cal_x, lw338_1317, lw338_1318, lw338_1319, lw338_1321, lw338_1322, lw338_1323, lw338_1324, lw338_1325, lw338_1327, lw338_1328, lw338_1329, lw338_1330, lw338_1331, lw338_1334, lw338_1336, lw338_1337, lw338_1338, lw338_1340, lw338_1341, lw338_1342, lw338_1343, lw338_1344, lw338_1346, lw338_1347, lw338_1348, lw338_1349, lw338_1352, lw338_1354, lw338_1355, lw338_1358, lw338_1360, lw338_1363, lw338_1364, lw338_1365, lw338_1367, lw338_1370, lw338_1371, lw338_1372, lw338_1373, lw338_1375, lw338_1376, lw338_1377, lw338_1380, lw338_1381, lw338_1382, h1, h2, h3, y1, y2, y3, if_true, if_false, E1, k227, E2, k2, e192, he]
theorem lc_17 {a6 a7 a8 a9 : Option Value} (hx : x.1 ≤ 2048) (hi : i + 4 ≤ x.1) (hB : B < 2147483648) (hF : FVe B w n e0) : LC x 1385 i a6 a7 a8 a9 w n B := by
  obtain ⟨m, s, t, y, hs, le, lf, F, K, sc, c, q, cs, hV, hS, hO, -⟩ := hF
  have k64 := (WD_64 hV.1).2.1
  have h1 : Int32.ofNat i + 1 = Int32.ofNat (i + 1) := i_add (b := 1)
  have h2 : Int32.ofNat i + 2 = Int32.ofNat (i + 2) := i_add (b := 2)
  have h3 : Int32.ofNat i + 3 = Int32.ofNat (i + 3) := i_add (b := 3)
  have y1 : ∀ w, ald 0 x w 1 9 (Int32.ofNat (i + 1)) = some (x.2 (i + 1)) := fun w => scr_l hx (by omega)
  have y2 : ∀ w, ald 0 x w 1 9 (Int32.ofNat (i + 2)) = some (x.2 (i + 2)) := fun w => scr_l hx (by omega)
  have y3 : ∀ w, ald 0 x w 1 9 (Int32.ofNat (i + 3)) = some (x.2 (i + 3)) := fun w => scr_l hx (by omega)
  obtain ⟨e, r, w1, n1, w2, n2, B', E1, E2, k227, hn, hz, hl, hF⟩ := PR_of hS hO (p315 (x := x) (n := n) (u := (x.2 (i + 1))) hV)
  obtain ⟨k2, e192⟩ := thr (x := x) hF
  refine ⟨some (.int e), some (.int r), a8, a9, w2, n2, B', e, ?_, hn, hl, hF⟩
  by_cases he : e = 0
  · obtain ⟨f, f1, f2⟩ := hz he
    have l0 := lld_0 f1
    rw [f2] at l0
    subst he
    simp only [csN, csm_i, csm_r, Nat.reduceAdd, Nat.reduceLeDiff, wdI, wdR, wdN, clM_0, clC_0, clC_1, clC_6, clC_8, true_or, or_true, i10, i01, ob_some, ob_map, cal_v, rvs_some, rvs_none, XO_at, cal_x, lw338_1385, lw338_1386, lw338_1387, lw338_1389, lw338_1390, lw338_1391, lw338_1392, lw338_1393, lw338_1396, lw338_1398, lw338_1399, lw338_1400, lw338_1402, lw338_1403, lw338_1404, lw338_1405, lw338_1408, lw338_1410, lw338_1411, lw338_1414, lw338_1416, lw338_1419, lw338_1420, lw338_1421, lw338_1423, lw338_1426, lw338_1427, lw338_1428, lw338_1429, lw338_1431, lw338_1432, lw338_1433, lw338_1436, lw338_1437, lw338_1438, h1, h2, h3, y1, y2, y3, if_true, if_false, E1, k227, E2, k2, e192, l0, lg_self]
  · skip
    simp only [csN, csm_i, csm_r, Nat.reduceAdd, Nat.reduceLeDiff, wdI, wdR, wdN, clM_0, clC_0, clC_1, clC_6, clC_8, true_or, or_true, i10, i01, ob_some, ob_map, cal_v, rvs_some, rvs_none, XO_at, cal_x, lw338_1385, lw338_1386, lw338_1387, lw338_1389, lw338_1390, lw338_1391, lw338_1392, lw338_1393, lw338_1396, lw338_1398, lw338_1399, lw338_1400, lw338_1402, lw338_1403, lw338_1404, lw338_1405, lw338_1408, lw338_1410, lw338_1411, lw338_1414, lw338_1416, lw338_1419, lw338_1420, lw338_1421, lw338_1423, lw338_1426, lw338_1427, lw338_1428, lw338_1429, lw338_1431, lw338_1432, lw338_1433, lw338_1436, lw338_1437, lw338_1438, h1, h2, h3, y1, y2, y3, if_true, if_false, E1, k227, E2, k2, e192, he]
theorem lc_18 {a6 a7 a8 a9 : Option Value} (hx : x.1 ≤ 2048) (hi : i + 4 ≤ x.1) (hB : B < 2147483648) (hF : FVe B w n e0) : LC x 1441 i a6 a7 a8 a9 w n B := by
  obtain ⟨m, s, t, y, hs, le, lf, F, K, sc, c, q, cs, hV, hS, hO, -⟩ := hF
  have k64 := (WD_64 hV.1).2.1
  have h1 : Int32.ofNat i + 1 = Int32.ofNat (i + 1) := i_add (b := 1)
  have h2 : Int32.ofNat i + 2 = Int32.ofNat (i + 2) := i_add (b := 2)
  have h3 : Int32.ofNat i + 3 = Int32.ofNat (i + 3) := i_add (b := 3)
  have y1 : ∀ w, ald 0 x w 1 9 (Int32.ofNat (i + 1)) = some (x.2 (i + 1)) := fun w => scr_l hx (by omega)
  have y2 : ∀ w, ald 0 x w 1 9 (Int32.ofNat (i + 2)) = some (x.2 (i + 2)) := fun w => scr_l hx (by omega)
  have y3 : ∀ w, ald 0 x w 1 9 (Int32.ofNat (i + 3)) = some (x.2 (i + 3)) := fun w => scr_l hx (by omega)
  obtain ⟨e, r, w1, n1, w2, n2, B', E1, E2, k227, hn, hz, hl, hF⟩ := PR_of hS hO (p316 (x := x) (n := n) (u := (x.2 (i + 1))) hV)
  obtain ⟨k2, e192⟩ := thr (x := x) hF
  refine ⟨some (.int e), some (.int r), a8, a9, w2, n2, B', e, ?_, hn, hl, hF⟩
  by_cases he : e = 0
  · obtain ⟨f, f1, f2⟩ := hz he
    have l0 := lld_0 f1
    rw [f2] at l0
    subst he
    simp only [csN, csm_i, csm_r, Nat.reduceAdd, Nat.reduceLeDiff, wdI, wdR, wdN, clM_0, clC_0, clC_1, clC_6, clC_8, true_or, or_true, i10, i01, ob_some, ob_map, cal_v, rvs_some, rvs_none, XO_at, cal_x, lw338_1441, lw338_1442, lw338_1443, lw338_1445, lw338_1446, lw338_1447, lw338_1448, lw338_1449, lw338_1452, lw338_1454, lw338_1455, lw338_1456, lw338_1458, lw338_1459, lw338_1460, lw338_1461, lw338_1464, lw338_1466, lw338_1467, lw338_1470, lw338_1472, lw338_1475, lw338_1476, lw338_1477, lw338_1479, lw338_1482, lw338_1483, lw338_1484, lw338_1485, lw338_1487, lw338_1488, lw338_1489, lw338_1492, lw338_1493, lw338_1494, h1, h2, h3, y1, y2, y3, if_true, if_false, E1, k227, E2, k2, e192, l0, lg_self]
  · skip
    simp only [csN, csm_i, csm_r, Nat.reduceAdd, Nat.reduceLeDiff, wdI, wdR, wdN, clM_0, clC_0, clC_1, clC_6, clC_8, true_or, or_true, i10, i01, ob_some, ob_map, cal_v, rvs_some, rvs_none, XO_at, cal_x, lw338_1441, lw338_1442, lw338_1443, lw338_1445, lw338_1446, lw338_1447, lw338_1448, lw338_1449, lw338_1452, lw338_1454, lw338_1455, lw338_1456, lw338_1458, lw338_1459, lw338_1460, lw338_1461, lw338_1464, lw338_1466, lw338_1467, lw338_1470, lw338_1472, lw338_1475, lw338_1476, lw338_1477, lw338_1479, lw338_1482, lw338_1483, lw338_1484, lw338_1485, lw338_1487, lw338_1488, lw338_1489, lw338_1492, lw338_1493, lw338_1494, h1, h2, h3, y1, y2, y3, if_true, if_false, E1, k227, E2, k2, e192, he]
theorem lc_19 {a6 a7 a8 a9 : Option Value} (hx : x.1 ≤ 2048) (hi : i + 4 ≤ x.1) (hB : B < 2147483648) (hF : FVe B w n e0) : LC x 1497 i a6 a7 a8 a9 w n B := by
  obtain ⟨m, s, t, y, hs, le, lf, F, K, sc, c, q, cs, hV, hS, hO, -⟩ := hF
  have k64 := (WD_64 hV.1).2.1
  have h1 : Int32.ofNat i + 1 = Int32.ofNat (i + 1) := i_add (b := 1)
  have h2 : Int32.ofNat i + 2 = Int32.ofNat (i + 2) := i_add (b := 2)
  have h3 : Int32.ofNat i + 3 = Int32.ofNat (i + 3) := i_add (b := 3)
  have y1 : ∀ w, ald 0 x w 1 9 (Int32.ofNat (i + 1)) = some (x.2 (i + 1)) := fun w => scr_l hx (by omega)
  have y2 : ∀ w, ald 0 x w 1 9 (Int32.ofNat (i + 2)) = some (x.2 (i + 2)) := fun w => scr_l hx (by omega)
  have y3 : ∀ w, ald 0 x w 1 9 (Int32.ofNat (i + 3)) = some (x.2 (i + 3)) := fun w => scr_l hx (by omega)
  obtain ⟨e, r, w1, n1, w2, n2, B', E1, E2, k227, hn, hz, hl, hF⟩ := PR_of hS hO (p317 (x := x) (n := n) (u := (x.2 (i + 1))) hV)
  obtain ⟨k2, e192⟩ := thr (x := x) hF
  refine ⟨some (.int e), some (.int r), a8, a9, w2, n2, B', e, ?_, hn, hl, hF⟩
  by_cases he : e = 0
  · obtain ⟨f, f1, f2⟩ := hz he
    have l0 := lld_0 f1
    rw [f2] at l0
    subst he
    simp only [csN, csm_i, csm_r, Nat.reduceAdd, Nat.reduceLeDiff, wdI, wdR, wdN, clM_0, clC_0, clC_1, clC_6, clC_8, true_or, or_true, i10, i01, ob_some, ob_map, cal_v, rvs_some, rvs_none, XO_at, cal_x, lw338_1497, lw338_1498, lw338_1499, lw338_1501, lw338_1502, lw338_1503, lw338_1504, lw338_1505, lw338_1508, lw338_1510, lw338_1511, lw338_1512, lw338_1514, lw338_1515, lw338_1516, lw338_1517, lw338_1520, lw338_1522, lw338_1523, lw338_1526, lw338_1528, lw338_1531, lw338_1532, lw338_1533, lw338_1535, lw338_1538, lw338_1539, lw338_1540, lw338_1541, lw338_1543, lw338_1544, lw338_1545, lw338_1548, lw338_1549, lw338_1550, h1, h2, h3, y1, y2, y3, if_true, if_false, E1, k227, E2, k2, e192, l0, lg_self]
  · skip
    simp only [csN, csm_i, csm_r, Nat.reduceAdd, Nat.reduceLeDiff, wdI, wdR, wdN, clM_0, clC_0, clC_1, clC_6, clC_8, true_or, or_true, i10, i01, ob_some, ob_map, cal_v, rvs_some, rvs_none, XO_at, cal_x, lw338_1497, lw338_1498, lw338_1499, lw338_1501, lw338_1502, lw338_1503, lw338_1504, lw338_1505, lw338_1508, lw338_1510, lw338_1511, lw338_1512, lw338_1514, lw338_1515, lw338_1516, lw338_1517, lw338_1520, lw338_1522, lw338_1523, lw338_1526, lw338_1528, lw338_1531, lw338_1532, lw338_1533, lw338_1535, lw338_1538, lw338_1539, lw338_1540, lw338_1541, lw338_1543, lw338_1544, lw338_1545, lw338_1548, lw338_1549, lw338_1550, h1, h2, h3, y1, y2, y3, if_true, if_false, E1, k227, E2, k2, e192, he]
theorem lc_20 {a6 a7 a8 a9 : Option Value} (hx : x.1 ≤ 2048) (hi : i + 4 ≤ x.1) (hB : B < 2147483648) (hF : FVe B w n e0) : LC x 1553 i a6 a7 a8 a9 w n B := by
  obtain ⟨m, s, t, y, hs, le, lf, F, K, sc, c, q, cs, hV, hS, hO, -⟩ := hF
  have k64 := (WD_64 hV.1).2.1
  have h1 : Int32.ofNat i + 1 = Int32.ofNat (i + 1) := i_add (b := 1)
  have h2 : Int32.ofNat i + 2 = Int32.ofNat (i + 2) := i_add (b := 2)
  have h3 : Int32.ofNat i + 3 = Int32.ofNat (i + 3) := i_add (b := 3)
  have y1 : ∀ w, ald 0 x w 1 9 (Int32.ofNat (i + 1)) = some (x.2 (i + 1)) := fun w => scr_l hx (by omega)
  have y2 : ∀ w, ald 0 x w 1 9 (Int32.ofNat (i + 2)) = some (x.2 (i + 2)) := fun w => scr_l hx (by omega)
  have y3 : ∀ w, ald 0 x w 1 9 (Int32.ofNat (i + 3)) = some (x.2 (i + 3)) := fun w => scr_l hx (by omega)
  obtain ⟨e, r, w1, n1, w2, n2, B', E1, E2, k227, hn, hz, hl, hF⟩ := PR_of hS hO (p318 (x := x) (n := n) (u := (x.2 (i + 1))) hV)
  obtain ⟨k2, e192⟩ := thr (x := x) hF
  refine ⟨some (.int e), some (.int r), a8, a9, w2, n2, B', e, ?_, hn, hl, hF⟩
  by_cases he : e = 0
  · obtain ⟨f, f1, f2⟩ := hz he
    have l0 := lld_0 f1
    rw [f2] at l0
    subst he
    simp only [csN, csm_i, csm_r, Nat.reduceAdd, Nat.reduceLeDiff, wdI, wdR, wdN, clM_0, clC_0, clC_1, clC_6, clC_8, true_or, or_true, i10, i01, ob_some, ob_map, cal_v, rvs_some, rvs_none, XO_at, cal_x, lw338_1553, lw338_1554, lw338_1555, lw338_1557, lw338_1558, lw338_1559, lw338_1560, lw338_1561, lw338_1564, lw338_1566, lw338_1567, lw338_1568, lw338_1570, lw338_1571, lw338_1572, lw338_1573, lw338_1576, lw338_1578, lw338_1579, lw338_1582, lw338_1584, lw338_1587, lw338_1588, lw338_1589, lw338_1591, lw338_1594, lw338_1595, lw338_1596, lw338_1597, lw338_1599, lw338_1600, lw338_1601, lw338_1604, lw338_1605, lw338_1606, h1, h2, h3, y1, y2, y3, if_true, if_false, E1, k227, E2, k2, e192, l0, lg_self]
  · skip
    simp only [csN, csm_i, csm_r, Nat.reduceAdd, Nat.reduceLeDiff, wdI, wdR, wdN, clM_0, clC_0, clC_1, clC_6, clC_8, true_or, or_true, i10, i01, ob_some, ob_map, cal_v, rvs_some, rvs_none, XO_at, cal_x, lw338_1553, lw338_1554, lw338_1555, lw338_1557, lw338_1558, lw338_1559, lw338_1560, lw338_1561, lw338_1564, lw338_1566, lw338_1567, lw338_1568, lw338_1570, lw338_1571, lw338_1572, lw338_1573, lw338_1576, lw338_1578, lw338_1579, lw338_1582, lw338_1584, lw338_1587, lw338_1588, lw338_1589, lw338_1591, lw338_1594, lw338_1595, lw338_1596, lw338_1597, lw338_1599, lw338_1600, lw338_1601, lw338_1604, lw338_1605, lw338_1606, h1, h2, h3, y1, y2, y3, if_true, if_false, E1, k227, E2, k2, e192, he]
theorem lc_21 {a6 a7 a8 a9 : Option Value} (hx : x.1 ≤ 2048) (hi : i + 4 ≤ x.1) (hB : B < 2147483648) (hF : FVe B w n e0) : LC x 1609 i a6 a7 a8 a9 w n B := by
  obtain ⟨m, s, t, y, hs, le, lf, F, K, sc, c, q, cs, hV, hS, hO, -⟩ := hF
  have k64 := (WD_64 hV.1).2.1
  have h1 : Int32.ofNat i + 1 = Int32.ofNat (i + 1) := i_add (b := 1)
  have h2 : Int32.ofNat i + 2 = Int32.ofNat (i + 2) := i_add (b := 2)
  have h3 : Int32.ofNat i + 3 = Int32.ofNat (i + 3) := i_add (b := 3)
  have y1 : ∀ w, ald 0 x w 1 9 (Int32.ofNat (i + 1)) = some (x.2 (i + 1)) := fun w => scr_l hx (by omega)
  have y2 : ∀ w, ald 0 x w 1 9 (Int32.ofNat (i + 2)) = some (x.2 (i + 2)) := fun w => scr_l hx (by omega)
  have y3 : ∀ w, ald 0 x w 1 9 (Int32.ofNat (i + 3)) = some (x.2 (i + 3)) := fun w => scr_l hx (by omega)
  obtain ⟨e, r, w1, n1, w2, n2, B', E1, E2, k227, hn, hz, hl, hF⟩ := PR_of hS hO (p319 (x := x) (n := n) (u := (x.2 (i + 1))) hV)
  obtain ⟨k2, e192⟩ := thr (x := x) hF
  refine ⟨some (.int e), some (.int r), a8, a9, w2, n2, B', e, ?_, hn, hl, hF⟩
  by_cases he : e = 0
  · obtain ⟨f, f1, f2⟩ := hz he
    have l0 := lld_0 f1
    rw [f2] at l0
    subst he
    simp only [csN, csm_i, csm_r, Nat.reduceAdd, Nat.reduceLeDiff, wdI, wdR, wdN, clM_0, clC_0, clC_1, clC_6, clC_8, true_or, or_true, i10, i01, ob_some, ob_map, cal_v, rvs_some, rvs_none, XO_at, cal_x, lw338_1609, lw338_1610, lw338_1611, lw338_1613, lw338_1614, lw338_1615, lw338_1616, lw338_1617, lw338_1620, lw338_1622, lw338_1623, lw338_1624, lw338_1626, lw338_1627, lw338_1628, lw338_1629, lw338_1632, lw338_1634, lw338_1635, lw338_1638, lw338_1640, lw338_1643, lw338_1644, lw338_1645, lw338_1647, lw338_1650, lw338_1651, lw338_1652, lw338_1653, lw338_1655, lw338_1656, lw338_1657, lw338_1660, lw338_1661, lw338_1662, h1, h2, h3, y1, y2, y3, if_true, if_false, E1, k227, E2, k2, e192, l0, lg_self]
  · skip
    simp only [csN, csm_i, csm_r, Nat.reduceAdd, Nat.reduceLeDiff, wdI, wdR, wdN, clM_0, clC_0, clC_1, clC_6, clC_8, true_or, or_true, i10, i01, ob_some, ob_map, cal_v, rvs_some, rvs_none, XO_at, cal_x, lw338_1609, lw338_1610, lw338_1611, lw338_1613, lw338_1614, lw338_1615, lw338_1616, lw338_1617, lw338_1620, lw338_1622, lw338_1623, lw338_1624, lw338_1626, lw338_1627, lw338_1628, lw338_1629, lw338_1632, lw338_1634, lw338_1635, lw338_1638, lw338_1640, lw338_1643, lw338_1644, lw338_1645, lw338_1647, lw338_1650, lw338_1651, lw338_1652, lw338_1653, lw338_1655, lw338_1656, lw338_1657, lw338_1660, lw338_1661, lw338_1662, h1, h2, h3, y1, y2, y3, if_true, if_false, E1, k227, E2, k2, e192, he]
theorem lc_22 {a6 a7 a8 a9 : Option Value} (hx : x.1 ≤ 2048) (hi : i + 4 ≤ x.1) (hB : B < 2147483648) (hF : FVe B w n e0) : LC x 1665 i a6 a7 a8 a9 w n B := by
  obtain ⟨m, s, t, y, hs, le, lf, F, K, sc, c, q, cs, hV, hS, hO, -⟩ := hF
  have k64 := (WD_64 hV.1).2.1
  have h1 : Int32.ofNat i + 1 = Int32.ofNat (i + 1) := i_add (b := 1)
  have h2 : Int32.ofNat i + 2 = Int32.ofNat (i + 2) := i_add (b := 2)
  have h3 : Int32.ofNat i + 3 = Int32.ofNat (i + 3) := i_add (b := 3)
  have y1 : ∀ w, ald 0 x w 1 9 (Int32.ofNat (i + 1)) = some (x.2 (i + 1)) := fun w => scr_l hx (by omega)
  have y2 : ∀ w, ald 0 x w 1 9 (Int32.ofNat (i + 2)) = some (x.2 (i + 2)) := fun w => scr_l hx (by omega)
  have y3 : ∀ w, ald 0 x w 1 9 (Int32.ofNat (i + 3)) = some (x.2 (i + 3)) := fun w => scr_l hx (by omega)
  obtain ⟨e, r, w1, n1, w2, n2, B', E1, E2, k227, hn, hz, hl, hF⟩ := PR_of hS hO (p320 (x := x) (n := n) (u := (x.2 (i + 1))) (v := (x.2 (i + 2))) hV hB)
  obtain ⟨k2, e192⟩ := thr (x := x) hF
  refine ⟨some (.int e), some (.int r), a8, a9, w2, n2, B', e, ?_, hn, hl, hF⟩
  by_cases he : e = 0
  · obtain ⟨f, f1, f2⟩ := hz he
    have l0 := lld_0 f1
    rw [f2] at l0
    subst he
    simp only [csN, csm_i, csm_r, Nat.reduceAdd, Nat.reduceLeDiff, wdI, wdR, wdN, clM_0, clC_0, clC_1, clC_6, clC_8, true_or, or_true, i10, i01, ob_some, ob_map, cal_v, rvs_some, rvs_none, XO_at, cal_x, lw338_1665, lw338_1666, lw338_1667, lw338_1669, lw338_1670, lw338_1671, lw338_1672, lw338_1673, lw338_1675, lw338_1676, lw338_1677, lw338_1678, lw338_1679, lw338_1682, lw338_1684, lw338_1685, lw338_1686, lw338_1688, lw338_1689, lw338_1690, lw338_1691, lw338_1692, lw338_1694, lw338_1695, lw338_1696, lw338_1697, lw338_1700, lw338_1702, lw338_1703, lw338_1706, lw338_1708, lw338_1711, lw338_1712, lw338_1713, lw338_1715, lw338_1718, lw338_1719, lw338_1720, lw338_1721, lw338_1723, lw338_1724, lw338_1725, lw338_1728, lw338_1729, lw338_1730, h1, h2, h3, y1, y2, y3, if_true, if_false, E1, k227, E2, k2, e192, l0, lg_self]
  · skip
    simp only [csN, csm_i, csm_r, Nat.reduceAdd, Nat.reduceLeDiff, wdI, wdR, wdN, clM_0, clC_0, clC_1, clC_6, clC_8, true_or, or_true, i10, i01, ob_some, ob_map, cal_v, rvs_some, rvs_none, XO_at, cal_x, lw338_1665, lw338_1666, lw338_1667, lw338_1669, lw338_1670, lw338_1671, lw338_1672, lw338_1673, lw338_1675, lw338_1676, lw338_1677, lw338_1678, lw338_1679, lw338_1682, lw338_1684, lw338_1685, lw338_1686, lw338_1688, lw338_1689, lw338_1690, lw338_1691, lw338_1692, lw338_1694, lw338_1695, lw338_1696, lw338_1697, lw338_1700, lw338_1702, lw338_1703, lw338_1706, lw338_1708, lw338_1711, lw338_1712, lw338_1713, lw338_1715, lw338_1718, lw338_1719, lw338_1720, lw338_1721, lw338_1723, lw338_1724, lw338_1725, lw338_1728, lw338_1729, lw338_1730, h1, h2, h3, y1, y2, y3, if_true, if_false, E1, k227, E2, k2, e192, he]
theorem lc_23 {a6 a7 a8 a9 : Option Value} (hx : x.1 ≤ 2048) (hi : i + 4 ≤ x.1) (hB : B < 2147483648) (hF : FVe B w n e0) : LC x 1733 i a6 a7 a8 a9 w n B := by
  obtain ⟨m, s, t, y, hs, le, lf, F, K, sc, c, q, cs, hV, hS, hO, -⟩ := hF
  have k64 := (WD_64 hV.1).2.1
  have h1 : Int32.ofNat i + 1 = Int32.ofNat (i + 1) := i_add (b := 1)
  have h2 : Int32.ofNat i + 2 = Int32.ofNat (i + 2) := i_add (b := 2)
  have h3 : Int32.ofNat i + 3 = Int32.ofNat (i + 3) := i_add (b := 3)
  have y1 : ∀ w, ald 0 x w 1 9 (Int32.ofNat (i + 1)) = some (x.2 (i + 1)) := fun w => scr_l hx (by omega)
  have y2 : ∀ w, ald 0 x w 1 9 (Int32.ofNat (i + 2)) = some (x.2 (i + 2)) := fun w => scr_l hx (by omega)
  have y3 : ∀ w, ald 0 x w 1 9 (Int32.ofNat (i + 3)) = some (x.2 (i + 3)) := fun w => scr_l hx (by omega)
  obtain ⟨r, w1, n1, w2, n2, B', e, E1, E2, k227, hn, hl, hF⟩ := SM_of hS hO (p58 (x := x) (n := n)  hV)
  refine ⟨a6, a7, a8, a9, w2, n2, B', e, ?_, hn, hl, hF⟩
  simp only [csN, csm_i, csm_r, Nat.reduceAdd, Nat.reduceLeDiff, wdI, wdR, wdN, clM_0, clC_0, clC_1, clC_6, clC_8, true_or, or_true, i10, i01, ob_some, ob_map, cal_v, rvs_some, rvs_none, XO_at, cal_x, lw338_1733, lw338_1734, lw338_1737, lw338_1738, lw338_1741, lw338_1744, lw338_1745, h1, h2, h3, y1, y2, y3, k64, E1, k227, E2, if_true]
theorem lc_24 {a6 a7 a8 a9 : Option Value} (hx : x.1 ≤ 2048) (hi : i + 4 ≤ x.1) (hB : B < 2147483648) (hF : FVe B w n e0) : LC x 1746 i a6 a7 a8 a9 w n B := by
  obtain ⟨m, s, t, y, hs, le, lf, F, K, sc, c, q, cs, hV, hS, hO, -⟩ := hF
  have k64 := (WD_64 hV.1).2.1
  have h1 : Int32.ofNat i + 1 = Int32.ofNat (i + 1) := i_add (b := 1)
  have h2 : Int32.ofNat i + 2 = Int32.ofNat (i + 2) := i_add (b := 2)
  have h3 : Int32.ofNat i + 3 = Int32.ofNat (i + 3) := i_add (b := 3)
  have y1 : ∀ w, ald 0 x w 1 9 (Int32.ofNat (i + 1)) = some (x.2 (i + 1)) := fun w => scr_l hx (by omega)
  have y2 : ∀ w, ald 0 x w 1 9 (Int32.ofNat (i + 2)) = some (x.2 (i + 2)) := fun w => scr_l hx (by omega)
  have y3 : ∀ w, ald 0 x w 1 9 (Int32.ofNat (i + 3)) = some (x.2 (i + 3)) := fun w => scr_l hx (by omega)
  obtain ⟨r, w1, n1, w2, n2, B', e, E1, E2, k227, hn, hl, hF⟩ := SM_of hS hO (p59 (x := x) (n := n) (u := (x.2 (i + 1))) hV)
  refine ⟨a6, a7, a8, a9, w2, n2, B', e, ?_, hn, hl, hF⟩
  simp only [csN, csm_i, csm_r, Nat.reduceAdd, Nat.reduceLeDiff, wdI, wdR, wdN, clM_0, clC_0, clC_1, clC_6, clC_8, true_or, or_true, i10, i01, ob_some, ob_map, cal_v, rvs_some, rvs_none, XO_at, cal_x, lw338_1746, lw338_1747, lw338_1748, lw338_1750, lw338_1751, lw338_1752, lw338_1753, lw338_1756, lw338_1757, lw338_1758, lw338_1760, lw338_1761, lw338_1762, lw338_1763, lw338_1766, lw338_1769, lw338_1770, h1, h2, h3, y1, y2, y3, k64, E1, k227, E2, if_true]
theorem lc_25 {a6 a7 a8 a9 : Option Value} (hx : x.1 ≤ 2048) (hi : i + 4 ≤ x.1) (hB : B < 2147483648) (hF : FVe B w n e0) : LC x 1771 i a6 a7 a8 a9 w n B := by
  obtain ⟨m, s, t, y, hs, le, lf, F, K, sc, c, q, cs, hV, hS, hO, -⟩ := hF
  have k64 := (WD_64 hV.1).2.1
  have h1 : Int32.ofNat i + 1 = Int32.ofNat (i + 1) := i_add (b := 1)
  have h2 : Int32.ofNat i + 2 = Int32.ofNat (i + 2) := i_add (b := 2)
  have h3 : Int32.ofNat i + 3 = Int32.ofNat (i + 3) := i_add (b := 3)
  have y1 : ∀ w, ald 0 x w 1 9 (Int32.ofNat (i + 1)) = some (x.2 (i + 1)) := fun w => scr_l hx (by omega)
  have y2 : ∀ w, ald 0 x w 1 9 (Int32.ofNat (i + 2)) = some (x.2 (i + 2)) := fun w => scr_l hx (by omega)
  have y3 : ∀ w, ald 0 x w 1 9 (Int32.ofNat (i + 3)) = some (x.2 (i + 3)) := fun w => scr_l hx (by omega)
  obtain ⟨e, r, w1, n1, w2, n2, B', E1, E2, k227, hn, hz, hl, hF⟩ := PR_of hS hO (p321 (x := x) (n := n) (u := (x.2 (i + 1))) hV)
  obtain ⟨k2, e192⟩ := thr (x := x) hF
  refine ⟨some (.int e), some (.int r), a8, a9, w2, n2, B', e, ?_, hn, hl, hF⟩
  by_cases he : e = 0
  · obtain ⟨f, f1, f2⟩ := hz he
    have l0 := lld_0 f1
    rw [f2] at l0
    subst he
    simp only [csN, csm_i, csm_r, Nat.reduceAdd, Nat.reduceLeDiff, wdI, wdR, wdN, clM_0, clC_0, clC_1, clC_6, clC_8, true_or, or_true, i10, i01, ob_some, ob_map, cal_v, rvs_some, rvs_none, XO_at, cal_x, lw338_1771, lw338_1772, lw338_1773, lw338_1775, lw338_1776, lw338_1777, lw338_1778, lw338_1779, lw338_1782, lw338_1784, lw338_1785, lw338_1786, lw338_1788, lw338_1789, lw338_1790, lw338_1791, lw338_1794, lw338_1796, lw338_1797, lw338_1800, lw338_1802, lw338_1805, lw338_1806, lw338_1807, lw338_1809, lw338_1812, lw338_1813, lw338_1814, lw338_1815, lw338_1817, lw338_1818, lw338_1819, lw338_1822, lw338_1823, lw338_1824, h1, h2, h3, y1, y2, y3, if_true, if_false, E1, k227, E2, k2, e192, l0, lg_self]
  · skip
    simp only [csN, csm_i, csm_r, Nat.reduceAdd, Nat.reduceLeDiff, wdI, wdR, wdN, clM_0, clC_0, clC_1, clC_6, clC_8, true_or, or_true, i10, i01, ob_some, ob_map, cal_v, rvs_some, rvs_none, XO_at, cal_x, lw338_1771, lw338_1772, lw338_1773, lw338_1775, lw338_1776, lw338_1777, lw338_1778, lw338_1779, lw338_1782, lw338_1784, lw338_1785, lw338_1786, lw338_1788, lw338_1789, lw338_1790, lw338_1791, lw338_1794, lw338_1796, lw338_1797, lw338_1800, lw338_1802, lw338_1805, lw338_1806, lw338_1807, lw338_1809, lw338_1812, lw338_1813, lw338_1814, lw338_1815, lw338_1817, lw338_1818, lw338_1819, lw338_1822, lw338_1823, lw338_1824, h1, h2, h3, y1, y2, y3, if_true, if_false, E1, k227, E2, k2, e192, he]
theorem lc_26 {a6 a7 a8 a9 : Option Value} (hx : x.1 ≤ 2048) (hi : i + 4 ≤ x.1) (hB : B < 2147483648) (hF : FVe B w n e0) : LC x 1827 i a6 a7 a8 a9 w n B := by
  obtain ⟨m, s, t, y, hs, le, lf, F, K, sc, c, q, cs, hV, hS, hO, -⟩ := hF
  have k64 := (WD_64 hV.1).2.1
  have h1 : Int32.ofNat i + 1 = Int32.ofNat (i + 1) := i_add (b := 1)
  have h2 : Int32.ofNat i + 2 = Int32.ofNat (i + 2) := i_add (b := 2)
  have h3 : Int32.ofNat i + 3 = Int32.ofNat (i + 3) := i_add (b := 3)
  have y1 : ∀ w, ald 0 x w 1 9 (Int32.ofNat (i + 1)) = some (x.2 (i + 1)) := fun w => scr_l hx (by omega)
  have y2 : ∀ w, ald 0 x w 1 9 (Int32.ofNat (i + 2)) = some (x.2 (i + 2)) := fun w => scr_l hx (by omega)
  have y3 : ∀ w, ald 0 x w 1 9 (Int32.ofNat (i + 3)) = some (x.2 (i + 3)) := fun w => scr_l hx (by omega)
  obtain ⟨e, r, w1, n1, w2, n2, B', E1, E2, k227, hn, hz, hl, hF⟩ := PR_of hS hO (p322 (x := x) (n := n) (u := (x.2 (i + 1))) hV)
  obtain ⟨k2, e192⟩ := thr (x := x) hF
  refine ⟨some (.int e), some (.int r), a8, a9, w2, n2, B', e, ?_, hn, hl, hF⟩
  by_cases he : e = 0
  · obtain ⟨f, f1, f2⟩ := hz he
    have l0 := lld_0 f1
    rw [f2] at l0
    subst he
    simp only [csN, csm_i, csm_r, Nat.reduceAdd, Nat.reduceLeDiff, wdI, wdR, wdN, clM_0, clC_0, clC_1, clC_6, clC_8, true_or, or_true, i10, i01, ob_some, ob_map, cal_v, rvs_some, rvs_none, XO_at, cal_x, lw338_1827, lw338_1828, lw338_1829, lw338_1831, lw338_1832, lw338_1833, lw338_1834, lw338_1835, lw338_1838, lw338_1840, lw338_1841, lw338_1842, lw338_1844, lw338_1845, lw338_1846, lw338_1847, lw338_1850, lw338_1852, lw338_1853, lw338_1856, lw338_1858, lw338_1861, lw338_1862, lw338_1863, lw338_1865, lw338_1868, lw338_1869, lw338_1870, lw338_1871, lw338_1873, lw338_1874, lw338_1875, lw338_1878, lw338_1879, lw338_1880, h1, h2, h3, y1, y2, y3, if_true, if_false, E1, k227, E2, k2, e192, l0, lg_self]
  · skip
    simp only [csN, csm_i, csm_r, Nat.reduceAdd, Nat.reduceLeDiff, wdI, wdR, wdN, clM_0, clC_0, clC_1, clC_6, clC_8, true_or, or_true, i10, i01, ob_some, ob_map, cal_v, rvs_some, rvs_none, XO_at, cal_x, lw338_1827, lw338_1828, lw338_1829, lw338_1831, lw338_1832, lw338_1833, lw338_1834, lw338_1835, lw338_1838, lw338_1840, lw338_1841, lw338_1842, lw338_1844, lw338_1845, lw338_1846, lw338_1847, lw338_1850, lw338_1852, lw338_1853, lw338_1856, lw338_1858, lw338_1861, lw338_1862, lw338_1863, lw338_1865, lw338_1868, lw338_1869, lw338_1870, lw338_1871, lw338_1873, lw338_1874, lw338_1875, lw338_1878, lw338_1879, lw338_1880, h1, h2, h3, y1, y2, y3, if_true, if_false, E1, k227, E2, k2, e192, he]
theorem lc_27 {a6 a7 a8 a9 : Option Value} (hx : x.1 ≤ 2048) (hi : i + 4 ≤ x.1) (hB : B < 2147483648) (hF : FVe B w n e0) : LC x 1883 i a6 a7 a8 a9 w n B := by
  obtain ⟨m, s, t, y, hs, le, lf, F, K, sc, c, q, cs, hV, hS, hO, -⟩ := hF
  have k64 := (WD_64 hV.1).2.1
  have h1 : Int32.ofNat i + 1 = Int32.ofNat (i + 1) := i_add (b := 1)
  have h2 : Int32.ofNat i + 2 = Int32.ofNat (i + 2) := i_add (b := 2)
  have h3 : Int32.ofNat i + 3 = Int32.ofNat (i + 3) := i_add (b := 3)
  have y1 : ∀ w, ald 0 x w 1 9 (Int32.ofNat (i + 1)) = some (x.2 (i + 1)) := fun w => scr_l hx (by omega)
  have y2 : ∀ w, ald 0 x w 1 9 (Int32.ofNat (i + 2)) = some (x.2 (i + 2)) := fun w => scr_l hx (by omega)
  have y3 : ∀ w, ald 0 x w 1 9 (Int32.ofNat (i + 3)) = some (x.2 (i + 3)) := fun w => scr_l hx (by omega)
  obtain ⟨e, d, w1, n1, w2, n2, B', E1, E2, k227, hn, hz, hl, hF⟩ := PRB_of hS hO (p323 (x := x) (n := n) (u := (x.2 (i + 1))) hV)
  obtain ⟨k2, e192⟩ := thr (x := x) hF
  refine ⟨some (.int e), some (.int (bi d)), a8, a9, w2, n2, B', e, ?_, hn, hl, hF⟩
  by_cases he : e = 0
  · obtain ⟨f, f1, f2⟩ := hz he
    have l0 := lld_0 f1
    rw [f2] at l0
    subst he
    cases d with
    | true =>
      rw [bi_t] at E2 ⊢
      rw [cond_true] at l0
      simp only [csN, csm_i, csm_r, Nat.reduceAdd, Nat.reduceLeDiff, wdI, wdR, wdN, clM_0, clC_0, clC_1, clC_6, clC_8, true_or, or_true, i10, i01, ob_some, ob_map, cal_v, rvs_some, rvs_none, XO_at, cal_x, lw338_1883, lw338_1884, lw338_1885, lw338_1887, lw338_1888, lw338_1889, lw338_1890, lw338_1891, lw338_1894, lw338_1896, lw338_1897, lw338_1898, lw338_1900, lw338_1901, lw338_1902, lw338_1903, lw338_1906, lw338_1908, lw338_1909, lw338_1912, lw338_1914, lw338_1917, lw338_1918, lw338_1919, lw338_1921, lw338_1924, lw338_1925, lw338_1926, lw338_1927, lw338_1929, lw338_1932, lw338_1933, lw338_1936, lw338_1937, lw338_1938, lw338_1941, lw338_1942, lw338_1943, h1, h2, h3, y1, y2, y3, if_true, if_false, E1, k227, E2, k2, e192, l0, lg_self]
    | false =>
      rw [bi_f] at E2 ⊢
      rw [cond_false] at l0
      simp only [csN, csm_i, csm_r, Nat.reduceAdd, Nat.reduceLeDiff, wdI, wdR, wdN, clM_0, clC_0, clC_1, clC_6, clC_8, true_or, or_true, i10, i01, ob_some, ob_map, cal_v, rvs_some, rvs_none, XO_at, cal_x, lw338_1883, lw338_1884, lw338_1885, lw338_1887, lw338_1888, lw338_1889, lw338_1890, lw338_1891, lw338_1894, lw338_1896, lw338_1897, lw338_1898, lw338_1900, lw338_1901, lw338_1902, lw338_1903, lw338_1906, lw338_1908, lw338_1909, lw338_1912, lw338_1914, lw338_1917, lw338_1918, lw338_1919, lw338_1921, lw338_1924, lw338_1925, lw338_1926, lw338_1927, lw338_1929, lw338_1932, lw338_1933, lw338_1936, lw338_1937, lw338_1938, lw338_1941, lw338_1942, lw338_1943, h1, h2, h3, y1, y2, y3, if_true, if_false, E1, k227, E2, k2, e192, l0, lg_self]
  · skip
    simp only [csN, csm_i, csm_r, Nat.reduceAdd, Nat.reduceLeDiff, wdI, wdR, wdN, clM_0, clC_0, clC_1, clC_6, clC_8, true_or, or_true, i10, i01, ob_some, ob_map, cal_v, rvs_some, rvs_none, XO_at, cal_x, lw338_1883, lw338_1884, lw338_1885, lw338_1887, lw338_1888, lw338_1889, lw338_1890, lw338_1891, lw338_1894, lw338_1896, lw338_1897, lw338_1898, lw338_1900, lw338_1901, lw338_1902, lw338_1903, lw338_1906, lw338_1908, lw338_1909, lw338_1912, lw338_1914, lw338_1917, lw338_1918, lw338_1919, lw338_1921, lw338_1924, lw338_1925, lw338_1926, lw338_1927, lw338_1929, lw338_1932, lw338_1933, lw338_1936, lw338_1937, lw338_1938, lw338_1941, lw338_1942, lw338_1943, h1, h2, h3, y1, y2, y3, if_true, if_false, E1, k227, E2, k2, e192, he]
end LWC
