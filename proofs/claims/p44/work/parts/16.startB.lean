/-! ===== the claim's start, out of the evaluator's answers ===== -/
theorem gv_in : ∀ w ∈ gvW, w ∈ lw_tbl := by decide +kernel
theorem ao_in8 : Jvm.Cond.arrayOver (.object RX8) ∈ lw_tbl := by decide +kernel
theorem ao_in9 : Jvm.Cond.arrayOver (.object RX9) ∈ lw_tbl := by decide +kernel
theorem ao_inI : Jvm.Cond.arrayOver (.array .int) ∈ lw_tbl := by decide +kernel
def tmS (i : Nat) : Jvm.Term := .string RL (strE.getD i 0)
abbrev NAR : List Jvm.Cond := flatC (Jvm.Cond.and given_1 narrow_1)
theorem n_ex : ∀ i, i < 16 → Jvm.Cond.exactly (tmS i) "java/lang/String" ∈ NAR := by decide +kernel
theorem n_co : ∀ i, i < 16 → Jvm.Cond.eq (.field (tmS i) "java/lang/String" "coder" "B") (.int 0) ∈ NAR := by decide +kernel
theorem n_ar : ∀ i, i < 16 → Jvm.Cond.arrayOf (.field (tmS i) "java/lang/String" "value" "[B") .byte ∈ NAR := by decide +kernel
theorem n_le : ∀ i, i < 16 → Jvm.Cond.eq (.length (.field (tmS i) "java/lang/String" "value" "[B")) (.int (Int32.ofNat (lenJ.getD i 0))) ∈ NAR := by decide +kernel
def elP : List (List Nat) := [[], [235, 236, 237, 238, 239, 240], [246], [253], [261, 262, 263, 264, 265, 266, 267, 268, 269, 270], [279], [289, 290], [301, 302, 303], [315, 316], [329], [343], [358, 359, 360, 361, 362, 363, 364], [380], [397], [415, 416, 417, 418, 419, 420, 421, 422, 423], [442, 443, 444, 445, 446, 447, 448, 449, 450, 451, 452, 453, 454, 455, 456]]
theorem n_el0 : ∀ i, i < 16 → ∀ j, j < lenJ.getD i 0 → NAR[(elP.getD i []).getD j 0]? = some (Jvm.Cond.eq (.elem (.field (tmS i) "java/lang/String" "value" "[B") (.int (Int32.ofNat j))) (.int ((bytJ.getD i []).getD j 0))) := by decide +kernel
theorem n_el : ∀ i, i < 16 → ∀ j, j < lenJ.getD i 0 → Jvm.Cond.eq (.elem (.field (tmS i) "java/lang/String" "value" "[B") (.int (Int32.ofNat j))) (.int ((bytJ.getD i []).getD j 0)) ∈ NAR := fun i hi j hj => List.mem_of_getElem? (n_el0 i hi j hj)
def neP : List (List Nat) := [[0, 241, 247, 254, 271, 280, 291, 304, 317, 330, 344, 365, 381, 398, 424, 457], [1241, 0, 248, 255, 272, 281, 292, 305, 318, 331, 345, 366, 382, 399, 425, 458], [1247, 1248, 0, 256, 273, 282, 293, 306, 319, 332, 346, 367, 383, 400, 426, 459], [1254, 1255, 1256, 0, 274, 283, 294, 307, 320, 333, 347, 368, 384, 401, 427, 460], [1271, 1272, 1273, 1274, 0, 284, 295, 308, 321, 334, 348, 369, 385, 402, 428, 461], [1280, 1281, 1282, 1283, 1284, 0, 296, 309, 322, 335, 349, 370, 386, 403, 429, 462], [1291, 1292, 1293, 1294, 1295, 1296, 0, 310, 323, 336, 350, 371, 387, 404, 430, 463], [1304, 1305, 1306, 1307, 1308, 1309, 1310, 0, 324, 337, 351, 372, 388, 405, 431, 464], [1317, 1318, 1319, 1320, 1321, 1322, 1323, 1324, 0, 338, 352, 373, 389, 406, 432, 465], [1330, 1331, 1332, 1333, 1334, 1335, 1336, 1337, 1338, 0, 353, 374, 390, 407, 433, 466], [1344, 1345, 1346, 1347, 1348, 1349, 1350, 1351, 1352, 1353, 0, 375, 391, 408, 434, 467], [1365, 1366, 1367, 1368, 1369, 1370, 1371, 1372, 1373, 1374, 1375, 0, 392, 409, 435, 468], [1381, 1382, 1383, 1384, 1385, 1386, 1387, 1388, 1389, 1390, 1391, 1392, 0, 410, 436, 469], [1398, 1399, 1400, 1401, 1402, 1403, 1404, 1405, 1406, 1407, 1408, 1409, 1410, 0, 437, 470], [1424, 1425, 1426, 1427, 1428, 1429, 1430, 1431, 1432, 1433, 1434, 1435, 1436, 1437, 0, 471], [1457, 1458, 1459, 1460, 1461, 1462, 1463, 1464, 1465, 1466, 1467, 1468, 1469, 1470, 1471, 0]]
def neC (i j k : Nat) : Bool := if k < 1000 then decide (NAR[k]? = some (Jvm.Cond.not (.eq (tmS i) (tmS j)))) else decide (NAR[k - 1000]? = some (Jvm.Cond.not (.eq (tmS j) (tmS i))))
theorem n_ne0 : ∀ i, i < 16 → ∀ j, j < 16 → i ≠ j → neC i j ((neP.getD i []).getD j 0) = true := by decide +kernel
theorem n_ne : ∀ i, i < 16 → ∀ j, j < 16 → i ≠ j → Jvm.Cond.not (.eq (tmS i) (tmS j)) ∈ NAR ∨ Jvm.Cond.not (.eq (tmS j) (tmS i)) ∈ NAR := by
  intro i hi j hj h
  have := n_ne0 i hi j hj h
  unfold neC at this
  split at this
  · exact Or.inl (List.mem_of_getElem? (of_decide_eq_true this))
  · exact Or.inr (List.mem_of_getElem? (of_decide_eq_true this))
theorem n_len : ∀ i, i < 16 → lenJ.getD i 0 < 2 ^ 31 := by decide
abbrev tmO : Jvm.Term := .static "java/lang/Integer" "DigitOnes" "[B"
abbrev tmT : Jvm.Term := .static "java/lang/Integer" "DigitTens" "[B"
theorem n_oa : Jvm.Cond.arrayOf tmO .byte ∈ NAR := by decide +kernel
theorem n_ol : Jvm.Cond.eq (.length tmO) (.int (Int32.ofNat 100)) ∈ NAR := by decide +kernel
def noP : List Nat := [12, 13, 14, 15, 16, 17, 18, 19, 20, 21, 22, 23, 24, 25, 26, 27, 28, 29, 30, 31, 32, 33, 34, 35, 36, 37, 38, 39, 40, 41, 42, 43, 44, 45, 46, 47, 48, 49, 50, 51, 52, 53, 54, 55, 56, 57, 58, 59, 60, 61, 62, 63, 64, 65, 66, 67, 68, 69, 70, 71, 72, 73, 74, 75, 76, 77, 78, 79, 80, 81, 82, 83, 84, 85, 86, 87, 88, 89, 90, 91, 92, 93, 94, 95, 96, 97, 98, 99, 100, 101, 102, 103, 104, 105, 106, 107, 108, 109, 110, 111]
theorem n_oe0 : ∀ j, j < 100 → NAR[noP.getD j 0]? = some (Jvm.Cond.eq (.elem tmO (.int (Int32.ofNat j))) (.int (dgO.getD j 0))) := by decide +kernel
theorem n_oe : ∀ j, j < 100 → Jvm.Cond.eq (.elem tmO (.int (Int32.ofNat j))) (.int (dgO.getD j 0)) ∈ NAR := fun j hj => List.mem_of_getElem? (n_oe0 j hj)
theorem n_ta : Jvm.Cond.arrayOf tmT .byte ∈ NAR := by decide +kernel
theorem n_tl : Jvm.Cond.eq (.length tmT) (.int (Int32.ofNat 100)) ∈ NAR := by decide +kernel
def ntP : List Nat := [115, 116, 117, 118, 119, 120, 121, 122, 123, 124, 125, 126, 127, 128, 129, 130, 131, 132, 133, 134, 135, 136, 137, 138, 139, 140, 141, 142, 143, 144, 145, 146, 147, 148, 149, 150, 151, 152, 153, 154, 155, 156, 157, 158, 159, 160, 161, 162, 163, 164, 165, 166, 167, 168, 169, 170, 171, 172, 173, 174, 175, 176, 177, 178, 179, 180, 181, 182, 183, 184, 185, 186, 187, 188, 189, 190, 191, 192, 193, 194, 195, 196, 197, 198, 199, 200, 201, 202, 203, 204, 205, 206, 207, 208, 209, 210, 211, 212, 213, 214]
theorem n_te0 : ∀ j, j < 100 → NAR[ntP.getD j 0]? = some (Jvm.Cond.eq (.elem tmT (.int (Int32.ofNat j))) (.int (dgT.getD j 0))) := by decide +kernel
theorem n_te : ∀ j, j < 100 → Jvm.Cond.eq (.elem tmT (.int (Int32.ofNat j))) (.int (dgT.getD j 0)) ∈ NAR := fun j hj => List.mem_of_getElem? (n_te0 j hj)
theorem n_cs : Jvm.Cond.eq (.static "java/lang/String" "COMPACT_STRINGS" "Z") (.int 1) ∈ NAR := by decide +kernel
theorem n_si : Jvm.Cond.isRef (.static "jdk/internal/util/Preconditions" "SIOOBE_FORMATTER" "Ljava/util/function/BiFunction;") ∈ NAR := by decide +kernel
theorem n_sr : ∀ i, i < 16 → Jvm.Cond.stringRef RL (strE.getD i 0) (strX.getD i "") ∈ lw_tbl := by decide +kernel
theorem n_ls : Jvm.Cond.laysStatic "java/lang/String" "COMPACT_STRINGS" "Z" ∈ lw_tbl ∧ Jvm.Cond.laysStatic "java/lang/Integer" "DigitOnes" "[B" ∈ lw_tbl ∧ Jvm.Cond.laysStatic "java/lang/Integer" "DigitTens" "[B" ∈ lw_tbl ∧ Jvm.Cond.laysStatic "jdk/internal/util/Preconditions" "SIOOBE_FORMATTER" "Ljava/util/function/BiFunction;" ∈ lw_tbl := by decide +kernel
theorem n_in : Jvm.Cond.initialized "java/lang/String" ∈ lw_tbl ∧ Jvm.Cond.initialized "java/lang/Integer" ∈ lw_tbl ∧ Jvm.Cond.initialized "jdk/internal/util/Preconditions" ∈ lw_tbl := by decide +kernel
