/-! what holds at the start -/
def nF : List Cond := flatC (Cond.and given_1 narrow_1)
def nN : List String := ["GOBLIN", "BROOM", "BANISH", "RECALL", "HIRE", "CANCEL", "REST", "WAKE", "LEND", "FUND", "SPEND", "NIGHT", "NIGHTS"]
def nX : List Nat := [67, 73, 76, 79, 82, 85, 88, 91, 94, 97, 100, 103, 106]
def fT (k : Nat) : Term := .static "GoblinHousehold$Form" (nN.getD k "") "LGoblinHousehold$Form;"
def sT (k : Nat) : Term := .string "GoblinHousehold$Form" (nX.getD k 0)
abbrev vT (t : Term) : Term := .field t "java/lang/String" "value" "[B"
set_option maxRecDepth 100000 in
theorem nF_ex : ∀ k : Nat, k < 13 → nF[([254, 258, 263, 269, 276, 284, 293, 303, 314, 326, 339, 5, 353] : List Nat).getD k 0]? = some (.exactly (fT k) "GoblinHousehold$Form") := by decide +kernel
set_option maxRecDepth 100000 in
theorem nF_or : ∀ k : Nat, k < 13 → nF[([255, 259, 264, 270, 277, 285, 294, 304, 315, 327, 340, 6, 354] : List Nat).getD k 0]? = some (.eq (.field (fT k) "java/lang/Enum" "ordinal" "I") (.int (Int32.ofInt (k : Int)))) := by decide +kernel
theorem nF_si : ∀ k : Nat, k < 13 → nF[([256, 260, 265, 271, 278, 286, 295, 305, 316, 328, 341, 7, 355] : List Nat).getD k 0]? = some (.eq (.field (fT k) "GoblinHousehold$Form" "signs" "Ljava/lang/String;") (sT k)) := by decide +kernel
theorem nF_sx : ∀ k : Nat, k < 13 → nF[([1393, 1405, 1416, 1428, 1440, 1456, 1468, 1478, 1488, 1500, 1510, 1384, 1521] : List Nat).getD k 0]? = some (.exactly (sT k) "java/lang/String") := by decide +kernel
theorem nF_sc : ∀ k : Nat, k < 13 → nF[([1394, 1406, 1417, 1429, 1441, 1457, 1469, 1479, 1489, 1501, 1511, 1385, 1522] : List Nat).getD k 0]? = some (.eq (.field (sT k) "java/lang/String" "coder" "B") (.int (Int32.ofInt 0))) := by decide +kernel
theorem nF_sa : ∀ k : Nat, k < 13 → nF[([1395, 1407, 1418, 1430, 1442, 1458, 1470, 1480, 1490, 1502, 1512, 1386, 1523] : List Nat).getD k 0]? = some (.arrayOf (vT (sT k)) .byte) := by decide +kernel
theorem nF_sl : ∀ k : Nat, k < 13 → nF[([1396, 1408, 1419, 1431, 1443, 1459, 1471, 1481, 1491, 1503, 1513, 1387, 1524] : List Nat).getD k 0]? = some (.eq (.length (vT (sT k))) (.int (Int32.ofNat (fo_z.getD k []).length))) := by decide +kernel
theorem nF_se : ∀ k : Nat, k < 13 → ∀ j : Nat, j < (fo_z.getD k []).length → nF[([1397, 1409, 1420, 1432, 1444, 1460, 1472, 1482, 1492, 1504, 1514, 1388, 1525] : List Nat).getD k 0 + j]? = some (.eq (.elem (vT (sT k)) (.int (Int32.ofNat j))) (.int (Int32.ofInt ((fo_z.getD k []).getD j 0)))) := by decide +kernel
theorem nF_ne : ∀ i : Nat, i < 13 → ∀ j : Nat, j < 13 → i ≠ j → nF[([0, 262, 267, 273, 280, 288, 297, 307, 318, 330, 343, 257, 357, 262, 0, 268, 274, 281, 289, 298, 308, 319, 331, 344, 261, 358, 267, 268, 0, 275, 282, 290, 299, 309, 320, 332, 345, 266, 359, 273, 274, 275, 0, 283, 291, 300, 310, 321, 333, 346, 272, 360, 280, 281, 282, 283, 0, 292, 301, 311, 322, 334, 347, 279, 361, 288, 289, 290, 291, 292, 0, 302, 312, 323, 335, 348, 287, 362, 297, 298, 299, 300, 301, 302, 0, 313, 324, 336, 349, 296, 363, 307, 308, 309, 310, 311, 312, 313, 0, 325, 337, 350, 306, 364, 318, 319, 320, 321, 322, 323, 324, 325, 0, 338, 351, 317, 365, 330, 331, 332, 333, 334, 335, 336, 337, 338, 0, 352, 329, 366, 343, 344, 345, 346, 347, 348, 349, 350, 351, 352, 0, 342, 367, 257, 261, 266, 272, 279, 287, 296, 306, 317, 329, 342, 0, 356, 357, 358, 359, 360, 361, 362, 363, 364, 365, 366, 367, 356, 0] : List Nat).getD (13 * i + j) 0]? = some (.not (.eq (fT i) (fT j))) ∨ nF[([0, 262, 267, 273, 280, 288, 297, 307, 318, 330, 343, 257, 357, 262, 0, 268, 274, 281, 289, 298, 308, 319, 331, 344, 261, 358, 267, 268, 0, 275, 282, 290, 299, 309, 320, 332, 345, 266, 359, 273, 274, 275, 0, 283, 291, 300, 310, 321, 333, 346, 272, 360, 280, 281, 282, 283, 0, 292, 301, 311, 322, 334, 347, 279, 361, 288, 289, 290, 291, 292, 0, 302, 312, 323, 335, 348, 287, 362, 297, 298, 299, 300, 301, 302, 0, 313, 324, 336, 349, 296, 363, 307, 308, 309, 310, 311, 312, 313, 0, 325, 337, 350, 306, 364, 318, 319, 320, 321, 322, 323, 324, 325, 0, 338, 351, 317, 365, 330, 331, 332, 333, 334, 335, 336, 337, 338, 0, 352, 329, 366, 343, 344, 345, 346, 347, 348, 349, 350, 351, 352, 0, 342, 367, 257, 261, 266, 272, 279, 287, 296, 306, 317, 329, 342, 0, 356, 357, 358, 359, 360, 361, 362, 363, 364, 365, 366, 367, 356, 0] : List Nat).getD (13 * i + j) 0]? = some (.not (.eq (fT j) (fT i))) := by decide +kernel
abbrev FT : Term := .static "GoblinHousehold$Script" "FORMS" "[LGoblinHousehold$Form;"
abbrev WT : Term := .static "GoblinHousehold$1" "$SwitchMap$GoblinHousehold$Form" "[I"
abbrev OT1 : Term := .static "java/lang/Integer" "DigitOnes" "[B"
abbrev TT1 : Term := .static "java/lang/Integer" "DigitTens" "[B"
abbrev MT : Term := .string "GoblinHouseholdModel" 231
theorem nF_fe : ∀ k : Nat, k < 13 → nF[225 + k]? = some (.eq (.elem FT (.int (Int32.ofNat k))) (fT k)) := by decide +kernel
theorem nF_we : ∀ k : Nat, k < 13 → nF[241 + k]? = some (.eq (.elem WT (.int (Int32.ofNat k))) (.int (Int32.ofInt (sw_z.getD k 0)))) := by decide +kernel
theorem nF_oe : ∀ k : Nat, k < 100 → nF[17 + k]? = some (.eq (.elem OT1 (.int (Int32.ofNat k))) (.int (Int32.ofInt (48 + (k : Int) % 10)))) := by decide +kernel
theorem nF_te : ∀ k : Nat, k < 100 → nF[120 + k]? = some (.eq (.elem TT1 (.int (Int32.ofNat k))) (.int (Int32.ofInt (48 + (k : Int) / 10)))) := by decide +kernel
theorem nF_me : ∀ j : Nat, j < zN.length → nF[1314 + j]? = some (.eq (.elem (vT MT) (.int (Int32.ofNat j))) (.int (Int32.ofInt (zN.getD j 0)))) := by decide +kernel
theorem nF_fa : nF[222]? = some (.arrayOf FT (.object "GoblinHousehold$Form")) := by decide +kernel
theorem nF_fl : nF[223]? = some (.eq (.length FT) (.int (Int32.ofNat 13))) := by decide +kernel
theorem nF_wa : nF[239]? = some (.arrayOf WT .int) := by decide +kernel
theorem nF_wl : nF[240]? = some (.eq (.length WT) (.int (Int32.ofNat 13))) := by decide +kernel
theorem nF_oa : nF[15]? = some (.arrayOf OT1 .byte) := by decide +kernel
theorem nF_ol : nF[16]? = some (.eq (.length OT1) (.int (Int32.ofNat 100))) := by decide +kernel
theorem nF_ta : nF[118]? = some (.arrayOf TT1 .byte) := by decide +kernel
theorem nF_tl : nF[119]? = some (.eq (.length TT1) (.int (Int32.ofNat 100))) := by decide +kernel
theorem nF_mx : nF[1310]? = some (.exactly MT "java/lang/String") := by decide +kernel
theorem nF_mc : nF[1311]? = some (.eq (.field MT "java/lang/String" "coder" "B") (.int (Int32.ofInt 0))) := by decide +kernel
theorem nF_ma : nF[1312]? = some (.arrayOf (vT MT) .byte) := by decide +kernel
theorem nF_ml : nF[1313]? = some (.eq (.length (vT MT)) (.int (Int32.ofNat zN.length))) := by decide +kernel
theorem nF_cs : nF[4]? = some (.eq (.static "java/lang/String" "COMPACT_STRINGS" "Z") (.int (Int32.ofInt 1))) := by decide +kernel
theorem nF_us : nF[8]? = some (.isRef (.static Bundle.tN "UNASSIGNED_STACK" Bundle.steD)) := by decide +kernel
theorem nF_ss : nF[9]? = some (.isRef (.static Bundle.tN "SUPPRESSED_SENTINEL" Bundle.listD)) := by decide +kernel
theorem nF_pf : nF[10]? = some (.isRef (.static "jdk/internal/util/Preconditions" "SIOOBE_FORMATTER" "Ljava/util/function/BiFunction;")) := by decide +kernel
theorem nT_lF : tables_1[1354]? = some (.laysStatic "GoblinHousehold$Script" "FORMS" "[LGoblinHousehold$Form;") := by decide +kernel
theorem nT_lN : tables_1[265]? = some (.laysStatic "GoblinHousehold$Form" "NIGHT" "LGoblinHousehold$Form;") := by decide +kernel
theorem nT_lW : tables_1[1407]? = some (.laysStatic "GoblinHousehold$1" "$SwitchMap$GoblinHousehold$Form" "[I") := by decide +kernel
theorem nT_lO : tables_1[662]? = some (.laysStatic "java/lang/Integer" "DigitOnes" "[B") := by decide +kernel
theorem nT_lT : tables_1[664]? = some (.laysStatic "java/lang/Integer" "DigitTens" "[B") := by decide +kernel
theorem nT_lC : tables_1[234]? = some (.laysStatic "java/lang/String" "COMPACT_STRINGS" "Z") := by decide +kernel
theorem nT_lP : tables_1[592]? = some (.laysStatic "jdk/internal/util/Preconditions" "SIOOBE_FORMATTER" "Ljava/util/function/BiFunction;") := by decide +kernel
theorem nT_lU : tables_1[426]? = some (.laysStatic Bundle.tN "UNASSIGNED_STACK" Bundle.steD) := by decide +kernel
theorem nT_lS : tables_1[428]? = some (.laysStatic Bundle.tN "SUPPRESSED_SENTINEL" Bundle.listD) := by decide +kernel
theorem nT_iF : tables_1[7]? = some (.initialized "GoblinHousehold$Script") := by decide +kernel
theorem nT_iN : tables_1[14]? = some (.initialized "GoblinHousehold$Form") := by decide +kernel
theorem nT_iW : tables_1[35]? = some (.initialized "GoblinHousehold$1") := by decide +kernel
theorem nT_iO : tables_1[34]? = some (.initialized "java/lang/Integer") := by decide +kernel
theorem nT_iC : tables_1[10]? = some (.initialized "java/lang/String") := by decide +kernel
theorem nT_iP : tables_1[31]? = some (.initialized "jdk/internal/util/Preconditions") := by decide +kernel
theorem nT_iU : tables_1[16]? = some (.initialized "java/lang/Throwable") := by decide +kernel
theorem nT_s0 : tables_1[577]? = some (.selects RJ4 ⟨RJ5, "isLatin1", "()Z"⟩ ⟨RJ5, "isLatin1", "()Z"⟩) := by decide +kernel
theorem nT_p1 : tables_1[542]? = some (.privateMethod yJ5_ensureCapacityInternal_d00df) := by decide +kernel
theorem nT_n1 : tables_1[543]? = some (.instanceMethod yJ5_ensureCapacityInternal_d00df) := by decide +kernel
theorem nT_p2 : tables_1[546]? = some (.privateMethod yJ5_newCapacity_0f7a4) := by decide +kernel
theorem nT_n2 : tables_1[547]? = some (.instanceMethod yJ5_newCapacity_0f7a4) := by decide +kernel
theorem nT_mS : tables_1[1945]? = some (.stringRef RX10 231 "goblin broom banish recall hire cancel rest wake lend fund spend night") := by decide +kernel
theorem nT_a7 : tables_1[208]? = some (.arrayOver (.object RX7)) := by decide +kernel
theorem nT_a2 : tables_1[258]? = some (.arrayOver (.object RX2)) := by decide +kernel
theorem nT_w1 : tables_1[52]? = some (.methodLinkNest RX7 17 yX1_init "GoblinHousehold") := by decide +kernel
theorem nT_w5 : tables_1[76]? = some (.methodLinkNest RX7 24 yX5_init "GoblinHousehold") := by decide +kernel
theorem nT_w3 : tables_1[113]? = some (.methodLinkNest RX7 31 yX3_init "GoblinHousehold") := by decide +kernel
theorem nT_w2 : tables_1[260]? = some (.methodLinkNest RX8 31 yX2_init "GoblinHousehold") := by decide +kernel
theorem nT_c0 : tables_1[72]? = some (.arrayClass .int) := by decide +kernel
theorem nT_c1 : tables_1[73]? = some (.arrayClass .boolean) := by decide +kernel
theorem nT_c2 : tables_1[256]? = some (.arrayClass .byte) := by decide +kernel
theorem nT_c3 : tables_1[1983]? = some (.arrayClass .long) := by decide +kernel
theorem nT_c4 : tables_1[1984]? = some (.arrayClass .double) := by decide +kernel
theorem nT_ss : ∀ q ∈ thrT, Cond.stringRef RX9 q.1 q.2 ∈ tables_1 ∧ Cond.exactly (.string RX9 q.1) "java/lang/String" ∈ nF := by decide +kernel
theorem nT_th : ∀ q ∈ thrS, ∀ w ∈ (vx_atS RX9 q.1 q.2 thrN).filter (fun w => !goodWord w), w ∈ lw_tbl ∧ w.onTables = true := by decide +kernel
theorem nT_an : ∀ w ∈ m_atN.filter (fun w => !goodWord w), w ∈ lw_tbl ∧ w.onTables = true := by decide +kernel
theorem nT_ca : ∀ E ∈ xN, Cond.castable E E ∈ tables_1 := by decide +kernel
theorem nF_nc : ∀ E ∈ xN, ∀ nm ∈ xN, nm ≠ E → Cond.not (.castable E nm) ∈ nF := by decide +kernel
