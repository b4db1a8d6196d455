/-! what holds at the start -/
def zF : List Cond := flatC (Cond.and given_1 narrow_1)
def zNm : List String := ["GOBLIN", "BROOM", "BANISH", "RECALL", "HIRE", "CANCEL", "REST", "WAKE", "LEND", "FUND", "SPEND", "NIGHT", "NIGHTS"]
def zXi : List Nat := [67, 73, 76, 79, 82, 85, 88, 91, 94, 97, 100, 103, 106]
def fT (k : Nat) : Term := .static "GoblinHousehold$Form" (zNm.getD k "") "LGoblinHousehold$Form;"
def sT (k : Nat) : Term := .string "GoblinHousehold$Form" (zXi.getD k 0)
abbrev vT (t : Term) : Term := .field t "java/lang/String" "value" "[B"
set_option maxRecDepth 100000 in
theorem zF_ex : ∀ k : Nat, k < 13 → zF[([254, 258, 263, 269, 276, 284, 293, 303, 314, 326, 339, 5, 353] : List Nat).getD k 0]? = some (.exactly (fT k) "GoblinHousehold$Form") := by decide +kernel
set_option maxRecDepth 100000 in
theorem zF_or : ∀ k : Nat, k < 13 → zF[([255, 259, 264, 270, 277, 285, 294, 304, 315, 327, 340, 6, 354] : List Nat).getD k 0]? = some (.eq (.field (fT k) "java/lang/Enum" "ordinal" "I") (.int (Int32.ofInt (k : Int)))) := by decide +kernel
theorem zF_si : ∀ k : Nat, k < 13 → zF[([256, 260, 265, 271, 278, 286, 295, 305, 316, 328, 341, 7, 355] : List Nat).getD k 0]? = some (.eq (.field (fT k) "GoblinHousehold$Form" "signs" "Ljava/lang/String;") (sT k)) := by decide +kernel
theorem zF_sx : ∀ k : Nat, k < 13 → zF[([1276, 1288, 1299, 1311, 1323, 1339, 1351, 1361, 1371, 1383, 1393, 1267, 1404] : List Nat).getD k 0]? = some (.exactly (sT k) "java/lang/String") := by decide +kernel
theorem zF_sc : ∀ k : Nat, k < 13 → zF[([1277, 1289, 1300, 1312, 1324, 1340, 1352, 1362, 1372, 1384, 1394, 1268, 1405] : List Nat).getD k 0]? = some (.eq (.field (sT k) "java/lang/String" "coder" "B") (.int (Int32.ofInt 0))) := by decide +kernel
theorem zF_sa : ∀ k : Nat, k < 13 → zF[([1278, 1290, 1301, 1313, 1325, 1341, 1353, 1363, 1373, 1385, 1395, 1269, 1406] : List Nat).getD k 0]? = some (.arrayOf (vT (sT k)) .byte) := by decide +kernel
theorem zF_sl : ∀ k : Nat, k < 13 → zF[([1279, 1291, 1302, 1314, 1326, 1342, 1354, 1364, 1374, 1386, 1396, 1270, 1407] : List Nat).getD k 0]? = some (.eq (.length (vT (sT k))) (.int (Int32.ofNat (fo_z.getD k []).length))) := by decide +kernel
theorem zF_se : ∀ k : Nat, k < 13 → ∀ j : Nat, j < (fo_z.getD k []).length → zF[([1280, 1292, 1303, 1315, 1327, 1343, 1355, 1365, 1375, 1387, 1397, 1271, 1408] : List Nat).getD k 0 + j]? = some (.eq (.elem (vT (sT k)) (.int (Int32.ofNat j))) (.int (Int32.ofInt ((fo_z.getD k []).getD j 0)))) := by decide +kernel
theorem zF_ne : ∀ i : Nat, i < 13 → ∀ j : Nat, j < 13 → i ≠ j → zF[([0, 262, 267, 273, 280, 288, 297, 307, 318, 330, 343, 257, 357, 262, 0, 268, 274, 281, 289, 298, 308, 319, 331, 344, 261, 358, 267, 268, 0, 275, 282, 290, 299, 309, 320, 332, 345, 266, 359, 273, 274, 275, 0, 283, 291, 300, 310, 321, 333, 346, 272, 360, 280, 281, 282, 283, 0, 292, 301, 311, 322, 334, 347, 279, 361, 288, 289, 290, 291, 292, 0, 302, 312, 323, 335, 348, 287, 362, 297, 298, 299, 300, 301, 302, 0, 313, 324, 336, 349, 296, 363, 307, 308, 309, 310, 311, 312, 313, 0, 325, 337, 350, 306, 364, 318, 319, 320, 321, 322, 323, 324, 325, 0, 338, 351, 317, 365, 330, 331, 332, 333, 334, 335, 336, 337, 338, 0, 352, 329, 366, 343, 344, 345, 346, 347, 348, 349, 350, 351, 352, 0, 342, 367, 257, 261, 266, 272, 279, 287, 296, 306, 317, 329, 342, 0, 356, 357, 358, 359, 360, 361, 362, 363, 364, 365, 366, 367, 356, 0] : List Nat).getD (13 * i + j) 0]? = some (.not (.eq (fT i) (fT j))) ∨ zF[([0, 262, 267, 273, 280, 288, 297, 307, 318, 330, 343, 257, 357, 262, 0, 268, 274, 281, 289, 298, 308, 319, 331, 344, 261, 358, 267, 268, 0, 275, 282, 290, 299, 309, 320, 332, 345, 266, 359, 273, 274, 275, 0, 283, 291, 300, 310, 321, 333, 346, 272, 360, 280, 281, 282, 283, 0, 292, 301, 311, 322, 334, 347, 279, 361, 288, 289, 290, 291, 292, 0, 302, 312, 323, 335, 348, 287, 362, 297, 298, 299, 300, 301, 302, 0, 313, 324, 336, 349, 296, 363, 307, 308, 309, 310, 311, 312, 313, 0, 325, 337, 350, 306, 364, 318, 319, 320, 321, 322, 323, 324, 325, 0, 338, 351, 317, 365, 330, 331, 332, 333, 334, 335, 336, 337, 338, 0, 352, 329, 366, 343, 344, 345, 346, 347, 348, 349, 350, 351, 352, 0, 342, 367, 257, 261, 266, 272, 279, 287, 296, 306, 317, 329, 342, 0, 356, 357, 358, 359, 360, 361, 362, 363, 364, 365, 366, 367, 356, 0] : List Nat).getD (13 * i + j) 0]? = some (.not (.eq (fT j) (fT i))) := by decide +kernel
abbrev FT : Term := .static "GoblinHousehold$Script" "FORMS" "[LGoblinHousehold$Form;"
abbrev WT : Term := .static "GoblinHousehold$1" "$SwitchMap$GoblinHousehold$Form" "[I"
abbrev OT1 : Term := .static "java/lang/Integer" "DigitOnes" "[B"
abbrev TT1 : Term := .static "java/lang/Integer" "DigitTens" "[B"
abbrev LT_ (k : Nat) : Term := .string RL (ls_i.getD k 0)
theorem zF_fe : ∀ k : Nat, k < 13 → zF[15 + k]? = some (.eq (.elem FT (.int (Int32.ofNat k))) (fT k)) := by decide +kernel
theorem zF_we : ∀ k : Nat, k < 13 → zF[241 + k]? = some (.eq (.elem WT (.int (Int32.ofNat k))) (.int (Int32.ofInt (sw_z.getD k 0)))) := by decide +kernel
theorem zF_oe : ∀ k : Nat, k < 100 → zF[35 + k]? = some (.eq (.elem OT1 (.int (Int32.ofNat k))) (.int (Int32.ofInt (48 + (k : Int) % 10)))) := by decide +kernel
theorem zF_te : ∀ k : Nat, k < 100 → zF[138 + k]? = some (.eq (.elem TT1 (.int (Int32.ofNat k))) (.int (Int32.ofInt (48 + (k : Int) / 10)))) := by decide +kernel
theorem zF_lx : ∀ k : Nat, k < 10 → zF[([1125, 1130, 1135, 1139, 1144, 1218, 1223, 1228, 1233, 1238] : List Nat).getD k 0]? = some (.exactly (LT_ k) "java/lang/String") := by decide +kernel
theorem zF_lc : ∀ k : Nat, k < 10 → zF[([1126, 1131, 1136, 1140, 1145, 1219, 1224, 1229, 1234, 1239] : List Nat).getD k 0]? = some (.eq (.field (LT_ k) "java/lang/String" "coder" "B") (.int (Int32.ofInt 0))) := by decide +kernel
theorem zF_la : ∀ k : Nat, k < 10 → zF[([1127, 1132, 1137, 1141, 1146, 1220, 1225, 1230, 1235, 1240] : List Nat).getD k 0]? = some (.arrayOf (vT (LT_ k)) .byte) := by decide +kernel
theorem zF_ll : ∀ k : Nat, k < 10 → zF[([1128, 1133, 1138, 1142, 1147, 1221, 1226, 1231, 1236, 1241] : List Nat).getD k 0]? = some (.eq (.length (vT (LT_ k))) (.int (Int32.ofNat (ls_z.getD k []).length))) := by decide +kernel
theorem zF_le : ∀ k : Nat, k < 10 → ∀ j : Nat, j < (ls_z.getD k []).length → zF[([1129, 1134, 1139, 1143, 1148, 1222, 1227, 1232, 1237, 1242] : List Nat).getD k 0 + j]? = some (.eq (.elem (vT (LT_ k)) (.int (Int32.ofNat j))) (.int (Int32.ofInt ((ls_z.getD k []).getD j 0)))) := by decide +kernel
theorem zF_fa : zF[12]? = some (.arrayOf FT (.object "GoblinHousehold$Form")) := by decide +kernel
theorem zF_fl : zF[13]? = some (.eq (.length FT) (.int (Int32.ofNat 13))) := by decide +kernel
theorem zF_wa : zF[239]? = some (.arrayOf WT .int) := by decide +kernel
theorem zF_wl : zF[240]? = some (.eq (.length WT) (.int (Int32.ofNat 13))) := by decide +kernel
theorem zF_oa : zF[33]? = some (.arrayOf OT1 .byte) := by decide +kernel
theorem zF_ol : zF[34]? = some (.eq (.length OT1) (.int (Int32.ofNat 100))) := by decide +kernel
theorem zF_ta : zF[136]? = some (.arrayOf TT1 .byte) := by decide +kernel
theorem zF_tl : zF[137]? = some (.eq (.length TT1) (.int (Int32.ofNat 100))) := by decide +kernel
theorem zF_cs : zF[4]? = some (.eq (.static "java/lang/String" "COMPACT_STRINGS" "Z") (.int (Int32.ofInt 1))) := by decide +kernel
theorem zF_us : zF[8]? = some (.isRef (.static Bundle.tN "UNASSIGNED_STACK" Bundle.steD)) := by decide +kernel
theorem zF_ss : zF[9]? = some (.isRef (.static Bundle.tN "SUPPRESSED_SENTINEL" Bundle.listD)) := by decide +kernel
theorem zF_pf : zF[28]? = some (.isRef (.static "jdk/internal/util/Preconditions" "SIOOBE_FORMATTER" "Ljava/util/function/BiFunction;")) := by decide +kernel
theorem nT_lF : tables_1[714]? = some (.laysStatic "GoblinHousehold$Script" "FORMS" "[LGoblinHousehold$Form;") := by decide +kernel
theorem nT_lN : tables_1[264]? = some (.laysStatic "GoblinHousehold$Form" "NIGHT" "LGoblinHousehold$Form;") := by decide +kernel
theorem nT_lW : tables_1[1037]? = some (.laysStatic "GoblinHousehold$1" "$SwitchMap$GoblinHousehold$Form" "[I") := by decide +kernel
theorem nT_lO : tables_1[933]? = some (.laysStatic "java/lang/Integer" "DigitOnes" "[B") := by decide +kernel
theorem nT_lT : tables_1[935]? = some (.laysStatic "java/lang/Integer" "DigitTens" "[B") := by decide +kernel
theorem nT_lC : tables_1[233]? = some (.laysStatic "java/lang/String" "COMPACT_STRINGS" "Z") := by decide +kernel
theorem nT_lP : tables_1[743]? = some (.laysStatic "jdk/internal/util/Preconditions" "SIOOBE_FORMATTER" "Ljava/util/function/BiFunction;") := by decide +kernel
theorem nT_lU : tables_1[361]? = some (.laysStatic Bundle.tN "UNASSIGNED_STACK" Bundle.steD) := by decide +kernel
theorem nT_lS : tables_1[363]? = some (.laysStatic Bundle.tN "SUPPRESSED_SENTINEL" Bundle.listD) := by decide +kernel
theorem nT_iF : tables_1[7]? = some (.initialized "GoblinHousehold$Script") := by decide +kernel
theorem nT_iN : tables_1[14]? = some (.initialized "GoblinHousehold$Form") := by decide +kernel
theorem nT_iW : tables_1[33]? = some (.initialized "GoblinHousehold$1") := by decide +kernel
theorem nT_iO : tables_1[32]? = some (.initialized "java/lang/Integer") := by decide +kernel
theorem nT_iC : tables_1[10]? = some (.initialized "java/lang/String") := by decide +kernel
theorem nT_iP : tables_1[26]? = some (.initialized "jdk/internal/util/Preconditions") := by decide +kernel
theorem nT_iU : tables_1[15]? = some (.initialized "java/lang/Throwable") := by decide +kernel
theorem nT_s0 : tables_1[867]? = some (.selects RJ4 ⟨RJ5, "isLatin1", "()Z"⟩ ⟨RJ5, "isLatin1", "()Z"⟩) := by decide +kernel
theorem nT_p1 : tables_1[834]? = some (.privateMethod yJ5_ensureCapacityInternal_d00df) := by decide +kernel
theorem nT_n1 : tables_1[835]? = some (.instanceMethod yJ5_ensureCapacityInternal_d00df) := by decide +kernel
theorem nT_p2 : tables_1[838]? = some (.privateMethod yJ5_newCapacity_0f7a4) := by decide +kernel
theorem nT_n2 : tables_1[839]? = some (.instanceMethod yJ5_newCapacity_0f7a4) := by decide +kernel
theorem nT_ls : ∀ k : Nat, k < 10 → tables_1[([1237, 1239, 1248, 1249, 1255, 1356, 1357, 1358, 1363, 1364] : List Nat).getD k 0]? = some (.stringRef RL (ls_i.getD k 0) (ls_t.getD k "")) := by decide +kernel
theorem nT_p3 : tables_1[886]? = some (.privateMethod yJ5_putStringAt_47b60) := by decide +kernel
theorem nT_n3 : tables_1[887]? = some (.instanceMethod yJ5_putStringAt_47b60) := by decide +kernel
theorem nT_p4 : tables_1[890]? = some (.privateMethod yJ5_inflateIfNeededFor_a7421) := by decide +kernel
theorem nT_n4 : tables_1[891]? = some (.instanceMethod yJ5_inflateIfNeededFor_a7421) := by decide +kernel
theorem nT_cl : tables_1[858]? = some (.castable "[B" "java/lang/Cloneable") := by decide +kernel
theorem nT_a7 : tables_1[207]? = some (.arrayOver (.object RX7)) := by decide +kernel
theorem nT_a2 : tables_1[257]? = some (.arrayOver (.object RX2)) := by decide +kernel
theorem nT_w1 : tables_1[51]? = some (.methodLinkNest RX7 17 yX1_init "GoblinHousehold") := by decide +kernel
theorem nT_w5 : tables_1[75]? = some (.methodLinkNest RX7 24 yX5_init "GoblinHousehold") := by decide +kernel
theorem nT_w3 : tables_1[112]? = some (.methodLinkNest RX7 31 yX3_init "GoblinHousehold") := by decide +kernel
theorem nT_w2 : tables_1[259]? = some (.methodLinkNest RX8 31 yX2_init "GoblinHousehold") := by decide +kernel
theorem nT_c0 : tables_1[71]? = some (.arrayClass .int) := by decide +kernel
theorem nT_c1 : tables_1[72]? = some (.arrayClass .boolean) := by decide +kernel
theorem nT_c2 : tables_1[255]? = some (.arrayClass .byte) := by decide +kernel
theorem nT_ss : ∀ q ∈ thrT, Cond.stringRef RX9 q.1 q.2 ∈ tables_1 ∧ Cond.exactly (.string RX9 q.1) "java/lang/String" ∈ zF := by decide +kernel
theorem nT_th : ∀ q ∈ thrS, ∀ w ∈ (vx_atS RX9 q.1 q.2 thrN).filter (fun w => !goodWord w), w ∈ lw_tbl ∧ w.onTables = true := by decide +kernel
theorem nT_an : ∀ w ∈ m_atN.filter (fun w => !goodWord w), w ∈ lw_tbl ∧ w.onTables = true := by decide +kernel
theorem nT_ca : ∀ E ∈ xN, Cond.castable E E ∈ tables_1 := by decide +kernel
theorem zF_nc : ∀ E ∈ xN, ∀ nm ∈ xN, nm ≠ E → Cond.not (.castable E nm) ∈ zF := by decide +kernel
