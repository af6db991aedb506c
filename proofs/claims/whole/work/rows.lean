section
-- ===== PART A: goes FIRST, ahead of the names: the tables' words, and 'selects' of the private methods out of them =====
/-- a private method of a class that the tables say can be made, by its rows of tables_1 -/
def lw_okq (q : MethodName × Nat) : Prop := (q.1.cls ≠ "java/lang/invoke/MethodHandle" ∧ q.1.cls ≠ "java/lang/invoke/VarHandle") ∧ Cond.instantiable q.1.cls q.2 ∈ tables_1 ∧ Cond.privateMethod q.1 ∈ tables_1 ∧ Cond.instanceMethod q.1 ∈ tables_1
theorem lw_p0 : lw_okq (⟨"TypeFoundry", "find", "(I)LTypeFoundry$Glyph;"⟩, 9) := ⟨⟨by decide +kernel, by decide +kernel⟩, List.mem_of_getElem? (i := 32) (by decide +kernel), List.mem_of_getElem? (i := 239) (by decide +kernel), List.mem_of_getElem? (i := 240) (by decide +kernel)⟩
theorem lw_p1 : lw_okq (⟨"TypeFoundry$Kerning", "pairAt", "(II)I"⟩, 7) := ⟨⟨by decide +kernel, by decide +kernel⟩, List.mem_of_getElem? (i := 143) (by decide +kernel), List.mem_of_getElem? (i := 311) (by decide +kernel), List.mem_of_getElem? (i := 312) (by decide +kernel)⟩
theorem lw_p2 : lw_okq (⟨"TypeFoundry$Setter", "run", "(I)V"⟩, 7) := ⟨⟨by decide +kernel, by decide +kernel⟩, List.mem_of_getElem? (i := 172) (by decide +kernel), List.mem_of_getElem? (i := 337) (by decide +kernel), List.mem_of_getElem? (i := 338) (by decide +kernel)⟩
theorem lw_p3 : lw_okq (⟨"TypeFoundry$Setter", "bestAt", "(II)LTypeFoundry$Rule;"⟩, 7) := ⟨⟨by decide +kernel, by decide +kernel⟩, List.mem_of_getElem? (i := 172) (by decide +kernel), List.mem_of_getElem? (i := 341) (by decide +kernel), List.mem_of_getElem? (i := 342) (by decide +kernel)⟩
theorem lw_p4 : lw_okq (⟨"TypeFoundry$Setter", "put", "(LTypeFoundry$Rule;I)V"⟩, 7) := ⟨⟨by decide +kernel, by decide +kernel⟩, List.mem_of_getElem? (i := 172) (by decide +kernel), List.mem_of_getElem? (i := 360) (by decide +kernel), List.mem_of_getElem? (i := 361) (by decide +kernel)⟩
theorem lw_p5 : lw_okq (⟨"java/lang/Throwable", "fillInStackTrace", "(I)Ljava/lang/Throwable;"⟩, 6) := ⟨⟨by decide +kernel, by decide +kernel⟩, List.mem_of_getElem? (i := 418) (by decide +kernel), List.mem_of_getElem? (i := 416) (by decide +kernel), List.mem_of_getElem? (i := 417) (by decide +kernel)⟩
theorem lw_p6 : lw_okq (⟨"TypeFoundry", "ofWholeOutline", "(LTypeFoundry$Glyph;I)I"⟩, 9) := ⟨⟨by decide +kernel, by decide +kernel⟩, List.mem_of_getElem? (i := 32) (by decide +kernel), List.mem_of_getElem? (i := 635) (by decide +kernel), List.mem_of_getElem? (i := 636) (by decide +kernel)⟩
theorem lw_p7 : lw_okq (⟨"TypeFoundry$Outline", "gather", "(LTypeFoundry$Glyph;LTypeFoundry$Blend;I)V"⟩, 7) := ⟨⟨by decide +kernel, by decide +kernel⟩, List.mem_of_getElem? (i := 59) (by decide +kernel), List.mem_of_getElem? (i := 660) (by decide +kernel), List.mem_of_getElem? (i := 661) (by decide +kernel)⟩
theorem lw_p8 : lw_okq (⟨"TypeFoundry$Outline", "addContours", "(LTypeFoundry$Glyph;LTypeFoundry$Blend;)V"⟩, 7) := ⟨⟨by decide +kernel, by decide +kernel⟩, List.mem_of_getElem? (i := 59) (by decide +kernel), List.mem_of_getElem? (i := 664) (by decide +kernel), List.mem_of_getElem? (i := 665) (by decide +kernel)⟩
theorem lw_p9 : lw_okq (⟨"TypeFoundry$Outline", "turnAndShift", "(ILTypeFoundry$Part;)V"⟩, 7) := ⟨⟨by decide +kernel, by decide +kernel⟩, List.mem_of_getElem? (i := 59) (by decide +kernel), List.mem_of_getElem? (i := 669) (by decide +kernel), List.mem_of_getElem? (i := 670) (by decide +kernel)⟩
theorem lw_p10 : lw_okq (⟨"TypeFoundry$Outline", "reverseContours", "(I)V"⟩, 7) := ⟨⟨by decide +kernel, by decide +kernel⟩, List.mem_of_getElem? (i := 59) (by decide +kernel), List.mem_of_getElem? (i := 677) (by decide +kernel), List.mem_of_getElem? (i := 678) (by decide +kernel)⟩
theorem lw_p11 : lw_okq (⟨"TypeFoundry$Outline", "swap", "(II)V"⟩, 7) := ⟨⟨by decide +kernel, by decide +kernel⟩, List.mem_of_getElem? (i := 59) (by decide +kernel), List.mem_of_getElem? (i := 681) (by decide +kernel), List.mem_of_getElem? (i := 682) (by decide +kernel)⟩
theorem lw_p12 : lw_okq (⟨"TypeFoundry$Path", "addQuadratic", "(LTypeFoundry$Outline;III)V"⟩, 3) := ⟨⟨by decide +kernel, by decide +kernel⟩, List.mem_of_getElem? (i := 94) (by decide +kernel), List.mem_of_getElem? (i := 971) (by decide +kernel), List.mem_of_getElem? (i := 972) (by decide +kernel)⟩
theorem lw_p13 : lw_okq (⟨"TypeFoundry$Path", "addCorner", "(II)V"⟩, 3) := ⟨⟨by decide +kernel, by decide +kernel⟩, List.mem_of_getElem? (i := 94) (by decide +kernel), List.mem_of_getElem? (i := 984) (by decide +kernel), List.mem_of_getElem? (i := 985) (by decide +kernel)⟩
theorem lw_p14 : lw_okq (⟨"TypeFoundry$Canvas", "addRising", "(IIIII)V"⟩, 3) := ⟨⟨by decide +kernel, by decide +kernel⟩, List.mem_of_getElem? (i := 127) (by decide +kernel), List.mem_of_getElem? (i := 1007) (by decide +kernel), List.mem_of_getElem? (i := 1008) (by decide +kernel)⟩
theorem lw_p15 : lw_okq (⟨"TypeFoundry$Canvas", "firstCut", "(I)I"⟩, 3) := ⟨⟨by decide +kernel, by decide +kernel⟩, List.mem_of_getElem? (i := 127) (by decide +kernel), List.mem_of_getElem? (i := 1011) (by decide +kernel), List.mem_of_getElem? (i := 1012) (by decide +kernel)⟩
def lw_privs_1 : List (MethodName × Nat) := [(⟨"TypeFoundry", "find", "(I)LTypeFoundry$Glyph;"⟩, 9), (⟨"TypeFoundry$Kerning", "pairAt", "(II)I"⟩, 7), (⟨"TypeFoundry$Setter", "run", "(I)V"⟩, 7), (⟨"TypeFoundry$Setter", "bestAt", "(II)LTypeFoundry$Rule;"⟩, 7), (⟨"TypeFoundry$Setter", "put", "(LTypeFoundry$Rule;I)V"⟩, 7), (⟨"java/lang/Throwable", "fillInStackTrace", "(I)Ljava/lang/Throwable;"⟩, 6), (⟨"TypeFoundry", "ofWholeOutline", "(LTypeFoundry$Glyph;I)I"⟩, 9), (⟨"TypeFoundry$Outline", "gather", "(LTypeFoundry$Glyph;LTypeFoundry$Blend;I)V"⟩, 7), (⟨"TypeFoundry$Outline", "addContours", "(LTypeFoundry$Glyph;LTypeFoundry$Blend;)V"⟩, 7), (⟨"TypeFoundry$Outline", "turnAndShift", "(ILTypeFoundry$Part;)V"⟩, 7), (⟨"TypeFoundry$Outline", "reverseContours", "(I)V"⟩, 7), (⟨"TypeFoundry$Outline", "swap", "(II)V"⟩, 7), (⟨"TypeFoundry$Path", "addQuadratic", "(LTypeFoundry$Outline;III)V"⟩, 3), (⟨"TypeFoundry$Path", "addCorner", "(II)V"⟩, 3), (⟨"TypeFoundry$Canvas", "addRising", "(IIIII)V"⟩, 3), (⟨"TypeFoundry$Canvas", "firstCut", "(I)I"⟩, 3)]
theorem lw_r1 : ∀ q ∈ lw_privs_1, lw_okq q := List.forall_mem_cons.mpr ⟨lw_p0, List.forall_mem_cons.mpr ⟨lw_p1, List.forall_mem_cons.mpr ⟨lw_p2, List.forall_mem_cons.mpr ⟨lw_p3, List.forall_mem_cons.mpr ⟨lw_p4, List.forall_mem_cons.mpr ⟨lw_p5, List.forall_mem_cons.mpr ⟨lw_p6, List.forall_mem_cons.mpr ⟨lw_p7, List.forall_mem_cons.mpr ⟨lw_p8, List.forall_mem_cons.mpr ⟨lw_p9, List.forall_mem_cons.mpr ⟨lw_p10, List.forall_mem_cons.mpr ⟨lw_p11, List.forall_mem_cons.mpr ⟨lw_p12, List.forall_mem_cons.mpr ⟨lw_p13, List.forall_mem_cons.mpr ⟨lw_p14, List.forall_mem_cons.mpr ⟨lw_p15, fun _ h => absurd h List.not_mem_nil⟩⟩⟩⟩⟩⟩⟩⟩⟩⟩⟩⟩⟩⟩⟩⟩
theorem lw_p16 : lw_okq (⟨"TypeFoundry$Canvas", "addPart", "(IIIII)V"⟩, 3) := ⟨⟨by decide +kernel, by decide +kernel⟩, List.mem_of_getElem? (i := 127) (by decide +kernel), List.mem_of_getElem? (i := 1023) (by decide +kernel), List.mem_of_getElem? (i := 1024) (by decide +kernel)⟩
theorem lw_p17 : lw_okq (⟨"TypeFoundry$Canvas", "addRise", "(IIII)V"⟩, 3) := ⟨⟨by decide +kernel, by decide +kernel⟩, List.mem_of_getElem? (i := 127) (by decide +kernel), List.mem_of_getElem? (i := 1030) (by decide +kernel), List.mem_of_getElem? (i := 1031) (by decide +kernel)⟩
theorem lw_p18 : lw_okq (⟨"TypeFoundry$Canvas", "grey", "(I)I"⟩, 3) := ⟨⟨by decide +kernel, by decide +kernel⟩, List.mem_of_getElem? (i := 127) (by decide +kernel), List.mem_of_getElem? (i := 1038) (by decide +kernel), List.mem_of_getElem? (i := 1039) (by decide +kernel)⟩
theorem lw_p19 : lw_okq (⟨"TypeFoundry", "xInRow", "(I)I"⟩, 9) := ⟨⟨by decide +kernel, by decide +kernel⟩, List.mem_of_getElem? (i := 32) (by decide +kernel), List.mem_of_getElem? (i := 1109) (by decide +kernel), List.mem_of_getElem? (i := 1110) (by decide +kernel)⟩
theorem lw_p20 : lw_okq (⟨"TypeFoundry", "widthOf", "(I)I"⟩, 9) := ⟨⟨by decide +kernel, by decide +kernel⟩, List.mem_of_getElem? (i := 32) (by decide +kernel), List.mem_of_getElem? (i := 1113) (by decide +kernel), List.mem_of_getElem? (i := 1114) (by decide +kernel)⟩
theorem lw_p21 : lw_okq (⟨"TypeFoundryModel", "isGlyph", "(I)Z"⟩, 55) := ⟨⟨by decide +kernel, by decide +kernel⟩, List.mem_of_getElem? (i := 1122) (by decide +kernel), List.mem_of_getElem? (i := 1308) (by decide +kernel), List.mem_of_getElem? (i := 1309) (by decide +kernel)⟩
theorem lw_p22 : lw_okq (⟨"TypeFoundryModel", "componentPoints", "(I)I"⟩, 55) := ⟨⟨by decide +kernel, by decide +kernel⟩, List.mem_of_getElem? (i := 1122) (by decide +kernel), List.mem_of_getElem? (i := 1333) (by decide +kernel), List.mem_of_getElem? (i := 1334) (by decide +kernel)⟩
theorem lw_p23 : lw_okq (⟨"TypeFoundryModel", "tell", "(I)V"⟩, 55) := ⟨⟨by decide +kernel, by decide +kernel⟩, List.mem_of_getElem? (i := 1122) (by decide +kernel), List.mem_of_getElem? (i := 1349) (by decide +kernel), List.mem_of_getElem? (i := 1350) (by decide +kernel)⟩
theorem lw_p24 : lw_okq (⟨"TypeFoundryModel", "tellContours", "(I)V"⟩, 55) := ⟨⟨by decide +kernel, by decide +kernel⟩, List.mem_of_getElem? (i := 1122) (by decide +kernel), List.mem_of_getElem? (i := 1353) (by decide +kernel), List.mem_of_getElem? (i := 1354) (by decide +kernel)⟩
theorem lw_p25 : lw_okq (⟨"TypeFoundryModel", "turnPoint", "(II)V"⟩, 55) := ⟨⟨by decide +kernel, by decide +kernel⟩, List.mem_of_getElem? (i := 1122) (by decide +kernel), List.mem_of_getElem? (i := 1357) (by decide +kernel), List.mem_of_getElem? (i := 1358) (by decide +kernel)⟩
theorem lw_p26 : lw_okq (⟨"TypeFoundryModel", "xOf", "(II)I"⟩, 55) := ⟨⟨by decide +kernel, by decide +kernel⟩, List.mem_of_getElem? (i := 1122) (by decide +kernel), List.mem_of_getElem? (i := 1361) (by decide +kernel), List.mem_of_getElem? (i := 1362) (by decide +kernel)⟩
theorem lw_p27 : lw_okq (⟨"TypeFoundryModel", "between", "(IIII)I"⟩, 55) := ⟨⟨by decide +kernel, by decide +kernel⟩, List.mem_of_getElem? (i := 1122) (by decide +kernel), List.mem_of_getElem? (i := 1365) (by decide +kernel), List.mem_of_getElem? (i := 1366) (by decide +kernel)⟩
theorem lw_p28 : lw_okq (⟨"TypeFoundryModel", "yOf", "(II)I"⟩, 55) := ⟨⟨by decide +kernel, by decide +kernel⟩, List.mem_of_getElem? (i := 1122) (by decide +kernel), List.mem_of_getElem? (i := 1378) (by decide +kernel), List.mem_of_getElem? (i := 1379) (by decide +kernel)⟩
theorem lw_p29 : lw_okq (⟨"TypeFoundryModel", "widthOf", "(I)I"⟩, 55) := ⟨⟨by decide +kernel, by decide +kernel⟩, List.mem_of_getElem? (i := 1122) (by decide +kernel), List.mem_of_getElem? (i := 1383) (by decide +kernel), List.mem_of_getElem? (i := 1384) (by decide +kernel)⟩
theorem lw_p30 : lw_okq (⟨"TypeFoundryModel", "contour", "(II)V"⟩, 55) := ⟨⟨by decide +kernel, by decide +kernel⟩, List.mem_of_getElem? (i := 1122) (by decide +kernel), List.mem_of_getElem? (i := 1395) (by decide +kernel), List.mem_of_getElem? (i := 1396) (by decide +kernel)⟩
theorem lw_p31 : lw_okq (⟨"TypeFoundryModel", "lineTo", "(II)V"⟩, 55) := ⟨⟨by decide +kernel, by decide +kernel⟩, List.mem_of_getElem? (i := 1122) (by decide +kernel), List.mem_of_getElem? (i := 1399) (by decide +kernel), List.mem_of_getElem? (i := 1400) (by decide +kernel)⟩
def lw_privs_2 : List (MethodName × Nat) := [(⟨"TypeFoundry$Canvas", "addPart", "(IIIII)V"⟩, 3), (⟨"TypeFoundry$Canvas", "addRise", "(IIII)V"⟩, 3), (⟨"TypeFoundry$Canvas", "grey", "(I)I"⟩, 3), (⟨"TypeFoundry", "xInRow", "(I)I"⟩, 9), (⟨"TypeFoundry", "widthOf", "(I)I"⟩, 9), (⟨"TypeFoundryModel", "isGlyph", "(I)Z"⟩, 55), (⟨"TypeFoundryModel", "componentPoints", "(I)I"⟩, 55), (⟨"TypeFoundryModel", "tell", "(I)V"⟩, 55), (⟨"TypeFoundryModel", "tellContours", "(I)V"⟩, 55), (⟨"TypeFoundryModel", "turnPoint", "(II)V"⟩, 55), (⟨"TypeFoundryModel", "xOf", "(II)I"⟩, 55), (⟨"TypeFoundryModel", "between", "(IIII)I"⟩, 55), (⟨"TypeFoundryModel", "yOf", "(II)I"⟩, 55), (⟨"TypeFoundryModel", "widthOf", "(I)I"⟩, 55), (⟨"TypeFoundryModel", "contour", "(II)V"⟩, 55), (⟨"TypeFoundryModel", "lineTo", "(II)V"⟩, 55)]
theorem lw_r2 : ∀ q ∈ lw_privs_2, lw_okq q := List.forall_mem_cons.mpr ⟨lw_p16, List.forall_mem_cons.mpr ⟨lw_p17, List.forall_mem_cons.mpr ⟨lw_p18, List.forall_mem_cons.mpr ⟨lw_p19, List.forall_mem_cons.mpr ⟨lw_p20, List.forall_mem_cons.mpr ⟨lw_p21, List.forall_mem_cons.mpr ⟨lw_p22, List.forall_mem_cons.mpr ⟨lw_p23, List.forall_mem_cons.mpr ⟨lw_p24, List.forall_mem_cons.mpr ⟨lw_p25, List.forall_mem_cons.mpr ⟨lw_p26, List.forall_mem_cons.mpr ⟨lw_p27, List.forall_mem_cons.mpr ⟨lw_p28, List.forall_mem_cons.mpr ⟨lw_p29, List.forall_mem_cons.mpr ⟨lw_p30, List.forall_mem_cons.mpr ⟨lw_p31, fun _ h => absurd h List.not_mem_nil⟩⟩⟩⟩⟩⟩⟩⟩⟩⟩⟩⟩⟩⟩⟩⟩
theorem lw_p32 : lw_okq (⟨"TypeFoundryModel", "line", "(IIII)V"⟩, 55) := ⟨⟨by decide +kernel, by decide +kernel⟩, List.mem_of_getElem? (i := 1122) (by decide +kernel), List.mem_of_getElem? (i := 1403) (by decide +kernel), List.mem_of_getElem? (i := 1404) (by decide +kernel)⟩
theorem lw_p33 : lw_okq (⟨"TypeFoundryModel", "fit", "(I)I"⟩, 55) := ⟨⟨by decide +kernel, by decide +kernel⟩, List.mem_of_getElem? (i := 1122) (by decide +kernel), List.mem_of_getElem? (i := 1407) (by decide +kernel), List.mem_of_getElem? (i := 1408) (by decide +kernel)⟩
theorem lw_p34 : lw_okq (⟨"TypeFoundryModel", "goal", "(I)I"⟩, 55) := ⟨⟨by decide +kernel, by decide +kernel⟩, List.mem_of_getElem? (i := 1122) (by decide +kernel), List.mem_of_getElem? (i := 1411) (by decide +kernel), List.mem_of_getElem? (i := 1412) (by decide +kernel)⟩
theorem lw_p35 : lw_okq (⟨"TypeFoundryModel", "nextStop", "(II)I"⟩, 55) := ⟨⟨by decide +kernel, by decide +kernel⟩, List.mem_of_getElem? (i := 1122) (by decide +kernel), List.mem_of_getElem? (i := 1415) (by decide +kernel), List.mem_of_getElem? (i := 1416) (by decide +kernel)⟩
theorem lw_p36 : lw_okq (⟨"TypeFoundryModel", "across", "(IIII)V"⟩, 55) := ⟨⟨by decide +kernel, by decide +kernel⟩, List.mem_of_getElem? (i := 1122) (by decide +kernel), List.mem_of_getElem? (i := 1422) (by decide +kernel), List.mem_of_getElem? (i := 1423) (by decide +kernel)⟩
theorem lw_p37 : lw_okq (⟨"TypeFoundryModel", "cover", "(IIII)V"⟩, 55) := ⟨⟨by decide +kernel, by decide +kernel⟩, List.mem_of_getElem? (i := 1122) (by decide +kernel), List.mem_of_getElem? (i := 1426) (by decide +kernel), List.mem_of_getElem? (i := 1427) (by decide +kernel)⟩
theorem lw_p38 : lw_okq (⟨"TypeFoundryModel", "quadratic", "(IIII)V"⟩, 55) := ⟨⟨by decide +kernel, by decide +kernel⟩, List.mem_of_getElem? (i := 1122) (by decide +kernel), List.mem_of_getElem? (i := 1433) (by decide +kernel), List.mem_of_getElem? (i := 1434) (by decide +kernel)⟩
theorem lw_p39 : lw_okq (⟨"TypeFoundryModel", "pairAt", "(II)I"⟩, 55) := ⟨⟨by decide +kernel, by decide +kernel⟩, List.mem_of_getElem? (i := 1122) (by decide +kernel), List.mem_of_getElem? (i := 1458) (by decide +kernel), List.mem_of_getElem? (i := 1459) (by decide +kernel)⟩
theorem lw_p40 : lw_okq (⟨"TypeFoundryModel", "isRow", "(JI)Z"⟩, 55) := ⟨⟨by decide +kernel, by decide +kernel⟩, List.mem_of_getElem? (i := 1122) (by decide +kernel), List.mem_of_getElem? (i := 1472) (by decide +kernel), List.mem_of_getElem? (i := 1473) (by decide +kernel)⟩
theorem lw_p41 : lw_okq (⟨"TypeFoundryModel", "bestRule", "(II)I"⟩, 55) := ⟨⟨by decide +kernel, by decide +kernel⟩, List.mem_of_getElem? (i := 1122) (by decide +kernel), List.mem_of_getElem? (i := 1486) (by decide +kernel), List.mem_of_getElem? (i := 1487) (by decide +kernel)⟩
theorem lw_p42 : lw_okq (⟨"TypeFoundryModel", "fitsAt", "(II)Z"⟩, 55) := ⟨⟨by decide +kernel, by decide +kernel⟩, List.mem_of_getElem? (i := 1122) (by decide +kernel), List.mem_of_getElem? (i := 1490) (by decide +kernel), List.mem_of_getElem? (i := 1491) (by decide +kernel)⟩
theorem lw_p43 : lw_okq (⟨"TypeFoundryModel", "stands", "(JII)Z"⟩, 55) := ⟨⟨by decide +kernel, by decide +kernel⟩, List.mem_of_getElem? (i := 1122) (by decide +kernel), List.mem_of_getElem? (i := 1494) (by decide +kernel), List.mem_of_getElem? (i := 1495) (by decide +kernel)⟩
theorem lw_p44 : lw_okq (⟨"TypeFoundryModel", "change", "(II)V"⟩, 55) := ⟨⟨by decide +kernel, by decide +kernel⟩, List.mem_of_getElem? (i := 1122) (by decide +kernel), List.mem_of_getElem? (i := 1498) (by decide +kernel), List.mem_of_getElem? (i := 1499) (by decide +kernel)⟩
theorem lw_p45 : lw_okq (⟨"TypeFoundryModel", "kernOf", "(II)I"⟩, 55) := ⟨⟨by decide +kernel, by decide +kernel⟩, List.mem_of_getElem? (i := 1122) (by decide +kernel), List.mem_of_getElem? (i := 1506) (by decide +kernel), List.mem_of_getElem? (i := 1507) (by decide +kernel)⟩
def lw_privs_3 : List (MethodName × Nat) := [(⟨"TypeFoundryModel", "line", "(IIII)V"⟩, 55), (⟨"TypeFoundryModel", "fit", "(I)I"⟩, 55), (⟨"TypeFoundryModel", "goal", "(I)I"⟩, 55), (⟨"TypeFoundryModel", "nextStop", "(II)I"⟩, 55), (⟨"TypeFoundryModel", "across", "(IIII)V"⟩, 55), (⟨"TypeFoundryModel", "cover", "(IIII)V"⟩, 55), (⟨"TypeFoundryModel", "quadratic", "(IIII)V"⟩, 55), (⟨"TypeFoundryModel", "pairAt", "(II)I"⟩, 55), (⟨"TypeFoundryModel", "isRow", "(JI)Z"⟩, 55), (⟨"TypeFoundryModel", "bestRule", "(II)I"⟩, 55), (⟨"TypeFoundryModel", "fitsAt", "(II)Z"⟩, 55), (⟨"TypeFoundryModel", "stands", "(JII)Z"⟩, 55), (⟨"TypeFoundryModel", "change", "(II)V"⟩, 55), (⟨"TypeFoundryModel", "kernOf", "(II)I"⟩, 55)]
theorem lw_r3 : ∀ q ∈ lw_privs_3, lw_okq q := List.forall_mem_cons.mpr ⟨lw_p32, List.forall_mem_cons.mpr ⟨lw_p33, List.forall_mem_cons.mpr ⟨lw_p34, List.forall_mem_cons.mpr ⟨lw_p35, List.forall_mem_cons.mpr ⟨lw_p36, List.forall_mem_cons.mpr ⟨lw_p37, List.forall_mem_cons.mpr ⟨lw_p38, List.forall_mem_cons.mpr ⟨lw_p39, List.forall_mem_cons.mpr ⟨lw_p40, List.forall_mem_cons.mpr ⟨lw_p41, List.forall_mem_cons.mpr ⟨lw_p42, List.forall_mem_cons.mpr ⟨lw_p43, List.forall_mem_cons.mpr ⟨lw_p44, List.forall_mem_cons.mpr ⟨lw_p45, fun _ h => absurd h List.not_mem_nil⟩⟩⟩⟩⟩⟩⟩⟩⟩⟩⟩⟩⟩⟩
def lw_privs : List (MethodName × Nat) := lw_privs_1 ++ (lw_privs_2 ++ (lw_privs_3))
def lw_tbl : List Cond := k2_sels lw_privs ++ tables_1
theorem lw_privs_ok : ∀ q ∈ lw_privs, lw_okq q := by
  show ∀ q ∈ lw_privs_1 ++ (lw_privs_2 ++ (lw_privs_3)), lw_okq q
  exact List.forall_mem_append.mpr ⟨lw_r1, List.forall_mem_append.mpr ⟨lw_r2, lw_r3⟩⟩
end
section
/-! the first words of the layer: what the names need -/
def tf_dec (cc : ByteArray) : Nat → List (Instr × Nat) → Bool
  | _, [] => true
  | pc, q :: r => (match decode cc pc with | .ok z => decide (z = q) | .error _ => false) && tf_dec cc (pc + q.2) r
/-- the words beside the good ones: links across the nest, arrays over a class -/
def tf_nk : Cond → Bool
  | .fieldLinkNest _ _ _ _ _ _ => true
  | .methodLinkNest _ _ _ _ => true
  | .arrayOver (.object _) => true
  | _ => false
def tf_Ts : List Cond := lw_tbl.filter goodWord
def tf_NW : List Cond := tables_1.filter tf_nk
theorem tf_mem (i : Nat) {w : Cond} (h : tables_1[i]? = some w) (hg : goodWord w = true) : w ∈ tf_Ts := List.mem_filter.mpr ⟨List.mem_append_right _ (List.mem_of_getElem? h), hg⟩
theorem tf_memN (i : Nat) {w : Cond} (h : tables_1[i]? = some w) (hg : tf_nk w = true) : w ∈ tf_NW := List.mem_filter.mpr ⟨List.mem_of_getElem? h, hg⟩
theorem tf_memP (i : Nat) {w : Cond} (h : (k2_sels lw_privs)[i]? = some w) (hg : goodWord w = true) : w ∈ tf_Ts := List.mem_filter.mpr ⟨List.mem_append_left _ (List.mem_of_getElem? h), hg⟩
theorem tf_memL (is : List Nat) {ws : List Cond} (h : is.filterMap (fun i => tables_1[i]?) = ws) (hg : ws.all goodWord = true) : ∀ w ∈ ws, w ∈ tf_Ts := by
  intro w hw
  have h1 := List.all_eq_true.mp hg w hw
  rw [← h] at hw
  obtain ⟨i, -, hi⟩ := List.mem_filterMap.mp hw
  exact tf_mem i hi h1
end
section
/-! A layer over the kit's rows: a method's walk over ONE world, a pool of all cells (the list of their addresses, what each holds). -/
abbrev tf_I : Type := MethodName × ByteArray × Nat × Option FieldType
abbrev tf_V : Type := List (Nat × Value)
abbrev tf_F : Type := Nat → va_E
abbrev tf_B : Type := List Frame → Array Value → State → Nat → Nat → (Nat → Prop) → State → Prop
/-- what the tables and the class list are: fixed for a whole claim -/
abbrev tf_G : Type := va_G × List vw_C × List (ClassId × FieldType) × List Cond × List Cond
def tf_M (G : tf_G) (i : tf_I) (p : Program) (s : State) (m : MethodId) (args : Array Value) (meth : Method) (c : Code) : Prop :=
  p.tables.exec = Jvm.exec ∧ c.code = i.2.1 ∧ c.maxLocals = i.2.2.1 ∧ s.vm.findClass i.1.cls = some m.cls ∧ (∀ w ∈ G.2.2.2.1, w.before args s = true) ∧ meth.sig.returnType = i.2.2.2 ∧ meth.locks = false ∧ (∀ w ∈ G.2.2.2.2, va_Nw w s) ∧ meth.name = i.1.name ∧ va_K G.1 G.2.1 G.2.2.1 s
/-- the world: the pool in the heap, apart, inside A; nothing outside A has changed; what is new is in A -/
def tf_P (G : tf_G) (L : List Nat) (f : tf_F) (A : Nat → Prop) (s : State) (H : Heap) (locs : List Loc) : Prop :=
  va_P G.1 G.2.1 (va_pl L f) H ∧ va_D A (va_pl L f) ∧ va_S A s.heap H locs ∧ ∀ q, s.heap.size ≤ q → A q
def tf_R (d kc ks mc ms cells slots : Nat) (R : Room) : Prop := d ≤ R.frames ∧ 64 * d ≤ R.locals ∧ cells + kc ≤ mc ∧ slots + ks ≤ ms ∧ mc ≤ R.cells ∧ ms ≤ R.slots
/-- the machine, at pc with these locals and this stack over this world, comes to an end with QB; kc cells of ks slots may still be made, d frames entered -/
def tf_W (l : Launch) (G : tf_G) (EX : State → (Nat → Prop) → Prop) (QB : tf_B) (d : Nat) (i : tf_I) (pc : Nat) (lv : tf_V) (st : List Value) (L : List Nat) (f : tf_F) (kc ks : Nat) : Prop :=
  ∀ (p : Program) (e : Env) (R : Room) (s : State) (m : MethodId) (args : Array Value) (below : List Frame) (meth : Method) (c : Code) (H : Heap) (locs : List Loc) (cells slots : Nat) (ls : Array Slot) (A : Nat → Prop) (mc ms : Nat),
    tf_M G i p s m args meth c → EX s A → tf_R d kc ks mc ms cells slots R → lv_has ls i.2.2.1 lv → tf_P G L f A s H locs →
    W p l e R s m args below meth c H locs cells slots (QB below args s mc ms A) (F0 m pc ls st)
def tf_lk : tf_V → Nat → Option Value
  | [], _ => none
  | q :: r, i => if q.1 == i then some q.2 else tf_lk r i
theorem tf_lk_mem {lv : tf_V} {i : Nat} {v : Value} (h : tf_lk lv i = some v) : (i, v) ∈ lv := by
  induction lv with
  | nil => cases h
  | cons q r ih =>
    unfold tf_lk at h
    split at h
    · rename_i hq
      have : q.1 = i := by simpa using hq
      cases h
      subst this
      exact List.mem_cons_self
    · exact List.mem_cons_of_mem _ (ih h)
theorem tf_at {ls : Array Slot} {nL : Nat} {lv : tf_V} (h : lv_has ls nL lv) {i : Nat} {v : Value} (hk : tf_lk lv i = some v) : ls[i]? = some (.val v) := h.2.2 (i, v) (tf_lk_mem hk)
/-- the list of locals stays in the order of their numbers -/
def tf_in : tf_V → Nat → Value → tf_V
  | [], i, v => [(i, v)]
  | q :: r, i, v => if Nat.blt i q.1 then (i, v) :: q :: r else q :: tf_in r i v
theorem tf_in_mem {lv : tf_V} {i : Nat} {v : Value} {x : Nat × Value} (h : x ∈ tf_in lv i v) : x = (i, v) ∨ x ∈ lv := by
  induction lv with
  | nil => exact Or.inl (List.mem_singleton.mp h)
  | cons q r ih =>
    unfold tf_in at h
    split at h
    · rcases List.mem_cons.mp h with h | h
      · exact Or.inl h
      · exact Or.inr h
    · rcases List.mem_cons.mp h with h | h
      · exact Or.inr (h ▸ List.mem_cons_self)
      · exact (ih h).imp id (List.mem_cons_of_mem _)
def tf_s1 (lv : tf_V) (i : Nat) (v : Value) : tf_V := tf_in (lv.filter (fun q => !(q.1 == i) && !(q.1 + 1 == i && q.2.category == 2))) i v
def tf_s2 (lv : tf_V) (i : Nat) (v : Value) : tf_V := tf_in (lv.filter (fun q => !(q.1 == i) && (!(q.1 == i + 1) && !(q.1 + 1 == i && q.2.category == 2)))) i v
theorem tf_has {ls : Array Slot} {nL i : Nat} {lw : tf_V} {v : Value} (h : lv_has ls nL ((i, v) :: lw)) : lv_has ls nL (tf_in lw i v) :=
  ⟨h.1, h.2.1, fun q hq => h.2.2 q ((tf_in_mem hq).elim (fun e => e ▸ List.mem_cons_self) (List.mem_cons_of_mem _))⟩
def tf_keep (ks : List Nat) (lv : tf_V) : tf_V := lv.filter (fun q => ks.contains q.1)
theorem tf_keep_has {ls : Array Slot} {nL : Nat} {lv : tf_V} (ks : List Nat) (h : lv_has ls nL lv) : lv_has ls nL (tf_keep ks lv) :=
  ⟨h.1, h.2.1, fun q hq => h.2.2 q (List.mem_filter.mp hq).1⟩
end
section
def tf_sm (b : Nat) : Int → Bool
  | .ofNat n => Nat.blt n b
  | .negSucc n => Nat.blt n b
theorem tf_sm_ok {b : Nat} {a : Int} (h : tf_sm b a = true) : -(b : Int) ≤ a ∧ a < b := by
  cases a with
  | ofNat n =>
    have : n < b := by simpa [tf_sm] using h
    simp only [Int.ofNat_eq_natCast]
    omega
  | negSucc n =>
    have : n < b := by simpa [tf_sm] using h
    omega
theorem tf_k8 {a : Int} (h : tf_sm 128 a = true) : (Int8.ofInt a).toInt32 = Int32.ofInt a := by
  have := tf_sm_ok h
  apply Int32.toInt_inj.mp
  rw [Int8.toInt_toInt32, Int8.toInt_ofInt, Int32.toInt_ofInt]
  simp only [Int.bmod, Int8.size, Int16.size, Int32.size]
  omega
theorem tf_k16 {a : Int} (h : tf_sm 32768 a = true) : (Int16.ofInt a).toInt32 = Int32.ofInt a := by
  have := tf_sm_ok h
  apply Int32.toInt_inj.mp
  rw [Int16.toInt_toInt32, Int16.toInt_ofInt, Int32.toInt_ofInt]
  simp only [Int.bmod, Int8.size, Int16.size, Int32.size]
  omega
/-- what an instruction that asks nothing of the heap does to locals and stack -/
def tf_op (nL : Nat) (ins : Instr) (n : Nat) (lv : tf_V) (st : List Value) : Option (tf_V × List Value) :=
  match ins, n, st with
  | .iconst a, 1, st => some (lv, .int (Int32.ofInt a) :: st)
  | .bipush a, 2, st => match tf_sm 128 a with | true => some (lv, .int (Int32.ofInt a) :: st) | false => none
  | .sipush a, 3, st => match tf_sm 32768 a with | true => some (lv, .int (Int32.ofInt a) :: st) | false => none
  | .lconst a, 1, st => some (lv, .long (Int64.ofNat a.val) :: st)
  | .aconst_null, 1, st => some (lv, .null :: st)
  | .iadd, 1, .int y :: .int x :: st => some (lv, .int (x + y) :: st)
  | .isub, 1, .int y :: .int x :: st => some (lv, .int (x - y) :: st)
  | .imul, 1, .int y :: .int x :: st => some (lv, .int (x * y) :: st)
  | .iand, 1, .int y :: .int x :: st => some (lv, .int (x &&& y) :: st)
  | .ior, 1, .int y :: .int x :: st => some (lv, .int (x ||| y) :: st)
  | .ixor, 1, .int y :: .int x :: st => some (lv, .int (x ^^^ y) :: st)
  | .ineg, 1, .int x :: st => some (lv, .int (-x) :: st)
  | .ladd, 1, .long y :: .long x :: st => some (lv, .long (x + y) :: st)
  | .lsub, 1, .long y :: .long x :: st => some (lv, .long (x - y) :: st)
  | .lmul, 1, .long y :: .long x :: st => some (lv, .long (x * y) :: st)
  | .land, 1, .long y :: .long x :: st => some (lv, .long (x &&& y) :: st)
  | .lor, 1, .long y :: .long x :: st => some (lv, .long (x ||| y) :: st)
  | .lxor, 1, .long y :: .long x :: st => some (lv, .long (x ^^^ y) :: st)
  | .lneg, 1, .long x :: st => some (lv, .long (-x) :: st)
  | .ishl, 1, .int y :: .int x :: st => some (lv, .int (x <<< (y &&& 31)) :: st)
  | .ishr, 1, .int y :: .int x :: st => some (lv, .int (x >>> (y &&& 31)) :: st)
  | .iushr, 1, .int y :: .int x :: st => some (lv, .int (x.toUInt32 >>> (y.toUInt32 &&& Int32.toUInt32 31)).toInt32 :: st)
  | .lshl, 1, .int y :: .long x :: st => some (lv, .long (x <<< (y.toInt64 &&& 63)) :: st)
  | .lshr, 1, .int y :: .long x :: st => some (lv, .long (x >>> (y.toInt64 &&& 63)) :: st)
  | .lushr, 1, .int y :: .long x :: st => some (lv, .long (x.toUInt64 >>> (y.toInt64.toUInt64 &&& Int64.toUInt64 63)).toInt64 :: st)
  | .i2l, 1, .int x :: st => some (lv, .long x.toInt64 :: st)
  | .l2i, 1, .long x :: st => some (lv, .int x.toInt32 :: st)
  | .lcmp, 1, .long y :: .long x :: st => some (lv, .int (lg_cmp x y) :: st)
  | .i2b, 1, .int x :: st => some (lv, .int x.toInt8.toInt32 :: st)
  | .i2s, 1, .int x :: st => some (lv, .int x.toInt16.toInt32 :: st)
  | .dup, 1, .int x :: st => some (lv, .int x :: .int x :: st)
  | .pop, 1, .int x :: st => some (lv, st)
  | .dup, 1, .ref x :: st => some (lv, .ref x :: .ref x :: st)
  | .pop, 1, .ref x :: st => some (lv, st)
  | .dup, 1, .null :: st => some (lv, .null :: .null :: st)
  | .pop, 1, .null :: st => some (lv, st)
  | .dup_x1, 1, .int x :: .int y :: st => some (lv, .int x :: .int y :: .int x :: st)
  | .dup2, 1, .int x :: .int y :: st => some (lv, .int x :: .int y :: .int x :: .int y :: st)
  | .dup_x1, 1, .int x :: .ref y :: st => some (lv, .int x :: .ref y :: .int x :: st)
  | .dup2, 1, .int x :: .ref y :: st => some (lv, .int x :: .ref y :: .int x :: .ref y :: st)
  | .dup_x1, 1, .ref x :: .int y :: st => some (lv, .ref x :: .int y :: .ref x :: st)
  | .dup2, 1, .ref x :: .int y :: st => some (lv, .ref x :: .int y :: .ref x :: .int y :: st)
  | .dup_x1, 1, .ref x :: .ref y :: st => some (lv, .ref x :: .ref y :: .ref x :: st)
  | .dup2, 1, .ref x :: .ref y :: st => some (lv, .ref x :: .ref y :: .ref x :: .ref y :: st)
  | .dup2, 1, .long x :: st => some (lv, .long x :: .long x :: st)
  | .dup_x2, 1, .int x :: .int y :: .ref z :: st => some (lv, .int x :: .int y :: .ref z :: .int x :: st)
  | .istore a, 2, .int x :: st => if a < nL then some (tf_s1 lv a (.int x), st) else none
  | .istore_n a, 1, .int x :: st => if a.val < nL then some (tf_s1 lv a.val (.int x), st) else none
  | .lstore a, 2, .long x :: st => if a + 1 < nL then some (tf_s2 lv a (.long x), st) else none
  | .lstore_n a, 1, .long x :: st => if a.val + 1 < nL then some (tf_s2 lv a.val (.long x), st) else none
  | .astore a, 2, .ref x :: st => if a < nL then some (tf_s1 lv a (.ref x), st) else none
  | .astore_n a, 1, .ref x :: st => if a.val < nL then some (tf_s1 lv a.val (.ref x), st) else none
  | .astore a, 2, .null :: st => if a < nL then some (tf_s1 lv a (.null), st) else none
  | .astore_n a, 1, .null :: st => if a.val < nL then some (tf_s1 lv a.val (.null), st) else none
  | .iload a, 2, st => match tf_lk lv a with | some (.int x) => some (lv, .int x :: st) | _ => none
  | .iload_n a, 1, st => match tf_lk lv a.val with | some (.int x) => some (lv, .int x :: st) | _ => none
  | .lload a, 2, st => match tf_lk lv a with | some (.long x) => some (lv, .long x :: st) | _ => none
  | .lload_n a, 1, st => match tf_lk lv a.val with | some (.long x) => some (lv, .long x :: st) | _ => none
  | .aload a, 2, st => match tf_lk lv a with | some (.ref x) => some (lv, .ref x :: st) | some .null => some (lv, .null :: st) | _ => none
  | .aload_n a, 1, st => match tf_lk lv a.val with | some (.ref x) => some (lv, .ref x :: st) | some .null => some (lv, .null :: st) | _ => none
  | .iinc a b, 3, st => match tf_lk lv a with | some (.int x) => if a < nL then some (tf_s1 lv a (.int (x + Int32.ofInt b)), st) else none | _ => none
  | _, _, _ => none
set_option maxHeartbeats 4000000 in
theorem tf_op_ok {p : Program} {l : Launch} {e : Env} {R : Room} {s : State} {m : MethodId} {args : Array Value} {below : List Frame} {meth : Method} {c : Code} {H : Heap} {locs : List Loc} {cells slots : Nat} {Q : State → Prop} {cc : ByteArray} {pc nL n : Nat} {ls : Array Slot} {ins : Instr} {lv lv2 : tf_V} {st st2 : List Value}
    (hx : p.tables.exec = Jvm.exec) (hb : c.code = cc) (hd : decode cc pc = .ok (ins, n)) (hl : lv_has ls nL lv) (h : tf_op nL ins n lv st = some (lv2, st2))
    (k : ∀ ls2 : Array Slot, lv_has ls2 nL lv2 → W p l e R s m args below meth c H locs cells slots Q (F0 m (pc + n) ls2 st2)) : W p l e R s m args below meth c H locs cells slots Q (F0 m pc ls st) := by
  unfold tf_op at h
  split at h
  · cases h; exact lv_iconst hx hb hd rfl (k ls hl)
  · split at h
    · rename_i hs; cases h; exact lv_bipush hx hb hd (tf_k8 hs) (k ls hl)
    · cases h
  · split at h
    · rename_i hs; cases h; exact lv_sipush hx hb hd (tf_k16 hs) (k ls hl)
    · cases h
  · cases h; exact lv_lconst hx hb hd rfl (k ls hl)
  · cases h; exact lv_null hx hb hd (k ls hl)
  · cases h; exact lv_iadd hx hb hd (k ls hl)
  · cases h; exact lv_isub hx hb hd (k ls hl)
  · cases h; exact lv_imul hx hb hd (k ls hl)
  · cases h; exact lv_iand hx hb hd (k ls hl)
  · cases h; exact lv_ior hx hb hd (k ls hl)
  · cases h; exact lv_ixor hx hb hd (k ls hl)
  · cases h; exact lv_ineg hx hb hd (k ls hl)
  · cases h; exact lv_ladd hx hb hd (k ls hl)
  · cases h; exact lv_lsub hx hb hd (k ls hl)
  · cases h; exact lv_lmul hx hb hd (k ls hl)
  · cases h; exact lv_land hx hb hd (k ls hl)
  · cases h; exact lv_lor hx hb hd (k ls hl)
  · cases h; exact lv_lxor hx hb hd (k ls hl)
  · cases h; exact lv_lneg hx hb hd (k ls hl)
  · cases h; exact lv_ishl hx hb hd (k ls hl)
  · cases h; exact lv_ishr hx hb hd (k ls hl)
  · cases h; exact lv_iushr hx hb hd rfl (k ls hl)
  · cases h; exact lv_lshl hx hb hd rfl (k ls hl)
  · cases h; exact lv_lshr hx hb hd rfl (k ls hl)
  · cases h; exact lv_lushr hx hb hd rfl (k ls hl)
  · cases h; exact lv_i2l hx hb hd rfl (k ls hl)
  · cases h; exact lv_l2i hx hb hd rfl (k ls hl)
  · cases h; exact W.lcmp hx hb hd (k ls hl)
  · cases h; exact lv_i2b hx hb hd rfl (k ls hl)
  · cases h; exact lv_i2s hx hb hd rfl (k ls hl)
  · cases h; exact lv_dup hx hb hd rfl (k ls hl)
  · cases h; exact lv_pop hx hb hd rfl (k ls hl)
  · cases h; exact lv_dup hx hb hd rfl (k ls hl)
  · cases h; exact lv_pop hx hb hd rfl (k ls hl)
  · cases h; exact lv_dup hx hb hd rfl (k ls hl)
  · cases h; exact lv_pop hx hb hd rfl (k ls hl)
  · cases h; exact lv_dup_x1 hx hb hd rfl rfl (k ls hl)
  · cases h; exact lv_dup2_11 hx hb hd rfl rfl (k ls hl)
  · cases h; exact lv_dup_x1 hx hb hd rfl rfl (k ls hl)
  · cases h; exact lv_dup2_11 hx hb hd rfl rfl (k ls hl)
  · cases h; exact lv_dup_x1 hx hb hd rfl rfl (k ls hl)
  · cases h; exact lv_dup2_11 hx hb hd rfl rfl (k ls hl)
  · cases h; exact lv_dup_x1 hx hb hd rfl rfl (k ls hl)
  · cases h; exact lv_dup2_11 hx hb hd rfl rfl (k ls hl)
  · cases h; exact lv_dup2_2 hx hb hd rfl (k ls hl)
  · cases h; exact lv_dup_x2 hx hb hd rfl rfl rfl (k ls hl)
  · split at h
    · rename_i hn; cases h; exact lv_istore hx hb hd hl hn rfl (fun ls2 h2 => k ls2 (tf_has h2))
    · cases h
  · split at h
    · rename_i hn; cases h; exact lv_istore_n hx hb hd rfl hl hn rfl (fun ls2 h2 => k ls2 (tf_has h2))
    · cases h
  · split at h
    · rename_i hn; cases h; exact lv_lstore hx hb hd hl hn rfl (fun ls2 h2 => k ls2 (tf_has h2))
    · cases h
  · split at h
    · rename_i hn; cases h; exact lv_lstore_n hx hb hd rfl hl hn rfl (fun ls2 h2 => k ls2 (tf_has h2))
    · cases h
  · split at h
    · rename_i hn; cases h; exact lv_astore hx hb hd hl hn rfl (fun ls2 h2 => k ls2 (tf_has h2))
    · cases h
  · split at h
    · rename_i hn; cases h; exact lv_astore_n hx hb hd rfl hl hn rfl (fun ls2 h2 => k ls2 (tf_has h2))
    · cases h
  · split at h
    · rename_i hn; cases h; exact lv_astoreN hx hb hd hl hn rfl (fun ls2 h2 => k ls2 (tf_has h2))
    · cases h
  · split at h
    · rename_i hn; cases h; exact lv_astore_nN hx hb hd rfl hl hn rfl (fun ls2 h2 => k ls2 (tf_has h2))
    · cases h
  · split at h
    · rename_i hk; cases h; exact lv_iload hx hb hd (tf_at hl hk) (k ls hl)
    · cases h
  · split at h
    · rename_i hk; cases h; exact lv_iload_n hx hb hd rfl (tf_at hl hk) (k ls hl)
    · cases h
  · split at h
    · rename_i hk; cases h; exact lv_lload hx hb hd (tf_at hl hk) (k ls hl)
    · cases h
  · split at h
    · rename_i hk; cases h; exact lv_lload_n hx hb hd rfl (tf_at hl hk) (k ls hl)
    · cases h
  · split at h
    · rename_i hk; cases h; exact lv_aload hx hb hd (tf_at hl hk) (k ls hl)
    · rename_i hk; cases h; exact lv_aloadN hx hb hd (tf_at hl hk) (k ls hl)
    · cases h
  · split at h
    · rename_i hk; cases h; exact lv_aload_n hx hb hd rfl (tf_at hl hk) (k ls hl)
    · rename_i hk; cases h; exact lv_aload_nN hx hb hd rfl (tf_at hl hk) (k ls hl)
    · cases h
  · split at h
    · rename_i hk; split at h
      · rename_i hn; cases h
        obtain ⟨j, hj⟩ := List.getElem?_of_mem (tf_lk_mem hk)
        exact lv_iinc hx hb hd hl hj rfl hn rfl (fun ls2 h2 => k ls2 (tf_has h2))
      · cases h
    · cases h
  · cases h
end
section
section
variable {l : Launch} {G : tf_G} {EX : State → (Nat → Prop) → Prop} {QB : tf_B} {d : Nat} {i : tf_I} {pc : Nat} {lv lv2 : tf_V} {st st2 : List Value} {L : List Nat} {f : tf_F} {kc ks : Nat}
def tf_ops (nL : Nat) : List (Instr × Nat) → Nat → tf_V → List Value → Option (Nat × tf_V × List Value)
  | [], pc, lv, st => some (pc, lv, st)
  | q :: r, pc, lv, st => match tf_op nL q.1 q.2 lv st with
    | some z => tf_ops nL r (pc + q.2) z.1 z.2
    | none => none
/-- a stretch of instructions that ask nothing of the heap -/
theorem tf_blk {q : Nat} (bs : List (Instr × Nat)) (hdec : tf_dec i.2.1 pc bs = true) (h : tf_ops i.2.2.1 bs pc lv st = some (q, lv2, st2)) (k : tf_W l G EX QB d i q lv2 st2 L f kc ks) : tf_W l G EX QB d i pc lv st L f kc ks := by
  induction bs generalizing pc lv st with
  | nil =>
    unfold tf_ops at h
    cases h
    exact k
  | cons b r ih =>
    unfold tf_ops at h
    unfold tf_dec at hdec
    rw [Bool.and_eq_true] at hdec
    obtain ⟨h1, h2⟩ := hdec
    split at h1
    · rename_i z hz
      have hzb : z = b := of_decide_eq_true h1
      subst hzb
      split at h
      · rename_i w hw
        have k2 := ih h2 h
        intro p e R s m args below meth c H locs cells slots ls A mc ms hM hE hR hl hP
        exact tf_op_ok (n := z.2) (ins := z.1) (lv2 := w.1) (st2 := w.2) hM.1 hM.2.1 hz hl hw (fun ls2 h2 => k2 p e R s m args below meth c H locs cells slots ls2 A mc ms hM hE hR h2 hP)
      · cases h
    · cases h1
theorem tf_drop (ks0 : List Nat) (h : tf_keep ks0 lv = lv2) (k : tf_W l G EX QB d i pc lv2 st L f kc ks) : tf_W l G EX QB d i pc lv st L f kc ks := by
  subst h
  exact fun p e R s m args below meth c H locs cells slots ls A mc ms hM hE hR hl hP => k p e R s m args below meth c H locs cells slots ls A mc ms hM hE hR (tf_keep_has ks0 hl) hP
theorem tf_less {kc2 ks2 : Nat} (h1 : kc2 ≤ kc) (h2 : ks2 ≤ ks) (k : tf_W l G EX QB d i pc lv st L f kc2 ks2) : tf_W l G EX QB d i pc lv st L f kc ks :=
  fun p e R s m args below meth c H locs cells slots ls A mc ms hM hE hR hl hP => k p e R s m args below meth c H locs cells slots ls A mc ms hM hE ⟨hR.1, hR.2.1, Nat.le_trans (Nat.add_le_add_left h1 _) hR.2.2.1, Nat.le_trans (Nat.add_le_add_left h2 _) hR.2.2.2.1, hR.2.2.2.2⟩ hl hP
theorem tf_goto {off : Int} (tgt : Nat) (hd : decode i.2.1 pc = .ok (.goto off, 3)) (ht : (pc : Int) + off = (tgt : Int)) (k : tf_W l G EX QB d i tgt lv st L f kc ks) : tf_W l G EX QB d i pc lv st L f kc ks :=
  fun p e R s m args below meth c H locs cells slots ls A mc ms hM hE hR hl hP => lv_goto hM.1 hM.2.1 hd ht (k p e R s m args below meth c H locs cells slots ls A mc ms hM hE hR hl hP)
theorem tf_if_eq {x : Int32} {off : Int} (tgt nxt : Nat) (hd : decode i.2.1 pc = .ok (.ifCond .eq off, 3)) (ht : (pc : Int) + off = (tgt : Int)) (hn : pc + 3 = nxt) (kt : x = 0 → tf_W l G EX QB d i tgt lv st L f kc ks) (kf : ¬ x = 0 → tf_W l G EX QB d i nxt lv st L f kc ks) : tf_W l G EX QB d i pc lv (.int x :: st) L f kc ks := by
  subst hn
  exact fun p e R s m args below meth c H locs cells slots ls A mc ms hM hE hR hl hP => lv_if_eq hM.1 hM.2.1 hd ht (fun h => kt h p e R s m args below meth c H locs cells slots ls A mc ms hM hE hR hl hP) (fun h => kf h p e R s m args below meth c H locs cells slots ls A mc ms hM hE hR hl hP)
theorem tf_ic_eq {x y : Int32} {off : Int} (tgt nxt : Nat) (hd : decode i.2.1 pc = .ok (.if_icmp .eq off, 3)) (ht : (pc : Int) + off = (tgt : Int)) (hn : pc + 3 = nxt) (kt : x = y → tf_W l G EX QB d i tgt lv st L f kc ks) (kf : ¬ x = y → tf_W l G EX QB d i nxt lv st L f kc ks) : tf_W l G EX QB d i pc lv (.int y :: .int x :: st) L f kc ks := by
  subst hn
  exact fun p e R s m args below meth c H locs cells slots ls A mc ms hM hE hR hl hP => lv_icmp_eq hM.1 hM.2.1 hd ht (fun h => kt h p e R s m args below meth c H locs cells slots ls A mc ms hM hE hR hl hP) (fun h => kf h p e R s m args below meth c H locs cells slots ls A mc ms hM hE hR hl hP)
theorem tf_if_ne {x : Int32} {off : Int} (tgt nxt : Nat) (hd : decode i.2.1 pc = .ok (.ifCond .ne off, 3)) (ht : (pc : Int) + off = (tgt : Int)) (hn : pc + 3 = nxt) (kt : ¬ x = 0 → tf_W l G EX QB d i tgt lv st L f kc ks) (kf : x = 0 → tf_W l G EX QB d i nxt lv st L f kc ks) : tf_W l G EX QB d i pc lv (.int x :: st) L f kc ks := by
  subst hn
  exact fun p e R s m args below meth c H locs cells slots ls A mc ms hM hE hR hl hP => lv_if_ne hM.1 hM.2.1 hd ht (fun h => kt h p e R s m args below meth c H locs cells slots ls A mc ms hM hE hR hl hP) (fun h => kf h p e R s m args below meth c H locs cells slots ls A mc ms hM hE hR hl hP)
theorem tf_ic_ne {x y : Int32} {off : Int} (tgt nxt : Nat) (hd : decode i.2.1 pc = .ok (.if_icmp .ne off, 3)) (ht : (pc : Int) + off = (tgt : Int)) (hn : pc + 3 = nxt) (kt : ¬ x = y → tf_W l G EX QB d i tgt lv st L f kc ks) (kf : x = y → tf_W l G EX QB d i nxt lv st L f kc ks) : tf_W l G EX QB d i pc lv (.int y :: .int x :: st) L f kc ks := by
  subst hn
  exact fun p e R s m args below meth c H locs cells slots ls A mc ms hM hE hR hl hP => lv_icmp_ne hM.1 hM.2.1 hd ht (fun h => kt h p e R s m args below meth c H locs cells slots ls A mc ms hM hE hR hl hP) (fun h => kf h p e R s m args below meth c H locs cells slots ls A mc ms hM hE hR hl hP)
theorem tf_if_lt {x : Int32} {off : Int} (tgt nxt : Nat) (hd : decode i.2.1 pc = .ok (.ifCond .lt off, 3)) (ht : (pc : Int) + off = (tgt : Int)) (hn : pc + 3 = nxt) (kt : x < 0 → tf_W l G EX QB d i tgt lv st L f kc ks) (kf : ¬ x < 0 → tf_W l G EX QB d i nxt lv st L f kc ks) : tf_W l G EX QB d i pc lv (.int x :: st) L f kc ks := by
  subst hn
  exact fun p e R s m args below meth c H locs cells slots ls A mc ms hM hE hR hl hP => lv_if_lt hM.1 hM.2.1 hd ht (fun h => kt h p e R s m args below meth c H locs cells slots ls A mc ms hM hE hR hl hP) (fun h => kf h p e R s m args below meth c H locs cells slots ls A mc ms hM hE hR hl hP)
theorem tf_ic_lt {x y : Int32} {off : Int} (tgt nxt : Nat) (hd : decode i.2.1 pc = .ok (.if_icmp .lt off, 3)) (ht : (pc : Int) + off = (tgt : Int)) (hn : pc + 3 = nxt) (kt : x < y → tf_W l G EX QB d i tgt lv st L f kc ks) (kf : ¬ x < y → tf_W l G EX QB d i nxt lv st L f kc ks) : tf_W l G EX QB d i pc lv (.int y :: .int x :: st) L f kc ks := by
  subst hn
  exact fun p e R s m args below meth c H locs cells slots ls A mc ms hM hE hR hl hP => lv_icmp_lt hM.1 hM.2.1 hd ht (fun h => kt h p e R s m args below meth c H locs cells slots ls A mc ms hM hE hR hl hP) (fun h => kf h p e R s m args below meth c H locs cells slots ls A mc ms hM hE hR hl hP)
theorem tf_if_ge {x : Int32} {off : Int} (tgt nxt : Nat) (hd : decode i.2.1 pc = .ok (.ifCond .ge off, 3)) (ht : (pc : Int) + off = (tgt : Int)) (hn : pc + 3 = nxt) (kt : 0 ≤ x → tf_W l G EX QB d i tgt lv st L f kc ks) (kf : ¬ 0 ≤ x → tf_W l G EX QB d i nxt lv st L f kc ks) : tf_W l G EX QB d i pc lv (.int x :: st) L f kc ks := by
  subst hn
  exact fun p e R s m args below meth c H locs cells slots ls A mc ms hM hE hR hl hP => lv_if_ge hM.1 hM.2.1 hd ht (fun h => kt h p e R s m args below meth c H locs cells slots ls A mc ms hM hE hR hl hP) (fun h => kf h p e R s m args below meth c H locs cells slots ls A mc ms hM hE hR hl hP)
theorem tf_ic_ge {x y : Int32} {off : Int} (tgt nxt : Nat) (hd : decode i.2.1 pc = .ok (.if_icmp .ge off, 3)) (ht : (pc : Int) + off = (tgt : Int)) (hn : pc + 3 = nxt) (kt : y ≤ x → tf_W l G EX QB d i tgt lv st L f kc ks) (kf : ¬ y ≤ x → tf_W l G EX QB d i nxt lv st L f kc ks) : tf_W l G EX QB d i pc lv (.int y :: .int x :: st) L f kc ks := by
  subst hn
  exact fun p e R s m args below meth c H locs cells slots ls A mc ms hM hE hR hl hP => lv_icmp_ge hM.1 hM.2.1 hd ht (fun h => kt h p e R s m args below meth c H locs cells slots ls A mc ms hM hE hR hl hP) (fun h => kf h p e R s m args below meth c H locs cells slots ls A mc ms hM hE hR hl hP)
theorem tf_if_gt {x : Int32} {off : Int} (tgt nxt : Nat) (hd : decode i.2.1 pc = .ok (.ifCond .gt off, 3)) (ht : (pc : Int) + off = (tgt : Int)) (hn : pc + 3 = nxt) (kt : 0 < x → tf_W l G EX QB d i tgt lv st L f kc ks) (kf : ¬ 0 < x → tf_W l G EX QB d i nxt lv st L f kc ks) : tf_W l G EX QB d i pc lv (.int x :: st) L f kc ks := by
  subst hn
  exact fun p e R s m args below meth c H locs cells slots ls A mc ms hM hE hR hl hP => lv_if_gt hM.1 hM.2.1 hd ht (fun h => kt h p e R s m args below meth c H locs cells slots ls A mc ms hM hE hR hl hP) (fun h => kf h p e R s m args below meth c H locs cells slots ls A mc ms hM hE hR hl hP)
theorem tf_ic_gt {x y : Int32} {off : Int} (tgt nxt : Nat) (hd : decode i.2.1 pc = .ok (.if_icmp .gt off, 3)) (ht : (pc : Int) + off = (tgt : Int)) (hn : pc + 3 = nxt) (kt : y < x → tf_W l G EX QB d i tgt lv st L f kc ks) (kf : ¬ y < x → tf_W l G EX QB d i nxt lv st L f kc ks) : tf_W l G EX QB d i pc lv (.int y :: .int x :: st) L f kc ks := by
  subst hn
  exact fun p e R s m args below meth c H locs cells slots ls A mc ms hM hE hR hl hP => lv_icmp_gt hM.1 hM.2.1 hd ht (fun h => kt h p e R s m args below meth c H locs cells slots ls A mc ms hM hE hR hl hP) (fun h => kf h p e R s m args below meth c H locs cells slots ls A mc ms hM hE hR hl hP)
theorem tf_if_le {x : Int32} {off : Int} (tgt nxt : Nat) (hd : decode i.2.1 pc = .ok (.ifCond .le off, 3)) (ht : (pc : Int) + off = (tgt : Int)) (hn : pc + 3 = nxt) (kt : x ≤ 0 → tf_W l G EX QB d i tgt lv st L f kc ks) (kf : ¬ x ≤ 0 → tf_W l G EX QB d i nxt lv st L f kc ks) : tf_W l G EX QB d i pc lv (.int x :: st) L f kc ks := by
  subst hn
  exact fun p e R s m args below meth c H locs cells slots ls A mc ms hM hE hR hl hP => lv_if_le hM.1 hM.2.1 hd ht (fun h => kt h p e R s m args below meth c H locs cells slots ls A mc ms hM hE hR hl hP) (fun h => kf h p e R s m args below meth c H locs cells slots ls A mc ms hM hE hR hl hP)
theorem tf_ic_le {x y : Int32} {off : Int} (tgt nxt : Nat) (hd : decode i.2.1 pc = .ok (.if_icmp .le off, 3)) (ht : (pc : Int) + off = (tgt : Int)) (hn : pc + 3 = nxt) (kt : x ≤ y → tf_W l G EX QB d i tgt lv st L f kc ks) (kf : ¬ x ≤ y → tf_W l G EX QB d i nxt lv st L f kc ks) : tf_W l G EX QB d i pc lv (.int y :: .int x :: st) L f kc ks := by
  subst hn
  exact fun p e R s m args below meth c H locs cells slots ls A mc ms hM hE hR hl hP => lv_icmp_le hM.1 hM.2.1 hd ht (fun h => kt h p e R s m args below meth c H locs cells slots ls A mc ms hM hE hR hl hP) (fun h => kf h p e R s m args below meth c H locs cells slots ls A mc ms hM hE hR hl hP)
theorem tf_ifnull_r {x : Nat} {off : Int} (nxt : Nat) (hd : decode i.2.1 pc = .ok (.ifnull off, 3)) (hn : pc + 3 = nxt) (k : tf_W l G EX QB d i nxt lv st L f kc ks) : tf_W l G EX QB d i pc lv (.ref x :: st) L f kc ks := by
  subst hn
  exact fun p e R s m args below meth c H locs cells slots ls A mc ms hM hE hR hl hP => lv_ifnull hM.1 hM.2.1 hd (k p e R s m args below meth c H locs cells slots ls A mc ms hM hE hR hl hP)
theorem tf_ifnull_n  {off : Int} (tgt : Nat) (hd : decode i.2.1 pc = .ok (.ifnull off, 3)) (ht : (pc : Int) + off = (tgt : Int)) (k : tf_W l G EX QB d i tgt lv st L f kc ks) : tf_W l G EX QB d i pc lv (.null :: st) L f kc ks :=
  fun p e R s m args below meth c H locs cells slots ls A mc ms hM hE hR hl hP => lv_ifnullN hM.1 hM.2.1 hd ht (k p e R s m args below meth c H locs cells slots ls A mc ms hM hE hR hl hP)
theorem tf_ifnonnull_r {x : Nat} {off : Int} (tgt : Nat) (hd : decode i.2.1 pc = .ok (.ifnonnull off, 3)) (ht : (pc : Int) + off = (tgt : Int)) (k : tf_W l G EX QB d i tgt lv st L f kc ks) : tf_W l G EX QB d i pc lv (.ref x :: st) L f kc ks :=
  fun p e R s m args below meth c H locs cells slots ls A mc ms hM hE hR hl hP => lv_ifnonnull hM.1 hM.2.1 hd ht (k p e R s m args below meth c H locs cells slots ls A mc ms hM hE hR hl hP)
theorem tf_ifnonnull_n  {off : Int} (nxt : Nat) (hd : decode i.2.1 pc = .ok (.ifnonnull off, 3)) (hn : pc + 3 = nxt) (k : tf_W l G EX QB d i nxt lv st L f kc ks) : tf_W l G EX QB d i pc lv (.null :: st) L f kc ks := by
  subst hn
  exact fun p e R s m args below meth c H locs cells slots ls A mc ms hM hE hR hl hP => lv_ifnonnullN hM.1 hM.2.1 hd (k p e R s m args below meth c H locs cells slots ls A mc ms hM hE hR hl hP)
theorem tf_idiv {x y : Int32} (nxt : Nat) (hd : decode i.2.1 pc = .ok (.idiv, 1)) (hn : pc + 1 = nxt) (hy : ¬ y = 0) (k : tf_W l G EX QB d i nxt lv (.int (x / y) :: st) L f kc ks) : tf_W l G EX QB d i pc lv (.int y :: .int x :: st) L f kc ks := by
  subst hn
  exact fun p e R s m args below meth c H locs cells slots ls A mc ms hM hE hR hl hP => lv_idiv hM.1 hM.2.1 hd hy (k p e R s m args below meth c H locs cells slots ls A mc ms hM hE hR hl hP)
theorem tf_irem {x y : Int32} (nxt : Nat) (hd : decode i.2.1 pc = .ok (.irem, 1)) (hn : pc + 1 = nxt) (hy : ¬ y = 0) (k : tf_W l G EX QB d i nxt lv (.int (x - x / y * y) :: st) L f kc ks) : tf_W l G EX QB d i pc lv (.int y :: .int x :: st) L f kc ks := by
  subst hn
  exact fun p e R s m args below meth c H locs cells slots ls A mc ms hM hE hR hl hP => lv_irem hM.1 hM.2.1 hd hy (k p e R s m args below meth c H locs cells slots ls A mc ms hM hE hR hl hP)
theorem tf_ldiv {x y : Int64} (nxt : Nat) (hd : decode i.2.1 pc = .ok (.ldiv, 1)) (hn : pc + 1 = nxt) (hy : ¬ y = 0) (k : tf_W l G EX QB d i nxt lv (.long (x / y) :: st) L f kc ks) : tf_W l G EX QB d i pc lv (.long y :: .long x :: st) L f kc ks := by
  subst hn
  exact fun p e R s m args below meth c H locs cells slots ls A mc ms hM hE hR hl hP => lv_ldiv hM.1 hM.2.1 hd hy (k p e R s m args below meth c H locs cells slots ls A mc ms hM hE hR hl hP)
theorem tf_lrem {x y : Int64} (nxt : Nat) (hd : decode i.2.1 pc = .ok (.lrem, 1)) (hn : pc + 1 = nxt) (hy : ¬ y = 0) (k : tf_W l G EX QB d i nxt lv (.long (x - x / y * y) :: st) L f kc ks) : tf_W l G EX QB d i pc lv (.long y :: .long x :: st) L f kc ks := by
  subst hn
  exact fun p e R s m args below meth c H locs cells slots ls A mc ms hM hE hR hl hP => lv_lrem hM.1 hM.2.1 hd hy (k p e R s m args below meth c H locs cells slots ls A mc ms hM hE hR hl hP)
theorem tf_tabOut {dflt lo hi : Int} {offs : Array Int} {len : Nat} {x : Int32} (tgt : Nat) (hd : decode i.2.1 pc = .ok (.tableswitch dflt lo hi offs, len)) (h : x.toInt < lo ∨ hi < x.toInt) (ht : (pc : Int) + dflt = (tgt : Int)) (k : tf_W l G EX QB d i tgt lv st L f kc ks) : tf_W l G EX QB d i pc lv (.int x :: st) L f kc ks :=
  fun p e R s m args below meth c H locs cells slots ls A mc ms hM hE hR hl hP => lv_tableOut hM.1 hM.2.1 hd h ht (k p e R s m args below meth c H locs cells slots ls A mc ms hM hE hR hl hP)
theorem tf_tabIn {dflt lo hi : Int} {offs : Array Int} {len : Nat} {x : Int32} {off : Int} (tgt : Nat) (hd : decode i.2.1 pc = .ok (.tableswitch dflt lo hi offs, len)) (h1 : ¬ x.toInt < lo) (h2 : ¬ hi < x.toInt) (ho : offs[(x.toInt - lo).toNat]? = some off) (ht : (pc : Int) + off = (tgt : Int)) (k : tf_W l G EX QB d i tgt lv st L f kc ks) : tf_W l G EX QB d i pc lv (.int x :: st) L f kc ks :=
  fun p e R s m args below meth c H locs cells slots ls A mc ms hM hE hR hl hP => lv_tableIn hM.1 hM.2.1 hd h1 h2 ho ht (k p e R s m args below meth c H locs cells slots ls A mc ms hM hE hR hl hP)
theorem tf_look {dflt : Int} {ps : Array (Int × Int)} {len : Nat} {x : Int32} {off : Int} (tgt : Nat) (hd : decode i.2.1 pc = .ok (.lookupswitch dflt ps, len)) (hp : (ps.toList.zip (ps.toList.drop 1)).all (fun (a, next) => a.1 < next.1) = true) (ho : Op.lookupswitch.offset ps.toList dflt x.toInt = off) (ht : (pc : Int) + off = (tgt : Int)) (k : tf_W l G EX QB d i tgt lv st L f kc ks) : tf_W l G EX QB d i pc lv (.int x :: st) L f kc ks :=
  fun p e R s m args below meth c H locs cells slots ls A mc ms hM hE hR hl hP => lv_lookup hM.1 hM.2.1 hd hp ho ht (k p e R s m args below meth c H locs cells slots ls A mc ms hM hE hR hl hP)
theorem tf_ldc {ix : Nat} {v : Int32} (nxt : Nat) (hd : decode i.2.1 pc = .ok (.ldc ix, 2)) (hn : pc + 2 = nxt) (hc : Jvm.Cond.constant i.1.cls ix v ∈ G.2.2.2.1) (k : tf_W l G EX QB d i nxt lv (.int v :: st) L f kc ks) : tf_W l G EX QB d i pc lv st L f kc ks := by
  subst hn
  exact fun p e R s m args below meth c H locs cells slots ls A mc ms hM hE hR hl hP => lv_ldc hM.1 hM.2.1 hM.2.2.2.1 (hM.2.2.2.2.1 _ hc) hd (k p e R s m args below meth c H locs cells slots ls A mc ms hM hE hR hl hP)
theorem tf_ldcw {ix : Nat} {v : Int32} (nxt : Nat) (hd : decode i.2.1 pc = .ok (.ldc_w ix, 3)) (hn : pc + 3 = nxt) (hc : Jvm.Cond.constant i.1.cls ix v ∈ G.2.2.2.1) (k : tf_W l G EX QB d i nxt lv (.int v :: st) L f kc ks) : tf_W l G EX QB d i pc lv st L f kc ks := by
  subst hn
  exact fun p e R s m args below meth c H locs cells slots ls A mc ms hM hE hR hl hP => lv_ldcw hM.1 hM.2.1 hM.2.2.2.1 (hM.2.2.2.2.1 _ hc) hd (k p e R s m args below meth c H locs cells slots ls A mc ms hM hE hR hl hP)
theorem tf_ldc2 {ix : Nat} {v : Int64} (nxt : Nat) (hd : decode i.2.1 pc = .ok (.ldc2_w ix, 3)) (hn : pc + 3 = nxt) (hc : Jvm.Cond.constantLong i.1.cls ix v ∈ G.2.2.2.1) (k : tf_W l G EX QB d i nxt lv (.long v :: st) L f kc ks) : tf_W l G EX QB d i pc lv st L f kc ks := by
  subst hn
  exact fun p e R s m args below meth c H locs cells slots ls A mc ms hM hE hR hl hP => lv_ldc2 hM.1 hM.2.1 hM.2.2.2.1 (hM.2.2.2.2.1 _ hc) hd (k p e R s m args below meth c H locs cells slots ls A mc ms hM hE hR hl hP)
end
end
section
section
variable {l : Launch} {G : tf_G} {EX : State → (Nat → Prop) → Prop} {QB : tf_B} {d : Nat} {i : tf_I} {pc : Nat} {lv lv2 : tf_V} {st st2 : List Value} {L : List Nat} {f : tf_F} {kc ks : Nat}
theorem tf_pl {a : Nat} (h : a ∈ L) : ∃ k : Nat, (va_pl L f)[k]? = some (a, f a) := va_pl_get (X := []) h
theorem tf_set {A : Nat → Prop} {a k : Nat} {e : va_E} (hD : va_D A (va_pl L f)) (h : a ∈ L) (hk : (va_pl L f)[k]? = some (a, f a)) : (va_pl L f).set k (a, e) = va_pl L (va_up f a e) := va_pl_set (X := []) hD h hk
/-- the link of a field: the class by its place in the list of classes, the field by its slot -/
def tf_fl (G : tf_G) (own : String) (ix ci k : Nat) : Prop := ∃ (C : String) (T : u_T) (N : Nat), G.2.1[ci]? = some (C, T, N) ∧ k < N ∧ (∀ w ∈ u_ws C T N, w ∈ G.2.2.2.1) ∧ (T k).1 = C ∧
  (Cond.fieldLink own ix C (T k).2.1 (T k).2.2.1 ∈ G.2.2.2.1 ∨ ∃ host, Cond.fieldLinkNest own ix C (T k).2.1 (T k).2.2.1 host ∈ G.2.2.2.2)
def tf_fw (G : tf_G) (own : String) (ix ci k : Nat) (ty : FieldType) : Prop := ∃ (C : String) (T : u_T) (N : Nat), G.2.1[ci]? = some (C, T, N) ∧ k < N ∧ (∀ w ∈ u_ws C T N, w ∈ G.2.2.2.1) ∧ (T k).1 = C ∧
  (Cond.fieldLink own ix C (T k).2.1 (T k).2.2.1 ∈ G.2.2.2.1 ∨ ∃ host, Cond.fieldLinkNest own ix C (T k).2.1 (T k).2.2.1 host ∈ G.2.2.2.2) ∧
  (∃ ty0 : Nat → FieldType, ∀ k, k < N → parseFieldDescriptor (T k).2.2.1 = some (ty0 k)) ∧ (∀ a, a < N → ∀ b, b < N → a ≠ b → (T a).2.1 ≠ (T b).2.1) ∧ parseFieldDescriptor (T k).2.2.1 = some ty ∧ (T k).2.2.2 = false
/-- .. a final one, in its own class's constructor -/
def tf_ff (G : tf_G) (own : String) (ix ci k : Nat) (ty : FieldType) : Prop := ∃ (T : u_T) (N : Nat), G.2.1[ci]? = some (own, T, N) ∧ k < N ∧ (∀ w ∈ u_ws own T N, w ∈ G.2.2.2.1) ∧ (T k).1 = own ∧
  Cond.fieldLink own ix own (T k).2.1 (T k).2.2.1 ∈ G.2.2.2.1 ∧
  (∃ ty0 : Nat → FieldType, ∀ k, k < N → parseFieldDescriptor (T k).2.2.1 = some (ty0 k)) ∧ (∀ a, a < N → ∀ b, b < N → a ≠ b → (T a).2.1 ≠ (T b).2.1) ∧ parseFieldDescriptor (T k).2.2.1 = some ty ∧ (T k).2.2.2 = true
def tf_nl (G : tf_G) (own : String) (ix ci N : Nat) (fs : List Value) : Prop := ∃ (C : String) (T : u_T) (ty : Nat → FieldType), G.2.1[ci]? = some (C, T, N) ∧ (∀ w ∈ u_ws C T N, w ∈ G.2.2.2.1) ∧ (∀ k, k < N → parseFieldDescriptor (T k).2.2.1 = some (ty k)) ∧
  Cond.classLink own ix C ∈ G.2.2.2.1 ∧ Cond.instantiable C N ∈ G.2.2.2.1 ∧ Cond.initialized C ∈ G.2.2.2.1 ∧ ∀ j, j < N → defaultValue (ty j) = vp_V fs j
theorem tf_get {ix ci k a : Nat} {fs : List Value} {v : Value} (nxt : Nat) (hd : decode i.2.1 pc = .ok (.getfield ix, 3)) (hn : pc + 3 = nxt) (hF : tf_fl G i.1.cls ix ci k) (ha : a ∈ L) (hf : f a = .inr (ci, fs)) (hv : fs[k]? = some v) (kk : tf_W l G EX QB d i nxt lv (v :: st) L f kc ks) : tf_W l G EX QB d i pc lv (.ref a :: st) L f kc ks := by
  subst hn
  intro p e R s m args below meth c H locs cells slots ls A mc ms hM hE hR hl hP
  obtain ⟨hx, hb, hml, hown, hts, hret, hlk, hnw, hnm, hK⟩ := id hM
  obtain ⟨hPP, hD, hS, hA⟩ := id hP
  obtain ⟨C, T, N, hc, hk, hin, hT, hlk2⟩ := hF
  obtain ⟨q0, hq0⟩ := tf_pl (f := f) ha
  rw [hf] at hq0
  have hsame : ∀ x, s.fieldFound? (T k).1 (T k).2.1 (T k).2.2.1 = some x → s.fieldFound? C (T k).2.1 (T k).2.2.1 = some x := fun x h => by rw [hT] at h; exact h
  rcases hlk2 with h | ⟨host, h⟩
  · exact va_get hx hb hts hin hown hK hPP q0 hq0 hc k hk (hts _ h) hsame hv hd (kk p e R s m args below meth c H locs cells slots ls A mc ms hM hE hR hl hP)
  · exact va_getN hx hb hts hin hown hK hPP q0 hq0 hc k hk (va_Nw.use rfl (hnw _ h)) hsame hv hd (kk p e R s m args below meth c H locs cells slots ls A mc ms hM hE hR hl hP)
theorem tf_put {ix ci k a : Nat} {fs : List Value} {v : Value} {ty : FieldType} (nxt : Nat) (hd : decode i.2.1 pc = .ok (.putfield ix, 3)) (hn : pc + 3 = nxt) (hF : tf_fw G i.1.cls ix ci k ty) (ha : a ∈ L) (hf : f a = .inr (ci, fs)) (hl0 : k < fs.length) (hna : narrow ty v = v) (hfi : fits ty v = true) (kk : tf_W l G EX QB d i nxt lv st L (va_up f a (.inr (ci, fs.set k v))) kc ks) : tf_W l G EX QB d i pc lv (v :: .ref a :: st) L f kc ks := by
  subst hn
  intro p e R s m args below meth c H locs cells slots ls A mc ms hM hE hR hl hP
  obtain ⟨hx, hb, hml, hown, hts, hret, hlk, hnw, hnm, hK⟩ := id hM
  obtain ⟨hPP, hD, hS, hA⟩ := id hP
  obtain ⟨C, T, N, hc, hk, hin, hT, hlk2, ⟨ty0, hty⟩, hnm2, hpd, hfin⟩ := hF
  obtain ⟨q0, hq1⟩ := tf_pl (f := f) ha
  have hq0 := hq1
  rw [hf] at hq0
  have hsame : ∀ x, s.fieldFound? (T k).1 (T k).2.1 (T k).2.2.1 = some x → s.fieldFound? C (T k).2.1 (T k).2.2.1 = some x := fun x h => by rw [hT] at h; exact h
  have hset := tf_set (e := .inr (ci, fs.set k v)) hD ha hq1
  rcases hlk2 with h | ⟨host, h⟩
  · refine va_put hx hb hts hin ty0 hty hnm2 hown hK hPP hD hS q0 hq0 hc k hk (hts _ h) hsame hfin hpd hna hfi hl0 hd (fun H1 locs1 p1 d1 s1 => ?_)
    rw [hset] at p1 d1
    exact kk p e R s m args below meth c H1 locs1 cells slots ls A mc ms hM hE hR hl ⟨p1, d1, s1, hA⟩
  · refine va_putN hx hb hts hin ty0 hty hnm2 hown hK hPP hD hS q0 hq0 hc k hk (va_Nw.use rfl (hnw _ h)) hsame hfin hpd hna hfi hl0 hd (fun H1 locs1 p1 d1 s1 => ?_)
    rw [hset] at p1 d1
    exact kk p e R s m args below meth c H1 locs1 cells slots ls A mc ms hM hE hR hl ⟨p1, d1, s1, hA⟩
theorem tf_putF {ix ci k a : Nat} {fs : List Value} {v : Value} {ty : FieldType} (nxt : Nat) (hd : decode i.2.1 pc = .ok (.putfield ix, 3)) (hn : pc + 3 = nxt) (hF : tf_ff G i.1.cls ix ci k ty) (hini : i.1.name = "<init>") (ha : a ∈ L) (hf : f a = .inr (ci, fs)) (hl0 : k < fs.length) (hna : narrow ty v = v) (hfi : fits ty v = true) (kk : tf_W l G EX QB d i nxt lv st L (va_up f a (.inr (ci, fs.set k v))) kc ks) : tf_W l G EX QB d i pc lv (v :: .ref a :: st) L f kc ks := by
  subst hn
  intro p e R s m args below meth c H locs cells slots ls A mc ms hM hE hR hl hP
  obtain ⟨hx, hb, hml, hown, hts, hret, hlk, hnw, hnm, hK⟩ := id hM
  obtain ⟨hPP, hD, hS, hA⟩ := id hP
  obtain ⟨T, N, hc, hk, hin, hT, h, ⟨ty0, hty⟩, hnm2, hpd, hfin⟩ := hF
  obtain ⟨q0, hq1⟩ := tf_pl (f := f) ha
  have hq0 := hq1
  rw [hf] at hq0
  have hsame : ∀ x, s.fieldFound? (T k).1 (T k).2.1 (T k).2.2.1 = some x → s.fieldFound? i.1.cls (T k).2.1 (T k).2.2.1 = some x := fun x h => by rw [hT] at h; exact h
  have hset := tf_set (e := .inr (ci, fs.set k v)) hD ha hq1
  refine va_putF hx hb hts hin ty0 hty hnm2 hown hK hPP hD hS q0 hq0 hc k hk (hts _ h) hsame hfin (hnm.trans hini) hT hpd hna hfi hl0 hd (fun H1 locs1 p1 d1 s1 => ?_)
  rw [hset] at p1 d1
  exact kk p e R s m args below meth c H1 locs1 cells slots ls A mc ms hM hE hR hl ⟨p1, d1, s1, hA⟩
theorem tf_iald {a n : Nat} {cA : ClassId} {g : Nat → Int32} {x : Int32} (nxt t0 : Nat) (hd : decode i.2.1 pc = .ok (.iaload, 1)) (hn : pc + 1 = nxt) (ht : G.2.2.1[t0]? = some (cA, .int)) (ha : a ∈ L) (hf : f a = .inl (cA, n, (.inl g))) (hin : vp_in x n) (kk : tf_W l G EX QB d i nxt lv (.int (g x.toNatClampNeg) :: st) L f kc ks) : tf_W l G EX QB d i pc lv (.int x :: .ref a :: st) L f kc ks := by
  subst hn
  intro p e R s m args below meth c H locs cells slots ls A mc ms hM hE hR hl hP
  obtain ⟨hx, hb, hml, hown, hts, hret, hlk, hnw, hnm, hK⟩ := id hM
  obtain ⟨hPP, hD, hS, hA⟩ := id hP
  obtain ⟨q0, hq0⟩ := tf_pl (f := f) ha
  rw [hf] at hq0
  exact va_iald hx hb hK hPP q0 t0 hq0 ht hin hd (kk p e R s m args below meth c H locs cells slots ls A mc ms hM hE hR hl hP)
theorem tf_zald {a n : Nat} {cA : ClassId} {g : Nat → Int32} {x : Int32} (nxt t0 : Nat) (hd : decode i.2.1 pc = .ok (.baload, 1)) (hn : pc + 1 = nxt) (ht : G.2.2.1[t0]? = some (cA, .boolean)) (ha : a ∈ L) (hf : f a = .inl (cA, n, (.inl g))) (hin : vp_in x n) (kk : tf_W l G EX QB d i nxt lv (.int (g x.toNatClampNeg) :: st) L f kc ks) : tf_W l G EX QB d i pc lv (.int x :: .ref a :: st) L f kc ks := by
  subst hn
  intro p e R s m args below meth c H locs cells slots ls A mc ms hM hE hR hl hP
  obtain ⟨hx, hb, hml, hown, hts, hret, hlk, hnw, hnm, hK⟩ := id hM
  obtain ⟨hPP, hD, hS, hA⟩ := id hP
  obtain ⟨q0, hq0⟩ := tf_pl (f := f) ha
  rw [hf] at hq0
  exact va_zald hx hb hK hPP q0 t0 hq0 ht hin hd (kk p e R s m args below meth c H locs cells slots ls A mc ms hM hE hR hl hP)
theorem tf_bald {a n : Nat} {cA : ClassId} {g : Nat → Int32} {x : Int32} (nxt t0 : Nat) (hd : decode i.2.1 pc = .ok (.baload, 1)) (hn : pc + 1 = nxt) (ht : G.2.2.1[t0]? = some (cA, .byte)) (ha : a ∈ L) (hf : f a = .inl (cA, n, (.inl g))) (hin : vp_in x n) (kk : tf_W l G EX QB d i nxt lv (.int (g x.toNatClampNeg) :: st) L f kc ks) : tf_W l G EX QB d i pc lv (.int x :: .ref a :: st) L f kc ks := by
  subst hn
  intro p e R s m args below meth c H locs cells slots ls A mc ms hM hE hR hl hP
  obtain ⟨hx, hb, hml, hown, hts, hret, hlk, hnw, hnm, hK⟩ := id hM
  obtain ⟨hPP, hD, hS, hA⟩ := id hP
  obtain ⟨q0, hq0⟩ := tf_pl (f := f) ha
  rw [hf] at hq0
  exact va_bald hx hb hK hPP q0 t0 hq0 ht hin hd (kk p e R s m args below meth c H locs cells slots ls A mc ms hM hE hR hl hP)
theorem tf_sald {a n : Nat} {cA : ClassId} {g : Nat → Int32} {x : Int32} (nxt t0 : Nat) (hd : decode i.2.1 pc = .ok (.saload, 1)) (hn : pc + 1 = nxt) (ht : G.2.2.1[t0]? = some (cA, .short)) (ha : a ∈ L) (hf : f a = .inl (cA, n, (.inl g))) (hin : vp_in x n) (kk : tf_W l G EX QB d i nxt lv (.int (g x.toNatClampNeg) :: st) L f kc ks) : tf_W l G EX QB d i pc lv (.int x :: .ref a :: st) L f kc ks := by
  subst hn
  intro p e R s m args below meth c H locs cells slots ls A mc ms hM hE hR hl hP
  obtain ⟨hx, hb, hml, hown, hts, hret, hlk, hnw, hnm, hK⟩ := id hM
  obtain ⟨hPP, hD, hS, hA⟩ := id hP
  obtain ⟨q0, hq0⟩ := tf_pl (f := f) ha
  rw [hf] at hq0
  exact va_sald hx hb hK hPP q0 t0 hq0 ht hin hd (kk p e R s m args below meth c H locs cells slots ls A mc ms hM hE hR hl hP)
theorem tf_lald {a n : Nat} {cA : ClassId} {g : Nat → Int64} {x : Int32} (nxt t0 : Nat) (hd : decode i.2.1 pc = .ok (.laload, 1)) (hn : pc + 1 = nxt) (ht : G.2.2.1[t0]? = some (cA, .long)) (ha : a ∈ L) (hf : f a = .inl (cA, n, (.inr (.inl g)))) (hin : vp_in x n) (kk : tf_W l G EX QB d i nxt lv (.long (g x.toNatClampNeg) :: st) L f kc ks) : tf_W l G EX QB d i pc lv (.int x :: .ref a :: st) L f kc ks := by
  subst hn
  intro p e R s m args below meth c H locs cells slots ls A mc ms hM hE hR hl hP
  obtain ⟨hx, hb, hml, hown, hts, hret, hlk, hnw, hnm, hK⟩ := id hM
  obtain ⟨hPP, hD, hS, hA⟩ := id hP
  obtain ⟨q0, hq0⟩ := tf_pl (f := f) ha
  rw [hf] at hq0
  exact va_lald hx hb hK hPP q0 t0 hq0 ht hin hd (kk p e R s m args below meth c H locs cells slots ls A mc ms hM hE hR hl hP)
theorem tf_aald {a n : Nat} {cA : ClassId} {C : String} {g : Nat → Option Nat} {x : Int32} (nxt t0 : Nat) (hd : decode i.2.1 pc = .ok (.aaload, 1)) (hn : pc + 1 = nxt) (ht : G.2.2.1[t0]? = some (cA, .object C)) (ha : a ∈ L) (hf : f a = .inl (cA, n, .inr (.inr (.inr (.inr g))))) (hin : vp_in x n) (kk : tf_W l G EX QB d i nxt lv (va_rf (g x.toNatClampNeg) :: st) L f kc ks) : tf_W l G EX QB d i pc lv (.int x :: .ref a :: st) L f kc ks := by
  subst hn
  intro p e R s m args below meth c H locs cells slots ls A mc ms hM hE hR hl hP
  obtain ⟨hx, hb, hml, hown, hts, hret, hlk, hnw, hnm, hK⟩ := id hM
  obtain ⟨hPP, hD, hS, hA⟩ := id hP
  obtain ⟨q0, hq0⟩ := tf_pl (f := f) ha
  rw [hf] at hq0
  exact va_aldq hx hb hK hPP q0 t0 hq0 ht hin hd (kk p e R s m args below meth c H locs cells slots ls A mc ms hM hE hR hl hP)
theorem tf_iast {a n : Nat} {cA : ClassId} {g : Nat → Int32} {x : Int32} {v : Int32} (nxt t0 : Nat) (hd : decode i.2.1 pc = .ok (.iastore, 1)) (hn : pc + 1 = nxt) (ht : G.2.2.1[t0]? = some (cA, .int)) (ha : a ∈ L) (hf : f a = .inl (cA, n, (.inl g))) (hin : vp_in x n) (kk : tf_W l G EX QB d i nxt lv st L (va_up f a (.inl (cA, n, (.inl (upd g x.toNatClampNeg v))))) kc ks) : tf_W l G EX QB d i pc lv (.int v :: .int x :: .ref a :: st) L f kc ks := by
  subst hn
  intro p e R s m args below meth c H locs cells slots ls A mc ms hM hE hR hl hP
  obtain ⟨hx, hb, hml, hown, hts, hret, hlk, hnw, hnm, hK⟩ := id hM
  obtain ⟨hPP, hD, hS, hA⟩ := id hP
  obtain ⟨q0, hq1⟩ := tf_pl (f := f) ha
  have hq0 := hq1
  rw [hf] at hq0
  have hset := tf_set (e := .inl (cA, n, (.inl (upd g x.toNatClampNeg v)))) hD ha hq1
  refine va_iast hx hb hK hPP hD hS q0 t0 hq0 ht hin hd (fun H1 locs1 p1 d1 s1 => ?_)
  rw [hset] at p1 d1
  exact kk p e R s m args below meth c H1 locs1 cells slots ls A mc ms hM hE hR hl ⟨p1, d1, s1, hA⟩
theorem tf_zast {a n : Nat} {cA : ClassId} {g : Nat → Int32} {x : Int32} {v : Int32} (nxt t0 : Nat) (hd : decode i.2.1 pc = .ok (.bastore, 1)) (hn : pc + 1 = nxt) (ht : G.2.2.1[t0]? = some (cA, .boolean)) (ha : a ∈ L) (hf : f a = .inl (cA, n, (.inl g))) (hin : vp_in x n) (kk : tf_W l G EX QB d i nxt lv st L (va_up f a (.inl (cA, n, (.inl (upd g x.toNatClampNeg (vp_nar .boolean v)))))) kc ks) : tf_W l G EX QB d i pc lv (.int v :: .int x :: .ref a :: st) L f kc ks := by
  subst hn
  intro p e R s m args below meth c H locs cells slots ls A mc ms hM hE hR hl hP
  obtain ⟨hx, hb, hml, hown, hts, hret, hlk, hnw, hnm, hK⟩ := id hM
  obtain ⟨hPP, hD, hS, hA⟩ := id hP
  obtain ⟨q0, hq1⟩ := tf_pl (f := f) ha
  have hq0 := hq1
  rw [hf] at hq0
  have hset := tf_set (e := .inl (cA, n, (.inl (upd g x.toNatClampNeg (vp_nar .boolean v))))) hD ha hq1
  refine va_zast hx hb hK hPP hD hS q0 t0 hq0 ht hin hd (fun H1 locs1 p1 d1 s1 => ?_)
  rw [hset] at p1 d1
  exact kk p e R s m args below meth c H1 locs1 cells slots ls A mc ms hM hE hR hl ⟨p1, d1, s1, hA⟩
theorem tf_bast {a n : Nat} {cA : ClassId} {g : Nat → Int32} {x : Int32} {v : Int32} (nxt t0 : Nat) (hd : decode i.2.1 pc = .ok (.bastore, 1)) (hn : pc + 1 = nxt) (ht : G.2.2.1[t0]? = some (cA, .byte)) (ha : a ∈ L) (hf : f a = .inl (cA, n, (.inl g))) (hin : vp_in x n) (kk : tf_W l G EX QB d i nxt lv st L (va_up f a (.inl (cA, n, (.inl (upd g x.toNatClampNeg (vp_nar .byte v)))))) kc ks) : tf_W l G EX QB d i pc lv (.int v :: .int x :: .ref a :: st) L f kc ks := by
  subst hn
  intro p e R s m args below meth c H locs cells slots ls A mc ms hM hE hR hl hP
  obtain ⟨hx, hb, hml, hown, hts, hret, hlk, hnw, hnm, hK⟩ := id hM
  obtain ⟨hPP, hD, hS, hA⟩ := id hP
  obtain ⟨q0, hq1⟩ := tf_pl (f := f) ha
  have hq0 := hq1
  rw [hf] at hq0
  have hset := tf_set (e := .inl (cA, n, (.inl (upd g x.toNatClampNeg (vp_nar .byte v))))) hD ha hq1
  refine va_bast hx hb hK hPP hD hS q0 t0 hq0 ht hin hd (fun H1 locs1 p1 d1 s1 => ?_)
  rw [hset] at p1 d1
  exact kk p e R s m args below meth c H1 locs1 cells slots ls A mc ms hM hE hR hl ⟨p1, d1, s1, hA⟩
theorem tf_sast {a n : Nat} {cA : ClassId} {g : Nat → Int32} {x : Int32} {v : Int32} (nxt t0 : Nat) (hd : decode i.2.1 pc = .ok (.sastore, 1)) (hn : pc + 1 = nxt) (ht : G.2.2.1[t0]? = some (cA, .short)) (ha : a ∈ L) (hf : f a = .inl (cA, n, (.inl g))) (hin : vp_in x n) (kk : tf_W l G EX QB d i nxt lv st L (va_up f a (.inl (cA, n, (.inl (upd g x.toNatClampNeg (vp_nar .short v)))))) kc ks) : tf_W l G EX QB d i pc lv (.int v :: .int x :: .ref a :: st) L f kc ks := by
  subst hn
  intro p e R s m args below meth c H locs cells slots ls A mc ms hM hE hR hl hP
  obtain ⟨hx, hb, hml, hown, hts, hret, hlk, hnw, hnm, hK⟩ := id hM
  obtain ⟨hPP, hD, hS, hA⟩ := id hP
  obtain ⟨q0, hq1⟩ := tf_pl (f := f) ha
  have hq0 := hq1
  rw [hf] at hq0
  have hset := tf_set (e := .inl (cA, n, (.inl (upd g x.toNatClampNeg (vp_nar .short v))))) hD ha hq1
  refine va_sast hx hb hK hPP hD hS q0 t0 hq0 ht hin hd (fun H1 locs1 p1 d1 s1 => ?_)
  rw [hset] at p1 d1
  exact kk p e R s m args below meth c H1 locs1 cells slots ls A mc ms hM hE hR hl ⟨p1, d1, s1, hA⟩
theorem tf_last {a n : Nat} {cA : ClassId} {g : Nat → Int64} {x : Int32} {v : Int64} (nxt t0 : Nat) (hd : decode i.2.1 pc = .ok (.lastore, 1)) (hn : pc + 1 = nxt) (ht : G.2.2.1[t0]? = some (cA, .long)) (ha : a ∈ L) (hf : f a = .inl (cA, n, (.inr (.inl g)))) (hin : vp_in x n) (kk : tf_W l G EX QB d i nxt lv st L (va_up f a (.inl (cA, n, (.inr (.inl (vp_updL g x.toNatClampNeg v)))))) kc ks) : tf_W l G EX QB d i pc lv (.long v :: .int x :: .ref a :: st) L f kc ks := by
  subst hn
  intro p e R s m args below meth c H locs cells slots ls A mc ms hM hE hR hl hP
  obtain ⟨hx, hb, hml, hown, hts, hret, hlk, hnw, hnm, hK⟩ := id hM
  obtain ⟨hPP, hD, hS, hA⟩ := id hP
  obtain ⟨q0, hq1⟩ := tf_pl (f := f) ha
  have hq0 := hq1
  rw [hf] at hq0
  have hset := tf_set (e := .inl (cA, n, (.inr (.inl (vp_updL g x.toNatClampNeg v))))) hD ha hq1
  refine va_last hx hb hK hPP hD hS q0 t0 hq0 ht hin hd (fun H1 locs1 p1 d1 s1 => ?_)
  rw [hset] at p1 d1
  exact kk p e R s m args below meth c H1 locs1 cells slots ls A mc ms hM hE hR hl ⟨p1, d1, s1, hA⟩
theorem tf_aast {a n v ci : Nat} {cA : ClassId} {r : vw_C} {vs : List Value} {g : Nat → Option Nat} {x : Int32} (nxt t0 : Nat) (hd : decode i.2.1 pc = .ok (.aastore, 1)) (hn : pc + 1 = nxt) (ht : G.2.2.1[t0]? = some (cA, .object r.1)) (ha : a ∈ L) (hf : f a = .inl (cA, n, .inr (.inr (.inr (.inr g))))) (hv : v ∈ L) (hfv : f v = .inr (ci, vs)) (hc : G.2.1[ci]? = some r) (hin : vp_in x n) (kk : tf_W l G EX QB d i nxt lv st L (va_up f a (.inl (cA, n, .inr (.inr (.inr (.inr (va_up g x.toNatClampNeg (some v)))))))) kc ks) : tf_W l G EX QB d i pc lv (.ref v :: .int x :: .ref a :: st) L f kc ks := by
  subst hn
  intro p e R s m args below meth c H locs cells slots ls A mc ms hM hE hR hl hP
  obtain ⟨hx, hb, hml, hown, hts, hret, hlk, hnw, hnm, hK⟩ := id hM
  obtain ⟨hPP, hD, hS, hA⟩ := id hP
  obtain ⟨q0, hq1⟩ := tf_pl (f := f) ha
  have hq0 := hq1
  rw [hf] at hq0
  obtain ⟨qk, hqk⟩ := tf_pl (f := f) hv
  rw [hfv] at hqk
  have hset := tf_set (e := .inl (cA, n, .inr (.inr (.inr (.inr (va_up g x.toNatClampNeg (some v))))))) hD ha hq1
  refine va_astq hx hb hK hPP hD hS q0 t0 qk ci hq0 ht hqk hc hin hd (fun H1 locs1 p1 d1 s1 => ?_)
  rw [hset] at p1 d1
  exact kk p e R s m args below meth c H1 locs1 cells slots ls A mc ms hM hE hR hl ⟨p1, d1, s1, hA⟩
theorem tf_alen {a : Nat} {cA : ClassId} {w : vp_A} {ty : FieldType} (nxt t0 : Nat) (hd : decode i.2.1 pc = .ok (.arraylength, 1)) (hn : pc + 1 = nxt) (ht : G.2.2.1[t0]? = some (cA, ty)) (ha : a ∈ L) (hf : f a = .inl (cA, w)) (kk : tf_W l G EX QB d i nxt lv (.int (nI w.1) :: st) L f kc ks) : tf_W l G EX QB d i pc lv (.ref a :: st) L f kc ks := by
  subst hn
  intro p e R s m args below meth c H locs cells slots ls A mc ms hM hE hR hl hP
  obtain ⟨hx, hb, hml, hown, hts, hret, hlk, hnw, hnm, hK⟩ := id hM
  obtain ⟨hPP, hD, hS, hA⟩ := id hP
  obtain ⟨q0, hq0⟩ := tf_pl (f := f) ha
  rw [hf] at hq0
  exact va_alen hx hb hK hPP q0 t0 hq0 ht rfl hd (kk p e R s m args below meth c H locs cells slots ls A mc ms hM hE hR hl hP)
theorem tf_room1 {d kc ks n mc ms cells slots : Nat} {R : Room} (h : tf_R d (kc + 1) (ks + n) mc ms cells slots R) : cells + 1 ≤ R.cells ∧ slots + n ≤ R.slots ∧ tf_R d kc ks mc ms (cells + 1) (slots + n) R := by
  obtain ⟨h1, h2, h3, h4, h5, h6⟩ := h
  exact ⟨by omega, by omega, h1, h2, by omega, by omega, h5, h6⟩
theorem tf_new {ix ci N : Nat} {fs : List Value} (nxt : Nat) (hd : decode i.2.1 pc = .ok (.new ix, 3)) (hn : pc + 3 = nxt) (hF : tf_nl G i.1.cls ix ci N fs) (kk : ∀ q, q ∉ L → tf_W l G EX QB d i nxt lv (.ref q :: st) (L ++ [q]) (va_up f q (.inr (ci, fs))) kc ks) : tf_W l G EX QB d i pc lv st L f (kc + 1) (ks + N) := by
  subst hn
  intro p e R s m args below meth c H locs cells slots ls A mc ms hM hE hR hl hP
  obtain ⟨hx, hb, hml, hown, hts, hret, hlk, hnw, hnm, hK⟩ := id hM
  obtain ⟨hPP, hD, hS, hA⟩ := id hP
  obtain ⟨C, T, ty, hc, hin, hty, h1, h2, h3, hfs⟩ := hF
  obtain ⟨r1, r2, r3⟩ := tf_room1 hR
  refine va_new hx hb hts hin ty hty hown (hts _ h1) (hts _ h2) (hts _ h3) hK hPP hD hS hA hc hfs r1 r2 hd (fun q H1 p1 d1 s1 => ?_)
  have hq : q ∉ L := va_pl_fresh2 (X := []) d1
  rw [va_pl_push hq] at p1 d1
  exact kk q hq p e R s m args below meth c H1 locs (cells + 1) (slots + N) ls A mc ms hM hE r3 hl ⟨p1, d1, s1, hA⟩
theorem tf_RA {s : State} {c1 c2 : ClassId} {ty : FieldType} (h1 : va_RA s c1 ty) (h2 : va_RA s c2 ty) : c1 = c2 := by
  cases ty <;> simp only [va_RA] at h1 h2
  all_goals first
    | exact Option.some.inj (h1.symm.trans h2)
    | (obtain ⟨_, _, _, _, _, h1⟩ := h1
       obtain ⟨_, _, _, _, _, h2⟩ := h2
       exact Option.some.inj (h1.symm.trans h2))
theorem tf_lastT {tys : List (ClassId × FieldType)} {D : va_G} {cl : List vw_C} {s : State} {cA cB : ClassId} {ty : FieldType} {t0 : Nat} (h : va_K D cl tys s) (ht : tys[t0]? = some (cA, ty)) (h2 : va_K D cl (tys ++ [(cB, ty)]) s) : cB = cA := by
  have a1 := (h.2 t0 _ ht).2
  have a2 := (h2.2 tys.length (cB, ty) (by simp)).2
  exact tf_RA a2 a1
theorem tf_newa {n : Int32} {N : Nat} {atype : ArrayType} {ty : FieldType} {cA : ClassId} {a0 : vp_A} (nxt t0 : Nat) (hd : decode i.2.1 pc = .ok (.newarray atype, 2)) (hn : pc + 2 = nxt) (hty : newarray.typeOf atype = ty) (hw : Cond.arrayClass (newarray.typeOf atype) ∈ G.2.2.2.1) (ht : G.2.2.1[t0]? = some (cA, ty)) (h0 : ¬ n < 0) (hN : n.toNatClampNeg = N) (hby : N * componentBytes ty ≤ 536870912) (ha : ∀ cA : ClassId, vp_cell cA a0 = arrV cA N (fun _ => defaultValue ty)) (kk : ∀ q, q ∉ L → tf_W l G EX QB d i nxt lv (.ref q :: st) (L ++ [q]) (va_up f q (.inl (cA, a0))) kc ks) : tf_W l G EX QB d i pc lv (.int n :: st) L f (kc + 1) (ks + N) := by
  subst hn
  intro p e R s m args below meth c H locs cells slots ls A mc ms hM hE hR hl hP
  obtain ⟨hx, hb, hml, hown, hts, hret, hlk, hnw, hnm, hK⟩ := id hM
  obtain ⟨hPP, hD, hS, hA⟩ := id hP
  obtain ⟨r1, r2, r3⟩ := tf_room1 hR
  refine va_newa hx hb (hts _ hw) hty hK hPP hD hS hA ha h0 hN hby r1 r2 hd (fun q cB H1 k1 p1 d1 s1 => ?_)
  have hc := tf_lastT hK ht k1
  subst hc
  have hq : q ∉ L := va_pl_fresh2 (X := []) d1
  rw [va_pl_push hq] at p1 d1
  exact kk q hq p e R s m args below meth c H1 locs (cells + 1) (slots + N) ls A mc ms hM hE r3 hl ⟨p1, d1, s1, hA⟩
theorem tf_newq {n : Int32} {N ix : Nat} {C : String} {cA : ClassId} (nxt t0 : Nat) (hd : decode i.2.1 pc = .ok (.anewarray ix, 3)) (hn : pc + 3 = nxt) (hw : Cond.classLink i.1.cls ix C ∈ G.2.2.2.1) (hao : Cond.arrayOver (.object C) ∈ G.2.2.2.2) (ht : G.2.2.1[t0]? = some (cA, .object C)) (h0 : ¬ n < 0) (hN : n.toNatClampNeg = N) (hby : N * 4 ≤ 536870912) (kk : ∀ q, q ∉ L → tf_W l G EX QB d i nxt lv (.ref q :: st) (L ++ [q]) (va_up f q (.inl (cA, N, .inr (.inr (.inr (.inr (fun _ => none))))))) kc ks) : tf_W l G EX QB d i pc lv (.int n :: st) L f (kc + 1) (ks + N) := by
  subst hn
  intro p e R s m args below meth c H locs cells slots ls A mc ms hM hE hR hl hP
  obtain ⟨hx, hb, hml, hown, hts, hret, hlk, hnw, hnm, hK⟩ := id hM
  obtain ⟨hPP, hD, hS, hA⟩ := id hP
  obtain ⟨r1, r2, r3⟩ := tf_room1 hR
  refine va_newq hx hb hown (hts _ hw) (hnw _ hao) hK hPP hD hS hA h0 hN hby r1 r2 hd (fun q cB H1 k1 p1 d1 s1 => ?_)
  have hc := tf_lastT hK ht k1
  subst hc
  have hq : q ∉ L := va_pl_fresh2 (X := []) d1
  rw [va_pl_push hq] at p1 d1
  exact kk q hq p e R s m args below meth c H1 locs (cells + 1) (slots + N) ls A mc ms hM hE r3 hl ⟨p1, d1, s1, hA⟩
end
end
section
abbrev tf_O : Type := Option Value → List Nat → tf_F → Prop
theorem tf_nk_moved {w : Cond} (h : tf_nk w = true) {s U : State} (hW : s.WarmedH U.vm) (hw : va_Nw w s) : va_Nw w U := by
  unfold tf_nk at h
  split at h
  · exact va_Nw.warmF hW hw
  · exact va_Nw.warmM hW hw
  · exact va_AO.moved hW.alike hw
  · cases h
theorem tf_nk_same {w : Cond} (h : tf_nk w = true) {s U : State} (hv : s.vm = U.vm) (hw : va_Nw w s) : va_Nw w U := by
  unfold tf_nk at h
  split at h
  · exact va_Nw.same rfl hv hw
  · exact va_Nw.same rfl hv hw
  · exact va_AO.moved (by rw [hv]; exact Vm.Alike.refl _) hw
  · cases h
/-- the words of a claim are good ones -/
def tf_ok (G : tf_G) : Prop := (∀ w ∈ G.2.2.2.1, goodWord w = true) ∧ ∀ w ∈ G.2.2.2.2, tf_nk w = true
def tf_A (L : List Nat) (sz : Nat) : Nat → Prop := fun q => q ∈ L ∨ sz ≤ q
def tf_Q (G : tf_G) (Φ : tf_O) (A : Nat → Prop) : Array Value → State → Outcome → State → Prop := fun _ st oc t =>
  ∃ (v : Option Value) (L : List Nat) (f : tf_F), oc = .returned v ∧ Φ v L f ∧ va_P G.1 G.2.1 (va_pl L f) t.heap ∧ va_D A (va_pl L f) ∧ va_F A st t
def tf_QM (G : tf_G) (Φ : tf_O) : tf_B := fun below args s mc ms A => MQ below (tf_Q G Φ A) args s mc ms A
abbrev tf_T (s : State) (A : Nat → Prop) : Prop := True
/-- a method's start: the pool, the tables -/
def tf_S (G : tf_G) (L : List Nat) (f : tf_F) (sz : Nat) (U : State) : Prop := U.heap.size = sz ∧ va_P G.1 G.2.1 (va_pl L f) U.heap ∧ va_K G.1 G.2.1 G.2.2.1 U ∧ va_D (fun _ => True) (va_pl L f) ∧ ∀ w ∈ G.2.2.2.2, va_Nw w U
abbrev tf_ws (G : tf_G) (i : tf_I) : List Cond := .code i.1 i.2.1 i.2.2.1 i.2.2.2 :: G.2.2.2.1
abbrev tf_rm (d mc ms : Nat) : Room := { frames := d, cells := mc, slots := ms, locals := 64 * d }
/-- A METHOD'S CONTRACT over the pool: from the arguments av and the pool (L, f) it returns with Φ; at most mc cells of ms slots are made, d frames entered -/
def tf_C (l : Launch) (G : tf_G) (d : Nat) (i : tf_I) (av : List Value) (L : List Nat) (f : tf_F) (mc ms : Nat) (Φ : tf_O) : Prop :=
  ∀ sz : Nat, Met l i.1 (tf_ws G i) (tf_rm d mc ms) (va_Pc av (tf_S G L f sz)) (tf_Q G Φ (tf_A L sz)) mc ms (tf_A L sz)
section
variable {l : Launch} {G : tf_G} {EX : State → (Nat → Prop) → Prop} {QB : tf_B} {d : Nat} {i : tf_I} {pc : Nat} {lv lv2 : tf_V} {st st2 : List Value} {L : List Nat} {f : tf_F} {kc ks : Nat} {Φ : tf_O}
theorem tf_D_A {A : Nat → Prop} (h : va_D A (va_pl L f)) {q : Nat} (hq : q ∈ L) : A q := by
  obtain ⟨k, hk⟩ := tf_pl (f := f) hq
  exact h.2 k _ hk
theorem tf_D_self {A : Nat → Prop} {sz : Nat} (h : va_D A (va_pl L f)) : va_D (tf_A L sz) (va_pl L f) := by
  refine ⟨h.1, fun k q hk => Or.inl ?_⟩
  have := List.mem_of_getElem? hk
  obtain ⟨a, ha, e⟩ := List.mem_map.mp this
  rw [← e]
  exact ha
theorem tf_C.of (hG : tf_ok G) {av : List Value} {mc ms : Nat} (hy : plainName i.1.cls = true) (hc : Cond.code i.1 i.2.1 i.2.2.1 i.2.2.2 ∈ G.2.2.2.1) (hs : (lg_sl av).length ≤ i.2.2.1) (h : tf_W l G tf_T (tf_QM G Φ) d i 0 (lv_args 0 av) [] L f mc ms) : tf_C l G d i av L f mc ms Φ := by
  intro sz
  refine Met.ofW (cc := i.2.1) (maxL := i.2.2.1) (ret := i.2.2.2) hy rfl ?_
  intro p e s m args below meth c s₁ B hml hv
  obtain ⟨rfl, hsz, hP, hK, hD, hnw⟩ := hv
  have hts : ∀ w ∈ G.2.2.2.1, w.before av.toArray s = true := fun w hw => atoms_spec (ws := tf_ws G i) B.pre w (List.mem_cons_of_mem _ hw)
  have hnm : meth.name = i.1.name := (name_of_methodNamed B.named B.method).1
  subst hsz
  have hl := lv_entry av (n := i.2.2.1) hs
  rw [lg_entry_eq]
  exact h p e _ s m av.toArray below meth c s.heap [] 0 0 _ (tf_A L s.heap.size) mc ms ⟨B.exec, B.bytes, hml, findClass_of_methodNamed B.named, hts, B.returns, B.notSynchronized, hnw, hnm, hK⟩ trivial
    ⟨Nat.le_refl _, Nat.le_refl _, by omega, by omega, Nat.le_refl _, Nat.le_refl _⟩ hl ⟨hP, tf_D_self hD, va_S.rf, fun q h => Or.inr h⟩
/-- ends -/
theorem tf_iret {x : Int32} (hd : decode i.2.1 pc = .ok (.ireturn, 1)) (hr : i.2.2.2 = some .int) (h : Φ (some (.int x)) L f) : tf_W l G EX (tf_QM G Φ) d i pc lv [.int x] L f kc ks := by
  intro p e R s m args below meth c H locs cells slots ls A mc ms hM hE hR hl hP
  obtain ⟨hx, hb, hml, hown, hts, hret, hlk, hnw, hnm, hK⟩ := id hM
  obtain ⟨hPP, hD, hS, hA⟩ := id hP
  have r1 := hR.2.2.1
  have r2 := hR.2.2.2.1
  refine W.widen (k := mc) (n := ms) (by omega) (by omega) ?_
  exact W.iret hx hb (hret.trans hr) (fun t ht hW => ⟨_, L, f, rfl, h, by rw [ht]; exact hPP, hD, hS.F ht⟩) hS.2.2 hd hlk
theorem tf_zret {x : Int32} {ty : FieldType} (hd : decode i.2.1 pc = .ok (.ireturn, 1)) (hr : i.2.2.2 = some ty) (hz : narrow ty (.int x) = .int x) (h : Φ (some (.int x)) L f) : tf_W l G EX (tf_QM G Φ) d i pc lv [.int x] L f kc ks := by
  intro p e R s m args below meth c H locs cells slots ls A mc ms hM hE hR hl hP
  obtain ⟨hx, hb, hml, hown, hts, hret, hlk, hnw, hnm, hK⟩ := id hM
  obtain ⟨hPP, hD, hS, hA⟩ := id hP
  have r1 := hR.2.2.1
  have r2 := hR.2.2.2.1
  refine W.widen (k := mc) (n := ms) (by omega) (by omega) ?_
  exact W.zret hx hb (hret.trans hr) hz (fun t ht hW => ⟨_, L, f, rfl, h, by rw [ht]; exact hPP, hD, hS.F ht⟩) hS.2.2 hd hlk
theorem tf_lret {x : Int64} (hd : decode i.2.1 pc = .ok (.lreturn, 1)) (hr : i.2.2.2 = some .long) (h : Φ (some (.long x)) L f) : tf_W l G EX (tf_QM G Φ) d i pc lv [.long x] L f kc ks := by
  intro p e R s m args below meth c H locs cells slots ls A mc ms hM hE hR hl hP
  obtain ⟨hx, hb, hml, hown, hts, hret, hlk, hnw, hnm, hK⟩ := id hM
  obtain ⟨hPP, hD, hS, hA⟩ := id hP
  have r1 := hR.2.2.1
  have r2 := hR.2.2.2.1
  refine W.widen (k := mc) (n := ms) (by omega) (by omega) ?_
  exact W.lret hx hb (hret.trans hr) (fun t ht hW => ⟨_, L, f, rfl, h, by rw [ht]; exact hPP, hD, hS.F ht⟩) hS.2.2 hd hlk
theorem tf_vret (hd : decode i.2.1 pc = .ok (.return_, 1)) (hr : i.2.2.2 = none) (h : Φ none L f) : tf_W l G EX (tf_QM G Φ) d i pc lv [] L f kc ks := by
  intro p e R s m args below meth c H locs cells slots ls A mc ms hM hE hR hl hP
  obtain ⟨hx, hb, hml, hown, hts, hret, hlk, hnw, hnm, hK⟩ := id hM
  obtain ⟨hPP, hD, hS, hA⟩ := id hP
  have r1 := hR.2.2.1
  have r2 := hR.2.2.2.1
  refine W.widen (k := mc) (n := ms) (by omega) (by omega) ?_
  exact W.vret hx hb (hret.trans hr) (fun t ht hW => ⟨_, L, f, rfl, h, by rw [ht]; exact hPP, hD, hS.F ht⟩) hS.2.2 hd hlk
theorem tf_aret {v : Value} {rt : FieldType} (hd : decode i.2.1 pc = .ok (.areturn, 1)) (hr : i.2.2.2 = some rt) (hrt : (∃ n, rt = .object n) ∨ ∃ t, rt = .array t) (hv : v = .null ∨ ∃ a, v = .ref a) (h : Φ (some v) L f) : tf_W l G EX (tf_QM G Φ) d i pc lv [v] L f kc ks := by
  intro p e R s m args below meth c H locs cells slots ls A mc ms hM hE hR hl hP
  obtain ⟨hx, hb, hml, hown, hts, hret, hlk, hnw, hnm, hK⟩ := id hM
  obtain ⟨hPP, hD, hS, hA⟩ := id hP
  have r1 := hR.2.2.1
  have r2 := hR.2.2.2.1
  refine W.widen (k := mc) (n := ms) (by omega) (by omega) ?_
  exact W.aret hx hb (hret.trans hr) hrt hv (fun t ht hW => ⟨_, L, f, rfl, h, by rw [ht]; exact hPP, hD, hS.F ht⟩) hS.2.2 hd hlk
/-- Object's constructor -/
theorem tf_obj {ix a : Nat} (nxt : Nat) (hd : decode i.2.1 pc = .ok (.invokespecial ix, 3)) (hn : pc + 3 = nxt) (h1 : Cond.methodLink i.1.cls ix Lib.objectInit ∈ G.2.2.2.1) (h2 : Cond.instanceMethod Lib.objectInit ∈ G.2.2.2.1) (h3 : Cond.code Lib.objectInit ⟨#[0xb1]⟩ 1 none ∈ G.2.2.2.1) (hd0 : 1 ≤ d) (hst : (st.map fun v => v.category).sum ≤ 8) (kk : tf_W l G EX QB d i nxt lv st L f kc ks) : tf_W l G EX QB d i pc lv (.ref a :: st) L f kc ks := by
  subst hn
  intro p e R s m args below meth c H locs cells slots ls A mc ms hM hE hR hl hP
  obtain ⟨hx, hb, hml, hown, hts, hret, hlk, hnw, hnm, hK⟩ := id hM
  obtain ⟨hPP, hD, hS, hA⟩ := id hP
  have r1 := hR.1
  have r2 := hR.2.1
  exact W.objInit hx hb hown (hts _ h1) (hts _ h2) (hts _ h3) rfl (by rw [hml]; exact hl.1) rfl hd (by omega) (by have := lv_room (m := m) (pc := pc) (ls := ls) (rest := .ref a :: st) hst; omega) (kk p e R s m args below meth c H locs cells slots ls A mc ms hM hE hR hl hP)
/-- behind a call -/
theorem tf_goes {p : Program} {e : Env} {R : Room} {s : State} {m : MethodId} {args : Array Value} {below : List Frame} {meth : Method} {c : Code} {H : Heap} {locs : List Loc} {cells slots mc ms : Nat} {Q : State → Prop} {ls : Array Slot} {A : Nat → Prop} {st0 rest : List Value} {a : Array Value}
    (hr : va_Run p l e R s m args below meth c H locs cells slots mc ms (F0 m pc ls st0) rest (tf_Q G Φ (tf_A L H.size) a) (tf_A L H.size)) (hP : tf_P G L f A s H locs)
    (kk : ∀ (v : Option Value) (L2 : List Nat) (f2 : tf_F) (H1 : Heap) (locs1 : List Loc), Φ v L2 f2 → tf_P G L2 f2 A s H1 locs1 → W p l e R s m args below meth c H1 locs1 (cells + mc) (slots + ms) Q (F0 m (pc + 3) ls (v.toList ++ rest))) :
    W p l e R s m args below meth c H locs cells slots Q (F0 m pc ls st0) := by
  intro T hT X
  obtain ⟨hPP, hD, hS, hA⟩ := hP
  have hsub : ∀ q, tf_A L H.size q → A q := fun q h => h.elim (fun h => tf_D_A hD h) (fun h => hA q (Nat.le_trans hS.1 h))
  obtain ⟨v, st₀, t, T', Ls, h0, X', hL, e1, e2, ⟨v2, L2, f2, hv, hΦ, hP1, hD1, hF⟩, st⟩ := hr T hT X
  cases hv
  obtain ⟨hz, hk⟩ := hF
  rw [h0] at hz hk
  obtain ⟨t2, a1, b1⟩ := kk v L2 f2 T'.heap (locs ++ Ls) hΦ ⟨by rw [e1]; exact hP1, ⟨hD1.1, fun k q hkq => hsub _ (hD1.2 k q hkq)⟩,
    ⟨Nat.le_trans hS.1 (by rw [e1]; exact hz), fun q h1 h2 => by rw [e1, hk q (Nat.lt_of_lt_of_le h1 hS.1) (fun z => h2 (hsub q z))]; exact hS.2.1 q h1 h2, fun q hq => by
      rcases List.mem_append.mp hq with h | h
      · exact hS.2.2 q h
      · exact hsub _ (hL q h)⟩, hA⟩ T' rfl X'
  exact ⟨t2, st t2 a1, b1⟩
theorem tf_ws_ok (hG : tf_ok G) {s : State} {args : Array Value} {j : tf_I} (hts : ∀ w ∈ G.2.2.2.1, w.before args s = true) (hc : Cond.code j.1 j.2.1 j.2.2.1 j.2.2.2 ∈ G.2.2.2.1) : ∀ w ∈ tf_ws G j, ∀ (a' : Array Value) (U : State), s.WarmedH U.vm → w.before a' U = true := by
  intro w hw a' U hW
  have hm : w ∈ G.2.2.2.1 := by
    rcases List.mem_cons.mp hw with h | h
    · rw [h]; exact hc
    · exact h
  exact word_at hW (good_of_word (hG.1 w hm)) (hts w hm)
theorem tf_pre (hG : tf_ok G) {s : State} {H : Heap} {A : Nat → Prop} {av : List Value} (hK : va_K G.1 G.2.1 G.2.2.1 s) (hnw : ∀ w ∈ G.2.2.2.2, va_Nw w s) (hP : va_P G.1 G.2.1 (va_pl L f) H) (hD : va_D A (va_pl L f)) : PreS s H (va_Pc av (tf_S G L f H.size)) av :=
  ⟨fun a U g mk q => by
    obtain ⟨q0, q1, q2, q3, q4, q5⟩ := q
    exact ⟨q0, q1, q2, va_K.moved (u := U) (U := U.calling g mk a) (Vm.Alike.refl U.vm) q3, q4, fun w hw => tf_nk_same (s := U) (U := U.calling g mk a) (hG.2 w hw) rfl (q5 w hw)⟩,
   fun U hU hW => ⟨rfl, by rw [hU], by rw [hU]; exact hP, va_K.moved hW.alike hK, ⟨hD.1, fun _ _ _ => trivial⟩, fun w hw => tf_nk_moved (hG.2 w hw) hW (hnw w hw)⟩⟩
/-- a callee's words at a call -/
def tf_cw (G : tf_G) (j : tf_I) (n : Nat) : Prop := Cond.code j.1 j.2.1 j.2.2.1 j.2.2.2 ∈ G.2.2.2.1 ∧ Cond.initialized j.1.cls ∈ G.2.2.2.1 ∧ (j.1.cls ≠ "java/lang/invoke/MethodHandle" ∧ j.1.cls ≠ "java/lang/invoke/VarHandle") ∧ (parseMethodDescriptor j.1.desc).map (fun d => d.parameters.length) = some n ∧ j.2.2.1 ≤ 45
def tf_lkM (G : tf_G) (own : String) (ix : Nat) (y : MethodName) : Prop := Cond.methodLink own ix y ∈ G.2.2.2.1
def tf_lkN (G : tf_G) (own : String) (ix : Nat) (y : MethodName) : Prop := ∃ host, Cond.methodLinkNest own ix y host ∈ G.2.2.2.2
theorem tf_callB (hG : tf_ok G) {R : Room} {s : State} {args : Array Value} {own : String} {ix d2 mc ms n kc ks mc0 ms0 cells slots : Nat} {j : tf_I} (hj : tf_cw G j n) (hd2 : d2 + 1 ≤ d) (hR : tf_R d kc ks mc0 ms0 cells slots R) (hts : ∀ w ∈ G.2.2.2.1, w.before args s = true) (hl : (Cond.methodLink own ix j.1).before args s = true) : CallB R s args own ix j.1 j.2.1 j.2.2.1 j.2.2.2 (tf_ws G j) (tf_rm d2 mc ms) mc ms n := by
  obtain ⟨hc, hi, hy, hp, hm⟩ := hj
  have r1 := hR.1
  have r2 := hR.2.1
  refine ⟨rfl, rfl, ?_, ?_, tf_ws_ok hG hts hc, List.mem_cons_self, hts _ hc, hts _ hi, hy, fun sig h => ?_, hl⟩
  · show d2 + 1 ≤ R.frames
    omega
  · show 8 + (j.2.2.1 + 11) + 64 * d2 ≤ R.locals
    omega
  · rw [h] at hp
    exact (Option.some.inj hp).symm
theorem tf_callN (hG : tf_ok G) {R : Room} {s : State} {args : Array Value} {own host : String} {ix d2 mc ms n kc ks mc0 ms0 cells slots : Nat} {j : tf_I} (hj : tf_cw G j n) (hd2 : d2 + 1 ≤ d) (hR : tf_R d kc ks mc0 ms0 cells slots R) (hts : ∀ w ∈ G.2.2.2.1, w.before args s = true) (hl : (Cond.methodLinkNest own ix j.1 host).before args s = true) : va_CN R s args own ix j.1 host j.2.1 j.2.2.1 j.2.2.2 (tf_ws G j) (tf_rm d2 mc ms) mc ms n := by
  obtain ⟨hc, hi, hy, hp, hm⟩ := hj
  have r1 := hR.1
  have r2 := hR.2.1
  refine ⟨⟨rfl, rfl, ?_, ?_, tf_ws_ok hG hts hc, List.mem_cons_self⟩, hts _ hc, hts _ hi, hy, fun sig h => ?_, hl⟩
  · show d2 + 1 ≤ R.frames
    omega
  · show 8 + (j.2.2.1 + 11) + 64 * d2 ≤ R.locals
    omega
  · rw [h] at hp
    exact (Option.some.inj hp).symm
theorem tf_room2 {d kc ks k2 s2 mc ms cells slots : Nat} {R : Room} (h : tf_R d (kc + k2) (ks + s2) mc ms cells slots R) : (cells + k2 ≤ R.cells ∧ slots + s2 ≤ R.slots) ∧ tf_R d kc ks mc ms (cells + k2) (slots + s2) R := by
  obtain ⟨h1, h2, h3, h4, h5, h6⟩ := h
  exact ⟨⟨by omega, by omega⟩, h1, h2, by omega, by omega, h5, h6⟩
theorem tf_callS (hG : tf_ok G) {ix d2 n k2 s2 : Nat} {j : tf_I} {As : List Value} {Ψ : tf_O} (nxt : Nat) (hd : decode i.2.1 pc = .ok (.invokestatic ix, 3)) (hn : pc + 3 = nxt) (hlk0 : tf_lkM G i.1.cls ix j.1) (hj : tf_cw G j n) (hAs : As.length = n) (hsta : Cond.static j.1 ∈ G.2.2.2.1) (hd2 : d2 + 1 ≤ d) (hst : (st.map fun v => v.category).sum ≤ 8) (hsk : st2 = As.reverse ++ st) (hC : tf_C l G d2 j As L f k2 s2 Ψ)
    (kk : ∀ (v : Option Value) (L2 : List Nat) (f2 : tf_F), Ψ v L2 f2 → tf_W l G EX QB d i nxt lv (v.toList ++ st) L2 f2 kc ks) : tf_W l G EX QB d i pc lv st2 L f (kc + k2) (ks + s2) := by
  subst hn
  subst hsk
  intro p e R s m args below meth c H locs cells slots ls A mc ms hM hE hR hl hP
  obtain ⟨hx, hb, hml, hown, hts, hret, hlk, hnw, hnm, hK⟩ := id hM
  obtain ⟨hPP, hD, hS, hA⟩ := id hP
  obtain ⟨r1, r2⟩ := tf_room2 hR
  refine tf_goes (Φ := Ψ) (a := As.toArray) (va_runS ⟨hx, hb, hml, hown, hts⟩ (hC H.size) ⟨tf_callB hG hj hd2 hR hts (hts _ hlk0), hts _ hsta⟩ (tf_pre hG hK hnw hPP hD) rfl hAs hl.1 rfl (lv_room hst) hd r1) hP (fun v L2 f2 H1 locs1 hΦ hP1 => ?_)
  exact kk v L2 f2 hΦ p e R s m args below meth c H1 locs1 (cells + k2) (slots + s2) ls A mc ms hM hE r2 hl hP1
theorem tf_callSN (hG : tf_ok G) {ix d2 n k2 s2 : Nat} {j : tf_I} {As : List Value} {Ψ : tf_O} (nxt : Nat) (hd : decode i.2.1 pc = .ok (.invokestatic ix, 3)) (hn : pc + 3 = nxt) (hlk0 : tf_lkN G i.1.cls ix j.1) (hj : tf_cw G j n) (hAs : As.length = n) (hsta : Cond.static j.1 ∈ G.2.2.2.1) (hd2 : d2 + 1 ≤ d) (hst : (st.map fun v => v.category).sum ≤ 8) (hsk : st2 = As.reverse ++ st) (hC : tf_C l G d2 j As L f k2 s2 Ψ)
    (kk : ∀ (v : Option Value) (L2 : List Nat) (f2 : tf_F), Ψ v L2 f2 → tf_W l G EX QB d i nxt lv (v.toList ++ st) L2 f2 kc ks) : tf_W l G EX QB d i pc lv st2 L f (kc + k2) (ks + s2) := by
  subst hn
  subst hsk
  intro p e R s m args below meth c H locs cells slots ls A mc ms hM hE hR hl hP
  obtain ⟨hx, hb, hml, hown, hts, hret, hlk, hnw, hnm, hK⟩ := id hM
  obtain ⟨hPP, hD, hS, hA⟩ := id hP
  obtain ⟨r1, r2⟩ := tf_room2 hR
  obtain ⟨host, hlk1⟩ := hlk0
  refine tf_goes (Φ := Ψ) (a := As.toArray) (va_runSN ⟨hx, hb, hml, hown, hts⟩ (hC H.size) ⟨tf_callN hG hj hd2 hR hts (va_Nw.use rfl (hnw _ hlk1)), hts _ hsta, trivial⟩ (tf_pre hG hK hnw hPP hD) rfl hAs hl.1 rfl (lv_room hst) hd r1) hP (fun v L2 f2 H1 locs1 hΦ hP1 => ?_)
  exact kk v L2 f2 hΦ p e R s m args below meth c H1 locs1 (cells + k2) (slots + s2) ls A mc ms hM hE r2 hl hP1
theorem tf_callI (hG : tf_ok G) {ix d2 n k2 s2 a : Nat} {y : MethodName} {cc0 : ByteArray} {nL0 : Nat} {As : List Value} {Ψ : tf_O} (nxt : Nat) (hd : decode i.2.1 pc = .ok (.invokespecial ix, 3)) (hn : pc + 3 = nxt) (hlk0 : tf_lkM G i.1.cls ix y) (hj : tf_cw G (y, cc0, nL0, none) n) (hAs : As.length = n) (hin : Cond.instanceMethod y ∈ G.2.2.2.1) (hini : y.name = "<init>") (hd2 : d2 + 1 ≤ d) (hst : (st.map fun v => v.category).sum ≤ 8) (hsk : st2 = As.reverse ++ .ref a :: st) (hC : tf_C l G d2 (y, cc0, nL0, none) (.ref a :: As) L f k2 s2 Ψ)
    (kk : ∀ (v : Option Value) (L2 : List Nat) (f2 : tf_F), Ψ v L2 f2 → tf_W l G EX QB d i nxt lv (v.toList ++ st) L2 f2 kc ks) : tf_W l G EX QB d i pc lv st2 L f (kc + k2) (ks + s2) := by
  subst hn
  subst hsk
  intro p e R s m args below meth c H locs cells slots ls A mc ms hM hE hR hl hP
  obtain ⟨hx, hb, hml, hown, hts, hret, hlk, hnw, hnm, hK⟩ := id hM
  obtain ⟨hPP, hD, hS, hA⟩ := id hP
  obtain ⟨r1, r2⟩ := tf_room2 hR
  refine tf_goes (Φ := Ψ) (a := (Value.ref a :: As).toArray) (va_runI ⟨hx, hb, hml, hown, hts⟩ (hC H.size) ⟨tf_callB hG hj hd2 hR hts (hts _ hlk0), hini, hts _ hin⟩ (tf_pre hG hK hnw hPP hD) rfl hAs hl.1 rfl (lv_room hst) hd r1) hP (fun v L2 f2 H1 locs1 hΦ hP1 => ?_)
  exact kk v L2 f2 hΦ p e R s m args below meth c H1 locs1 (cells + k2) (slots + s2) ls A mc ms hM hE r2 hl hP1
theorem tf_callIN (hG : tf_ok G) {ix d2 n k2 s2 a : Nat} {y : MethodName} {cc0 : ByteArray} {nL0 : Nat} {As : List Value} {Ψ : tf_O} (nxt : Nat) (hd : decode i.2.1 pc = .ok (.invokespecial ix, 3)) (hn : pc + 3 = nxt) (hlk0 : tf_lkN G i.1.cls ix y) (hj : tf_cw G (y, cc0, nL0, none) n) (hAs : As.length = n) (hin : Cond.instanceMethod y ∈ G.2.2.2.1) (hini : y.name = "<init>") (hd2 : d2 + 1 ≤ d) (hst : (st.map fun v => v.category).sum ≤ 8) (hsk : st2 = As.reverse ++ .ref a :: st) (hC : tf_C l G d2 (y, cc0, nL0, none) (.ref a :: As) L f k2 s2 Ψ)
    (kk : ∀ (v : Option Value) (L2 : List Nat) (f2 : tf_F), Ψ v L2 f2 → tf_W l G EX QB d i nxt lv (v.toList ++ st) L2 f2 kc ks) : tf_W l G EX QB d i pc lv st2 L f (kc + k2) (ks + s2) := by
  subst hn
  subst hsk
  intro p e R s m args below meth c H locs cells slots ls A mc ms hM hE hR hl hP
  obtain ⟨hx, hb, hml, hown, hts, hret, hlk, hnw, hnm, hK⟩ := id hM
  obtain ⟨hPP, hD, hS, hA⟩ := id hP
  obtain ⟨r1, r2⟩ := tf_room2 hR
  obtain ⟨host, hlk1⟩ := hlk0
  refine tf_goes (Φ := Ψ) (a := (Value.ref a :: As).toArray) (va_runIN ⟨hx, hb, hml, hown, hts⟩ (hC H.size) ⟨tf_callN hG hj hd2 hR hts (va_Nw.use rfl (hnw _ hlk1)), hini, hts _ hin⟩ (tf_pre hG hK hnw hPP hD) rfl hAs hl.1 rfl (lv_room hst) hd r1) hP (fun v L2 f2 H1 locs1 hΦ hP1 => ?_)
  exact kk v L2 f2 hΦ p e R s m args below meth c H1 locs1 (cells + k2) (slots + s2) ls A mc ms hM hE r2 hl hP1
theorem tf_callV (hG : tf_ok G) {ix d2 n k2 s2 a : Nat} {j : tf_I} {As : List Value} {Ψ : tf_O} (nxt : Nat) (hd : decode i.2.1 pc = .ok (.invokevirtual ix, 3)) (hn : pc + 3 = nxt) (hlk0 : tf_lkM G i.1.cls ix j.1) (hj : tf_cw G j n) (hAs : As.length = n) (hin : Cond.instanceMethod j.1 ∈ G.2.2.2.1) (hse : Cond.selects j.1.cls j.1 j.1 ∈ G.2.2.2.1) {ci : Nat} {r : vw_C} {fs : List Value} (ha : a ∈ L) (hf : f a = .inr (ci, fs)) (hci : G.2.1[ci]? = some r) (hcl : r.1 = j.1.cls) (hd2 : d2 + 1 ≤ d) (hst : (st.map fun v => v.category).sum ≤ 8) (hsk : st2 = As.reverse ++ .ref a :: st) (hC : tf_C l G d2 j (.ref a :: As) L f k2 s2 Ψ)
    (kk : ∀ (v : Option Value) (L2 : List Nat) (f2 : tf_F), Ψ v L2 f2 → tf_W l G EX QB d i nxt lv (v.toList ++ st) L2 f2 kc ks) : tf_W l G EX QB d i pc lv st2 L f (kc + k2) (ks + s2) := by
  subst hn
  subst hsk
  intro p e R s m args below meth c H locs cells slots ls A mc ms hM hE hR hl hP
  obtain ⟨hx, hb, hml, hown, hts, hret, hlk, hnw, hnm, hK⟩ := id hM
  obtain ⟨hPP, hD, hS, hA⟩ := id hP
  obtain ⟨r1, r2⟩ := tf_room2 hR
  obtain ⟨q0, hq0⟩ := tf_pl (f := f) ha
  rw [hf] at hq0
  have hrc := va_recv hK hPP hci hq0
  rw [hcl] at hrc
  refine tf_goes (Φ := Ψ) (a := (Value.ref a :: As).toArray) (va_runV ⟨hx, hb, hml, hown, hts⟩ (hC H.size) ⟨tf_callB hG hj hd2 hR hts (hts _ hlk0), hts _ hin, hts _ hse⟩ ⟨(tf_pre (av := .ref a :: As) hG hK hnw hPP hD).1, hrc, (tf_pre (av := .ref a :: As) hG hK hnw hPP hD).2⟩ rfl hAs hl.1 rfl (lv_room hst) hd r1) hP (fun v L2 f2 H1 locs1 hΦ hP1 => ?_)
  exact kk v L2 f2 hΦ p e R s m args below meth c H1 locs1 (cells + k2) (slots + s2) ls A mc ms hM hE r2 hl hP1
theorem tf_callVN (hG : tf_ok G) {ix d2 n k2 s2 a : Nat} {j : tf_I} {As : List Value} {Ψ : tf_O} (nxt : Nat) (hd : decode i.2.1 pc = .ok (.invokevirtual ix, 3)) (hn : pc + 3 = nxt) (hlk0 : tf_lkN G i.1.cls ix j.1) (hj : tf_cw G j n) (hAs : As.length = n) (hin : Cond.instanceMethod j.1 ∈ G.2.2.2.1) (hse : Cond.selects j.1.cls j.1 j.1 ∈ G.2.2.2.1) {ci : Nat} {r : vw_C} {fs : List Value} (ha : a ∈ L) (hf : f a = .inr (ci, fs)) (hci : G.2.1[ci]? = some r) (hcl : r.1 = j.1.cls) (hd2 : d2 + 1 ≤ d) (hst : (st.map fun v => v.category).sum ≤ 8) (hsk : st2 = As.reverse ++ .ref a :: st) (hC : tf_C l G d2 j (.ref a :: As) L f k2 s2 Ψ)
    (kk : ∀ (v : Option Value) (L2 : List Nat) (f2 : tf_F), Ψ v L2 f2 → tf_W l G EX QB d i nxt lv (v.toList ++ st) L2 f2 kc ks) : tf_W l G EX QB d i pc lv st2 L f (kc + k2) (ks + s2) := by
  subst hn
  subst hsk
  intro p e R s m args below meth c H locs cells slots ls A mc ms hM hE hR hl hP
  obtain ⟨hx, hb, hml, hown, hts, hret, hlk, hnw, hnm, hK⟩ := id hM
  obtain ⟨hPP, hD, hS, hA⟩ := id hP
  obtain ⟨r1, r2⟩ := tf_room2 hR
  obtain ⟨q0, hq0⟩ := tf_pl (f := f) ha
  rw [hf] at hq0
  have hrc := va_recv hK hPP hci hq0
  rw [hcl] at hrc
  obtain ⟨host, hlk1⟩ := hlk0
  refine tf_goes (Φ := Ψ) (a := (Value.ref a :: As).toArray) (va_runVN ⟨hx, hb, hml, hown, hts⟩ (hC H.size) ⟨tf_callN hG hj hd2 hR hts (va_Nw.use rfl (hnw _ hlk1)), hts _ hin, hts _ hse⟩ ⟨(tf_pre (av := .ref a :: As) hG hK hnw hPP hD).1, hrc, (tf_pre (av := .ref a :: As) hG hK hnw hPP hD).2⟩ rfl hAs hl.1 rfl (lv_room hst) hd r1) hP (fun v L2 f2 H1 locs1 hΦ hP1 => ?_)
  exact kk v L2 f2 hΦ p e R s m args below meth c H1 locs1 (cells + k2) (slots + s2) ls A mc ms hM hE r2 hl hP1
end
end
