section
-- ===== PART A: goes FIRST, ahead of the names: the tables' words, and 'selects' of the private methods out of them =====
/-- a private method of a class that the tables say can be made, by its rows of tables_1 -/
def lw_okq (q : MethodName × Nat) : Prop := (q.1.cls ≠ "java/lang/invoke/MethodHandle" ∧ q.1.cls ≠ "java/lang/invoke/VarHandle") ∧ Cond.instantiable q.1.cls q.2 ∈ tables_1 ∧ Cond.privateMethod q.1 ∈ tables_1 ∧ Cond.instanceMethod q.1 ∈ tables_1
theorem lw_p0 : lw_okq (⟨"TypeFoundry", "find", "(I)LTypeFoundry$Glyph;"⟩, 9) := ⟨⟨by decide +kernel, by decide +kernel⟩, List.mem_of_getElem? (i := 32) (by decide +kernel), List.mem_of_getElem? (i := 239) (by decide +kernel), List.mem_of_getElem? (i := 240) (by decide +kernel)⟩
theorem lw_p1 : lw_okq (⟨"TypeFoundry$Kerning", "pairAt", "(II)I"⟩, 7) := ⟨⟨by decide +kernel, by decide +kernel⟩, List.mem_of_getElem? (i := 143) (by decide +kernel), List.mem_of_getElem? (i := 311) (by decide +kernel), List.mem_of_getElem? (i := 312) (by decide +kernel)⟩
theorem lw_p2 : lw_okq (⟨"TypeFoundry$Setter", "run", "(I)V"⟩, 7) := ⟨⟨by decide +kernel, by decide +kernel⟩, List.mem_of_getElem? (i := 172) (by decide +kernel), List.mem_of_getElem? (i := 337) (by decide +kernel), List.mem_of_getElem? (i := 338) (by decide +kernel)⟩
theorem lw_p3 : lw_okq (⟨"TypeFoundry$Setter", "bestAt", "(II)LTypeFoundry$Rule;"⟩, 7) := ⟨⟨by decide +kernel, by decide +kernel⟩, List.mem_of_getElem? (i := 172) (by decide +kernel), List.mem_of_getElem? (i := 341) (by decide +kernel), List.mem_of_getElem? (i := 342) (by decide +kernel)⟩
theorem lw_p4 : lw_okq (⟨"TypeFoundry$Setter", "put", "(LTypeFoundry$Rule;I)V"⟩, 7) := ⟨⟨by decide +kernel, by decide +kernel⟩, List.mem_of_getElem? (i := 172) (by decide +kernel), List.mem_of_getElem? (i := 360) (by decide +kernel), List.mem_of_getElem? (i := 361) (by decide +kernel)⟩
theorem lw_p5 : lw_okq (⟨"java/lang/Throwable", "fillInStackTrace", "(I)Ljava/lang/Throwable;"⟩, 6) := ⟨⟨by decide +kernel, by decide +kernel⟩, List.mem_of_getElem? (i := 418) (by decide +kernel), List.mem_of_getElem? (i := 416) (by decide +kernel), List.mem_of_getElem? (i := 417) (by decide +kernel)⟩
theorem lw_p6 : lw_okq (⟨"TypeFoundry", "ofWholeOutline", "(LTypeFoundry$Glyph;I)I"⟩, 9) := ⟨⟨by decide +kernel, by decide +kernel⟩, List.mem_of_getElem? (i := 32) (by decide +kernel), List.mem_of_getElem? (i := 635) (by decide +kernel), List.mem_of_getElem? (i := 636) (by decide +kernel)⟩
theorem lw_p7 : lw_okq (⟨"TypeFoundry$Outline", "gather", "(LTypeFoundry$Glyph;LTypeFoundry$Blend;I)V"⟩, 7) := ⟨⟨by decide +kernel, by decide +kernel⟩, List.mem_of_getElem? (i := 59) (by decide +kernel), List.mem_of_getElem? (i := 660) (by decide +kernel), List.mem_of_getElem? (i := 661) (by decide +kernel)⟩
theorem lw_p8 : lw_okq (⟨"TypeFoundry$Outline", "addContours", "(LTypeFoundry$Glyph;LTypeFoundry$Blend;)V"⟩, 7) := ⟨⟨by decide +kernel, by decide +kernel⟩, List.mem_of_getElem? (i := 59) (by decide +kernel), List.mem_of_getElem? (i := 664) (by decide +kernel), List.mem_of_getElem? (i := 665) (by decide +kernel)⟩
theorem lw_p9 : lw_okq (⟨"TypeFoundry$Outline", "turnAndShift", "(ILTypeFoundry$Part;)V"⟩, 7) := ⟨⟨by decide +kernel, by decide +kernel⟩, List.mem_of_getElem? (i := 59) (by decide +kernel), List.mem_of_getElem? (i := 669) (by decide +kernel), List.mem_of_getElem? (i := 670) (by decide +kernel)⟩
theorem lw_p10 : lw_okq (⟨"TypeFoundry$Outline", "reverseContours", "(I)V"⟩, 7) := ⟨⟨by decide +kernel, by decide +kernel⟩, List.mem_of_getElem? (i := 59) (by decide +kernel), List.mem_of_getElem? (i := 677) (by decide +kernel), List.mem_of_getElem? (i := 678) (by decide +kernel)⟩
theorem lw_p11 : lw_okq (⟨"TypeFoundry$Outline", "swap", "(II)V"⟩, 7) := ⟨⟨by decide +kernel, by decide +kernel⟩, List.mem_of_getElem? (i := 59) (by decide +kernel), List.mem_of_getElem? (i := 681) (by decide +kernel), List.mem_of_getElem? (i := 682) (by decide +kernel)⟩
theorem lw_p12 : lw_okq (⟨"TypeFoundry$Path", "addQuadratic", "(LTypeFoundry$Outline;III)V"⟩, 3) := ⟨⟨by decide +kernel, by decide +kernel⟩, List.mem_of_getElem? (i := 94) (by decide +kernel), List.mem_of_getElem? (i := 971) (by decide +kernel), List.mem_of_getElem? (i := 972) (by decide +kernel)⟩
theorem lw_p13 : lw_okq (⟨"TypeFoundry$Path", "addCorner", "(II)V"⟩, 3) := ⟨⟨by decide +kernel, by decide +kernel⟩, List.mem_of_getElem? (i := 94) (by decide +kernel), List.mem_of_getElem? (i := 984) (by decide +kernel), List.mem_of_getElem? (i := 985) (by decide +kernel)⟩
theorem lw_p14 : lw_okq (⟨"TypeFoundry$Canvas", "addRising", "(IIIII)V"⟩, 3) := ⟨⟨by decide +kernel, by decide +kernel⟩, List.mem_of_getElem? (i := 127) (by decide +kernel), List.mem_of_getElem? (i := 1007) (by decide +kernel), List.mem_of_getElem? (i := 1008) (by decide +kernel)⟩
theorem lw_p15 : lw_okq (⟨"TypeFoundry$Canvas", "firstCut", "(I)I"⟩, 3) := ⟨⟨by decide +kernel, by decide +kernel⟩, List.mem_of_getElem? (i := 127) (by decide +kernel), List.mem_of_getElem? (i := 1011) (by decide +kernel), List.mem_of_getElem? (i := 1012) (by decide +kernel)⟩
def lw_privs_1 : List (MethodName × Nat) := [(⟨"TypeFoundry", "find", "(I)LTypeFoundry$Glyph;"⟩, 9), (⟨"TypeFoundry$Kerning", "pairAt", "(II)I"⟩, 7), (⟨"TypeFoundry$Setter", "run", "(I)V"⟩, 7), (⟨"TypeFoundry$Setter", "bestAt", "(II)LTypeFoundry$Rule;"⟩, 7), (⟨"TypeFoundry$Setter", "put", "(LTypeFoundry$Rule;I)V"⟩, 7), (⟨"java/lang/Throwable", "fillInStackTrace", "(I)Ljava/lang/Throwable;"⟩, 6), (⟨"TypeFoundry", "ofWholeOutline", "(LTypeFoundry$Glyph;I)I"⟩, 9), (⟨"TypeFoundry$Outline", "gather", "(LTypeFoundry$Glyph;LTypeFoundry$Blend;I)V"⟩, 7), (⟨"TypeFoundry$Outline", "addContours", "(LTypeFoundry$Glyph;LTypeFoundry$Blend;)V"⟩, 7), (⟨"TypeFoundry$Outline", "turnAndShift", "(ILTypeFoundry$Part;)V"⟩, 7), (⟨"TypeFoundry$Outline", "reverseContours", "(I)V"⟩, 7), (⟨"TypeFoundry$Outline", "swap", "(II)V"⟩, 7), (⟨"TypeFoundry$Path", "addQuadratic", "(LTypeFoundry$Outline;III)V"⟩, 3), (⟨"TypeFoundry$Path", "addCorner", "(II)V"⟩, 3), (⟨"TypeFoundry$Canvas", "addRising", "(IIIII)V"⟩, 3), (⟨"TypeFoundry$Canvas", "firstCut", "(I)I"⟩, 3)]
theorem lw_r1 : ∀ q ∈ lw_privs_1, lw_okq q := List.forall_mem_cons.mpr ⟨lw_p0, List.forall_mem_cons.mpr ⟨lw_p1, List.forall_mem_cons.mpr ⟨lw_p2, List.forall_mem_cons.mpr ⟨lw_p3, List.forall_mem_cons.mpr ⟨lw_p4, List.forall_mem_cons.mpr ⟨lw_p5, List.forall_mem_cons.mpr ⟨lw_p6, List.forall_mem_cons.mpr ⟨lw_p7, List.forall_mem_cons.mpr ⟨lw_p8, List.forall_mem_cons.mpr ⟨lw_p9, List.forall_mem_cons.mpr ⟨lw_p10, List.forall_mem_cons.mpr ⟨lw_p11, List.forall_mem_cons.mpr ⟨lw_p12, List.forall_mem_cons.mpr ⟨lw_p13, List.forall_mem_cons.mpr ⟨lw_p14, List.forall_mem_cons.mpr ⟨lw_p15, fun _ h => absurd h List.not_mem_nil⟩⟩⟩⟩⟩⟩⟩⟩⟩⟩⟩⟩⟩⟩⟩⟩
theorem lw_p16 : lw_okq (⟨"TypeFoundry$Canvas", "addPart", "(IIIII)V"⟩, 3) := ⟨⟨by decide +kernel, by decide +kernel⟩, List.mem_of_getElem? (i := 127) (by decide +kernel), List.mem_of_getElem? (i := 1023) (by decide +kernel), List.mem_of_getElem? (i := 1024) (by decide +kernel)⟩
theorem lw_p17 : lw_okq (⟨"TypeFoundry$Canvas", "addRise", "(IIII)V"⟩, 3) := ⟨⟨by decide +kernel, by decide +kernel⟩, List.mem_of_getElem? (i := 127) (by decide +kernel), List.mem_of_getElem? (i := 1030) (by decide +kernel), List.mem_of_getElem? (i := 1031) (by decide +kernel)⟩
theorem lw_p18 : lw_okq (⟨"TypeFoundry$Canvas", "grey", "(I)I"⟩, 3) := ⟨⟨by decide +kernel, by decide +kernel⟩, List.mem_of_getElem? (i := 127) (by decide +kernel), List.mem_of_getElem? (i := 1038) (by decide +kernel), List.mem_of_getElem? (i := 1039) (by decide +kernel)⟩
theorem lw_p19 : lw_okq (⟨"TypeFoundry", "xInRow", "(I)I"⟩, 9) := ⟨⟨by decide +kernel, by decide +kernel⟩, List.mem_of_getElem? (i := 32) (by decide +kernel), List.mem_of_getElem? (i := 1109) (by decide +kernel), List.mem_of_getElem? (i := 1110) (by decide +kernel)⟩
theorem lw_p20 : lw_okq (⟨"TypeFoundry", "widthOf", "(I)I"⟩, 9) := ⟨⟨by decide +kernel, by decide +kernel⟩, List.mem_of_getElem? (i := 32) (by decide +kernel), List.mem_of_getElem? (i := 1113) (by decide +kernel), List.mem_of_getElem? (i := 1114) (by decide +kernel)⟩
theorem lw_p21 : lw_okq (⟨"TypeFoundryModel", "isGlyph", "(I)Z"⟩, 55) := ⟨⟨by decide +kernel, by decide +kernel⟩, List.mem_of_getElem? (i := 1122) (by decide +kernel), List.mem_of_getElem? (i := 1308) (by decide +kernel), List.mem_of_getElem? (i := 1309) (by decide +kernel)⟩
theorem lw_p22 : lw_okq (⟨"TypeFoundryModel", "componentPoints", "(I)I"⟩, 55) := ⟨⟨by decide +kernel, by decide +kernel⟩, List.mem_of_getElem? (i := 1122) (by decide +kernel), List.mem_of_getElem? (i := 1333) (by decide +kernel), List.mem_of_getElem? (i := 1334) (by decide +kernel)⟩
theorem lw_p23 : lw_okq (⟨"TypeFoundryModel", "tell", "(I)V"⟩, 55) := ⟨⟨by decide +kernel, by decide +kernel⟩, List.mem_of_getElem? (i := 1122) (by decide +kernel), List.mem_of_getElem? (i := 1349) (by decide +kernel), List.mem_of_getElem? (i := 1350) (by decide +kernel)⟩
theorem lw_p24 : lw_okq (⟨"TypeFoundryModel", "tellContours", "(I)V"⟩, 55) := ⟨⟨by decide +kernel, by decide +kernel⟩, List.mem_of_getElem? (i := 1122) (by decide +kernel), List.mem_of_getElem? (i := 1353) (by decide +kernel), List.mem_of_getElem? (i := 1354) (by decide +kernel)⟩
theorem lw_p25 : lw_okq (⟨"TypeFoundryModel", "turnPoint", "(II)V"⟩, 55) := ⟨⟨by decide +kernel, by decide +kernel⟩, List.mem_of_getElem? (i := 1122) (by decide +kernel), List.mem_of_getElem? (i := 1357) (by decide +kernel), List.mem_of_getElem? (i := 1358) (by decide +kernel)⟩
theorem lw_p26 : lw_okq (⟨"TypeFoundryModel", "xOf", "(II)I"⟩, 55) := ⟨⟨by decide +kernel, by decide +kernel⟩, List.mem_of_getElem? (i := 1122) (by decide +kernel), List.mem_of_getElem? (i := 1361) (by decide +kernel), List.mem_of_getElem? (i := 1362) (by decide +kernel)⟩
theorem lw_p27 : lw_okq (⟨"TypeFoundryModel", "between", "(IIII)I"⟩, 55) := ⟨⟨by decide +kernel, by decide +kernel⟩, List.mem_of_getElem? (i := 1122) (by decide +kernel), List.mem_of_getElem? (i := 1365) (by decide +kernel), List.mem_of_getElem? (i := 1366) (by decide +kernel)⟩
theorem lw_p28 : lw_okq (⟨"TypeFoundryModel", "yOf", "(II)I"⟩, 55) := ⟨⟨by decide +kernel, by decide +kernel⟩, List.mem_of_getElem? (i := 1122) (by decide +kernel), List.mem_of_getElem? (i := 1378) (by decide +kernel), List.mem_of_getElem? (i := 1379) (by decide +kernel)⟩
theorem lw_p29 : lw_okq (⟨"TypeFoundryModel", "widthOf", "(I)I"⟩, 55) := ⟨⟨by decide +kernel, by decide +kernel⟩, List.mem_of_getElem? (i := 1122) (by decide +kernel), List.mem_of_getElem? (i := 1383) (by decide +kernel), List.mem_of_getElem? (i := 1384) (by decide +kernel)⟩
theorem lw_p30 : lw_okq (⟨"TypeFoundryModel", "contour", "(II)V"⟩, 55) := ⟨⟨by decide +kernel, by decide +kernel⟩, List.mem_of_getElem? (i := 1122) (by decide +kernel), List.mem_of_getElem? (i := 1395) (by decide +kernel), List.mem_of_getElem? (i := 1396) (by decide +kernel)⟩
theorem lw_p31 : lw_okq (⟨"TypeFoundryModel", "lineTo", "(II)V"⟩, 55) := ⟨⟨by decide +kernel, by decide +kernel⟩, List.mem_of_getElem? (i := 1122) (by decide +kernel), List.mem_of_getElem? (i := 1399) (by decide +kernel), List.mem_of_getElem? (i := 1400) (by decide +kernel)⟩
def lw_privs_2 : List (MethodName × Nat) := [(⟨"TypeFoundry$Canvas", "addPart", "(IIIII)V"⟩, 3), (⟨"TypeFoundry$Canvas", "addRise", "(IIII)V"⟩, 3), (⟨"TypeFoundry$Canvas", "grey", "(I)I"⟩, 3), (⟨"TypeFoundry", "xInRow", "(I)I"⟩, 9), (⟨"TypeFoundry", "widthOf", "(I)I"⟩, 9), (⟨"TypeFoundryModel", "isGlyph", "(I)Z"⟩, 55), (⟨"TypeFoundryModel", "componentPoints", "(I)I"⟩, 55), (⟨"TypeFoundryModel", "tell", "(I)V"⟩, 55), (⟨"TypeFoundryModel", "tellContours", "(I)V"⟩, 55), (⟨"TypeFoundryModel", "turnPoint", "(II)V"⟩, 55), (⟨"TypeFoundryModel", "xOf", "(II)I"⟩, 55), (⟨"TypeFoundryModel", "between", "(IIII)I"⟩, 55), (⟨"TypeFoundryModel", "yOf", "(II)I"⟩, 55), (⟨"TypeFoundryModel", "widthOf", "(I)I"⟩, 55), (⟨"TypeFoundryModel", "contour", "(II)V"⟩, 55), (⟨"TypeFoundryModel", "lineTo", "(II)V"⟩, 55)]
theorem lw_r2 : ∀ q ∈ lw_privs_2, lw_okq q := List.forall_mem_cons.mpr ⟨lw_p16, List.forall_mem_cons.mpr ⟨lw_p17, List.forall_mem_cons.mpr ⟨lw_p18, List.forall_mem_cons.mpr ⟨lw_p19, List.forall_mem_cons.mpr ⟨lw_p20, List.forall_mem_cons.mpr ⟨lw_p21, List.forall_mem_cons.mpr ⟨lw_p22, List.forall_mem_cons.mpr ⟨lw_p23, List.forall_mem_cons.mpr ⟨lw_p24, List.forall_mem_cons.mpr ⟨lw_p25, List.forall_mem_cons.mpr ⟨lw_p26, List.forall_mem_cons.mpr ⟨lw_p27, List.forall_mem_cons.mpr ⟨lw_p28, List.forall_mem_cons.mpr ⟨lw_p29, List.forall_mem_cons.mpr ⟨lw_p30, List.forall_mem_cons.mpr ⟨lw_p31, fun _ h => absurd h List.not_mem_nil⟩⟩⟩⟩⟩⟩⟩⟩⟩⟩⟩⟩⟩⟩⟩⟩
theorem lw_p32 : lw_okq (⟨"TypeFoundryModel", "line", "(IIII)V"⟩, 55) := ⟨⟨by decide +kernel, by decide +kernel⟩, List.mem_of_getElem? (i := 1122) (by decide +kernel), List.mem_of_getElem? (i := 1403) (by decide +kernel), List.mem_of_getElem? (i := 1404) (by decide +kernel)⟩
theorem lw_p33 : lw_okq (⟨"TypeFoundryModel", "fit", "(I)I"⟩, 55) := ⟨⟨by decide +kernel, by decide +kernel⟩, List.mem_of_getElem? (i := 1122) (by decide +kernel), List.mem_of_getElem? (i := 1407) (by decide +kernel), List.mem_of_getElem? (i := 1408) (by decide +kernel)⟩
theorem lw_p34 : lw_okq (⟨"TypeFoundryModel", "goal", "(I)I"⟩, 55) := ⟨⟨by decide +kernel, by decide +kernel⟩, List.mem_of_getElem? (i := 1122) (by decide +kernel), List.mem_of_getElem? (i := 1411) (by decide +kernel), List.mem_of_getElem? (i := 1412) (by decide +kernel)⟩
theorem lw_p35 : lw_okq (⟨"TypeFoundryModel", "nextStop", "(II)I"⟩, 55) := ⟨⟨by decide +kernel, by decide +kernel⟩, List.mem_of_getElem? (i := 1122) (by decide +kernel), List.mem_of_getElem? (i := 1415) (by decide +kernel), List.mem_of_getElem? (i := 1416) (by decide +kernel)⟩
theorem lw_p36 : lw_okq (⟨"TypeFoundryModel", "across", "(IIII)V"⟩, 55) := ⟨⟨by decide +kernel, by decide +kernel⟩, List.mem_of_getElem? (i := 1122) (by decide +kernel), List.mem_of_getElem? (i := 1422) (by decide +kernel), List.mem_of_getElem? (i := 1423) (by decide +kernel)⟩
theorem lw_p37 : lw_okq (⟨"TypeFoundryModel", "cover", "(IIII)V"⟩, 55) := ⟨⟨by decide +kernel, by decide +kernel⟩, List.mem_of_getElem? (i := 1122) (by decide +kernel), List.mem_of_getElem? (i := 1426) (by decide +kernel), List.mem_of_getElem? (i := 1427) (by decide +kernel)⟩
theorem lw_p38 : lw_okq (⟨"TypeFoundryModel", "quadratic", "(IIII)V"⟩, 55) := ⟨⟨by decide +kernel, by decide +kernel⟩, List.mem_of_getElem? (i := 1122) (by decide +kernel), List.mem_of_getElem? (i := 1433) (by decide +kernel), List.mem_of_getElem? (i := 1434) (by decide +kernel)⟩
theorem lw_p39 : lw_okq (⟨"TypeFoundryModel", "pairAt", "(II)I"⟩, 55) := ⟨⟨by decide +kernel, by decide +kernel⟩, List.mem_of_getElem? (i := 1122) (by decide +kernel), List.mem_of_getElem? (i := 1458) (by decide +kernel), List.mem_of_getElem? (i := 1459) (by decide +kernel)⟩
theorem lw_p40 : lw_okq (⟨"TypeFoundryModel", "isRow", "(JI)Z"⟩, 55) := ⟨⟨by decide +kernel, by decide +kernel⟩, List.mem_of_getElem? (i := 1122) (by decide +kernel), List.mem_of_getElem? (i := 1472) (by decide +kernel), List.mem_of_getElem? (i := 1473) (by decide +kernel)⟩
theorem lw_p41 : lw_okq (⟨"TypeFoundryModel", "bestRule", "(II)I"⟩, 55) := ⟨⟨by decide +kernel, by decide +kernel⟩, List.mem_of_getElem? (i := 1122) (by decide +kernel), List.mem_of_getElem? (i := 1486) (by decide +kernel), List.mem_of_getElem? (i := 1487) (by decide +kernel)⟩
theorem lw_p42 : lw_okq (⟨"TypeFoundryModel", "fitsAt", "(II)Z"⟩, 55) := ⟨⟨by decide +kernel, by decide +kernel⟩, List.mem_of_getElem? (i := 1122) (by decide +kernel), List.mem_of_getElem? (i := 1490) (by decide +kernel), List.mem_of_getElem? (i := 1491) (by decide +kernel)⟩
theorem lw_p43 : lw_okq (⟨"TypeFoundryModel", "stands", "(JII)Z"⟩, 55) := ⟨⟨by decide +kernel, by decide +kernel⟩, List.mem_of_getElem? (i := 1122) (by decide +kernel), List.mem_of_getElem? (i := 1494) (by decide +kernel), List.mem_of_getElem? (i := 1495) (by decide +kernel)⟩
theorem lw_p44 : lw_okq (⟨"TypeFoundryModel", "change", "(II)V"⟩, 55) := ⟨⟨by decide +kernel, by decide +kernel⟩, List.mem_of_getElem? (i := 1122) (by decide +kernel), List.mem_of_getElem? (i := 1498) (by decide +kernel), List.mem_of_getElem? (i := 1499) (by decide +kernel)⟩
theorem lw_p45 : lw_okq (⟨"TypeFoundryModel", "kernOf", "(II)I"⟩, 55) := ⟨⟨by decide +kernel, by decide +kernel⟩, List.mem_of_getElem? (i := 1122) (by decide +kernel), List.mem_of_getElem? (i := 1506) (by decide +kernel), List.mem_of_getElem? (i := 1507) (by decide +kernel)⟩
def lw_privs_3 : List (MethodName × Nat) := [(⟨"TypeFoundryModel", "line", "(IIII)V"⟩, 55), (⟨"TypeFoundryModel", "fit", "(I)I"⟩, 55), (⟨"TypeFoundryModel", "goal", "(I)I"⟩, 55), (⟨"TypeFoundryModel", "nextStop", "(II)I"⟩, 55), (⟨"TypeFoundryModel", "across", "(IIII)V"⟩, 55), (⟨"TypeFoundryModel", "cover", "(IIII)V"⟩, 55), (⟨"TypeFoundryModel", "quadratic", "(IIII)V"⟩, 55), (⟨"TypeFoundryModel", "pairAt", "(II)I"⟩, 55), (⟨"TypeFoundryModel", "isRow", "(JI)Z"⟩, 55), (⟨"TypeFoundryModel", "bestRule", "(II)I"⟩, 55), (⟨"TypeFoundryModel", "fitsAt", "(II)Z"⟩, 55), (⟨"TypeFoundryModel", "stands", "(JII)Z"⟩, 55), (⟨"TypeFoundryModel", "change", "(II)V"⟩, 55), (⟨"TypeFoundryModel", "kernOf", "(II)I"⟩, 55)]
theorem lw_r3 : ∀ q ∈ lw_privs_3, lw_okq q := List.forall_mem_cons.mpr ⟨lw_p32, List.forall_mem_cons.mpr ⟨lw_p33, List.forall_mem_cons.mpr ⟨lw_p34, List.forall_mem_cons.mpr ⟨lw_p35, List.forall_mem_cons.mpr ⟨lw_p36, List.forall_mem_cons.mpr ⟨lw_p37, List.forall_mem_cons.mpr ⟨lw_p38, List.forall_mem_cons.mpr ⟨lw_p39, List.forall_mem_cons.mpr ⟨lw_p40, List.forall_mem_cons.mpr ⟨lw_p41, List.forall_mem_cons.mpr ⟨lw_p42, List.forall_mem_cons.mpr ⟨lw_p43, List.forall_mem_cons.mpr ⟨lw_p44, List.forall_mem_cons.mpr ⟨lw_p45, fun _ h => absurd h List.not_mem_nil⟩⟩⟩⟩⟩⟩⟩⟩⟩⟩⟩⟩⟩⟩
def lw_privs : List (MethodName × Nat) := lw_privs_1 ++ (lw_privs_2 ++ (lw_privs_3))
def lw_tbl : List Cond := k2_sels lw_privs ++ tables_1
theorem lw_privs_ok : ∀ q ∈ lw_privs, lw_okq q := by
  show ∀ q ∈ lw_privs_1 ++ (lw_privs_2 ++ (lw_privs_3)), lw_okq q
  exact List.forall_mem_append.mpr ⟨lw_r1, List.forall_mem_append.mpr ⟨lw_r2, lw_r3⟩⟩
end
section
/-! the first words of the layer: what the names need -/
def tf_dec (cc : ByteArray) : Nat → List (Instr × Nat) → Bool
  | _, [] => true
  | pc, q :: r => (match decode cc pc with | .ok z => decide (z = q) | .error _ => false) && tf_dec cc (pc + q.2) r
/-- the words beside the good ones: links across the nest, arrays over a class -/
def tf_nk : Cond → Bool
  | .fieldLinkNest _ _ _ _ _ _ => true
  | .methodLinkNest _ _ _ _ => true
  | .arrayOver (.object _) => true
  | _ => false
def tf_Ts : List Cond := lw_tbl.filter goodWord
def tf_NW : List Cond := tables_1.filter tf_nk
theorem tf_mem (i : Nat) {w : Cond} (h : tables_1[i]? = some w) (hg : goodWord w = true) : w ∈ tf_Ts := List.mem_filter.mpr ⟨List.mem_append_right _ (List.mem_of_getElem? h), hg⟩
theorem tf_memN (i : Nat) {w : Cond} (h : tables_1[i]? = some w) (hg : tf_nk w = true) : w ∈ tf_NW := List.mem_filter.mpr ⟨List.mem_of_getElem? h, hg⟩
theorem tf_memP (i : Nat) {w : Cond} (h : (k2_sels lw_privs)[i]? = some w) (hg : goodWord w = true) : w ∈ tf_Ts := List.mem_filter.mpr ⟨List.mem_append_left _ (List.mem_of_getElem? h), hg⟩
theorem tf_memL (is : List Nat) {ws : List Cond} (h : is.filterMap (fun i => tables_1[i]?) = ws) (hg : ws.all goodWord = true) : ∀ w ∈ ws, w ∈ tf_Ts := by
  intro w hw
  have h1 := List.all_eq_true.mp hg w hw
  rw [← h] at hw
  obtain ⟨i, -, hi⟩ := List.mem_filterMap.mp hw
  exact tf_mem i hi h1
end
section
theorem w_39 : Cond.classLink "TypeFoundry" 9 "TypeFoundry$Blend" ∈ tf_Ts := tf_mem 39 (by decide +kernel) rfl
theorem w_40 : Cond.instantiable "TypeFoundry$Blend" 3 ∈ tf_Ts := tf_mem 40 (by decide +kernel) rfl
theorem w_2 : Cond.initialized "TypeFoundry$Blend" ∈ tf_Ts := tf_mem 2 (by decide +kernel) rfl
theorem w_41 : Cond.methodLink "TypeFoundry" 11 (⟨"TypeFoundry$Blend", "<init>", "(I)V"⟩ : MethodName) ∈ tf_Ts := tf_mem 41 (by decide +kernel) rfl
theorem w_43 : Cond.code (⟨"TypeFoundry$Blend", "<init>", "(I)V"⟩ : MethodName) prog_2_method_1_code 2 none ∈ tf_Ts := tf_mem 43 (by decide +kernel) rfl
theorem w_42 : Cond.instanceMethod (⟨"TypeFoundry$Blend", "<init>", "(I)V"⟩ : MethodName) ∈ tf_Ts := tf_mem 42 (by decide +kernel) rfl
theorem w_206 : Cond.fieldLink "TypeFoundry" 14 "TypeFoundry" "blend" "LTypeFoundry$Blend;" ∈ tf_Ts := tf_mem 206 (by decide +kernel) rfl
theorem w_207 : Cond.fieldLink "TypeFoundry" 20 "TypeFoundry" "glyphs" "[LTypeFoundry$Glyph;" ∈ tf_Ts := tf_mem 207 (by decide +kernel) rfl
theorem w_58 : Cond.classLink "TypeFoundry" 24 "TypeFoundry$Outline" ∈ tf_Ts := tf_mem 58 (by decide +kernel) rfl
theorem w_59 : Cond.instantiable "TypeFoundry$Outline" 7 ∈ tf_Ts := tf_mem 59 (by decide +kernel) rfl
theorem w_3 : Cond.initialized "TypeFoundry$Outline" ∈ tf_Ts := tf_mem 3 (by decide +kernel) rfl
theorem w_60 : Cond.methodLinkNest "TypeFoundry" 26 (⟨"TypeFoundry$Outline", "<init>", "()V"⟩ : MethodName) "TypeFoundry" ∈ tf_NW := tf_memN 60 (by decide +kernel) rfl
theorem w_62 : Cond.code (⟨"TypeFoundry$Outline", "<init>", "()V"⟩ : MethodName) prog_7_method_1_code 1 none ∈ tf_Ts := tf_mem 62 (by decide +kernel) rfl
theorem w_61 : Cond.instanceMethod (⟨"TypeFoundry$Outline", "<init>", "()V"⟩ : MethodName) ∈ tf_Ts := tf_mem 61 (by decide +kernel) rfl
theorem w_208 : Cond.fieldLink "TypeFoundry" 27 "TypeFoundry" "gathered" "LTypeFoundry$Outline;" ∈ tf_Ts := tf_mem 208 (by decide +kernel) rfl
theorem w_93 : Cond.classLink "TypeFoundry" 31 "TypeFoundry$Path" ∈ tf_Ts := tf_mem 93 (by decide +kernel) rfl
theorem w_94 : Cond.instantiable "TypeFoundry$Path" 3 ∈ tf_Ts := tf_mem 94 (by decide +kernel) rfl
theorem w_4 : Cond.initialized "TypeFoundry$Path" ∈ tf_Ts := tf_mem 4 (by decide +kernel) rfl
theorem w_95 : Cond.methodLinkNest "TypeFoundry" 33 (⟨"TypeFoundry$Path", "<init>", "()V"⟩ : MethodName) "TypeFoundry" ∈ tf_NW := tf_memN 95 (by decide +kernel) rfl
theorem w_97 : Cond.code (⟨"TypeFoundry$Path", "<init>", "()V"⟩ : MethodName) prog_9_method_1_code 1 none ∈ tf_Ts := tf_mem 97 (by decide +kernel) rfl
theorem w_96 : Cond.instanceMethod (⟨"TypeFoundry$Path", "<init>", "()V"⟩ : MethodName) ∈ tf_Ts := tf_mem 96 (by decide +kernel) rfl
theorem w_209 : Cond.fieldLink "TypeFoundry" 34 "TypeFoundry" "path" "LTypeFoundry$Path;" ∈ tf_Ts := tf_mem 209 (by decide +kernel) rfl
theorem w_112 : Cond.classLink "TypeFoundry" 38 "TypeFoundry$Heights" ∈ tf_Ts := tf_mem 112 (by decide +kernel) rfl
theorem w_113 : Cond.instantiable "TypeFoundry$Heights" 2 ∈ tf_Ts := tf_mem 113 (by decide +kernel) rfl
theorem w_5 : Cond.initialized "TypeFoundry$Heights" ∈ tf_Ts := tf_mem 5 (by decide +kernel) rfl
theorem w_114 : Cond.methodLinkNest "TypeFoundry" 40 (⟨"TypeFoundry$Heights", "<init>", "()V"⟩ : MethodName) "TypeFoundry" ∈ tf_NW := tf_memN 114 (by decide +kernel) rfl
theorem w_116 : Cond.code (⟨"TypeFoundry$Heights", "<init>", "()V"⟩ : MethodName) prog_5_method_1_code 1 none ∈ tf_Ts := tf_mem 116 (by decide +kernel) rfl
theorem w_115 : Cond.instanceMethod (⟨"TypeFoundry$Heights", "<init>", "()V"⟩ : MethodName) ∈ tf_Ts := tf_mem 115 (by decide +kernel) rfl
theorem w_210 : Cond.fieldLink "TypeFoundry" 41 "TypeFoundry" "heights" "LTypeFoundry$Heights;" ∈ tf_Ts := tf_mem 210 (by decide +kernel) rfl
theorem w_126 : Cond.classLink "TypeFoundry" 45 "TypeFoundry$Canvas" ∈ tf_Ts := tf_mem 126 (by decide +kernel) rfl
theorem w_127 : Cond.instantiable "TypeFoundry$Canvas" 3 ∈ tf_Ts := tf_mem 127 (by decide +kernel) rfl
theorem w_6 : Cond.initialized "TypeFoundry$Canvas" ∈ tf_Ts := tf_mem 6 (by decide +kernel) rfl
theorem w_128 : Cond.methodLinkNest "TypeFoundry" 47 (⟨"TypeFoundry$Canvas", "<init>", "()V"⟩ : MethodName) "TypeFoundry" ∈ tf_NW := tf_memN 128 (by decide +kernel) rfl
theorem w_130 : Cond.code (⟨"TypeFoundry$Canvas", "<init>", "()V"⟩ : MethodName) prog_3_method_1_code 1 none ∈ tf_Ts := tf_mem 130 (by decide +kernel) rfl
theorem w_129 : Cond.instanceMethod (⟨"TypeFoundry$Canvas", "<init>", "()V"⟩ : MethodName) ∈ tf_Ts := tf_mem 129 (by decide +kernel) rfl
theorem w_211 : Cond.fieldLink "TypeFoundry" 48 "TypeFoundry" "canvas" "LTypeFoundry$Canvas;" ∈ tf_Ts := tf_mem 211 (by decide +kernel) rfl
theorem w_142 : Cond.classLink "TypeFoundry" 52 "TypeFoundry$Kerning" ∈ tf_Ts := tf_mem 142 (by decide +kernel) rfl
theorem w_143 : Cond.instantiable "TypeFoundry$Kerning" 7 ∈ tf_Ts := tf_mem 143 (by decide +kernel) rfl
theorem w_7 : Cond.initialized "TypeFoundry$Kerning" ∈ tf_Ts := tf_mem 7 (by decide +kernel) rfl
theorem w_144 : Cond.methodLinkNest "TypeFoundry" 54 (⟨"TypeFoundry$Kerning", "<init>", "()V"⟩ : MethodName) "TypeFoundry" ∈ tf_NW := tf_memN 144 (by decide +kernel) rfl
theorem w_146 : Cond.code (⟨"TypeFoundry$Kerning", "<init>", "()V"⟩ : MethodName) prog_6_method_1_code 1 none ∈ tf_Ts := tf_mem 146 (by decide +kernel) rfl
theorem w_145 : Cond.instanceMethod (⟨"TypeFoundry$Kerning", "<init>", "()V"⟩ : MethodName) ∈ tf_Ts := tf_mem 145 (by decide +kernel) rfl
theorem w_212 : Cond.fieldLink "TypeFoundry" 55 "TypeFoundry" "kerning" "LTypeFoundry$Kerning;" ∈ tf_Ts := tf_mem 212 (by decide +kernel) rfl
theorem w_171 : Cond.classLink "TypeFoundry" 59 "TypeFoundry$Setter" ∈ tf_Ts := tf_mem 171 (by decide +kernel) rfl
theorem w_172 : Cond.instantiable "TypeFoundry$Setter" 7 ∈ tf_Ts := tf_mem 172 (by decide +kernel) rfl
theorem w_8 : Cond.initialized "TypeFoundry$Setter" ∈ tf_Ts := tf_mem 8 (by decide +kernel) rfl
theorem w_173 : Cond.methodLinkNest "TypeFoundry" 61 (⟨"TypeFoundry$Setter", "<init>", "()V"⟩ : MethodName) "TypeFoundry" ∈ tf_NW := tf_memN 173 (by decide +kernel) rfl
theorem w_175 : Cond.code (⟨"TypeFoundry$Setter", "<init>", "()V"⟩ : MethodName) prog_11_method_1_code 1 none ∈ tf_Ts := tf_mem 175 (by decide +kernel) rfl
theorem w_174 : Cond.instanceMethod (⟨"TypeFoundry$Setter", "<init>", "()V"⟩ : MethodName) ∈ tf_Ts := tf_mem 174 (by decide +kernel) rfl
theorem w_213 : Cond.fieldLink "TypeFoundry" 62 "TypeFoundry" "setter" "LTypeFoundry$Setter;" ∈ tf_Ts := tf_mem 213 (by decide +kernel) rfl
theorem w_35 : Cond.code (⟨"TypeFoundry", "<init>", "(I)V"⟩ : MethodName) prog_1_method_1_code 2 none ∈ tf_Ts := tf_mem 35 (by decide +kernel) rfl
theorem w_214 : Cond.fieldLink "TypeFoundry" 66 "TypeFoundry" "glyphCount" "I" ∈ tf_Ts := tf_mem 214 (by decide +kernel) rfl
theorem w_56 : Cond.classLink "TypeFoundry" 18 "TypeFoundry$Glyph" ∈ tf_Ts := tf_mem 56 (by decide +kernel) rfl
theorem w_447 : Cond.instantiable "TypeFoundry$Glyph" 15 ∈ tf_Ts := tf_mem 447 (by decide +kernel) rfl
theorem w_14 : Cond.initialized "TypeFoundry$Glyph" ∈ tf_Ts := tf_mem 14 (by decide +kernel) rfl
theorem w_46 : Cond.fieldLink "TypeFoundry" 77 "TypeFoundry$Blend" "masters" "I" ∈ tf_Ts := tf_mem 46 (by decide +kernel) rfl
theorem w_448 : Cond.methodLink "TypeFoundry" 80 (⟨"TypeFoundry$Glyph", "<init>", "(I)V"⟩ : MethodName) ∈ tf_Ts := tf_mem 448 (by decide +kernel) rfl
theorem w_450 : Cond.code (⟨"TypeFoundry$Glyph", "<init>", "(I)V"⟩ : MethodName) prog_4_method_1_code 2 none ∈ tf_Ts := tf_mem 450 (by decide +kernel) rfl
theorem w_449 : Cond.instanceMethod (⟨"TypeFoundry$Glyph", "<init>", "(I)V"⟩ : MethodName) ∈ tf_Ts := tf_mem 449 (by decide +kernel) rfl
theorem w_377 : Cond.code (⟨"TypeFoundry", "glyph", "()I"⟩ : MethodName) prog_1_method_2_code 1 (some (.int)) ∈ tf_Ts := tf_mem 377 (by decide +kernel) rfl
theorem w_238 : Cond.methodLink "TypeFoundry" 81 (⟨"TypeFoundry", "find", "(I)LTypeFoundry$Glyph;"⟩ : MethodName) ∈ tf_Ts := tf_mem 238 (by decide +kernel) rfl
theorem w_241 : Cond.code (⟨"TypeFoundry", "find", "(I)LTypeFoundry$Glyph;"⟩ : MethodName) prog_1_method_21_code 2 (some (.object "TypeFoundry$Glyph")) ∈ tf_Ts := tf_mem 241 (by decide +kernel) rfl
theorem w_1 : Cond.initialized "TypeFoundry" ∈ tf_Ts := tf_mem 1 (by decide +kernel) rfl
theorem w_240 : Cond.instanceMethod (⟨"TypeFoundry", "find", "(I)LTypeFoundry$Glyph;"⟩ : MethodName) ∈ tf_Ts := tf_mem 240 (by decide +kernel) rfl
theorem wp_0 : Cond.selects "TypeFoundry" (⟨"TypeFoundry", "find", "(I)LTypeFoundry$Glyph;"⟩ : MethodName) (⟨"TypeFoundry", "find", "(I)LTypeFoundry$Glyph;"⟩ : MethodName) ∈ tf_Ts := tf_memP 0 (by decide +kernel) rfl
theorem w_518 : Cond.methodLink "TypeFoundry" 85 (⟨"TypeFoundry", "isPlace", "(II)Z"⟩ : MethodName) ∈ tf_Ts := tf_mem 518 (by decide +kernel) rfl
theorem w_520 : Cond.code (⟨"TypeFoundry", "isPlace", "(II)Z"⟩ : MethodName) prog_1_method_25_code 2 (some (.boolean)) ∈ tf_Ts := tf_mem 520 (by decide +kernel) rfl
theorem w_519 : Cond.static (⟨"TypeFoundry", "isPlace", "(II)Z"⟩ : MethodName) ∈ tf_Ts := tf_mem 519 (by decide +kernel) rfl
theorem w_472 : Cond.fieldLink "TypeFoundry" 94 "TypeFoundry$Glyph" "locked" "Z" ∈ tf_Ts := tf_mem 472 (by decide +kernel) rfl
theorem w_467 : Cond.fieldLink "TypeFoundry" 98 "TypeFoundry$Glyph" "points" "I" ∈ tf_Ts := tf_mem 467 (by decide +kernel) rfl
theorem w_538 : Cond.methodLink "TypeFoundry" 103 (⟨"TypeFoundry$Glyph", "addPoint", "(IIZ)I"⟩ : MethodName) ∈ tf_Ts := tf_mem 538 (by decide +kernel) rfl
theorem w_541 : Cond.code (⟨"TypeFoundry$Glyph", "addPoint", "(IIZ)I"⟩ : MethodName) prog_4_method_2_code 5 (some (.int)) ∈ tf_Ts := tf_mem 541 (by decide +kernel) rfl
theorem w_539 : Cond.instanceMethod (⟨"TypeFoundry$Glyph", "addPoint", "(IIZ)I"⟩ : MethodName) ∈ tf_Ts := tf_mem 539 (by decide +kernel) rfl
theorem w_540 : Cond.selects "TypeFoundry$Glyph" (⟨"TypeFoundry$Glyph", "addPoint", "(IIZ)I"⟩ : MethodName) (⟨"TypeFoundry$Glyph", "addPoint", "(IIZ)I"⟩ : MethodName) ∈ tf_Ts := tf_mem 540 (by decide +kernel) rfl
theorem w_517 : Cond.code (⟨"TypeFoundry", "point", "(IIIZ)I"⟩ : MethodName) prog_1_method_3_code 6 (some (.int)) ∈ tf_Ts := tf_mem 517 (by decide +kernel) rfl
theorem w_245 : Cond.methodLink "TypeFoundry" 107 (⟨"TypeFoundry$Glyph", "endContour", "()Z"⟩ : MethodName) ∈ tf_Ts := tf_mem 245 (by decide +kernel) rfl
theorem w_248 : Cond.code (⟨"TypeFoundry$Glyph", "endContour", "()Z"⟩ : MethodName) prog_4_method_4_code 1 (some (.boolean)) ∈ tf_Ts := tf_mem 248 (by decide +kernel) rfl
theorem w_246 : Cond.instanceMethod (⟨"TypeFoundry$Glyph", "endContour", "()Z"⟩ : MethodName) ∈ tf_Ts := tf_mem 246 (by decide +kernel) rfl
theorem w_247 : Cond.selects "TypeFoundry$Glyph" (⟨"TypeFoundry$Glyph", "endContour", "()Z"⟩ : MethodName) (⟨"TypeFoundry$Glyph", "endContour", "()Z"⟩ : MethodName) ∈ tf_Ts := tf_mem 247 (by decide +kernel) rfl
theorem w_237 : Cond.code (⟨"TypeFoundry", "close", "(I)Z"⟩ : MethodName) prog_1_method_4_code 3 (some (.boolean)) ∈ tf_Ts := tf_mem 237 (by decide +kernel) rfl
theorem w_242 : Cond.methodLink "TypeFoundry" 111 (⟨"TypeFoundry", "within", "(III)Z"⟩ : MethodName) ∈ tf_Ts := tf_mem 242 (by decide +kernel) rfl
theorem w_244 : Cond.code (⟨"TypeFoundry", "within", "(III)Z"⟩ : MethodName) prog_1_method_29_code 3 (some (.boolean)) ∈ tf_Ts := tf_mem 244 (by decide +kernel) rfl
theorem w_243 : Cond.static (⟨"TypeFoundry", "within", "(III)Z"⟩ : MethodName) ∈ tf_Ts := tf_mem 243 (by decide +kernel) rfl
theorem w_253 : Cond.methodLink "TypeFoundry" 115 (⟨"TypeFoundry$Blend", "hasMaster", "(I)Z"⟩ : MethodName) ∈ tf_Ts := tf_mem 253 (by decide +kernel) rfl
theorem w_256 : Cond.code (⟨"TypeFoundry$Blend", "hasMaster", "(I)Z"⟩ : MethodName) prog_2_method_2_code 2 (some (.boolean)) ∈ tf_Ts := tf_mem 256 (by decide +kernel) rfl
theorem w_254 : Cond.instanceMethod (⟨"TypeFoundry$Blend", "hasMaster", "(I)Z"⟩ : MethodName) ∈ tf_Ts := tf_mem 254 (by decide +kernel) rfl
theorem w_255 : Cond.selects "TypeFoundry$Blend" (⟨"TypeFoundry$Blend", "hasMaster", "(I)Z"⟩ : MethodName) (⟨"TypeFoundry$Blend", "hasMaster", "(I)Z"⟩ : MethodName) ∈ tf_Ts := tf_mem 255 (by decide +kernel) rfl
theorem w_571 : Cond.methodLink "TypeFoundry" 126 (⟨"TypeFoundry$Glyph", "movePoint", "(IIII)V"⟩ : MethodName) ∈ tf_Ts := tf_mem 571 (by decide +kernel) rfl
theorem w_545 : Cond.code (⟨"TypeFoundry$Glyph", "movePoint", "(IIII)V"⟩ : MethodName) prog_4_method_3_code 5 none ∈ tf_Ts := tf_mem 545 (by decide +kernel) rfl
theorem w_543 : Cond.instanceMethod (⟨"TypeFoundry$Glyph", "movePoint", "(IIII)V"⟩ : MethodName) ∈ tf_Ts := tf_mem 543 (by decide +kernel) rfl
theorem w_544 : Cond.selects "TypeFoundry$Glyph" (⟨"TypeFoundry$Glyph", "movePoint", "(IIII)V"⟩ : MethodName) (⟨"TypeFoundry$Glyph", "movePoint", "(IIII)V"⟩ : MethodName) ∈ tf_Ts := tf_mem 544 (by decide +kernel) rfl
theorem w_553 : Cond.code (⟨"TypeFoundry", "place", "(IIIII)V"⟩ : MethodName) prog_1_method_5_code 7 none ∈ tf_Ts := tf_mem 553 (by decide +kernel) rfl
theorem w_579 : Cond.methodLink "TypeFoundry" 130 (⟨"TypeFoundry", "isShift", "(II)Z"⟩ : MethodName) ∈ tf_Ts := tf_mem 579 (by decide +kernel) rfl
theorem w_581 : Cond.code (⟨"TypeFoundry", "isShift", "(II)Z"⟩ : MethodName) prog_1_method_26_code 2 (some (.boolean)) ∈ tf_Ts := tf_mem 581 (by decide +kernel) rfl
theorem w_580 : Cond.static (⟨"TypeFoundry", "isShift", "(II)Z"⟩ : MethodName) ∈ tf_Ts := tf_mem 580 (by decide +kernel) rfl
theorem w_583 : Cond.methodLink "TypeFoundry" 135 (⟨"TypeFoundry$Glyph", "hasRoomFor", "(LTypeFoundry$Glyph;)Z"⟩ : MethodName) ∈ tf_Ts := tf_mem 583 (by decide +kernel) rfl
theorem w_586 : Cond.code (⟨"TypeFoundry$Glyph", "hasRoomFor", "(LTypeFoundry$Glyph;)Z"⟩ : MethodName) prog_4_method_5_code 2 (some (.boolean)) ∈ tf_Ts := tf_mem 586 (by decide +kernel) rfl
theorem w_584 : Cond.instanceMethod (⟨"TypeFoundry$Glyph", "hasRoomFor", "(LTypeFoundry$Glyph;)Z"⟩ : MethodName) ∈ tf_Ts := tf_mem 584 (by decide +kernel) rfl
theorem w_585 : Cond.selects "TypeFoundry$Glyph" (⟨"TypeFoundry$Glyph", "hasRoomFor", "(LTypeFoundry$Glyph;)Z"⟩ : MethodName) (⟨"TypeFoundry$Glyph", "hasRoomFor", "(LTypeFoundry$Glyph;)Z"⟩ : MethodName) ∈ tf_Ts := tf_mem 585 (by decide +kernel) rfl
theorem w_592 : Cond.classLink "TypeFoundry" 141 "TypeFoundry$Part" ∈ tf_Ts := tf_mem 592 (by decide +kernel) rfl
theorem w_593 : Cond.instantiable "TypeFoundry$Part" 4 ∈ tf_Ts := tf_mem 593 (by decide +kernel) rfl
theorem w_17 : Cond.initialized "TypeFoundry$Part" ∈ tf_Ts := tf_mem 17 (by decide +kernel) rfl
theorem w_594 : Cond.methodLink "TypeFoundry" 143 (⟨"TypeFoundry$Part", "<init>", "(LTypeFoundry$Glyph;III)V"⟩ : MethodName) ∈ tf_Ts := tf_mem 594 (by decide +kernel) rfl
theorem w_596 : Cond.code (⟨"TypeFoundry$Part", "<init>", "(LTypeFoundry$Glyph;III)V"⟩ : MethodName) prog_8_method_1_code 5 none ∈ tf_Ts := tf_mem 596 (by decide +kernel) rfl
theorem w_595 : Cond.instanceMethod (⟨"TypeFoundry$Part", "<init>", "(LTypeFoundry$Glyph;III)V"⟩ : MethodName) ∈ tf_Ts := tf_mem 595 (by decide +kernel) rfl
theorem w_616 : Cond.methodLink "TypeFoundry" 146 (⟨"TypeFoundry$Glyph", "addPart", "(LTypeFoundry$Part;)V"⟩ : MethodName) ∈ tf_Ts := tf_mem 616 (by decide +kernel) rfl
theorem w_619 : Cond.code (⟨"TypeFoundry$Glyph", "addPart", "(LTypeFoundry$Part;)V"⟩ : MethodName) prog_4_method_6_code 3 none ∈ tf_Ts := tf_mem 619 (by decide +kernel) rfl
theorem w_617 : Cond.instanceMethod (⟨"TypeFoundry$Glyph", "addPart", "(LTypeFoundry$Part;)V"⟩ : MethodName) ∈ tf_Ts := tf_mem 617 (by decide +kernel) rfl
theorem w_618 : Cond.selects "TypeFoundry$Glyph" (⟨"TypeFoundry$Glyph", "addPart", "(LTypeFoundry$Part;)V"⟩ : MethodName) (⟨"TypeFoundry$Glyph", "addPart", "(LTypeFoundry$Part;)V"⟩ : MethodName) ∈ tf_Ts := tf_mem 618 (by decide +kernel) rfl
theorem w_578 : Cond.code (⟨"TypeFoundry", "component", "(IIIII)V"⟩ : MethodName) prog_1_method_6_code 8 none ∈ tf_Ts := tf_mem 578 (by decide +kernel) rfl
theorem w_459 : Cond.fieldLink "TypeFoundry" 150 "TypeFoundry$Glyph" "widths" "[I" ∈ tf_Ts := tf_mem 459 (by decide +kernel) rfl
theorem w_252 : Cond.code (⟨"TypeFoundry", "advance", "(III)Z"⟩ : MethodName) prog_1_method_7_code 5 (some (.boolean)) ∈ tf_Ts := tf_mem 252 (by decide +kernel) rfl
theorem w_262 : Cond.methodLink "TypeFoundry" 154 (⟨"TypeFoundry$Blend", "set", "(II)V"⟩ : MethodName) ∈ tf_Ts := tf_mem 262 (by decide +kernel) rfl
theorem w_265 : Cond.code (⟨"TypeFoundry$Blend", "set", "(II)V"⟩ : MethodName) prog_2_method_3_code 3 none ∈ tf_Ts := tf_mem 265 (by decide +kernel) rfl
theorem w_263 : Cond.instanceMethod (⟨"TypeFoundry$Blend", "set", "(II)V"⟩ : MethodName) ∈ tf_Ts := tf_mem 263 (by decide +kernel) rfl
theorem w_264 : Cond.selects "TypeFoundry$Blend" (⟨"TypeFoundry$Blend", "set", "(II)V"⟩ : MethodName) (⟨"TypeFoundry$Blend", "set", "(II)V"⟩ : MethodName) ∈ tf_Ts := tf_mem 264 (by decide +kernel) rfl
theorem w_261 : Cond.code (⟨"TypeFoundry", "instance", "(II)Z"⟩ : MethodName) prog_1_method_8_code 3 (some (.boolean)) ∈ tf_Ts := tf_mem 261 (by decide +kernel) rfl
theorem w_632 : Cond.methodLink "TypeFoundry" 158 (⟨"TypeFoundry$Glyph", "outlinePoints", "()I"⟩ : MethodName) ∈ tf_Ts := tf_mem 632 (by decide +kernel) rfl
theorem w_590 : Cond.code (⟨"TypeFoundry$Glyph", "outlinePoints", "()I"⟩ : MethodName) prog_4_method_7_code 1 (some (.int)) ∈ tf_Ts := tf_mem 590 (by decide +kernel) rfl
theorem w_588 : Cond.instanceMethod (⟨"TypeFoundry$Glyph", "outlinePoints", "()I"⟩ : MethodName) ∈ tf_Ts := tf_mem 588 (by decide +kernel) rfl
theorem w_589 : Cond.selects "TypeFoundry$Glyph" (⟨"TypeFoundry$Glyph", "outlinePoints", "()I"⟩ : MethodName) (⟨"TypeFoundry$Glyph", "outlinePoints", "()I"⟩ : MethodName) ∈ tf_Ts := tf_mem 589 (by decide +kernel) rfl
theorem w_634 : Cond.methodLink "TypeFoundry" 164 (⟨"TypeFoundry", "ofWholeOutline", "(LTypeFoundry$Glyph;I)I"⟩ : MethodName) ∈ tf_Ts := tf_mem 634 (by decide +kernel) rfl
theorem w_637 : Cond.code (⟨"TypeFoundry", "ofWholeOutline", "(LTypeFoundry$Glyph;I)I"⟩ : MethodName) prog_1_method_22_code 3 (some (.int)) ∈ tf_Ts := tf_mem 637 (by decide +kernel) rfl
theorem w_636 : Cond.instanceMethod (⟨"TypeFoundry", "ofWholeOutline", "(LTypeFoundry$Glyph;I)I"⟩ : MethodName) ∈ tf_Ts := tf_mem 636 (by decide +kernel) rfl
theorem wp_6 : Cond.selects "TypeFoundry" (⟨"TypeFoundry", "ofWholeOutline", "(LTypeFoundry$Glyph;I)I"⟩ : MethodName) (⟨"TypeFoundry", "ofWholeOutline", "(LTypeFoundry$Glyph;I)I"⟩ : MethodName) ∈ tf_Ts := tf_memP 6 (by decide +kernel) rfl
theorem w_655 : Cond.methodLink "TypeFoundry" 168 (⟨"TypeFoundry$Outline", "become", "(LTypeFoundry$Glyph;LTypeFoundry$Blend;)V"⟩ : MethodName) ∈ tf_Ts := tf_mem 655 (by decide +kernel) rfl
theorem w_658 : Cond.code (⟨"TypeFoundry$Outline", "become", "(LTypeFoundry$Glyph;LTypeFoundry$Blend;)V"⟩ : MethodName) prog_7_method_2_code 3 none ∈ tf_Ts := tf_mem 658 (by decide +kernel) rfl
theorem w_656 : Cond.instanceMethod (⟨"TypeFoundry$Outline", "become", "(LTypeFoundry$Glyph;LTypeFoundry$Blend;)V"⟩ : MethodName) ∈ tf_Ts := tf_mem 656 (by decide +kernel) rfl
theorem w_657 : Cond.selects "TypeFoundry$Outline" (⟨"TypeFoundry$Outline", "become", "(LTypeFoundry$Glyph;LTypeFoundry$Blend;)V"⟩ : MethodName) (⟨"TypeFoundry$Outline", "become", "(LTypeFoundry$Glyph;LTypeFoundry$Blend;)V"⟩ : MethodName) ∈ tf_Ts := tf_mem 657 (by decide +kernel) rfl
theorem w_684 : Cond.methodLink "TypeFoundry" 172 (⟨"TypeFoundry$Outline", "ofPoint", "(II)I"⟩ : MethodName) ∈ tf_Ts := tf_mem 684 (by decide +kernel) rfl
theorem w_687 : Cond.code (⟨"TypeFoundry$Outline", "ofPoint", "(II)I"⟩ : MethodName) prog_7_method_3_code 3 (some (.int)) ∈ tf_Ts := tf_mem 687 (by decide +kernel) rfl
theorem w_685 : Cond.instanceMethod (⟨"TypeFoundry$Outline", "ofPoint", "(II)I"⟩ : MethodName) ∈ tf_Ts := tf_mem 685 (by decide +kernel) rfl
theorem w_686 : Cond.selects "TypeFoundry$Outline" (⟨"TypeFoundry$Outline", "ofPoint", "(II)I"⟩ : MethodName) (⟨"TypeFoundry$Outline", "ofPoint", "(II)I"⟩ : MethodName) ∈ tf_Ts := tf_mem 686 (by decide +kernel) rfl
theorem w_631 : Cond.code (⟨"TypeFoundry", "outline", "(III)I"⟩ : MethodName) prog_1_method_9_code 5 (some (.int)) ∈ tf_Ts := tf_mem 631 (by decide +kernel) rfl
theorem w_270 : Cond.methodLink "TypeFoundry" 176 (⟨"TypeFoundry$Heights", "add", "(I)Z"⟩ : MethodName) ∈ tf_Ts := tf_mem 270 (by decide +kernel) rfl
theorem w_273 : Cond.code (⟨"TypeFoundry$Heights", "add", "(I)Z"⟩ : MethodName) prog_5_method_2_code 4 (some (.boolean)) ∈ tf_Ts := tf_mem 273 (by decide +kernel) rfl
theorem w_271 : Cond.instanceMethod (⟨"TypeFoundry$Heights", "add", "(I)Z"⟩ : MethodName) ∈ tf_Ts := tf_mem 271 (by decide +kernel) rfl
theorem w_272 : Cond.selects "TypeFoundry$Heights" (⟨"TypeFoundry$Heights", "add", "(I)Z"⟩ : MethodName) (⟨"TypeFoundry$Heights", "add", "(I)Z"⟩ : MethodName) ∈ tf_Ts := tf_mem 272 (by decide +kernel) rfl
theorem w_269 : Cond.code (⟨"TypeFoundry", "height", "(I)Z"⟩ : MethodName) prog_1_method_10_code 2 (some (.boolean)) ∈ tf_Ts := tf_mem 269 (by decide +kernel) rfl
theorem w_695 : Cond.methodLink "TypeFoundry" 179 (⟨"TypeFoundry", "isSide", "(I)Z"⟩ : MethodName) ∈ tf_Ts := tf_mem 695 (by decide +kernel) rfl
theorem w_697 : Cond.code (⟨"TypeFoundry", "isSide", "(I)Z"⟩ : MethodName) prog_1_method_27_code 1 (some (.boolean)) ∈ tf_Ts := tf_mem 697 (by decide +kernel) rfl
theorem w_696 : Cond.static (⟨"TypeFoundry", "isSide", "(I)Z"⟩ : MethodName) ∈ tf_Ts := tf_mem 696 (by decide +kernel) rfl
theorem w_699 : Cond.methodLink "TypeFoundry" 184 (⟨"TypeFoundry$Canvas", "start", "(I)V"⟩ : MethodName) ∈ tf_Ts := tf_mem 699 (by decide +kernel) rfl
theorem w_702 : Cond.code (⟨"TypeFoundry$Canvas", "start", "(I)V"⟩ : MethodName) prog_3_method_2_code 2 none ∈ tf_Ts := tf_mem 702 (by decide +kernel) rfl
theorem w_700 : Cond.instanceMethod (⟨"TypeFoundry$Canvas", "start", "(I)V"⟩ : MethodName) ∈ tf_Ts := tf_mem 700 (by decide +kernel) rfl
theorem w_701 : Cond.selects "TypeFoundry$Canvas" (⟨"TypeFoundry$Canvas", "start", "(I)V"⟩ : MethodName) (⟨"TypeFoundry$Canvas", "start", "(I)V"⟩ : MethodName) ∈ tf_Ts := tf_mem 701 (by decide +kernel) rfl
theorem w_73 : Cond.fieldLink "TypeFoundry" 187 "TypeFoundry$Outline" "contours" "I" ∈ tf_Ts := tf_mem 73 (by decide +kernel) rfl
theorem w_966 : Cond.methodLink "TypeFoundry" 190 (⟨"TypeFoundry$Path", "follow", "(LTypeFoundry$Outline;I)V"⟩ : MethodName) ∈ tf_Ts := tf_mem 966 (by decide +kernel) rfl
theorem w_969 : Cond.code (⟨"TypeFoundry$Path", "follow", "(LTypeFoundry$Outline;I)V"⟩ : MethodName) prog_9_method_2_code 7 none ∈ tf_Ts := tf_mem 969 (by decide +kernel) rfl
theorem w_967 : Cond.instanceMethod (⟨"TypeFoundry$Path", "follow", "(LTypeFoundry$Outline;I)V"⟩ : MethodName) ∈ tf_Ts := tf_mem 967 (by decide +kernel) rfl
theorem w_968 : Cond.selects "TypeFoundry$Path" (⟨"TypeFoundry$Path", "follow", "(LTypeFoundry$Outline;I)V"⟩ : MethodName) (⟨"TypeFoundry$Path", "follow", "(LTypeFoundry$Outline;I)V"⟩ : MethodName) ∈ tf_Ts := tf_mem 968 (by decide +kernel) rfl
theorem w_987 : Cond.methodLink "TypeFoundry" 194 (⟨"TypeFoundry$Path", "fit", "(LTypeFoundry$Heights;I)V"⟩ : MethodName) ∈ tf_Ts := tf_mem 987 (by decide +kernel) rfl
theorem w_990 : Cond.code (⟨"TypeFoundry$Path", "fit", "(LTypeFoundry$Heights;I)V"⟩ : MethodName) prog_9_method_3_code 4 none ∈ tf_Ts := tf_mem 990 (by decide +kernel) rfl
theorem w_988 : Cond.instanceMethod (⟨"TypeFoundry$Path", "fit", "(LTypeFoundry$Heights;I)V"⟩ : MethodName) ∈ tf_Ts := tf_mem 988 (by decide +kernel) rfl
theorem w_989 : Cond.selects "TypeFoundry$Path" (⟨"TypeFoundry$Path", "fit", "(LTypeFoundry$Heights;I)V"⟩ : MethodName) (⟨"TypeFoundry$Path", "fit", "(LTypeFoundry$Heights;I)V"⟩ : MethodName) ∈ tf_Ts := tf_mem 989 (by decide +kernel) rfl
theorem w_1002 : Cond.methodLink "TypeFoundry" 198 (⟨"TypeFoundry$Canvas", "addPath", "(LTypeFoundry$Path;)V"⟩ : MethodName) ∈ tf_Ts := tf_mem 1002 (by decide +kernel) rfl
theorem w_1005 : Cond.code (⟨"TypeFoundry$Canvas", "addPath", "(LTypeFoundry$Path;)V"⟩ : MethodName) prog_3_method_3_code 6 none ∈ tf_Ts := tf_mem 1005 (by decide +kernel) rfl
theorem w_1003 : Cond.instanceMethod (⟨"TypeFoundry$Canvas", "addPath", "(LTypeFoundry$Path;)V"⟩ : MethodName) ∈ tf_Ts := tf_mem 1003 (by decide +kernel) rfl
theorem w_1004 : Cond.selects "TypeFoundry$Canvas" (⟨"TypeFoundry$Canvas", "addPath", "(LTypeFoundry$Path;)V"⟩ : MethodName) (⟨"TypeFoundry$Canvas", "addPath", "(LTypeFoundry$Path;)V"⟩ : MethodName) ∈ tf_Ts := tf_mem 1004 (by decide +kernel) rfl
theorem w_1033 : Cond.methodLink "TypeFoundry" 202 (⟨"TypeFoundry$Canvas", "turnToGreys", "()I"⟩ : MethodName) ∈ tf_Ts := tf_mem 1033 (by decide +kernel) rfl
theorem w_1036 : Cond.code (⟨"TypeFoundry$Canvas", "turnToGreys", "()I"⟩ : MethodName) prog_3_method_4_code 6 (some (.int)) ∈ tf_Ts := tf_mem 1036 (by decide +kernel) rfl
theorem w_1034 : Cond.instanceMethod (⟨"TypeFoundry$Canvas", "turnToGreys", "()I"⟩ : MethodName) ∈ tf_Ts := tf_mem 1034 (by decide +kernel) rfl
theorem w_1035 : Cond.selects "TypeFoundry$Canvas" (⟨"TypeFoundry$Canvas", "turnToGreys", "()I"⟩ : MethodName) (⟨"TypeFoundry$Canvas", "turnToGreys", "()I"⟩ : MethodName) ∈ tf_Ts := tf_mem 1035 (by decide +kernel) rfl
theorem w_694 : Cond.code (⟨"TypeFoundry", "draw", "(IIZ)I"⟩ : MethodName) prog_1_method_11_code 6 (some (.int)) ∈ tf_Ts := tf_mem 694 (by decide +kernel) rfl
theorem w_278 : Cond.methodLink "TypeFoundry" 205 (⟨"TypeFoundry$Canvas", "greyAt", "(II)I"⟩ : MethodName) ∈ tf_Ts := tf_mem 278 (by decide +kernel) rfl
theorem w_281 : Cond.code (⟨"TypeFoundry$Canvas", "greyAt", "(II)I"⟩ : MethodName) prog_3_method_5_code 4 (some (.int)) ∈ tf_Ts := tf_mem 281 (by decide +kernel) rfl
theorem w_279 : Cond.instanceMethod (⟨"TypeFoundry$Canvas", "greyAt", "(II)I"⟩ : MethodName) ∈ tf_Ts := tf_mem 279 (by decide +kernel) rfl
theorem w_280 : Cond.selects "TypeFoundry$Canvas" (⟨"TypeFoundry$Canvas", "greyAt", "(II)I"⟩ : MethodName) (⟨"TypeFoundry$Canvas", "greyAt", "(II)I"⟩ : MethodName) ∈ tf_Ts := tf_mem 280 (by decide +kernel) rfl
theorem w_277 : Cond.code (⟨"TypeFoundry", "pixel", "(II)I"⟩ : MethodName) prog_1_method_12_code 3 (some (.int)) ∈ tf_Ts := tf_mem 277 (by decide +kernel) rfl
theorem w_287 : Cond.methodLink "TypeFoundry" 208 (⟨"TypeFoundry$Kerning", "setClass", "(III)V"⟩ : MethodName) ∈ tf_Ts := tf_mem 287 (by decide +kernel) rfl
theorem w_290 : Cond.code (⟨"TypeFoundry$Kerning", "setClass", "(III)V"⟩ : MethodName) prog_6_method_2_code 4 none ∈ tf_Ts := tf_mem 290 (by decide +kernel) rfl
theorem w_288 : Cond.instanceMethod (⟨"TypeFoundry$Kerning", "setClass", "(III)V"⟩ : MethodName) ∈ tf_Ts := tf_mem 288 (by decide +kernel) rfl
theorem w_289 : Cond.selects "TypeFoundry$Kerning" (⟨"TypeFoundry$Kerning", "setClass", "(III)V"⟩ : MethodName) (⟨"TypeFoundry$Kerning", "setClass", "(III)V"⟩ : MethodName) ∈ tf_Ts := tf_mem 289 (by decide +kernel) rfl
theorem w_286 : Cond.code (⟨"TypeFoundry", "sort", "(III)Z"⟩ : MethodName) prog_1_method_13_code 4 (some (.boolean)) ∈ tf_Ts := tf_mem 286 (by decide +kernel) rfl
theorem w_295 : Cond.methodLink "TypeFoundry" 212 (⟨"TypeFoundry", "isKerning", "(I)Z"⟩ : MethodName) ∈ tf_Ts := tf_mem 295 (by decide +kernel) rfl
theorem w_297 : Cond.code (⟨"TypeFoundry", "isKerning", "(I)Z"⟩ : MethodName) prog_1_method_28_code 1 (some (.boolean)) ∈ tf_Ts := tf_mem 297 (by decide +kernel) rfl
theorem w_296 : Cond.static (⟨"TypeFoundry", "isKerning", "(I)Z"⟩ : MethodName) ∈ tf_Ts := tf_mem 296 (by decide +kernel) rfl
theorem w_298 : Cond.methodLink "TypeFoundry" 215 (⟨"TypeFoundry$Kerning", "tellClasses", "(III)V"⟩ : MethodName) ∈ tf_Ts := tf_mem 298 (by decide +kernel) rfl
theorem w_301 : Cond.code (⟨"TypeFoundry$Kerning", "tellClasses", "(III)V"⟩ : MethodName) prog_6_method_3_code 4 none ∈ tf_Ts := tf_mem 301 (by decide +kernel) rfl
theorem w_299 : Cond.instanceMethod (⟨"TypeFoundry$Kerning", "tellClasses", "(III)V"⟩ : MethodName) ∈ tf_Ts := tf_mem 299 (by decide +kernel) rfl
theorem w_300 : Cond.selects "TypeFoundry$Kerning" (⟨"TypeFoundry$Kerning", "tellClasses", "(III)V"⟩ : MethodName) (⟨"TypeFoundry$Kerning", "tellClasses", "(III)V"⟩ : MethodName) ∈ tf_Ts := tf_mem 300 (by decide +kernel) rfl
theorem w_294 : Cond.code (⟨"TypeFoundry", "kern", "(III)Z"⟩ : MethodName) prog_1_method_14_code 4 (some (.boolean)) ∈ tf_Ts := tf_mem 294 (by decide +kernel) rfl
theorem w_306 : Cond.methodLink "TypeFoundry" 218 (⟨"TypeFoundry$Kerning", "tellPair", "(III)Z"⟩ : MethodName) ∈ tf_Ts := tf_mem 306 (by decide +kernel) rfl
theorem w_309 : Cond.code (⟨"TypeFoundry$Kerning", "tellPair", "(III)Z"⟩ : MethodName) prog_6_method_4_code 5 (some (.boolean)) ∈ tf_Ts := tf_mem 309 (by decide +kernel) rfl
theorem w_307 : Cond.instanceMethod (⟨"TypeFoundry$Kerning", "tellPair", "(III)Z"⟩ : MethodName) ∈ tf_Ts := tf_mem 307 (by decide +kernel) rfl
theorem w_308 : Cond.selects "TypeFoundry$Kerning" (⟨"TypeFoundry$Kerning", "tellPair", "(III)Z"⟩ : MethodName) (⟨"TypeFoundry$Kerning", "tellPair", "(III)Z"⟩ : MethodName) ∈ tf_Ts := tf_mem 308 (by decide +kernel) rfl
theorem w_305 : Cond.code (⟨"TypeFoundry", "pair", "(III)Z"⟩ : MethodName) prog_1_method_15_code 4 (some (.boolean)) ∈ tf_Ts := tf_mem 305 (by decide +kernel) rfl
theorem w_1050 : Cond.classLink "TypeFoundry" 221 "TypeFoundry$Rule" ∈ tf_Ts := tf_mem 1050 (by decide +kernel) rfl
theorem w_1051 : Cond.instantiable "TypeFoundry$Rule" 8 ∈ tf_Ts := tf_mem 1051 (by decide +kernel) rfl
theorem w_30 : Cond.initialized "TypeFoundry$Rule" ∈ tf_Ts := tf_mem 30 (by decide +kernel) rfl
theorem w_1052 : Cond.methodLink "TypeFoundry" 223 (⟨"TypeFoundry$Rule", "<init>", "(IJJJI)V"⟩ : MethodName) ∈ tf_Ts := tf_mem 1052 (by decide +kernel) rfl
theorem w_1054 : Cond.code (⟨"TypeFoundry$Rule", "<init>", "(IJJJI)V"⟩ : MethodName) prog_10_method_1_code 9 none ∈ tf_Ts := tf_mem 1054 (by decide +kernel) rfl
theorem w_1053 : Cond.instanceMethod (⟨"TypeFoundry$Rule", "<init>", "(IJJJI)V"⟩ : MethodName) ∈ tf_Ts := tf_mem 1053 (by decide +kernel) rfl
theorem w_1087 : Cond.methodLink "TypeFoundry" 226 (⟨"TypeFoundry$Rule", "isMadeOf", "(I)Z"⟩ : MethodName) ∈ tf_Ts := tf_mem 1087 (by decide +kernel) rfl
theorem w_1090 : Cond.code (⟨"TypeFoundry$Rule", "isMadeOf", "(I)Z"⟩ : MethodName) prog_10_method_2_code 2 (some (.boolean)) ∈ tf_Ts := tf_mem 1090 (by decide +kernel) rfl
theorem w_1088 : Cond.instanceMethod (⟨"TypeFoundry$Rule", "isMadeOf", "(I)Z"⟩ : MethodName) ∈ tf_Ts := tf_mem 1088 (by decide +kernel) rfl
theorem w_1089 : Cond.selects "TypeFoundry$Rule" (⟨"TypeFoundry$Rule", "isMadeOf", "(I)Z"⟩ : MethodName) (⟨"TypeFoundry$Rule", "isMadeOf", "(I)Z"⟩ : MethodName) ∈ tf_Ts := tf_mem 1089 (by decide +kernel) rfl
theorem w_186 : Cond.fieldLink "TypeFoundry" 231 "TypeFoundry$Setter" "ruleCount" "I" ∈ tf_Ts := tf_mem 186 (by decide +kernel) rfl
theorem w_1097 : Cond.methodLink "TypeFoundry" 236 (⟨"TypeFoundry$Setter", "addRule", "(LTypeFoundry$Rule;)I"⟩ : MethodName) ∈ tf_Ts := tf_mem 1097 (by decide +kernel) rfl
theorem w_1100 : Cond.code (⟨"TypeFoundry$Setter", "addRule", "(LTypeFoundry$Rule;)I"⟩ : MethodName) prog_11_method_2_code 2 (some (.int)) ∈ tf_Ts := tf_mem 1100 (by decide +kernel) rfl
theorem w_1098 : Cond.instanceMethod (⟨"TypeFoundry$Setter", "addRule", "(LTypeFoundry$Rule;)I"⟩ : MethodName) ∈ tf_Ts := tf_mem 1098 (by decide +kernel) rfl
theorem w_1099 : Cond.selects "TypeFoundry$Setter" (⟨"TypeFoundry$Setter", "addRule", "(LTypeFoundry$Rule;)I"⟩ : MethodName) (⟨"TypeFoundry$Setter", "addRule", "(LTypeFoundry$Rule;)I"⟩ : MethodName) ∈ tf_Ts := tf_mem 1099 (by decide +kernel) rfl
theorem w_1049 : Cond.code (⟨"TypeFoundry", "rule", "(IJJJI)I"⟩ : MethodName) prog_1_method_16_code 10 (some (.int)) ∈ tf_Ts := tf_mem 1049 (by decide +kernel) rfl
theorem w_321 : Cond.methodLink "TypeFoundry" 240 (⟨"TypeFoundry$Setter", "addToText", "(I)Z"⟩ : MethodName) ∈ tf_Ts := tf_mem 321 (by decide +kernel) rfl
theorem w_324 : Cond.code (⟨"TypeFoundry$Setter", "addToText", "(I)Z"⟩ : MethodName) prog_11_method_3_code 2 (some (.boolean)) ∈ tf_Ts := tf_mem 324 (by decide +kernel) rfl
theorem w_322 : Cond.instanceMethod (⟨"TypeFoundry$Setter", "addToText", "(I)Z"⟩ : MethodName) ∈ tf_Ts := tf_mem 322 (by decide +kernel) rfl
theorem w_323 : Cond.selects "TypeFoundry$Setter" (⟨"TypeFoundry$Setter", "addToText", "(I)Z"⟩ : MethodName) (⟨"TypeFoundry$Setter", "addToText", "(I)Z"⟩ : MethodName) ∈ tf_Ts := tf_mem 323 (by decide +kernel) rfl
theorem w_320 : Cond.code (⟨"TypeFoundry", "type", "(I)Z"⟩ : MethodName) prog_1_method_17_code 2 (some (.boolean)) ∈ tf_Ts := tf_mem 320 (by decide +kernel) rfl
theorem w_329 : Cond.methodLink "TypeFoundry" 243 (⟨"TypeFoundry$Setter", "setRow", "()I"⟩ : MethodName) ∈ tf_Ts := tf_mem 329 (by decide +kernel) rfl
theorem w_332 : Cond.code (⟨"TypeFoundry$Setter", "setRow", "()I"⟩ : MethodName) prog_11_method_4_code 2 (some (.int)) ∈ tf_Ts := tf_mem 332 (by decide +kernel) rfl
theorem w_330 : Cond.instanceMethod (⟨"TypeFoundry$Setter", "setRow", "()I"⟩ : MethodName) ∈ tf_Ts := tf_mem 330 (by decide +kernel) rfl
theorem w_331 : Cond.selects "TypeFoundry$Setter" (⟨"TypeFoundry$Setter", "setRow", "()I"⟩ : MethodName) (⟨"TypeFoundry$Setter", "setRow", "()I"⟩ : MethodName) ∈ tf_Ts := tf_mem 331 (by decide +kernel) rfl
theorem w_328 : Cond.code (⟨"TypeFoundry", "shape", "()I"⟩ : MethodName) prog_1_method_18_code 1 (some (.int)) ∈ tf_Ts := tf_mem 328 (by decide +kernel) rfl
theorem w_182 : Cond.fieldLink "TypeFoundry" 246 "TypeFoundry$Setter" "rowSize" "I" ∈ tf_Ts := tf_mem 182 (by decide +kernel) rfl
theorem w_180 : Cond.fieldLink "TypeFoundry" 249 "TypeFoundry$Setter" "row" "[I" ∈ tf_Ts := tf_mem 180 (by decide +kernel) rfl
theorem w_1108 : Cond.methodLink "TypeFoundry" 252 (⟨"TypeFoundry", "xInRow", "(I)I"⟩ : MethodName) ∈ tf_Ts := tf_mem 1108 (by decide +kernel) rfl
theorem w_1111 : Cond.code (⟨"TypeFoundry", "xInRow", "(I)I"⟩ : MethodName) prog_1_method_23_code 4 (some (.int)) ∈ tf_Ts := tf_mem 1111 (by decide +kernel) rfl
theorem w_1110 : Cond.instanceMethod (⟨"TypeFoundry", "xInRow", "(I)I"⟩ : MethodName) ∈ tf_Ts := tf_mem 1110 (by decide +kernel) rfl
theorem wp_19 : Cond.selects "TypeFoundry" (⟨"TypeFoundry", "xInRow", "(I)I"⟩ : MethodName) (⟨"TypeFoundry", "xInRow", "(I)I"⟩ : MethodName) ∈ tf_Ts := tf_memP 19 (by decide +kernel) rfl
theorem w_1107 : Cond.code (⟨"TypeFoundry", "shaped", "(II)I"⟩ : MethodName) prog_1_method_19_code 3 (some (.int)) ∈ tf_Ts := tf_mem 1107 (by decide +kernel) rfl
theorem w_119 : Cond.fieldLink "TypeFoundry" 258 "TypeFoundry$Heights" "size" "I" ∈ tf_Ts := tf_mem 119 (by decide +kernel) rfl
theorem w_184 : Cond.fieldLink "TypeFoundry" 261 "TypeFoundry$Setter" "textSize" "I" ∈ tf_Ts := tf_mem 184 (by decide +kernel) rfl
theorem w_149 : Cond.fieldLink "TypeFoundry" 264 "TypeFoundry$Kerning" "pairs" "I" ∈ tf_Ts := tf_mem 149 (by decide +kernel) rfl
theorem w_188 : Cond.fieldLink "TypeFoundry" 267 "TypeFoundry$Setter" "puts" "I" ∈ tf_Ts := tf_mem 188 (by decide +kernel) rfl
theorem w_366 : Cond.code (⟨"TypeFoundry", "count", "(I)I"⟩ : MethodName) prog_1_method_20_code 2 (some (.int)) ∈ tf_Ts := tf_mem 366 (by decide +kernel) rfl
theorem w_638 : Cond.methodLink "TypeFoundry" 270 (⟨"TypeFoundry$Glyph", "outlineContours", "()I"⟩ : MethodName) ∈ tf_Ts := tf_mem 638 (by decide +kernel) rfl
theorem w_623 : Cond.code (⟨"TypeFoundry$Glyph", "outlineContours", "()I"⟩ : MethodName) prog_4_method_8_code 1 (some (.int)) ∈ tf_Ts := tf_mem 623 (by decide +kernel) rfl
theorem w_621 : Cond.instanceMethod (⟨"TypeFoundry$Glyph", "outlineContours", "()I"⟩ : MethodName) ∈ tf_Ts := tf_mem 621 (by decide +kernel) rfl
theorem w_622 : Cond.selects "TypeFoundry$Glyph" (⟨"TypeFoundry$Glyph", "outlineContours", "()I"⟩ : MethodName) (⟨"TypeFoundry$Glyph", "outlineContours", "()I"⟩ : MethodName) ∈ tf_Ts := tf_mem 622 (by decide +kernel) rfl
theorem w_639 : Cond.methodLink "TypeFoundry" 273 (⟨"TypeFoundry$Blend", "valueOf", "([II)I"⟩ : MethodName) ∈ tf_Ts := tf_mem 639 (by decide +kernel) rfl
theorem w_642 : Cond.code (⟨"TypeFoundry$Blend", "valueOf", "([II)I"⟩ : MethodName) prog_2_method_4_code 8 (some (.int)) ∈ tf_Ts := tf_mem 642 (by decide +kernel) rfl
theorem w_640 : Cond.instanceMethod (⟨"TypeFoundry$Blend", "valueOf", "([II)I"⟩ : MethodName) ∈ tf_Ts := tf_mem 640 (by decide +kernel) rfl
theorem w_641 : Cond.selects "TypeFoundry$Blend" (⟨"TypeFoundry$Blend", "valueOf", "([II)I"⟩ : MethodName) (⟨"TypeFoundry$Blend", "valueOf", "([II)I"⟩ : MethodName) ∈ tf_Ts := tf_mem 641 (by decide +kernel) rfl
theorem w_471 : Cond.fieldLink "TypeFoundry" 277 "TypeFoundry$Glyph" "depth" "I" ∈ tf_Ts := tf_mem 471 (by decide +kernel) rfl
theorem w_1112 : Cond.methodLink "TypeFoundry" 280 (⟨"TypeFoundry", "widthOf", "(I)I"⟩ : MethodName) ∈ tf_Ts := tf_mem 1112 (by decide +kernel) rfl
theorem w_1115 : Cond.code (⟨"TypeFoundry", "widthOf", "(I)I"⟩ : MethodName) prog_1_method_24_code 3 (some (.int)) ∈ tf_Ts := tf_mem 1115 (by decide +kernel) rfl
theorem w_1114 : Cond.instanceMethod (⟨"TypeFoundry", "widthOf", "(I)I"⟩ : MethodName) ∈ tf_Ts := tf_mem 1114 (by decide +kernel) rfl
theorem wp_20 : Cond.selects "TypeFoundry" (⟨"TypeFoundry", "widthOf", "(I)I"⟩ : MethodName) (⟨"TypeFoundry", "widthOf", "(I)I"⟩ : MethodName) ∈ tf_Ts := tf_memP 20 (by decide +kernel) rfl
theorem w_1116 : Cond.methodLink "TypeFoundry" 283 (⟨"TypeFoundry$Kerning", "of", "(II)I"⟩ : MethodName) ∈ tf_Ts := tf_mem 1116 (by decide +kernel) rfl
theorem w_1119 : Cond.code (⟨"TypeFoundry$Kerning", "of", "(II)I"⟩ : MethodName) prog_6_method_5_code 4 (some (.int)) ∈ tf_Ts := tf_mem 1119 (by decide +kernel) rfl
theorem w_1117 : Cond.instanceMethod (⟨"TypeFoundry$Kerning", "of", "(II)I"⟩ : MethodName) ∈ tf_Ts := tf_mem 1117 (by decide +kernel) rfl
theorem w_1118 : Cond.selects "TypeFoundry$Kerning" (⟨"TypeFoundry$Kerning", "of", "(II)I"⟩ : MethodName) (⟨"TypeFoundry$Kerning", "of", "(II)I"⟩ : MethodName) ∈ tf_Ts := tf_mem 1118 (by decide +kernel) rfl
theorem w_650 : Cond.constantLong "TypeFoundry" 286 (2) ∈ tf_Ts := tf_mem 650 (by decide +kernel) rfl
theorem w_651 : Cond.methodLink "TypeFoundry" 288 (⟨"java/lang/Math", "floorDiv", "(JJ)J"⟩ : MethodName) ∈ tf_Ts := tf_mem 651 (by decide +kernel) rfl
theorem w_653 : Cond.code (⟨"java/lang/Math", "floorDiv", "(JJ)J"⟩ : MethodName) prog_22_method_49_code 6 (some (.long)) ∈ tf_Ts := tf_mem 653 (by decide +kernel) rfl
theorem w_18 : Cond.initialized "java/lang/Math" ∈ tf_Ts := tf_mem 18 (by decide +kernel) rfl
theorem w_652 : Cond.static (⟨"java/lang/Math", "floorDiv", "(JJ)J"⟩ : MethodName) ∈ tf_Ts := tf_mem 652 (by decide +kernel) rfl
theorem w_649 : Cond.code (⟨"TypeFoundry", "halvesUp", "(JJ)I"⟩ : MethodName) prog_1_method_30_code 4 (some (.int)) ∈ tf_Ts := tf_mem 649 (by decide +kernel) rfl
theorem w_1130 : Cond.fieldLink "TypeFoundryModel" 7 "TypeFoundryModel" "places" "[I" ∈ tf_Ts := tf_mem 1130 (by decide +kernel) rfl
theorem w_1131 : Cond.fieldLink "TypeFoundryModel" 13 "TypeFoundryModel" "marks" "[B" ∈ tf_Ts := tf_mem 1131 (by decide +kernel) rfl
theorem w_1132 : Cond.fieldLink "TypeFoundryModel" 17 "TypeFoundryModel" "points" "[I" ∈ tf_Ts := tf_mem 1132 (by decide +kernel) rfl
theorem w_1133 : Cond.fieldLink "TypeFoundryModel" 20 "TypeFoundryModel" "closed" "[I" ∈ tf_Ts := tf_mem 1133 (by decide +kernel) rfl
theorem w_1134 : Cond.fieldLink "TypeFoundryModel" 23 "TypeFoundryModel" "contours" "[I" ∈ tf_Ts := tf_mem 1134 (by decide +kernel) rfl
theorem w_1135 : Cond.fieldLink "TypeFoundryModel" 26 "TypeFoundryModel" "widths" "[I" ∈ tf_Ts := tf_mem 1135 (by decide +kernel) rfl
theorem w_1136 : Cond.fieldLink "TypeFoundryModel" 29 "TypeFoundryModel" "locked" "[Z" ∈ tf_Ts := tf_mem 1136 (by decide +kernel) rfl
theorem w_1137 : Cond.fieldLink "TypeFoundryModel" 33 "TypeFoundryModel" "depths" "[I" ∈ tf_Ts := tf_mem 1137 (by decide +kernel) rfl
theorem w_1138 : Cond.fieldLink "TypeFoundryModel" 36 "TypeFoundryModel" "sizes" "[I" ∈ tf_Ts := tf_mem 1138 (by decide +kernel) rfl
theorem w_1139 : Cond.fieldLink "TypeFoundryModel" 39 "TypeFoundryModel" "parts" "[I" ∈ tf_Ts := tf_mem 1139 (by decide +kernel) rfl
theorem w_1140 : Cond.fieldLink "TypeFoundryModel" 42 "TypeFoundryModel" "part" "[I" ∈ tf_Ts := tf_mem 1140 (by decide +kernel) rfl
theorem w_1141 : Cond.fieldLink "TypeFoundryModel" 45 "TypeFoundryModel" "partX" "[I" ∈ tf_Ts := tf_mem 1141 (by decide +kernel) rfl
theorem w_1142 : Cond.fieldLink "TypeFoundryModel" 48 "TypeFoundryModel" "partY" "[I" ∈ tf_Ts := tf_mem 1142 (by decide +kernel) rfl
theorem w_1143 : Cond.fieldLink "TypeFoundryModel" 51 "TypeFoundryModel" "partTurn" "[I" ∈ tf_Ts := tf_mem 1143 (by decide +kernel) rfl
theorem w_1146 : Cond.fieldLink "TypeFoundryModel" 54 "TypeFoundryModel" "outX" "[I" ∈ tf_Ts := tf_mem 1146 (by decide +kernel) rfl
theorem w_1147 : Cond.fieldLink "TypeFoundryModel" 57 "TypeFoundryModel" "outY" "[I" ∈ tf_Ts := tf_mem 1147 (by decide +kernel) rfl
theorem w_1148 : Cond.fieldLink "TypeFoundryModel" 60 "TypeFoundryModel" "outOn" "[Z" ∈ tf_Ts := tf_mem 1148 (by decide +kernel) rfl
theorem w_1149 : Cond.fieldLink "TypeFoundryModel" 63 "TypeFoundryModel" "outContour" "[I" ∈ tf_Ts := tf_mem 1149 (by decide +kernel) rfl
theorem w_1152 : Cond.fieldLink "TypeFoundryModel" 66 "TypeFoundryModel" "pile" "[I" ∈ tf_Ts := tf_mem 1152 (by decide +kernel) rfl
theorem w_1153 : Cond.fieldLink "TypeFoundryModel" 69 "TypeFoundryModel" "nextPart" "[I" ∈ tf_Ts := tf_mem 1153 (by decide +kernel) rfl
theorem w_1156 : Cond.fieldLink "TypeFoundryModel" 72 "TypeFoundryModel" "heights" "[I" ∈ tf_Ts := tf_mem 1156 (by decide +kernel) rfl
theorem w_1158 : Cond.fieldLink "TypeFoundryModel" 75 "TypeFoundryModel" "grid" "[I" ∈ tf_Ts := tf_mem 1158 (by decide +kernel) rfl
theorem w_1162 : Cond.fieldLink "TypeFoundryModel" 78 "TypeFoundryModel" "leftClass" "[B" ∈ tf_Ts := tf_mem 1162 (by decide +kernel) rfl
theorem w_1163 : Cond.fieldLink "TypeFoundryModel" 81 "TypeFoundryModel" "rightClass" "[B" ∈ tf_Ts := tf_mem 1163 (by decide +kernel) rfl
theorem w_1164 : Cond.fieldLink "TypeFoundryModel" 84 "TypeFoundryModel" "classKern" "[S" ∈ tf_Ts := tf_mem 1164 (by decide +kernel) rfl
theorem w_1165 : Cond.fieldLink "TypeFoundryModel" 88 "TypeFoundryModel" "classTold" "[Z" ∈ tf_Ts := tf_mem 1165 (by decide +kernel) rfl
theorem w_1166 : Cond.fieldLink "TypeFoundryModel" 91 "TypeFoundryModel" "pairOf" "[I" ∈ tf_Ts := tf_mem 1166 (by decide +kernel) rfl
theorem w_1167 : Cond.fieldLink "TypeFoundryModel" 94 "TypeFoundryModel" "pairBy" "[I" ∈ tf_Ts := tf_mem 1167 (by decide +kernel) rfl
theorem w_1169 : Cond.fieldLink "TypeFoundryModel" 97 "TypeFoundryModel" "ruleLookup" "[I" ∈ tf_Ts := tf_mem 1169 (by decide +kernel) rfl
theorem w_1170 : Cond.fieldLink "TypeFoundryModel" 100 "TypeFoundryModel" "ruleOutput" "[I" ∈ tf_Ts := tf_mem 1170 (by decide +kernel) rfl
theorem w_1171 : Cond.fieldLink "TypeFoundryModel" 103 "TypeFoundryModel" "ruleBefore" "[I" ∈ tf_Ts := tf_mem 1171 (by decide +kernel) rfl
theorem w_1172 : Cond.fieldLink "TypeFoundryModel" 106 "TypeFoundryModel" "ruleInput" "[J" ∈ tf_Ts := tf_mem 1172 (by decide +kernel) rfl
theorem w_1173 : Cond.fieldLink "TypeFoundryModel" 110 "TypeFoundryModel" "ruleAfter" "[I" ∈ tf_Ts := tf_mem 1173 (by decide +kernel) rfl
theorem w_1176 : Cond.fieldLink "TypeFoundryModel" 113 "TypeFoundryModel" "text" "[I" ∈ tf_Ts := tf_mem 1176 (by decide +kernel) rfl
theorem w_1178 : Cond.fieldLink "TypeFoundryModel" 116 "TypeFoundryModel" "row" "[I" ∈ tf_Ts := tf_mem 1178 (by decide +kernel) rfl
theorem w_1128 : Cond.fieldLink "TypeFoundryModel" 119 "TypeFoundryModel" "masters" "I" ∈ tf_Ts := tf_mem 1128 (by decide +kernel) rfl
theorem w_1125 : Cond.code (⟨"TypeFoundryModel", "<init>", "(I)V"⟩ : MethodName) prog_13_method_1_code 2 none ∈ tf_Ts := tf_mem 1125 (by decide +kernel) rfl
theorem w_1127 : Cond.fieldLink "TypeFoundryModel" 123 "TypeFoundryModel" "thrown" "I" ∈ tf_Ts := tf_mem 1127 (by decide +kernel) rfl
theorem w_1298 : Cond.code (⟨"TypeFoundryModel", "thrown", "()I"⟩ : MethodName) prog_13_method_2_code 1 (some (.int)) ∈ tf_Ts := tf_mem 1298 (by decide +kernel) rfl
theorem w_1375 : Cond.code (⟨"TypeFoundryModel", "floor", "(JJ)J"⟩ : MethodName) prog_13_method_3_code 6 (some (.long)) ∈ tf_Ts := tf_mem 1375 (by decide +kernel) rfl
theorem w_1372 : Cond.constantLong "TypeFoundryModel" 126 (2) ∈ tf_Ts := tf_mem 1372 (by decide +kernel) rfl
theorem w_1373 : Cond.methodLink "TypeFoundryModel" 128 (⟨"TypeFoundryModel", "floor", "(JJ)J"⟩ : MethodName) ∈ tf_Ts := tf_mem 1373 (by decide +kernel) rfl
theorem w_9 : Cond.initialized "TypeFoundryModel" ∈ tf_Ts := tf_mem 9 (by decide +kernel) rfl
theorem w_1374 : Cond.static (⟨"TypeFoundryModel", "floor", "(JJ)J"⟩ : MethodName) ∈ tf_Ts := tf_mem 1374 (by decide +kernel) rfl
theorem w_1371 : Cond.code (⟨"TypeFoundryModel", "near", "(JJ)J"⟩ : MethodName) prog_13_method_4_code 4 (some (.long)) ∈ tf_Ts := tf_mem 1371 (by decide +kernel) rfl
theorem w_1144 : Cond.fieldLink "TypeFoundryModel" 132 "TypeFoundryModel" "u" "I" ∈ tf_Ts := tf_mem 1144 (by decide +kernel) rfl
theorem w_1145 : Cond.fieldLink "TypeFoundryModel" 135 "TypeFoundryModel" "v" "I" ∈ tf_Ts := tf_mem 1145 (by decide +kernel) rfl
theorem w_1368 : Cond.constantLong "TypeFoundryModel" 138 (1024) ∈ tf_Ts := tf_mem 1368 (by decide +kernel) rfl
theorem w_1369 : Cond.methodLink "TypeFoundryModel" 140 (⟨"TypeFoundryModel", "near", "(JJ)J"⟩ : MethodName) ∈ tf_Ts := tf_mem 1369 (by decide +kernel) rfl
theorem w_1370 : Cond.static (⟨"TypeFoundryModel", "near", "(JJ)J"⟩ : MethodName) ∈ tf_Ts := tf_mem 1370 (by decide +kernel) rfl
theorem w_1376 : Cond.constantLong "TypeFoundryModel" 143 (1048576) ∈ tf_Ts := tf_mem 1376 (by decide +kernel) rfl
theorem w_1367 : Cond.code (⟨"TypeFoundryModel", "between", "(IIII)I"⟩ : MethodName) prog_13_method_5_code 9 (some (.int)) ∈ tf_Ts := tf_mem 1367 (by decide +kernel) rfl
theorem w_1129 : Cond.fieldLink "TypeFoundryModel" 145 "TypeFoundryModel" "glyphs" "I" ∈ tf_Ts := tf_mem 1129 (by decide +kernel) rfl
theorem w_1302 : Cond.code (⟨"TypeFoundryModel", "glyph", "()I"⟩ : MethodName) prog_13_method_6_code 1 (some (.int)) ∈ tf_Ts := tf_mem 1302 (by decide +kernel) rfl
theorem w_1310 : Cond.code (⟨"TypeFoundryModel", "isGlyph", "(I)Z"⟩ : MethodName) prog_13_method_7_code 2 (some (.boolean)) ∈ tf_Ts := tf_mem 1310 (by decide +kernel) rfl
theorem w_1313 : Cond.code (⟨"TypeFoundryModel", "isPlace", "(I)Z"⟩ : MethodName) prog_13_method_8_code 1 (some (.boolean)) ∈ tf_Ts := tf_mem 1313 (by decide +kernel) rfl
theorem w_1316 : Cond.code (⟨"TypeFoundryModel", "packed", "(II)I"⟩ : MethodName) prog_13_method_9_code 2 (some (.int)) ∈ tf_Ts := tf_mem 1316 (by decide +kernel) rfl
theorem w_1307 : Cond.methodLink "TypeFoundryModel" 148 (⟨"TypeFoundryModel", "isGlyph", "(I)Z"⟩ : MethodName) ∈ tf_Ts := tf_mem 1307 (by decide +kernel) rfl
theorem w_1309 : Cond.instanceMethod (⟨"TypeFoundryModel", "isGlyph", "(I)Z"⟩ : MethodName) ∈ tf_Ts := tf_mem 1309 (by decide +kernel) rfl
theorem wp_21 : Cond.selects "TypeFoundryModel" (⟨"TypeFoundryModel", "isGlyph", "(I)Z"⟩ : MethodName) (⟨"TypeFoundryModel", "isGlyph", "(I)Z"⟩ : MethodName) ∈ tf_Ts := tf_memP 21 (by decide +kernel) rfl
theorem w_1311 : Cond.methodLink "TypeFoundryModel" 152 (⟨"TypeFoundryModel", "isPlace", "(I)Z"⟩ : MethodName) ∈ tf_Ts := tf_mem 1311 (by decide +kernel) rfl
theorem w_1312 : Cond.static (⟨"TypeFoundryModel", "isPlace", "(I)Z"⟩ : MethodName) ∈ tf_Ts := tf_mem 1312 (by decide +kernel) rfl
theorem w_1314 : Cond.methodLink "TypeFoundryModel" 155 (⟨"TypeFoundryModel", "packed", "(II)I"⟩ : MethodName) ∈ tf_Ts := tf_mem 1314 (by decide +kernel) rfl
theorem w_1315 : Cond.static (⟨"TypeFoundryModel", "packed", "(II)I"⟩ : MethodName) ∈ tf_Ts := tf_mem 1315 (by decide +kernel) rfl
theorem w_1306 : Cond.code (⟨"TypeFoundryModel", "point", "(IIIZ)I"⟩ : MethodName) prog_13_method_10_code 7 (some (.int)) ∈ tf_Ts := tf_mem 1306 (by decide +kernel) rfl
theorem w_1320 : Cond.code (⟨"TypeFoundryModel", "close", "(I)Z"⟩ : MethodName) prog_13_method_11_code 2 (some (.boolean)) ∈ tf_Ts := tf_mem 1320 (by decide +kernel) rfl
theorem w_1324 : Cond.code (⟨"TypeFoundryModel", "place", "(IIIII)V"⟩ : MethodName) prog_13_method_12_code 7 none ∈ tf_Ts := tf_mem 1324 (by decide +kernel) rfl
theorem w_1331 : Cond.code (⟨"TypeFoundryModel", "isShift", "(I)Z"⟩ : MethodName) prog_13_method_13_code 1 (some (.boolean)) ∈ tf_Ts := tf_mem 1331 (by decide +kernel) rfl
theorem w_1335 : Cond.code (⟨"TypeFoundryModel", "componentPoints", "(I)I"⟩ : MethodName) prog_13_method_14_code 4 (some (.int)) ∈ tf_Ts := tf_mem 1335 (by decide +kernel) rfl
theorem w_1329 : Cond.methodLink "TypeFoundryModel" 159 (⟨"TypeFoundryModel", "isShift", "(I)Z"⟩ : MethodName) ∈ tf_Ts := tf_mem 1329 (by decide +kernel) rfl
theorem w_1330 : Cond.static (⟨"TypeFoundryModel", "isShift", "(I)Z"⟩ : MethodName) ∈ tf_Ts := tf_mem 1330 (by decide +kernel) rfl
theorem w_1332 : Cond.methodLink "TypeFoundryModel" 162 (⟨"TypeFoundryModel", "componentPoints", "(I)I"⟩ : MethodName) ∈ tf_Ts := tf_mem 1332 (by decide +kernel) rfl
theorem w_1334 : Cond.instanceMethod (⟨"TypeFoundryModel", "componentPoints", "(I)I"⟩ : MethodName) ∈ tf_Ts := tf_mem 1334 (by decide +kernel) rfl
theorem wp_22 : Cond.selects "TypeFoundryModel" (⟨"TypeFoundryModel", "componentPoints", "(I)I"⟩ : MethodName) (⟨"TypeFoundryModel", "componentPoints", "(I)I"⟩ : MethodName) ∈ tf_Ts := tf_memP 22 (by decide +kernel) rfl
theorem w_1328 : Cond.code (⟨"TypeFoundryModel", "component", "(IIIII)V"⟩ : MethodName) prog_13_method_15_code 8 none ∈ tf_Ts := tf_mem 1328 (by decide +kernel) rfl
theorem w_1339 : Cond.code (⟨"TypeFoundryModel", "advance", "(III)Z"⟩ : MethodName) prog_13_method_16_code 4 (some (.boolean)) ∈ tf_Ts := tf_mem 1339 (by decide +kernel) rfl
theorem w_1343 : Cond.code (⟨"TypeFoundryModel", "instance", "(II)Z"⟩ : MethodName) prog_13_method_17_code 3 (some (.boolean)) ∈ tf_Ts := tf_mem 1343 (by decide +kernel) rfl
theorem w_1363 : Cond.code (⟨"TypeFoundryModel", "xOf", "(II)I"⟩ : MethodName) prog_13_method_18_code 3 (some (.int)) ∈ tf_Ts := tf_mem 1363 (by decide +kernel) rfl
theorem w_1381 : Cond.constant "TypeFoundryModel" 166 (65535) ∈ tf_Ts := tf_mem 1381 (by decide +kernel) rfl
theorem w_1380 : Cond.code (⟨"TypeFoundryModel", "yOf", "(II)I"⟩ : MethodName) prog_13_method_19_code 3 (some (.int)) ∈ tf_Ts := tf_mem 1380 (by decide +kernel) rfl
theorem w_1360 : Cond.methodLink "TypeFoundryModel" 167 (⟨"TypeFoundryModel", "xOf", "(II)I"⟩ : MethodName) ∈ tf_Ts := tf_mem 1360 (by decide +kernel) rfl
theorem w_1362 : Cond.instanceMethod (⟨"TypeFoundryModel", "xOf", "(II)I"⟩ : MethodName) ∈ tf_Ts := tf_mem 1362 (by decide +kernel) rfl
theorem wp_26 : Cond.selects "TypeFoundryModel" (⟨"TypeFoundryModel", "xOf", "(II)I"⟩ : MethodName) (⟨"TypeFoundryModel", "xOf", "(II)I"⟩ : MethodName) ∈ tf_Ts := tf_memP 26 (by decide +kernel) rfl
theorem w_1364 : Cond.methodLink "TypeFoundryModel" 170 (⟨"TypeFoundryModel", "between", "(IIII)I"⟩ : MethodName) ∈ tf_Ts := tf_mem 1364 (by decide +kernel) rfl
theorem w_1366 : Cond.instanceMethod (⟨"TypeFoundryModel", "between", "(IIII)I"⟩ : MethodName) ∈ tf_Ts := tf_mem 1366 (by decide +kernel) rfl
theorem wp_27 : Cond.selects "TypeFoundryModel" (⟨"TypeFoundryModel", "between", "(IIII)I"⟩ : MethodName) (⟨"TypeFoundryModel", "between", "(IIII)I"⟩ : MethodName) ∈ tf_Ts := tf_memP 27 (by decide +kernel) rfl
theorem w_1377 : Cond.methodLink "TypeFoundryModel" 174 (⟨"TypeFoundryModel", "yOf", "(II)I"⟩ : MethodName) ∈ tf_Ts := tf_mem 1377 (by decide +kernel) rfl
theorem w_1379 : Cond.instanceMethod (⟨"TypeFoundryModel", "yOf", "(II)I"⟩ : MethodName) ∈ tf_Ts := tf_mem 1379 (by decide +kernel) rfl
theorem wp_28 : Cond.selects "TypeFoundryModel" (⟨"TypeFoundryModel", "yOf", "(II)I"⟩ : MethodName) (⟨"TypeFoundryModel", "yOf", "(II)I"⟩ : MethodName) ∈ tf_Ts := tf_memP 28 (by decide +kernel) rfl
theorem w_1154 : Cond.fieldLink "TypeFoundryModel" 177 "TypeFoundryModel" "turnedX" "I" ∈ tf_Ts := tf_mem 1154 (by decide +kernel) rfl
theorem w_1155 : Cond.fieldLink "TypeFoundryModel" 180 "TypeFoundryModel" "turnedY" "I" ∈ tf_Ts := tf_mem 1155 (by decide +kernel) rfl
theorem w_1359 : Cond.code (⟨"TypeFoundryModel", "turnPoint", "(II)V"⟩ : MethodName) prog_13_method_20_code 9 none ∈ tf_Ts := tf_mem 1359 (by decide +kernel) rfl
theorem w_1356 : Cond.methodLink "TypeFoundryModel" 183 (⟨"TypeFoundryModel", "turnPoint", "(II)V"⟩ : MethodName) ∈ tf_Ts := tf_mem 1356 (by decide +kernel) rfl
theorem w_1358 : Cond.instanceMethod (⟨"TypeFoundryModel", "turnPoint", "(II)V"⟩ : MethodName) ∈ tf_Ts := tf_mem 1358 (by decide +kernel) rfl
theorem wp_25 : Cond.selects "TypeFoundryModel" (⟨"TypeFoundryModel", "turnPoint", "(II)V"⟩ : MethodName) (⟨"TypeFoundryModel", "turnPoint", "(II)V"⟩ : MethodName) ∈ tf_Ts := tf_memP 25 (by decide +kernel) rfl
theorem w_1150 : Cond.fieldLink "TypeFoundryModel" 187 "TypeFoundryModel" "outSize" "I" ∈ tf_Ts := tf_mem 1150 (by decide +kernel) rfl
theorem w_1151 : Cond.fieldLink "TypeFoundryModel" 190 "TypeFoundryModel" "outContours" "I" ∈ tf_Ts := tf_mem 1151 (by decide +kernel) rfl
theorem w_1355 : Cond.code (⟨"TypeFoundryModel", "tellContours", "(I)V"⟩ : MethodName) prog_13_method_21_code 7 none ∈ tf_Ts := tf_mem 1355 (by decide +kernel) rfl
theorem w_1352 : Cond.methodLink "TypeFoundryModel" 193 (⟨"TypeFoundryModel", "tellContours", "(I)V"⟩ : MethodName) ∈ tf_Ts := tf_mem 1352 (by decide +kernel) rfl
theorem w_1354 : Cond.instanceMethod (⟨"TypeFoundryModel", "tellContours", "(I)V"⟩ : MethodName) ∈ tf_Ts := tf_mem 1354 (by decide +kernel) rfl
theorem wp_24 : Cond.selects "TypeFoundryModel" (⟨"TypeFoundryModel", "tellContours", "(I)V"⟩ : MethodName) (⟨"TypeFoundryModel", "tellContours", "(I)V"⟩ : MethodName) ∈ tf_Ts := tf_memP 24 (by decide +kernel) rfl
theorem w_1351 : Cond.code (⟨"TypeFoundryModel", "tell", "(I)V"⟩ : MethodName) prog_13_method_22_code 4 none ∈ tf_Ts := tf_mem 1351 (by decide +kernel) rfl
theorem w_1385 : Cond.code (⟨"TypeFoundryModel", "widthOf", "(I)I"⟩ : MethodName) prog_13_method_23_code 2 (some (.int)) ∈ tf_Ts := tf_mem 1385 (by decide +kernel) rfl
theorem w_1348 : Cond.methodLink "TypeFoundryModel" 197 (⟨"TypeFoundryModel", "tell", "(I)V"⟩ : MethodName) ∈ tf_Ts := tf_mem 1348 (by decide +kernel) rfl
theorem w_1350 : Cond.instanceMethod (⟨"TypeFoundryModel", "tell", "(I)V"⟩ : MethodName) ∈ tf_Ts := tf_mem 1350 (by decide +kernel) rfl
theorem wp_23 : Cond.selects "TypeFoundryModel" (⟨"TypeFoundryModel", "tell", "(I)V"⟩ : MethodName) (⟨"TypeFoundryModel", "tell", "(I)V"⟩ : MethodName) ∈ tf_Ts := tf_memP 23 (by decide +kernel) rfl
theorem w_1382 : Cond.methodLink "TypeFoundryModel" 200 (⟨"TypeFoundryModel", "widthOf", "(I)I"⟩ : MethodName) ∈ tf_Ts := tf_mem 1382 (by decide +kernel) rfl
theorem w_1384 : Cond.instanceMethod (⟨"TypeFoundryModel", "widthOf", "(I)I"⟩ : MethodName) ∈ tf_Ts := tf_mem 1384 (by decide +kernel) rfl
theorem wp_29 : Cond.selects "TypeFoundryModel" (⟨"TypeFoundryModel", "widthOf", "(I)I"⟩ : MethodName) (⟨"TypeFoundryModel", "widthOf", "(I)I"⟩ : MethodName) ∈ tf_Ts := tf_memP 29 (by decide +kernel) rfl
theorem w_1347 : Cond.code (⟨"TypeFoundryModel", "outline", "(III)I"⟩ : MethodName) prog_13_method_24_code 4 (some (.int)) ∈ tf_Ts := tf_mem 1347 (by decide +kernel) rfl
theorem w_1157 : Cond.fieldLink "TypeFoundryModel" 203 "TypeFoundryModel" "heightCount" "I" ∈ tf_Ts := tf_mem 1157 (by decide +kernel) rfl
theorem w_1389 : Cond.code (⟨"TypeFoundryModel", "height", "(I)Z"⟩ : MethodName) prog_13_method_25_code 4 (some (.boolean)) ∈ tf_Ts := tf_mem 1389 (by decide +kernel) rfl
theorem w_1160 : Cond.fieldLink "TypeFoundryModel" 206 "TypeFoundryModel" "side" "I" ∈ tf_Ts := tf_mem 1160 (by decide +kernel) rfl
theorem w_1413 : Cond.code (⟨"TypeFoundryModel", "goal", "(I)I"⟩ : MethodName) prog_13_method_26_code 2 (some (.int)) ∈ tf_Ts := tf_mem 1413 (by decide +kernel) rfl
theorem w_1161 : Cond.fieldLink "TypeFoundryModel" 209 "TypeFoundryModel" "fitted" "Z" ∈ tf_Ts := tf_mem 1161 (by decide +kernel) rfl
theorem w_1410 : Cond.methodLink "TypeFoundryModel" 213 (⟨"TypeFoundryModel", "goal", "(I)I"⟩ : MethodName) ∈ tf_Ts := tf_mem 1410 (by decide +kernel) rfl
theorem w_1412 : Cond.instanceMethod (⟨"TypeFoundryModel", "goal", "(I)I"⟩ : MethodName) ∈ tf_Ts := tf_mem 1412 (by decide +kernel) rfl
theorem wp_34 : Cond.selects "TypeFoundryModel" (⟨"TypeFoundryModel", "goal", "(I)I"⟩ : MethodName) (⟨"TypeFoundryModel", "goal", "(I)I"⟩ : MethodName) ∈ tf_Ts := tf_memP 34 (by decide +kernel) rfl
theorem w_1409 : Cond.code (⟨"TypeFoundryModel", "fit", "(I)I"⟩ : MethodName) prog_13_method_27_code 6 (some (.int)) ∈ tf_Ts := tf_mem 1409 (by decide +kernel) rfl
theorem w_1159 : Cond.fieldLink "TypeFoundryModel" 216 "TypeFoundryModel" "along" "I" ∈ tf_Ts := tf_mem 1159 (by decide +kernel) rfl
theorem w_1428 : Cond.code (⟨"TypeFoundryModel", "cover", "(IIII)V"⟩ : MethodName) prog_13_method_28_code 9 none ∈ tf_Ts := tf_mem 1428 (by decide +kernel) rfl
theorem w_1417 : Cond.code (⟨"TypeFoundryModel", "nextStop", "(II)I"⟩ : MethodName) prog_13_method_29_code 4 (some (.int)) ∈ tf_Ts := tf_mem 1417 (by decide +kernel) rfl
theorem w_1420 : Cond.code (⟨"TypeFoundryModel", "at", "(IIIII)I"⟩ : MethodName) prog_13_method_30_code 7 (some (.int)) ∈ tf_Ts := tf_mem 1420 (by decide +kernel) rfl
theorem w_1414 : Cond.methodLink "TypeFoundryModel" 219 (⟨"TypeFoundryModel", "nextStop", "(II)I"⟩ : MethodName) ∈ tf_Ts := tf_mem 1414 (by decide +kernel) rfl
theorem w_1416 : Cond.instanceMethod (⟨"TypeFoundryModel", "nextStop", "(II)I"⟩ : MethodName) ∈ tf_Ts := tf_mem 1416 (by decide +kernel) rfl
theorem wp_35 : Cond.selects "TypeFoundryModel" (⟨"TypeFoundryModel", "nextStop", "(II)I"⟩ : MethodName) (⟨"TypeFoundryModel", "nextStop", "(II)I"⟩ : MethodName) ∈ tf_Ts := tf_memP 35 (by decide +kernel) rfl
theorem w_1418 : Cond.methodLink "TypeFoundryModel" 222 (⟨"TypeFoundryModel", "at", "(IIIII)I"⟩ : MethodName) ∈ tf_Ts := tf_mem 1418 (by decide +kernel) rfl
theorem w_1419 : Cond.static (⟨"TypeFoundryModel", "at", "(IIIII)I"⟩ : MethodName) ∈ tf_Ts := tf_mem 1419 (by decide +kernel) rfl
theorem w_1425 : Cond.methodLink "TypeFoundryModel" 226 (⟨"TypeFoundryModel", "cover", "(IIII)V"⟩ : MethodName) ∈ tf_Ts := tf_mem 1425 (by decide +kernel) rfl
theorem w_1427 : Cond.instanceMethod (⟨"TypeFoundryModel", "cover", "(IIII)V"⟩ : MethodName) ∈ tf_Ts := tf_mem 1427 (by decide +kernel) rfl
theorem wp_37 : Cond.selects "TypeFoundryModel" (⟨"TypeFoundryModel", "cover", "(IIII)V"⟩ : MethodName) (⟨"TypeFoundryModel", "cover", "(IIII)V"⟩ : MethodName) ∈ tf_Ts := tf_memP 37 (by decide +kernel) rfl
theorem w_1424 : Cond.code (⟨"TypeFoundryModel", "across", "(IIII)V"⟩ : MethodName) prog_13_method_31_code 9 none ∈ tf_Ts := tf_mem 1424 (by decide +kernel) rfl
theorem w_1406 : Cond.methodLink "TypeFoundryModel" 230 (⟨"TypeFoundryModel", "fit", "(I)I"⟩ : MethodName) ∈ tf_Ts := tf_mem 1406 (by decide +kernel) rfl
theorem w_1408 : Cond.instanceMethod (⟨"TypeFoundryModel", "fit", "(I)I"⟩ : MethodName) ∈ tf_Ts := tf_mem 1408 (by decide +kernel) rfl
theorem wp_33 : Cond.selects "TypeFoundryModel" (⟨"TypeFoundryModel", "fit", "(I)I"⟩ : MethodName) (⟨"TypeFoundryModel", "fit", "(I)I"⟩ : MethodName) ∈ tf_Ts := tf_memP 33 (by decide +kernel) rfl
theorem w_1421 : Cond.methodLink "TypeFoundryModel" 233 (⟨"TypeFoundryModel", "across", "(IIII)V"⟩ : MethodName) ∈ tf_Ts := tf_mem 1421 (by decide +kernel) rfl
theorem w_1423 : Cond.instanceMethod (⟨"TypeFoundryModel", "across", "(IIII)V"⟩ : MethodName) ∈ tf_Ts := tf_mem 1423 (by decide +kernel) rfl
theorem wp_36 : Cond.selects "TypeFoundryModel" (⟨"TypeFoundryModel", "across", "(IIII)V"⟩ : MethodName) (⟨"TypeFoundryModel", "across", "(IIII)V"⟩ : MethodName) ∈ tf_Ts := tf_memP 36 (by decide +kernel) rfl
theorem w_1405 : Cond.code (⟨"TypeFoundryModel", "line", "(IIII)V"⟩ : MethodName) prog_13_method_32_code 11 none ∈ tf_Ts := tf_mem 1405 (by decide +kernel) rfl
theorem w_1180 : Cond.fieldLink "TypeFoundryModel" 236 "TypeFoundryModel" "startX" "I" ∈ tf_Ts := tf_mem 1180 (by decide +kernel) rfl
theorem w_1181 : Cond.fieldLink "TypeFoundryModel" 239 "TypeFoundryModel" "startY" "I" ∈ tf_Ts := tf_mem 1181 (by decide +kernel) rfl
theorem w_1402 : Cond.methodLink "TypeFoundryModel" 242 (⟨"TypeFoundryModel", "line", "(IIII)V"⟩ : MethodName) ∈ tf_Ts := tf_mem 1402 (by decide +kernel) rfl
theorem w_1404 : Cond.instanceMethod (⟨"TypeFoundryModel", "line", "(IIII)V"⟩ : MethodName) ∈ tf_Ts := tf_mem 1404 (by decide +kernel) rfl
theorem wp_32 : Cond.selects "TypeFoundryModel" (⟨"TypeFoundryModel", "line", "(IIII)V"⟩ : MethodName) (⟨"TypeFoundryModel", "line", "(IIII)V"⟩ : MethodName) ∈ tf_Ts := tf_memP 32 (by decide +kernel) rfl
theorem w_1401 : Cond.code (⟨"TypeFoundryModel", "lineTo", "(II)V"⟩ : MethodName) prog_13_method_33_code 3 none ∈ tf_Ts := tf_mem 1401 (by decide +kernel) rfl
theorem w_1436 : Cond.constantLong "TypeFoundryModel" 245 (64) ∈ tf_Ts := tf_mem 1436 (by decide +kernel) rfl
theorem w_1398 : Cond.methodLink "TypeFoundryModel" 247 (⟨"TypeFoundryModel", "lineTo", "(II)V"⟩ : MethodName) ∈ tf_Ts := tf_mem 1398 (by decide +kernel) rfl
theorem w_1400 : Cond.instanceMethod (⟨"TypeFoundryModel", "lineTo", "(II)V"⟩ : MethodName) ∈ tf_Ts := tf_mem 1400 (by decide +kernel) rfl
theorem wp_31 : Cond.selects "TypeFoundryModel" (⟨"TypeFoundryModel", "lineTo", "(II)V"⟩ : MethodName) (⟨"TypeFoundryModel", "lineTo", "(II)V"⟩ : MethodName) ∈ tf_Ts := tf_memP 31 (by decide +kernel) rfl
theorem w_1435 : Cond.code (⟨"TypeFoundryModel", "quadratic", "(IIII)V"⟩ : MethodName) prog_13_method_34_code 10 none ∈ tf_Ts := tf_mem 1435 (by decide +kernel) rfl
theorem w_1431 : Cond.code (⟨"TypeFoundryModel", "middle", "(II)I"⟩ : MethodName) prog_13_method_35_code 2 (some (.int)) ∈ tf_Ts := tf_mem 1431 (by decide +kernel) rfl
theorem w_1429 : Cond.methodLink "TypeFoundryModel" 250 (⟨"TypeFoundryModel", "middle", "(II)I"⟩ : MethodName) ∈ tf_Ts := tf_mem 1429 (by decide +kernel) rfl
theorem w_1430 : Cond.static (⟨"TypeFoundryModel", "middle", "(II)I"⟩ : MethodName) ∈ tf_Ts := tf_mem 1430 (by decide +kernel) rfl
theorem w_1432 : Cond.methodLink "TypeFoundryModel" 253 (⟨"TypeFoundryModel", "quadratic", "(IIII)V"⟩ : MethodName) ∈ tf_Ts := tf_mem 1432 (by decide +kernel) rfl
theorem w_1434 : Cond.instanceMethod (⟨"TypeFoundryModel", "quadratic", "(IIII)V"⟩ : MethodName) ∈ tf_Ts := tf_mem 1434 (by decide +kernel) rfl
theorem wp_38 : Cond.selects "TypeFoundryModel" (⟨"TypeFoundryModel", "quadratic", "(IIII)V"⟩ : MethodName) (⟨"TypeFoundryModel", "quadratic", "(IIII)V"⟩ : MethodName) ∈ tf_Ts := tf_memP 38 (by decide +kernel) rfl
theorem w_1397 : Cond.code (⟨"TypeFoundryModel", "contour", "(II)V"⟩ : MethodName) prog_13_method_36_code 9 none ∈ tf_Ts := tf_mem 1397 (by decide +kernel) rfl
theorem w_1394 : Cond.methodLink "TypeFoundryModel" 256 (⟨"TypeFoundryModel", "contour", "(II)V"⟩ : MethodName) ∈ tf_Ts := tf_mem 1394 (by decide +kernel) rfl
theorem w_1396 : Cond.instanceMethod (⟨"TypeFoundryModel", "contour", "(II)V"⟩ : MethodName) ∈ tf_Ts := tf_mem 1396 (by decide +kernel) rfl
theorem wp_30 : Cond.selects "TypeFoundryModel" (⟨"TypeFoundryModel", "contour", "(II)V"⟩ : MethodName) (⟨"TypeFoundryModel", "contour", "(II)V"⟩ : MethodName) ∈ tf_Ts := tf_memP 30 (by decide +kernel) rfl
theorem w_1437 : Cond.constantLong "TypeFoundryModel" 259 (255) ∈ tf_Ts := tf_mem 1437 (by decide +kernel) rfl
theorem w_1393 : Cond.code (⟨"TypeFoundryModel", "draw", "(IIZ)I"⟩ : MethodName) prog_13_method_37_code 9 (some (.int)) ∈ tf_Ts := tf_mem 1393 (by decide +kernel) rfl
theorem w_1441 : Cond.code (⟨"TypeFoundryModel", "pixel", "(II)I"⟩ : MethodName) prog_13_method_38_code 3 (some (.int)) ∈ tf_Ts := tf_mem 1441 (by decide +kernel) rfl
theorem w_1445 : Cond.code (⟨"TypeFoundryModel", "sort", "(III)Z"⟩ : MethodName) prog_13_method_39_code 4 (some (.boolean)) ∈ tf_Ts := tf_mem 1445 (by decide +kernel) rfl
theorem w_1452 : Cond.code (⟨"TypeFoundryModel", "isKern", "(I)Z"⟩ : MethodName) prog_13_method_40_code 1 (some (.boolean)) ∈ tf_Ts := tf_mem 1452 (by decide +kernel) rfl
theorem w_1450 : Cond.methodLink "TypeFoundryModel" 261 (⟨"TypeFoundryModel", "isKern", "(I)Z"⟩ : MethodName) ∈ tf_Ts := tf_mem 1450 (by decide +kernel) rfl
theorem w_1451 : Cond.static (⟨"TypeFoundryModel", "isKern", "(I)Z"⟩ : MethodName) ∈ tf_Ts := tf_mem 1451 (by decide +kernel) rfl
theorem w_1449 : Cond.code (⟨"TypeFoundryModel", "kern", "(III)Z"⟩ : MethodName) prog_13_method_41_code 4 (some (.boolean)) ∈ tf_Ts := tf_mem 1449 (by decide +kernel) rfl
theorem w_1168 : Cond.fieldLink "TypeFoundryModel" 264 "TypeFoundryModel" "pairs" "I" ∈ tf_Ts := tf_mem 1168 (by decide +kernel) rfl
theorem w_1460 : Cond.code (⟨"TypeFoundryModel", "pairAt", "(II)I"⟩ : MethodName) prog_13_method_42_code 5 (some (.int)) ∈ tf_Ts := tf_mem 1460 (by decide +kernel) rfl
theorem w_1457 : Cond.methodLink "TypeFoundryModel" 267 (⟨"TypeFoundryModel", "pairAt", "(II)I"⟩ : MethodName) ∈ tf_Ts := tf_mem 1457 (by decide +kernel) rfl
theorem w_1459 : Cond.instanceMethod (⟨"TypeFoundryModel", "pairAt", "(II)I"⟩ : MethodName) ∈ tf_Ts := tf_mem 1459 (by decide +kernel) rfl
theorem wp_39 : Cond.selects "TypeFoundryModel" (⟨"TypeFoundryModel", "pairAt", "(II)I"⟩ : MethodName) (⟨"TypeFoundryModel", "pairAt", "(II)I"⟩ : MethodName) ∈ tf_Ts := tf_memP 39 (by decide +kernel) rfl
theorem w_1456 : Cond.code (⟨"TypeFoundryModel", "pair", "(III)Z"⟩ : MethodName) prog_13_method_43_code 5 (some (.boolean)) ∈ tf_Ts := tf_mem 1456 (by decide +kernel) rfl
theorem w_1508 : Cond.code (⟨"TypeFoundryModel", "kernOf", "(II)I"⟩ : MethodName) prog_13_method_44_code 5 (some (.int)) ∈ tf_Ts := tf_mem 1508 (by decide +kernel) rfl
theorem w_1470 : Cond.code (⟨"TypeFoundryModel", "glyphOf", "(JII)I"⟩ : MethodName) prog_13_method_45_code 5 (some (.int)) ∈ tf_Ts := tf_mem 1470 (by decide +kernel) rfl
theorem w_1468 : Cond.methodLink "TypeFoundryModel" 270 (⟨"TypeFoundryModel", "glyphOf", "(JII)I"⟩ : MethodName) ∈ tf_Ts := tf_mem 1468 (by decide +kernel) rfl
theorem w_1469 : Cond.static (⟨"TypeFoundryModel", "glyphOf", "(JII)I"⟩ : MethodName) ∈ tf_Ts := tf_mem 1469 (by decide +kernel) rfl
theorem w_1467 : Cond.code (⟨"TypeFoundryModel", "lengthOf", "(JI)I"⟩ : MethodName) prog_13_method_46_code 4 (some (.int)) ∈ tf_Ts := tf_mem 1467 (by decide +kernel) rfl
theorem w_1465 : Cond.methodLink "TypeFoundryModel" 274 (⟨"TypeFoundryModel", "lengthOf", "(JI)I"⟩ : MethodName) ∈ tf_Ts := tf_mem 1465 (by decide +kernel) rfl
theorem w_1466 : Cond.static (⟨"TypeFoundryModel", "lengthOf", "(JI)I"⟩ : MethodName) ∈ tf_Ts := tf_mem 1466 (by decide +kernel) rfl
theorem w_1474 : Cond.code (⟨"TypeFoundryModel", "isRow", "(JI)Z"⟩ : MethodName) prog_13_method_47_code 6 (some (.boolean)) ∈ tf_Ts := tf_mem 1474 (by decide +kernel) rfl
theorem w_1471 : Cond.methodLink "TypeFoundryModel" 278 (⟨"TypeFoundryModel", "isRow", "(JI)Z"⟩ : MethodName) ∈ tf_Ts := tf_mem 1471 (by decide +kernel) rfl
theorem w_1473 : Cond.instanceMethod (⟨"TypeFoundryModel", "isRow", "(JI)Z"⟩ : MethodName) ∈ tf_Ts := tf_mem 1473 (by decide +kernel) rfl
theorem wp_40 : Cond.selects "TypeFoundryModel" (⟨"TypeFoundryModel", "isRow", "(JI)Z"⟩ : MethodName) (⟨"TypeFoundryModel", "isRow", "(JI)Z"⟩ : MethodName) ∈ tf_Ts := tf_memP 40 (by decide +kernel) rfl
theorem w_1174 : Cond.fieldLink "TypeFoundryModel" 282 "TypeFoundryModel" "rules" "I" ∈ tf_Ts := tf_mem 1174 (by decide +kernel) rfl
theorem w_1475 : Cond.constantLong "TypeFoundryModel" 285 (65535) ∈ tf_Ts := tf_mem 1475 (by decide +kernel) rfl
theorem w_1476 : Cond.constantLong "TypeFoundryModel" 287 (4294967295) ∈ tf_Ts := tf_mem 1476 (by decide +kernel) rfl
theorem w_1464 : Cond.code (⟨"TypeFoundryModel", "rule", "(IJJJI)I"⟩ : MethodName) prog_13_method_48_code 10 (some (.int)) ∈ tf_Ts := tf_mem 1464 (by decide +kernel) rfl
theorem w_1177 : Cond.fieldLink "TypeFoundryModel" 289 "TypeFoundryModel" "typed" "I" ∈ tf_Ts := tf_mem 1177 (by decide +kernel) rfl
theorem w_1480 : Cond.code (⟨"TypeFoundryModel", "type", "(I)Z"⟩ : MethodName) prog_13_method_49_code 2 (some (.boolean)) ∈ tf_Ts := tf_mem 1480 (by decide +kernel) rfl
theorem w_1179 : Cond.fieldLink "TypeFoundryModel" 292 "TypeFoundryModel" "rowSize" "I" ∈ tf_Ts := tf_mem 1179 (by decide +kernel) rfl
theorem w_1496 : Cond.code (⟨"TypeFoundryModel", "stands", "(JII)Z"⟩ : MethodName) prog_13_method_50_code 8 (some (.boolean)) ∈ tf_Ts := tf_mem 1496 (by decide +kernel) rfl
theorem w_1493 : Cond.methodLink "TypeFoundryModel" 295 (⟨"TypeFoundryModel", "stands", "(JII)Z"⟩ : MethodName) ∈ tf_Ts := tf_mem 1493 (by decide +kernel) rfl
theorem w_1495 : Cond.instanceMethod (⟨"TypeFoundryModel", "stands", "(JII)Z"⟩ : MethodName) ∈ tf_Ts := tf_mem 1495 (by decide +kernel) rfl
theorem wp_43 : Cond.selects "TypeFoundryModel" (⟨"TypeFoundryModel", "stands", "(JII)Z"⟩ : MethodName) (⟨"TypeFoundryModel", "stands", "(JII)Z"⟩ : MethodName) ∈ tf_Ts := tf_memP 43 (by decide +kernel) rfl
theorem w_1492 : Cond.code (⟨"TypeFoundryModel", "fitsAt", "(II)Z"⟩ : MethodName) prog_13_method_51_code 4 (some (.boolean)) ∈ tf_Ts := tf_mem 1492 (by decide +kernel) rfl
theorem w_1489 : Cond.methodLink "TypeFoundryModel" 299 (⟨"TypeFoundryModel", "fitsAt", "(II)Z"⟩ : MethodName) ∈ tf_Ts := tf_mem 1489 (by decide +kernel) rfl
theorem w_1491 : Cond.instanceMethod (⟨"TypeFoundryModel", "fitsAt", "(II)Z"⟩ : MethodName) ∈ tf_Ts := tf_mem 1491 (by decide +kernel) rfl
theorem wp_42 : Cond.selects "TypeFoundryModel" (⟨"TypeFoundryModel", "fitsAt", "(II)Z"⟩ : MethodName) (⟨"TypeFoundryModel", "fitsAt", "(II)Z"⟩ : MethodName) ∈ tf_Ts := tf_memP 42 (by decide +kernel) rfl
theorem w_1488 : Cond.code (⟨"TypeFoundryModel", "bestRule", "(II)I"⟩ : MethodName) prog_13_method_52_code 7 (some (.int)) ∈ tf_Ts := tf_mem 1488 (by decide +kernel) rfl
theorem w_1175 : Cond.fieldLink "TypeFoundryModel" 303 "TypeFoundryModel" "put" "I" ∈ tf_Ts := tf_mem 1175 (by decide +kernel) rfl
theorem w_1500 : Cond.code (⟨"TypeFoundryModel", "change", "(II)V"⟩ : MethodName) prog_13_method_53_code 5 none ∈ tf_Ts := tf_mem 1500 (by decide +kernel) rfl
theorem w_1485 : Cond.methodLink "TypeFoundryModel" 306 (⟨"TypeFoundryModel", "bestRule", "(II)I"⟩ : MethodName) ∈ tf_Ts := tf_mem 1485 (by decide +kernel) rfl
theorem w_1487 : Cond.instanceMethod (⟨"TypeFoundryModel", "bestRule", "(II)I"⟩ : MethodName) ∈ tf_Ts := tf_mem 1487 (by decide +kernel) rfl
theorem wp_41 : Cond.selects "TypeFoundryModel" (⟨"TypeFoundryModel", "bestRule", "(II)I"⟩ : MethodName) (⟨"TypeFoundryModel", "bestRule", "(II)I"⟩ : MethodName) ∈ tf_Ts := tf_memP 41 (by decide +kernel) rfl
theorem w_1497 : Cond.methodLink "TypeFoundryModel" 309 (⟨"TypeFoundryModel", "change", "(II)V"⟩ : MethodName) ∈ tf_Ts := tf_mem 1497 (by decide +kernel) rfl
theorem w_1499 : Cond.instanceMethod (⟨"TypeFoundryModel", "change", "(II)V"⟩ : MethodName) ∈ tf_Ts := tf_mem 1499 (by decide +kernel) rfl
theorem wp_44 : Cond.selects "TypeFoundryModel" (⟨"TypeFoundryModel", "change", "(II)V"⟩ : MethodName) (⟨"TypeFoundryModel", "change", "(II)V"⟩ : MethodName) ∈ tf_Ts := tf_memP 44 (by decide +kernel) rfl
theorem w_1484 : Cond.code (⟨"TypeFoundryModel", "shape", "()I"⟩ : MethodName) prog_13_method_54_code 4 (some (.int)) ∈ tf_Ts := tf_mem 1484 (by decide +kernel) rfl
theorem w_1505 : Cond.methodLink "TypeFoundryModel" 312 (⟨"TypeFoundryModel", "kernOf", "(II)I"⟩ : MethodName) ∈ tf_Ts := tf_mem 1505 (by decide +kernel) rfl
theorem w_1507 : Cond.instanceMethod (⟨"TypeFoundryModel", "kernOf", "(II)I"⟩ : MethodName) ∈ tf_Ts := tf_mem 1507 (by decide +kernel) rfl
theorem wp_45 : Cond.selects "TypeFoundryModel" (⟨"TypeFoundryModel", "kernOf", "(II)I"⟩ : MethodName) (⟨"TypeFoundryModel", "kernOf", "(II)I"⟩ : MethodName) ∈ tf_Ts := tf_memP 45 (by decide +kernel) rfl
theorem w_1504 : Cond.code (⟨"TypeFoundryModel", "shaped", "(II)I"⟩ : MethodName) prog_13_method_55_code 6 (some (.int)) ∈ tf_Ts := tf_mem 1504 (by decide +kernel) rfl
theorem w_1512 : Cond.code (⟨"TypeFoundryModel", "count", "(I)I"⟩ : MethodName) prog_13_method_56_code 2 (some (.int)) ∈ tf_Ts := tf_mem 1512 (by decide +kernel) rfl
theorem w_45 : Cond.fieldLink "TypeFoundry$Blend" 9 "TypeFoundry$Blend" "masters" "I" ∈ tf_Ts := tf_mem 45 (by decide +kernel) rfl
theorem w_257 : Cond.methodLinkNest "TypeFoundry$Blend" 15 (⟨"TypeFoundry", "within", "(III)Z"⟩ : MethodName) "TypeFoundry" ∈ tf_NW := tf_memN 257 (by decide +kernel) rfl
theorem w_47 : Cond.fieldLink "TypeFoundry$Blend" 19 "TypeFoundry$Blend" "u" "I" ∈ tf_Ts := tf_mem 47 (by decide +kernel) rfl
theorem w_48 : Cond.fieldLink "TypeFoundry$Blend" 22 "TypeFoundry$Blend" "v" "I" ∈ tf_Ts := tf_mem 48 (by decide +kernel) rfl
theorem w_643 : Cond.methodLink "TypeFoundry$Blend" 25 (⟨"TypeFoundry$Blend", "mix", "(JJI)J"⟩ : MethodName) ∈ tf_Ts := tf_mem 643 (by decide +kernel) rfl
theorem w_645 : Cond.code (⟨"TypeFoundry$Blend", "mix", "(JJI)J"⟩ : MethodName) prog_2_method_5_code 5 (some (.long)) ∈ tf_Ts := tf_mem 645 (by decide +kernel) rfl
theorem w_644 : Cond.static (⟨"TypeFoundry$Blend", "mix", "(JJI)J"⟩ : MethodName) ∈ tf_Ts := tf_mem 644 (by decide +kernel) rfl
theorem w_646 : Cond.constantLong "TypeFoundry$Blend" 29 (1024) ∈ tf_Ts := tf_mem 646 (by decide +kernel) rfl
theorem w_647 : Cond.methodLinkNest "TypeFoundry$Blend" 31 (⟨"TypeFoundry", "halvesUp", "(JJ)I"⟩ : MethodName) "TypeFoundry" ∈ tf_NW := tf_memN 647 (by decide +kernel) rfl
theorem w_648 : Cond.static (⟨"TypeFoundry", "halvesUp", "(JJ)I"⟩ : MethodName) ∈ tf_Ts := tf_mem 648 (by decide +kernel) rfl
theorem w_654 : Cond.constantLong "TypeFoundry$Blend" 35 (1048576) ∈ tf_Ts := tf_mem 654 (by decide +kernel) rfl
theorem w_132 : Cond.fieldLink "TypeFoundry$Canvas" 11 "TypeFoundry$Canvas" "cells" "[I" ∈ tf_Ts := tf_mem 132 (by decide +kernel) rfl
theorem w_133 : Cond.fieldLink "TypeFoundry$Canvas" 15 "TypeFoundry$Canvas" "side" "I" ∈ tf_Ts := tf_mem 133 (by decide +kernel) rfl
theorem w_134 : Cond.fieldLink "TypeFoundry$Canvas" 19 "TypeFoundry$Canvas" "across" "I" ∈ tf_Ts := tf_mem 134 (by decide +kernel) rfl
theorem w_703 : Cond.methodLink "TypeFoundry$Canvas" 22 (⟨"java/util/Arrays", "fill", "([IIII)V"⟩ : MethodName) ∈ tf_Ts := tf_mem 703 (by decide +kernel) rfl
theorem w_705 : Cond.code (⟨"java/util/Arrays", "fill", "([IIII)V"⟩ : MethodName) prog_30_method_104_code 5 none ∈ tf_Ts := tf_mem 705 (by decide +kernel) rfl
theorem w_19 : Cond.initialized "java/util/Arrays" ∈ tf_Ts := tf_mem 19 (by decide +kernel) rfl
theorem w_704 : Cond.static (⟨"java/util/Arrays", "fill", "([IIII)V"⟩ : MethodName) ∈ tf_Ts := tf_mem 704 (by decide +kernel) rfl
theorem w_104 : Cond.fieldLink "TypeFoundry$Canvas" 28 "TypeFoundry$Path" "size" "I" ∈ tf_Ts := tf_mem 104 (by decide +kernel) rfl
theorem w_102 : Cond.fieldLink "TypeFoundry$Canvas" 33 "TypeFoundry$Path" "ys" "[I" ∈ tf_Ts := tf_mem 102 (by decide +kernel) rfl
theorem w_100 : Cond.fieldLink "TypeFoundry$Canvas" 36 "TypeFoundry$Path" "xs" "[I" ∈ tf_Ts := tf_mem 100 (by decide +kernel) rfl
theorem w_1006 : Cond.methodLink "TypeFoundry$Canvas" 39 (⟨"TypeFoundry$Canvas", "addRising", "(IIIII)V"⟩ : MethodName) ∈ tf_Ts := tf_mem 1006 (by decide +kernel) rfl
theorem w_1009 : Cond.code (⟨"TypeFoundry$Canvas", "addRising", "(IIIII)V"⟩ : MethodName) prog_3_method_7_code 11 none ∈ tf_Ts := tf_mem 1009 (by decide +kernel) rfl
theorem w_1008 : Cond.instanceMethod (⟨"TypeFoundry$Canvas", "addRising", "(IIIII)V"⟩ : MethodName) ∈ tf_Ts := tf_mem 1008 (by decide +kernel) rfl
theorem wp_14 : Cond.selects "TypeFoundry$Canvas" (⟨"TypeFoundry$Canvas", "addRising", "(IIIII)V"⟩ : MethodName) (⟨"TypeFoundry$Canvas", "addRising", "(IIIII)V"⟩ : MethodName) ∈ tf_Ts := tf_memP 14 (by decide +kernel) rfl
theorem w_1037 : Cond.methodLink "TypeFoundry$Canvas" 43 (⟨"TypeFoundry$Canvas", "grey", "(I)I"⟩ : MethodName) ∈ tf_Ts := tf_mem 1037 (by decide +kernel) rfl
theorem w_1040 : Cond.code (⟨"TypeFoundry$Canvas", "grey", "(I)I"⟩ : MethodName) prog_3_method_6_code 3 (some (.int)) ∈ tf_Ts := tf_mem 1040 (by decide +kernel) rfl
theorem w_1039 : Cond.instanceMethod (⟨"TypeFoundry$Canvas", "grey", "(I)I"⟩ : MethodName) ∈ tf_Ts := tf_mem 1039 (by decide +kernel) rfl
theorem wp_18 : Cond.selects "TypeFoundry$Canvas" (⟨"TypeFoundry$Canvas", "grey", "(I)I"⟩ : MethodName) (⟨"TypeFoundry$Canvas", "grey", "(I)I"⟩ : MethodName) ∈ tf_Ts := tf_memP 18 (by decide +kernel) rfl
theorem w_282 : Cond.methodLinkNest "TypeFoundry$Canvas" 47 (⟨"TypeFoundry", "within", "(III)Z"⟩ : MethodName) "TypeFoundry" ∈ tf_NW := tf_memN 282 (by decide +kernel) rfl
theorem w_1041 : Cond.constantLong "TypeFoundry$Canvas" 51 (255) ∈ tf_Ts := tf_mem 1041 (by decide +kernel) rfl
theorem w_1021 : Cond.methodLinkNest "TypeFoundry$Canvas" 53 (⟨"TypeFoundry", "halvesUp", "(JJ)I"⟩ : MethodName) "TypeFoundry" ∈ tf_NW := tf_memN 1021 (by decide +kernel) rfl
theorem w_1010 : Cond.methodLink "TypeFoundry$Canvas" 66 (⟨"TypeFoundry$Canvas", "firstCut", "(I)I"⟩ : MethodName) ∈ tf_Ts := tf_mem 1010 (by decide +kernel) rfl
theorem w_1013 : Cond.code (⟨"TypeFoundry$Canvas", "firstCut", "(I)I"⟩ : MethodName) prog_3_method_10_code 2 (some (.int)) ∈ tf_Ts := tf_mem 1013 (by decide +kernel) rfl
theorem w_1012 : Cond.instanceMethod (⟨"TypeFoundry$Canvas", "firstCut", "(I)I"⟩ : MethodName) ∈ tf_Ts := tf_mem 1012 (by decide +kernel) rfl
theorem wp_15 : Cond.selects "TypeFoundry$Canvas" (⟨"TypeFoundry$Canvas", "firstCut", "(I)I"⟩ : MethodName) (⟨"TypeFoundry$Canvas", "firstCut", "(I)I"⟩ : MethodName) ∈ tf_Ts := tf_memP 15 (by decide +kernel) rfl
theorem w_1018 : Cond.methodLink "TypeFoundry$Canvas" 69 (⟨"TypeFoundry$Canvas", "crossing", "(IIIII)I"⟩ : MethodName) ∈ tf_Ts := tf_mem 1018 (by decide +kernel) rfl
theorem w_1020 : Cond.code (⟨"TypeFoundry$Canvas", "crossing", "(IIIII)I"⟩ : MethodName) prog_3_method_11_code 5 (some (.int)) ∈ tf_Ts := tf_mem 1020 (by decide +kernel) rfl
theorem w_1019 : Cond.static (⟨"TypeFoundry$Canvas", "crossing", "(IIIII)I"⟩ : MethodName) ∈ tf_Ts := tf_mem 1019 (by decide +kernel) rfl
theorem w_1022 : Cond.methodLink "TypeFoundry$Canvas" 73 (⟨"TypeFoundry$Canvas", "addPart", "(IIIII)V"⟩ : MethodName) ∈ tf_Ts := tf_mem 1022 (by decide +kernel) rfl
theorem w_1025 : Cond.code (⟨"TypeFoundry$Canvas", "addPart", "(IIIII)V"⟩ : MethodName) prog_3_method_8_code 17 none ∈ tf_Ts := tf_mem 1025 (by decide +kernel) rfl
theorem w_1024 : Cond.instanceMethod (⟨"TypeFoundry$Canvas", "addPart", "(IIIII)V"⟩ : MethodName) ∈ tf_Ts := tf_mem 1024 (by decide +kernel) rfl
theorem wp_16 : Cond.selects "TypeFoundry$Canvas" (⟨"TypeFoundry$Canvas", "addPart", "(IIIII)V"⟩ : MethodName) (⟨"TypeFoundry$Canvas", "addPart", "(IIIII)V"⟩ : MethodName) ∈ tf_Ts := tf_memP 16 (by decide +kernel) rfl
theorem w_1014 : Cond.methodLink "TypeFoundry$Canvas" 76 (⟨"java/lang/Math", "floorDiv", "(II)I"⟩ : MethodName) ∈ tf_Ts := tf_mem 1014 (by decide +kernel) rfl
theorem w_1016 : Cond.code (⟨"java/lang/Math", "floorDiv", "(II)I"⟩ : MethodName) prog_22_method_47_code 3 (some (.int)) ∈ tf_Ts := tf_mem 1016 (by decide +kernel) rfl
theorem w_1015 : Cond.static (⟨"java/lang/Math", "floorDiv", "(II)I"⟩ : MethodName) ∈ tf_Ts := tf_mem 1015 (by decide +kernel) rfl
theorem w_1029 : Cond.methodLink "TypeFoundry$Canvas" 82 (⟨"TypeFoundry$Canvas", "addRise", "(IIII)V"⟩ : MethodName) ∈ tf_Ts := tf_mem 1029 (by decide +kernel) rfl
theorem w_1032 : Cond.code (⟨"TypeFoundry$Canvas", "addRise", "(IIII)V"⟩ : MethodName) prog_3_method_9_code 8 none ∈ tf_Ts := tf_mem 1032 (by decide +kernel) rfl
theorem w_1031 : Cond.instanceMethod (⟨"TypeFoundry$Canvas", "addRise", "(IIII)V"⟩ : MethodName) ∈ tf_Ts := tf_mem 1031 (by decide +kernel) rfl
theorem wp_17 : Cond.selects "TypeFoundry$Canvas" (⟨"TypeFoundry$Canvas", "addRise", "(IIII)V"⟩ : MethodName) (⟨"TypeFoundry$Canvas", "addRise", "(IIII)V"⟩ : MethodName) ∈ tf_Ts := tf_memP 17 (by decide +kernel) rfl
theorem w_460 : Cond.fieldLink "TypeFoundry$Glyph" 9 "TypeFoundry$Glyph" "on" "[Z" ∈ tf_Ts := tf_mem 460 (by decide +kernel) rfl
theorem w_462 : Cond.fieldLink "TypeFoundry$Glyph" 15 "TypeFoundry$Glyph" "ends" "[I" ∈ tf_Ts := tf_mem 462 (by decide +kernel) rfl
theorem w_464 : Cond.fieldLink "TypeFoundry$Glyph" 21 "TypeFoundry$Glyph" "parts" "[LTypeFoundry$Part;" ∈ tf_Ts := tf_mem 464 (by decide +kernel) rfl
theorem w_474 : Cond.fieldLink "TypeFoundry$Glyph" 25 "TypeFoundry$Glyph" "masters" "I" ∈ tf_Ts := tf_mem 474 (by decide +kernel) rfl
theorem w_454 : Cond.fieldLink "TypeFoundry$Glyph" 29 "TypeFoundry$Glyph" "xs" "[I" ∈ tf_Ts := tf_mem 454 (by decide +kernel) rfl
theorem w_456 : Cond.fieldLink "TypeFoundry$Glyph" 32 "TypeFoundry$Glyph" "ys" "[I" ∈ tf_Ts := tf_mem 456 (by decide +kernel) rfl
theorem w_458 : Cond.fieldLink "TypeFoundry$Glyph" 35 "TypeFoundry$Glyph" "widths" "[I" ∈ tf_Ts := tf_mem 458 (by decide +kernel) rfl
theorem w_466 : Cond.fieldLink "TypeFoundry$Glyph" 38 "TypeFoundry$Glyph" "points" "I" ∈ tf_Ts := tf_mem 466 (by decide +kernel) rfl
theorem w_542 : Cond.methodLink "TypeFoundry$Glyph" 41 (⟨"TypeFoundry$Glyph", "movePoint", "(IIII)V"⟩ : MethodName) ∈ tf_Ts := tf_mem 542 (by decide +kernel) rfl
theorem w_473 : Cond.fieldLink "TypeFoundry$Glyph" 45 "TypeFoundry$Glyph" "locked" "Z" ∈ tf_Ts := tf_mem 473 (by decide +kernel) rfl
theorem w_475 : Cond.fieldLink "TypeFoundry$Glyph" 49 "TypeFoundry$Glyph" "closedPoints" "I" ∈ tf_Ts := tf_mem 475 (by decide +kernel) rfl
theorem w_468 : Cond.fieldLink "TypeFoundry$Glyph" 52 "TypeFoundry$Glyph" "contours" "I" ∈ tf_Ts := tf_mem 468 (by decide +kernel) rfl
theorem w_476 : Cond.fieldLink "TypeFoundry$Glyph" 55 "TypeFoundry$Glyph" "partCount" "I" ∈ tf_Ts := tf_mem 476 (by decide +kernel) rfl
theorem w_470 : Cond.fieldLink "TypeFoundry$Glyph" 58 "TypeFoundry$Glyph" "depth" "I" ∈ tf_Ts := tf_mem 470 (by decide +kernel) rfl
theorem w_477 : Cond.fieldLink "TypeFoundry$Glyph" 61 "TypeFoundry$Glyph" "partPoints" "I" ∈ tf_Ts := tf_mem 477 (by decide +kernel) rfl
theorem w_587 : Cond.methodLink "TypeFoundry$Glyph" 64 (⟨"TypeFoundry$Glyph", "outlinePoints", "()I"⟩ : MethodName) ∈ tf_Ts := tf_mem 587 (by decide +kernel) rfl
theorem w_600 : Cond.fieldLink "TypeFoundry$Glyph" 68 "TypeFoundry$Part" "source" "LTypeFoundry$Glyph;" ∈ tf_Ts := tf_mem 600 (by decide +kernel) rfl
theorem w_478 : Cond.fieldLink "TypeFoundry$Glyph" 72 "TypeFoundry$Glyph" "partContours" "I" ∈ tf_Ts := tf_mem 478 (by decide +kernel) rfl
theorem w_620 : Cond.methodLink "TypeFoundry$Glyph" 75 (⟨"TypeFoundry$Glyph", "outlineContours", "()I"⟩ : MethodName) ∈ tf_Ts := tf_mem 620 (by decide +kernel) rfl
theorem w_120 : Cond.fieldLink "TypeFoundry$Heights" 9 "TypeFoundry$Heights" "ys" "[I" ∈ tf_Ts := tf_mem 120 (by decide +kernel) rfl
theorem w_118 : Cond.fieldLink "TypeFoundry$Heights" 15 "TypeFoundry$Heights" "size" "I" ∈ tf_Ts := tf_mem 118 (by decide +kernel) rfl
theorem w_995 : Cond.methodLink "TypeFoundry$Heights" 19 (⟨"TypeFoundry$Heights", "goal", "(II)I"⟩ : MethodName) ∈ tf_Ts := tf_mem 995 (by decide +kernel) rfl
theorem w_997 : Cond.code (⟨"TypeFoundry$Heights", "goal", "(II)I"⟩ : MethodName) prog_5_method_5_code 2 (some (.int)) ∈ tf_Ts := tf_mem 997 (by decide +kernel) rfl
theorem w_996 : Cond.static (⟨"TypeFoundry$Heights", "goal", "(II)I"⟩ : MethodName) ∈ tf_Ts := tf_mem 996 (by decide +kernel) rfl
theorem w_999 : Cond.methodLink "TypeFoundry$Heights" 23 (⟨"TypeFoundry$Heights", "between", "(IIII)I"⟩ : MethodName) ∈ tf_Ts := tf_mem 999 (by decide +kernel) rfl
theorem w_1001 : Cond.code (⟨"TypeFoundry$Heights", "between", "(IIII)I"⟩ : MethodName) prog_5_method_4_code 5 (some (.int)) ∈ tf_Ts := tf_mem 1001 (by decide +kernel) rfl
theorem w_1000 : Cond.static (⟨"TypeFoundry$Heights", "between", "(IIII)I"⟩ : MethodName) ∈ tf_Ts := tf_mem 1000 (by decide +kernel) rfl
theorem w_994 : Cond.code (⟨"TypeFoundry$Heights", "fitted", "(II)I"⟩ : MethodName) prog_5_method_3_code 4 (some (.int)) ∈ tf_Ts := tf_mem 994 (by decide +kernel) rfl
theorem w_998 : Cond.methodLinkNest "TypeFoundry$Heights" 27 (⟨"TypeFoundry", "halvesUp", "(JJ)I"⟩ : MethodName) "TypeFoundry" ∈ tf_NW := tf_memN 998 (by decide +kernel) rfl
theorem w_150 : Cond.fieldLink "TypeFoundry$Kerning" 9 "TypeFoundry$Kerning" "leftClasses" "[I" ∈ tf_Ts := tf_mem 150 (by decide +kernel) rfl
theorem w_151 : Cond.fieldLink "TypeFoundry$Kerning" 15 "TypeFoundry$Kerning" "rightClasses" "[I" ∈ tf_Ts := tf_mem 151 (by decide +kernel) rfl
theorem w_152 : Cond.fieldLink "TypeFoundry$Kerning" 18 "TypeFoundry$Kerning" "ofClasses" "[I" ∈ tf_Ts := tf_mem 152 (by decide +kernel) rfl
theorem w_153 : Cond.fieldLink "TypeFoundry$Kerning" 21 "TypeFoundry$Kerning" "lefts" "[I" ∈ tf_Ts := tf_mem 153 (by decide +kernel) rfl
theorem w_154 : Cond.fieldLink "TypeFoundry$Kerning" 24 "TypeFoundry$Kerning" "rights" "[I" ∈ tf_Ts := tf_mem 154 (by decide +kernel) rfl
theorem w_155 : Cond.fieldLink "TypeFoundry$Kerning" 27 "TypeFoundry$Kerning" "ofPairs" "[I" ∈ tf_Ts := tf_mem 155 (by decide +kernel) rfl
theorem w_310 : Cond.methodLink "TypeFoundry$Kerning" 30 (⟨"TypeFoundry$Kerning", "pairAt", "(II)I"⟩ : MethodName) ∈ tf_Ts := tf_mem 310 (by decide +kernel) rfl
theorem w_313 : Cond.code (⟨"TypeFoundry$Kerning", "pairAt", "(II)I"⟩ : MethodName) prog_6_method_6_code 4 (some (.int)) ∈ tf_Ts := tf_mem 313 (by decide +kernel) rfl
theorem w_312 : Cond.instanceMethod (⟨"TypeFoundry$Kerning", "pairAt", "(II)I"⟩ : MethodName) ∈ tf_Ts := tf_mem 312 (by decide +kernel) rfl
theorem wp_1 : Cond.selects "TypeFoundry$Kerning" (⟨"TypeFoundry$Kerning", "pairAt", "(II)I"⟩ : MethodName) (⟨"TypeFoundry$Kerning", "pairAt", "(II)I"⟩ : MethodName) ∈ tf_Ts := tf_memP 1 (by decide +kernel) rfl
theorem w_148 : Cond.fieldLink "TypeFoundry$Kerning" 34 "TypeFoundry$Kerning" "pairs" "I" ∈ tf_Ts := tf_mem 148 (by decide +kernel) rfl
theorem w_64 : Cond.fieldLink "TypeFoundry$Outline" 9 "TypeFoundry$Outline" "xs" "[I" ∈ tf_Ts := tf_mem 64 (by decide +kernel) rfl
theorem w_66 : Cond.fieldLink "TypeFoundry$Outline" 15 "TypeFoundry$Outline" "ys" "[I" ∈ tf_Ts := tf_mem 66 (by decide +kernel) rfl
theorem w_68 : Cond.fieldLink "TypeFoundry$Outline" 18 "TypeFoundry$Outline" "on" "[Z" ∈ tf_Ts := tf_mem 68 (by decide +kernel) rfl
theorem w_70 : Cond.fieldLink "TypeFoundry$Outline" 22 "TypeFoundry$Outline" "starts" "[I" ∈ tf_Ts := tf_mem 70 (by decide +kernel) rfl
theorem w_74 : Cond.fieldLink "TypeFoundry$Outline" 25 "TypeFoundry$Outline" "contourOf" "[I" ∈ tf_Ts := tf_mem 74 (by decide +kernel) rfl
theorem w_75 : Cond.fieldLink "TypeFoundry$Outline" 28 "TypeFoundry$Outline" "points" "I" ∈ tf_Ts := tf_mem 75 (by decide +kernel) rfl
theorem w_72 : Cond.fieldLink "TypeFoundry$Outline" 32 "TypeFoundry$Outline" "contours" "I" ∈ tf_Ts := tf_mem 72 (by decide +kernel) rfl
theorem w_659 : Cond.methodLink "TypeFoundry$Outline" 35 (⟨"TypeFoundry$Outline", "gather", "(LTypeFoundry$Glyph;LTypeFoundry$Blend;I)V"⟩ : MethodName) ∈ tf_Ts := tf_mem 659 (by decide +kernel) rfl
theorem w_662 : Cond.code (⟨"TypeFoundry$Outline", "gather", "(LTypeFoundry$Glyph;LTypeFoundry$Blend;I)V"⟩ : MethodName) prog_7_method_4_code 9 none ∈ tf_Ts := tf_mem 662 (by decide +kernel) rfl
theorem w_661 : Cond.instanceMethod (⟨"TypeFoundry$Outline", "gather", "(LTypeFoundry$Glyph;LTypeFoundry$Blend;I)V"⟩ : MethodName) ∈ tf_Ts := tf_mem 661 (by decide +kernel) rfl
theorem wp_7 : Cond.selects "TypeFoundry$Outline" (⟨"TypeFoundry$Outline", "gather", "(LTypeFoundry$Glyph;LTypeFoundry$Blend;I)V"⟩ : MethodName) (⟨"TypeFoundry$Outline", "gather", "(LTypeFoundry$Glyph;LTypeFoundry$Blend;I)V"⟩ : MethodName) ∈ tf_Ts := tf_memP 7 (by decide +kernel) rfl
theorem w_663 : Cond.methodLink "TypeFoundry$Outline" 39 (⟨"TypeFoundry$Outline", "addContours", "(LTypeFoundry$Glyph;LTypeFoundry$Blend;)V"⟩ : MethodName) ∈ tf_Ts := tf_mem 663 (by decide +kernel) rfl
theorem w_666 : Cond.code (⟨"TypeFoundry$Outline", "addContours", "(LTypeFoundry$Glyph;LTypeFoundry$Blend;)V"⟩ : MethodName) prog_7_method_5_code 5 none ∈ tf_Ts := tf_mem 666 (by decide +kernel) rfl
theorem w_665 : Cond.instanceMethod (⟨"TypeFoundry$Outline", "addContours", "(LTypeFoundry$Glyph;LTypeFoundry$Blend;)V"⟩ : MethodName) ∈ tf_Ts := tf_mem 665 (by decide +kernel) rfl
theorem wp_8 : Cond.selects "TypeFoundry$Outline" (⟨"TypeFoundry$Outline", "addContours", "(LTypeFoundry$Glyph;LTypeFoundry$Blend;)V"⟩ : MethodName) (⟨"TypeFoundry$Outline", "addContours", "(LTypeFoundry$Glyph;LTypeFoundry$Blend;)V"⟩ : MethodName) ∈ tf_Ts := tf_memP 8 (by decide +kernel) rfl
theorem w_465 : Cond.fieldLink "TypeFoundry$Outline" 43 "TypeFoundry$Glyph" "parts" "[LTypeFoundry$Part;" ∈ tf_Ts := tf_mem 465 (by decide +kernel) rfl
theorem w_599 : Cond.fieldLink "TypeFoundry$Outline" 49 "TypeFoundry$Part" "source" "LTypeFoundry$Glyph;" ∈ tf_Ts := tf_mem 599 (by decide +kernel) rfl
theorem w_668 : Cond.methodLink "TypeFoundry$Outline" 55 (⟨"TypeFoundry$Outline", "turnAndShift", "(ILTypeFoundry$Part;)V"⟩ : MethodName) ∈ tf_Ts := tf_mem 668 (by decide +kernel) rfl
theorem w_671 : Cond.code (⟨"TypeFoundry$Outline", "turnAndShift", "(ILTypeFoundry$Part;)V"⟩ : MethodName) prog_7_method_6_code 8 none ∈ tf_Ts := tf_mem 671 (by decide +kernel) rfl
theorem w_670 : Cond.instanceMethod (⟨"TypeFoundry$Outline", "turnAndShift", "(ILTypeFoundry$Part;)V"⟩ : MethodName) ∈ tf_Ts := tf_mem 670 (by decide +kernel) rfl
theorem wp_9 : Cond.selects "TypeFoundry$Outline" (⟨"TypeFoundry$Outline", "turnAndShift", "(ILTypeFoundry$Part;)V"⟩ : MethodName) (⟨"TypeFoundry$Outline", "turnAndShift", "(ILTypeFoundry$Part;)V"⟩ : MethodName) ∈ tf_Ts := tf_memP 9 (by decide +kernel) rfl
theorem w_672 : Cond.methodLink "TypeFoundry$Outline" 59 (⟨"TypeFoundry$Part", "isMirrored", "()Z"⟩ : MethodName) ∈ tf_Ts := tf_mem 672 (by decide +kernel) rfl
theorem w_675 : Cond.code (⟨"TypeFoundry$Part", "isMirrored", "()Z"⟩ : MethodName) prog_8_method_2_code 1 (some (.boolean)) ∈ tf_Ts := tf_mem 675 (by decide +kernel) rfl
theorem w_673 : Cond.instanceMethod (⟨"TypeFoundry$Part", "isMirrored", "()Z"⟩ : MethodName) ∈ tf_Ts := tf_mem 673 (by decide +kernel) rfl
theorem w_674 : Cond.selects "TypeFoundry$Part" (⟨"TypeFoundry$Part", "isMirrored", "()Z"⟩ : MethodName) (⟨"TypeFoundry$Part", "isMirrored", "()Z"⟩ : MethodName) ∈ tf_Ts := tf_mem 674 (by decide +kernel) rfl
theorem w_676 : Cond.methodLink "TypeFoundry$Outline" 63 (⟨"TypeFoundry$Outline", "reverseContours", "(I)V"⟩ : MethodName) ∈ tf_Ts := tf_mem 676 (by decide +kernel) rfl
theorem w_679 : Cond.code (⟨"TypeFoundry$Outline", "reverseContours", "(I)V"⟩ : MethodName) prog_7_method_7_code 5 none ∈ tf_Ts := tf_mem 679 (by decide +kernel) rfl
theorem w_678 : Cond.instanceMethod (⟨"TypeFoundry$Outline", "reverseContours", "(I)V"⟩ : MethodName) ∈ tf_Ts := tf_mem 678 (by decide +kernel) rfl
theorem wp_10 : Cond.selects "TypeFoundry$Outline" (⟨"TypeFoundry$Outline", "reverseContours", "(I)V"⟩ : MethodName) (⟨"TypeFoundry$Outline", "reverseContours", "(I)V"⟩ : MethodName) ∈ tf_Ts := tf_memP 10 (by decide +kernel) rfl
theorem w_469 : Cond.fieldLink "TypeFoundry$Outline" 67 "TypeFoundry$Glyph" "contours" "I" ∈ tf_Ts := tf_mem 469 (by decide +kernel) rfl
theorem w_463 : Cond.fieldLink "TypeFoundry$Outline" 68 "TypeFoundry$Glyph" "ends" "[I" ∈ tf_Ts := tf_mem 463 (by decide +kernel) rfl
theorem w_455 : Cond.fieldLink "TypeFoundry$Outline" 71 "TypeFoundry$Glyph" "xs" "[I" ∈ tf_Ts := tf_mem 455 (by decide +kernel) rfl
theorem w_667 : Cond.methodLink "TypeFoundry$Outline" 72 (⟨"TypeFoundry$Blend", "valueOf", "([II)I"⟩ : MethodName) ∈ tf_Ts := tf_mem 667 (by decide +kernel) rfl
theorem w_457 : Cond.fieldLink "TypeFoundry$Outline" 78 "TypeFoundry$Glyph" "ys" "[I" ∈ tf_Ts := tf_mem 457 (by decide +kernel) rfl
theorem w_461 : Cond.fieldLink "TypeFoundry$Outline" 79 "TypeFoundry$Glyph" "on" "[Z" ∈ tf_Ts := tf_mem 461 (by decide +kernel) rfl
theorem w_606 : Cond.fieldLink "TypeFoundry$Outline" 80 "TypeFoundry$Part" "turn" "I" ∈ tf_Ts := tf_mem 606 (by decide +kernel) rfl
theorem w_602 : Cond.fieldLink "TypeFoundry$Outline" 83 "TypeFoundry$Part" "dx" "I" ∈ tf_Ts := tf_mem 602 (by decide +kernel) rfl
theorem w_604 : Cond.fieldLink "TypeFoundry$Outline" 86 "TypeFoundry$Part" "dy" "I" ∈ tf_Ts := tf_mem 604 (by decide +kernel) rfl
theorem w_680 : Cond.methodLink "TypeFoundry$Outline" 89 (⟨"TypeFoundry$Outline", "swap", "(II)V"⟩ : MethodName) ∈ tf_Ts := tf_mem 680 (by decide +kernel) rfl
theorem w_683 : Cond.code (⟨"TypeFoundry$Outline", "swap", "(II)V"⟩ : MethodName) prog_7_method_8_code 6 none ∈ tf_Ts := tf_mem 683 (by decide +kernel) rfl
theorem w_682 : Cond.instanceMethod (⟨"TypeFoundry$Outline", "swap", "(II)V"⟩ : MethodName) ∈ tf_Ts := tf_mem 682 (by decide +kernel) rfl
theorem wp_11 : Cond.selects "TypeFoundry$Outline" (⟨"TypeFoundry$Outline", "swap", "(II)V"⟩ : MethodName) (⟨"TypeFoundry$Outline", "swap", "(II)V"⟩ : MethodName) ∈ tf_Ts := tf_memP 11 (by decide +kernel) rfl
theorem w_598 : Cond.fieldLink "TypeFoundry$Part" 9 "TypeFoundry$Part" "source" "LTypeFoundry$Glyph;" ∈ tf_Ts := tf_mem 598 (by decide +kernel) rfl
theorem w_601 : Cond.fieldLink "TypeFoundry$Part" 15 "TypeFoundry$Part" "dx" "I" ∈ tf_Ts := tf_mem 601 (by decide +kernel) rfl
theorem w_603 : Cond.fieldLink "TypeFoundry$Part" 19 "TypeFoundry$Part" "dy" "I" ∈ tf_Ts := tf_mem 603 (by decide +kernel) rfl
theorem w_605 : Cond.fieldLink "TypeFoundry$Part" 22 "TypeFoundry$Part" "turn" "I" ∈ tf_Ts := tf_mem 605 (by decide +kernel) rfl
theorem w_99 : Cond.fieldLink "TypeFoundry$Path" 9 "TypeFoundry$Path" "xs" "[I" ∈ tf_Ts := tf_mem 99 (by decide +kernel) rfl
theorem w_101 : Cond.fieldLink "TypeFoundry$Path" 15 "TypeFoundry$Path" "ys" "[I" ∈ tf_Ts := tf_mem 101 (by decide +kernel) rfl
theorem w_71 : Cond.fieldLink "TypeFoundry$Path" 18 "TypeFoundry$Outline" "starts" "[I" ∈ tf_Ts := tf_mem 71 (by decide +kernel) rfl
theorem w_103 : Cond.fieldLink "TypeFoundry$Path" 23 "TypeFoundry$Path" "size" "I" ∈ tf_Ts := tf_mem 103 (by decide +kernel) rfl
theorem w_69 : Cond.fieldLink "TypeFoundry$Path" 27 "TypeFoundry$Outline" "on" "[Z" ∈ tf_Ts := tf_mem 69 (by decide +kernel) rfl
theorem w_970 : Cond.methodLink "TypeFoundry$Path" 31 (⟨"TypeFoundry$Path", "addQuadratic", "(LTypeFoundry$Outline;III)V"⟩ : MethodName) ∈ tf_Ts := tf_mem 970 (by decide +kernel) rfl
theorem w_973 : Cond.code (⟨"TypeFoundry$Path", "addQuadratic", "(LTypeFoundry$Outline;III)V"⟩ : MethodName) prog_9_method_4_code 10 none ∈ tf_Ts := tf_mem 973 (by decide +kernel) rfl
theorem w_972 : Cond.instanceMethod (⟨"TypeFoundry$Path", "addQuadratic", "(LTypeFoundry$Outline;III)V"⟩ : MethodName) ∈ tf_Ts := tf_mem 972 (by decide +kernel) rfl
theorem wp_12 : Cond.selects "TypeFoundry$Path" (⟨"TypeFoundry$Path", "addQuadratic", "(LTypeFoundry$Outline;III)V"⟩ : MethodName) (⟨"TypeFoundry$Path", "addQuadratic", "(LTypeFoundry$Outline;III)V"⟩ : MethodName) ∈ tf_Ts := tf_memP 12 (by decide +kernel) rfl
theorem w_65 : Cond.fieldLink "TypeFoundry$Path" 35 "TypeFoundry$Outline" "xs" "[I" ∈ tf_Ts := tf_mem 65 (by decide +kernel) rfl
theorem w_67 : Cond.fieldLink "TypeFoundry$Path" 36 "TypeFoundry$Outline" "ys" "[I" ∈ tf_Ts := tf_mem 67 (by decide +kernel) rfl
theorem w_983 : Cond.methodLink "TypeFoundry$Path" 37 (⟨"TypeFoundry$Path", "addCorner", "(II)V"⟩ : MethodName) ∈ tf_Ts := tf_mem 983 (by decide +kernel) rfl
theorem w_986 : Cond.code (⟨"TypeFoundry$Path", "addCorner", "(II)V"⟩ : MethodName) prog_9_method_5_code 3 none ∈ tf_Ts := tf_mem 986 (by decide +kernel) rfl
theorem w_985 : Cond.instanceMethod (⟨"TypeFoundry$Path", "addCorner", "(II)V"⟩ : MethodName) ∈ tf_Ts := tf_mem 985 (by decide +kernel) rfl
theorem wp_13 : Cond.selects "TypeFoundry$Path" (⟨"TypeFoundry$Path", "addCorner", "(II)V"⟩ : MethodName) (⟨"TypeFoundry$Path", "addCorner", "(II)V"⟩ : MethodName) ∈ tf_Ts := tf_memP 13 (by decide +kernel) rfl
theorem w_991 : Cond.methodLink "TypeFoundry$Path" 41 (⟨"TypeFoundry$Heights", "fitted", "(II)I"⟩ : MethodName) ∈ tf_Ts := tf_mem 991 (by decide +kernel) rfl
theorem w_992 : Cond.instanceMethod (⟨"TypeFoundry$Heights", "fitted", "(II)I"⟩ : MethodName) ∈ tf_Ts := tf_mem 992 (by decide +kernel) rfl
theorem w_993 : Cond.selects "TypeFoundry$Heights" (⟨"TypeFoundry$Heights", "fitted", "(II)I"⟩ : MethodName) (⟨"TypeFoundry$Heights", "fitted", "(II)I"⟩ : MethodName) ∈ tf_Ts := tf_mem 993 (by decide +kernel) rfl
theorem w_974 : Cond.methodLink "TypeFoundry$Path" 47 (⟨"TypeFoundry$Path", "endAt", "([IIIZ)I"⟩ : MethodName) ∈ tf_Ts := tf_mem 974 (by decide +kernel) rfl
theorem w_976 : Cond.code (⟨"TypeFoundry$Path", "endAt", "([IIIZ)I"⟩ : MethodName) prog_9_method_6_code 4 (some (.int)) ∈ tf_Ts := tf_mem 976 (by decide +kernel) rfl
theorem w_975 : Cond.static (⟨"TypeFoundry$Path", "endAt", "([IIIZ)I"⟩ : MethodName) ∈ tf_Ts := tf_mem 975 (by decide +kernel) rfl
theorem w_979 : Cond.methodLink "TypeFoundry$Path" 51 (⟨"TypeFoundry$Path", "onQuadratic", "(IIII)I"⟩ : MethodName) ∈ tf_Ts := tf_mem 979 (by decide +kernel) rfl
theorem w_981 : Cond.code (⟨"TypeFoundry$Path", "onQuadratic", "(IIII)I"⟩ : MethodName) prog_9_method_7_code 5 (some (.int)) ∈ tf_Ts := tf_mem 981 (by decide +kernel) rfl
theorem w_980 : Cond.static (⟨"TypeFoundry$Path", "onQuadratic", "(IIII)I"⟩ : MethodName) ∈ tf_Ts := tf_mem 980 (by decide +kernel) rfl
theorem w_977 : Cond.constantLong "TypeFoundry$Path" 55 (2) ∈ tf_Ts := tf_mem 977 (by decide +kernel) rfl
theorem w_978 : Cond.methodLinkNest "TypeFoundry$Path" 57 (⟨"TypeFoundry", "halvesUp", "(JJ)I"⟩ : MethodName) "TypeFoundry" ∈ tf_NW := tf_memN 978 (by decide +kernel) rfl
theorem w_982 : Cond.constantLong "TypeFoundry$Path" 61 (64) ∈ tf_Ts := tf_mem 982 (by decide +kernel) rfl
theorem w_1059 : Cond.fieldLink "TypeFoundry$Rule" 9 "TypeFoundry$Rule" "lookup" "I" ∈ tf_Ts := tf_mem 1059 (by decide +kernel) rfl
theorem w_1065 : Cond.fieldLink "TypeFoundry$Rule" 15 "TypeFoundry$Rule" "before" "J" ∈ tf_Ts := tf_mem 1065 (by decide +kernel) rfl
theorem w_1066 : Cond.fieldLink "TypeFoundry$Rule" 19 "TypeFoundry$Rule" "input" "J" ∈ tf_Ts := tf_mem 1066 (by decide +kernel) rfl
theorem w_1067 : Cond.fieldLink "TypeFoundry$Rule" 22 "TypeFoundry$Rule" "after" "J" ∈ tf_Ts := tf_mem 1067 (by decide +kernel) rfl
theorem w_1063 : Cond.fieldLink "TypeFoundry$Rule" 25 "TypeFoundry$Rule" "output" "I" ∈ tf_Ts := tf_mem 1063 (by decide +kernel) rfl
theorem w_1056 : Cond.methodLink "TypeFoundry$Rule" 28 (⟨"TypeFoundry$Rule", "lengthOf", "(JI)I"⟩ : MethodName) ∈ tf_Ts := tf_mem 1056 (by decide +kernel) rfl
theorem w_1058 : Cond.code (⟨"TypeFoundry$Rule", "lengthOf", "(JI)I"⟩ : MethodName) prog_10_method_5_code 4 (some (.int)) ∈ tf_Ts := tf_mem 1058 (by decide +kernel) rfl
theorem w_1057 : Cond.static (⟨"TypeFoundry$Rule", "lengthOf", "(JI)I"⟩ : MethodName) ∈ tf_Ts := tf_mem 1057 (by decide +kernel) rfl
theorem w_1068 : Cond.fieldLink "TypeFoundry$Rule" 32 "TypeFoundry$Rule" "beforeLength" "I" ∈ tf_Ts := tf_mem 1068 (by decide +kernel) rfl
theorem w_1061 : Cond.fieldLink "TypeFoundry$Rule" 35 "TypeFoundry$Rule" "inputLength" "I" ∈ tf_Ts := tf_mem 1061 (by decide +kernel) rfl
theorem w_1069 : Cond.fieldLink "TypeFoundry$Rule" 38 "TypeFoundry$Rule" "afterLength" "I" ∈ tf_Ts := tf_mem 1069 (by decide +kernel) rfl
theorem w_1091 : Cond.methodLink "TypeFoundry$Rule" 41 (⟨"TypeFoundry$Rule", "isOf", "(IJI)Z"⟩ : MethodName) ∈ tf_Ts := tf_mem 1091 (by decide +kernel) rfl
theorem w_1093 : Cond.code (⟨"TypeFoundry$Rule", "isOf", "(IJI)Z"⟩ : MethodName) prog_10_method_7_code 5 (some (.boolean)) ∈ tf_Ts := tf_mem 1093 (by decide +kernel) rfl
theorem w_1092 : Cond.static (⟨"TypeFoundry$Rule", "isOf", "(IJI)Z"⟩ : MethodName) ∈ tf_Ts := tf_mem 1092 (by decide +kernel) rfl
theorem w_1094 : Cond.methodLinkNest "TypeFoundry$Rule" 45 (⟨"TypeFoundry", "within", "(III)Z"⟩ : MethodName) "TypeFoundry" ∈ tf_NW := tf_memN 1094 (by decide +kernel) rfl
theorem w_347 : Cond.code (⟨"TypeFoundry$Rule", "isLongerThan", "(LTypeFoundry$Rule;)Z"⟩ : MethodName) prog_10_method_3_code 2 (some (.boolean)) ∈ tf_Ts := tf_mem 347 (by decide +kernel) rfl
theorem w_352 : Cond.methodLink "TypeFoundry$Rule" 49 (⟨"TypeFoundry$Rule", "stands", "([IIJI)Z"⟩ : MethodName) ∈ tf_Ts := tf_mem 352 (by decide +kernel) rfl
theorem w_354 : Cond.code (⟨"TypeFoundry$Rule", "stands", "([IIJI)Z"⟩ : MethodName) prog_10_method_8_code 6 (some (.boolean)) ∈ tf_Ts := tf_mem 354 (by decide +kernel) rfl
theorem w_353 : Cond.static (⟨"TypeFoundry$Rule", "stands", "([IIJI)Z"⟩ : MethodName) ∈ tf_Ts := tf_mem 353 (by decide +kernel) rfl
theorem w_351 : Cond.code (⟨"TypeFoundry$Rule", "fits", "([III)Z"⟩ : MethodName) prog_10_method_4_code 5 (some (.boolean)) ∈ tf_Ts := tf_mem 351 (by decide +kernel) rfl
theorem w_355 : Cond.methodLink "TypeFoundry$Rule" 53 (⟨"TypeFoundry$Rule", "glyphAt", "(JI)I"⟩ : MethodName) ∈ tf_Ts := tf_mem 355 (by decide +kernel) rfl
theorem w_357 : Cond.code (⟨"TypeFoundry$Rule", "glyphAt", "(JI)I"⟩ : MethodName) prog_10_method_6_code 3 (some (.int)) ∈ tf_Ts := tf_mem 357 (by decide +kernel) rfl
theorem w_356 : Cond.static (⟨"TypeFoundry$Rule", "glyphAt", "(JI)I"⟩ : MethodName) ∈ tf_Ts := tf_mem 356 (by decide +kernel) rfl
theorem w_358 : Cond.constantLong "TypeFoundry$Rule" 56 (255) ∈ tf_Ts := tf_mem 358 (by decide +kernel) rfl
theorem w_179 : Cond.fieldLink "TypeFoundry$Setter" 9 "TypeFoundry$Setter" "row" "[I" ∈ tf_Ts := tf_mem 179 (by decide +kernel) rfl
theorem w_189 : Cond.fieldLink "TypeFoundry$Setter" 15 "TypeFoundry$Setter" "text" "[I" ∈ tf_Ts := tf_mem 189 (by decide +kernel) rfl
theorem w_190 : Cond.fieldLink "TypeFoundry$Setter" 20 "TypeFoundry$Setter" "rules" "[LTypeFoundry$Rule;" ∈ tf_Ts := tf_mem 190 (by decide +kernel) rfl
theorem w_185 : Cond.fieldLink "TypeFoundry$Setter" 24 "TypeFoundry$Setter" "ruleCount" "I" ∈ tf_Ts := tf_mem 185 (by decide +kernel) rfl
theorem w_183 : Cond.fieldLink "TypeFoundry$Setter" 28 "TypeFoundry$Setter" "textSize" "I" ∈ tf_Ts := tf_mem 183 (by decide +kernel) rfl
theorem w_181 : Cond.fieldLink "TypeFoundry$Setter" 37 "TypeFoundry$Setter" "rowSize" "I" ∈ tf_Ts := tf_mem 181 (by decide +kernel) rfl
theorem w_187 : Cond.fieldLink "TypeFoundry$Setter" 40 "TypeFoundry$Setter" "puts" "I" ∈ tf_Ts := tf_mem 187 (by decide +kernel) rfl
theorem w_336 : Cond.methodLink "TypeFoundry$Setter" 43 (⟨"TypeFoundry$Setter", "run", "(I)V"⟩ : MethodName) ∈ tf_Ts := tf_mem 336 (by decide +kernel) rfl
theorem w_339 : Cond.code (⟨"TypeFoundry$Setter", "run", "(I)V"⟩ : MethodName) prog_11_method_5_code 4 none ∈ tf_Ts := tf_mem 339 (by decide +kernel) rfl
theorem w_338 : Cond.instanceMethod (⟨"TypeFoundry$Setter", "run", "(I)V"⟩ : MethodName) ∈ tf_Ts := tf_mem 338 (by decide +kernel) rfl
theorem wp_2 : Cond.selects "TypeFoundry$Setter" (⟨"TypeFoundry$Setter", "run", "(I)V"⟩ : MethodName) (⟨"TypeFoundry$Setter", "run", "(I)V"⟩ : MethodName) ∈ tf_Ts := tf_memP 2 (by decide +kernel) rfl
theorem w_340 : Cond.methodLink "TypeFoundry$Setter" 47 (⟨"TypeFoundry$Setter", "bestAt", "(II)LTypeFoundry$Rule;"⟩ : MethodName) ∈ tf_Ts := tf_mem 340 (by decide +kernel) rfl
theorem w_343 : Cond.code (⟨"TypeFoundry$Setter", "bestAt", "(II)LTypeFoundry$Rule;"⟩ : MethodName) prog_11_method_6_code 6 (some (.object "TypeFoundry$Rule")) ∈ tf_Ts := tf_mem 343 (by decide +kernel) rfl
theorem w_342 : Cond.instanceMethod (⟨"TypeFoundry$Setter", "bestAt", "(II)LTypeFoundry$Rule;"⟩ : MethodName) ∈ tf_Ts := tf_mem 342 (by decide +kernel) rfl
theorem wp_3 : Cond.selects "TypeFoundry$Setter" (⟨"TypeFoundry$Setter", "bestAt", "(II)LTypeFoundry$Rule;"⟩ : MethodName) (⟨"TypeFoundry$Setter", "bestAt", "(II)LTypeFoundry$Rule;"⟩ : MethodName) ∈ tf_Ts := tf_memP 3 (by decide +kernel) rfl
theorem w_359 : Cond.methodLink "TypeFoundry$Setter" 51 (⟨"TypeFoundry$Setter", "put", "(LTypeFoundry$Rule;I)V"⟩ : MethodName) ∈ tf_Ts := tf_mem 359 (by decide +kernel) rfl
theorem w_362 : Cond.code (⟨"TypeFoundry$Setter", "put", "(LTypeFoundry$Rule;I)V"⟩ : MethodName) prog_11_method_7_code 4 none ∈ tf_Ts := tf_mem 362 (by decide +kernel) rfl
theorem w_361 : Cond.instanceMethod (⟨"TypeFoundry$Setter", "put", "(LTypeFoundry$Rule;I)V"⟩ : MethodName) ∈ tf_Ts := tf_mem 361 (by decide +kernel) rfl
theorem wp_4 : Cond.selects "TypeFoundry$Setter" (⟨"TypeFoundry$Setter", "put", "(LTypeFoundry$Rule;I)V"⟩ : MethodName) (⟨"TypeFoundry$Setter", "put", "(LTypeFoundry$Rule;I)V"⟩ : MethodName) ∈ tf_Ts := tf_memP 4 (by decide +kernel) rfl
theorem w_1060 : Cond.fieldLink "TypeFoundry$Setter" 55 "TypeFoundry$Rule" "lookup" "I" ∈ tf_Ts := tf_mem 1060 (by decide +kernel) rfl
theorem w_344 : Cond.methodLink "TypeFoundry$Setter" 58 (⟨"TypeFoundry$Rule", "isLongerThan", "(LTypeFoundry$Rule;)Z"⟩ : MethodName) ∈ tf_Ts := tf_mem 344 (by decide +kernel) rfl
theorem w_345 : Cond.instanceMethod (⟨"TypeFoundry$Rule", "isLongerThan", "(LTypeFoundry$Rule;)Z"⟩ : MethodName) ∈ tf_Ts := tf_mem 345 (by decide +kernel) rfl
theorem w_346 : Cond.selects "TypeFoundry$Rule" (⟨"TypeFoundry$Rule", "isLongerThan", "(LTypeFoundry$Rule;)Z"⟩ : MethodName) (⟨"TypeFoundry$Rule", "isLongerThan", "(LTypeFoundry$Rule;)Z"⟩ : MethodName) ∈ tf_Ts := tf_mem 346 (by decide +kernel) rfl
theorem w_348 : Cond.methodLink "TypeFoundry$Setter" 62 (⟨"TypeFoundry$Rule", "fits", "([III)Z"⟩ : MethodName) ∈ tf_Ts := tf_mem 348 (by decide +kernel) rfl
theorem w_349 : Cond.instanceMethod (⟨"TypeFoundry$Rule", "fits", "([III)Z"⟩ : MethodName) ∈ tf_Ts := tf_mem 349 (by decide +kernel) rfl
theorem w_350 : Cond.selects "TypeFoundry$Rule" (⟨"TypeFoundry$Rule", "fits", "([III)Z"⟩ : MethodName) (⟨"TypeFoundry$Rule", "fits", "([III)Z"⟩ : MethodName) ∈ tf_Ts := tf_mem 350 (by decide +kernel) rfl
theorem w_1062 : Cond.fieldLink "TypeFoundry$Setter" 66 "TypeFoundry$Rule" "inputLength" "I" ∈ tf_Ts := tf_mem 1062 (by decide +kernel) rfl
theorem w_1064 : Cond.fieldLink "TypeFoundry$Setter" 69 "TypeFoundry$Rule" "output" "I" ∈ tf_Ts := tf_mem 1064 (by decide +kernel) rfl
theorem w_369 : Cond.code (⟨"TypeFoundryLaw", "cell", "([II)I"⟩ : MethodName) method_2_code 2 (some (.int)) ∈ tf_Ts := tf_mem 369 (by decide +kernel) rfl
theorem w_374 : Cond.methodLink "TypeFoundryLaw" 7 (⟨"TypeFoundry", "glyph", "()I"⟩ : MethodName) ∈ tf_Ts := tf_mem 374 (by decide +kernel) rfl
theorem w_375 : Cond.instanceMethod (⟨"TypeFoundry", "glyph", "()I"⟩ : MethodName) ∈ tf_Ts := tf_mem 375 (by decide +kernel) rfl
theorem w_376 : Cond.selects "TypeFoundry" (⟨"TypeFoundry", "glyph", "()I"⟩ : MethodName) (⟨"TypeFoundry", "glyph", "()I"⟩ : MethodName) ∈ tf_Ts := tf_mem 376 (by decide +kernel) rfl
theorem w_514 : Cond.methodLink "TypeFoundryLaw" 15 (⟨"TypeFoundry", "point", "(IIIZ)I"⟩ : MethodName) ∈ tf_Ts := tf_mem 514 (by decide +kernel) rfl
theorem w_515 : Cond.instanceMethod (⟨"TypeFoundry", "point", "(IIIZ)I"⟩ : MethodName) ∈ tf_Ts := tf_mem 515 (by decide +kernel) rfl
theorem w_516 : Cond.selects "TypeFoundry" (⟨"TypeFoundry", "point", "(IIIZ)I"⟩ : MethodName) (⟨"TypeFoundry", "point", "(IIIZ)I"⟩ : MethodName) ∈ tf_Ts := tf_mem 516 (by decide +kernel) rfl
theorem w_550 : Cond.methodLink "TypeFoundryLaw" 21 (⟨"TypeFoundry", "place", "(IIIII)V"⟩ : MethodName) ∈ tf_Ts := tf_mem 550 (by decide +kernel) rfl
theorem w_551 : Cond.instanceMethod (⟨"TypeFoundry", "place", "(IIIII)V"⟩ : MethodName) ∈ tf_Ts := tf_mem 551 (by decide +kernel) rfl
theorem w_552 : Cond.selects "TypeFoundry" (⟨"TypeFoundry", "place", "(IIIII)V"⟩ : MethodName) (⟨"TypeFoundry", "place", "(IIIII)V"⟩ : MethodName) ∈ tf_Ts := tf_mem 552 (by decide +kernel) rfl
theorem w_575 : Cond.methodLink "TypeFoundryLaw" 27 (⟨"TypeFoundry", "component", "(IIIII)V"⟩ : MethodName) ∈ tf_Ts := tf_mem 575 (by decide +kernel) rfl
theorem w_576 : Cond.instanceMethod (⟨"TypeFoundry", "component", "(IIIII)V"⟩ : MethodName) ∈ tf_Ts := tf_mem 576 (by decide +kernel) rfl
theorem w_577 : Cond.selects "TypeFoundry" (⟨"TypeFoundry", "component", "(IIIII)V"⟩ : MethodName) (⟨"TypeFoundry", "component", "(IIIII)V"⟩ : MethodName) ∈ tf_Ts := tf_mem 577 (by decide +kernel) rfl
theorem w_628 : Cond.methodLink "TypeFoundryLaw" 30 (⟨"TypeFoundry", "outline", "(III)I"⟩ : MethodName) ∈ tf_Ts := tf_mem 628 (by decide +kernel) rfl
theorem w_629 : Cond.instanceMethod (⟨"TypeFoundry", "outline", "(III)I"⟩ : MethodName) ∈ tf_Ts := tf_mem 629 (by decide +kernel) rfl
theorem w_630 : Cond.selects "TypeFoundry" (⟨"TypeFoundry", "outline", "(III)I"⟩ : MethodName) (⟨"TypeFoundry", "outline", "(III)I"⟩ : MethodName) ∈ tf_Ts := tf_mem 630 (by decide +kernel) rfl
theorem w_691 : Cond.methodLink "TypeFoundryLaw" 34 (⟨"TypeFoundry", "draw", "(IIZ)I"⟩ : MethodName) ∈ tf_Ts := tf_mem 691 (by decide +kernel) rfl
theorem w_692 : Cond.instanceMethod (⟨"TypeFoundry", "draw", "(IIZ)I"⟩ : MethodName) ∈ tf_Ts := tf_mem 692 (by decide +kernel) rfl
theorem w_693 : Cond.selects "TypeFoundry" (⟨"TypeFoundry", "draw", "(IIZ)I"⟩ : MethodName) (⟨"TypeFoundry", "draw", "(IIZ)I"⟩ : MethodName) ∈ tf_Ts := tf_mem 693 (by decide +kernel) rfl
theorem w_1046 : Cond.methodLink "TypeFoundryLaw" 38 (⟨"TypeFoundry", "rule", "(IJJJI)I"⟩ : MethodName) ∈ tf_Ts := tf_mem 1046 (by decide +kernel) rfl
theorem w_1047 : Cond.instanceMethod (⟨"TypeFoundry", "rule", "(IJJJI)I"⟩ : MethodName) ∈ tf_Ts := tf_mem 1047 (by decide +kernel) rfl
theorem w_1048 : Cond.selects "TypeFoundry" (⟨"TypeFoundry", "rule", "(IJJJI)I"⟩ : MethodName) (⟨"TypeFoundry", "rule", "(IJJJI)I"⟩ : MethodName) ∈ tf_Ts := tf_mem 1048 (by decide +kernel) rfl
theorem w_1104 : Cond.methodLink "TypeFoundryLaw" 42 (⟨"TypeFoundry", "shaped", "(II)I"⟩ : MethodName) ∈ tf_Ts := tf_mem 1104 (by decide +kernel) rfl
theorem w_1105 : Cond.instanceMethod (⟨"TypeFoundry", "shaped", "(II)I"⟩ : MethodName) ∈ tf_Ts := tf_mem 1105 (by decide +kernel) rfl
theorem w_1106 : Cond.selects "TypeFoundry" (⟨"TypeFoundry", "shaped", "(II)I"⟩ : MethodName) (⟨"TypeFoundry", "shaped", "(II)I"⟩ : MethodName) ∈ tf_Ts := tf_mem 1106 (by decide +kernel) rfl
theorem w_31 : Cond.classLink "TypeFoundryLaw" 8 "TypeFoundry" ∈ tf_Ts := tf_mem 31 (by decide +kernel) rfl
theorem w_32 : Cond.instantiable "TypeFoundry" 9 ∈ tf_Ts := tf_mem 32 (by decide +kernel) rfl
theorem w_367 : Cond.methodLink "TypeFoundryLaw" 46 (⟨"TypeFoundryLaw", "cell", "([II)I"⟩ : MethodName) ∈ tf_Ts := tf_mem 367 (by decide +kernel) rfl
theorem w_0 : Cond.initialized "TypeFoundryLaw" ∈ tf_Ts := tf_mem 0 (by decide +kernel) rfl
theorem w_368 : Cond.static (⟨"TypeFoundryLaw", "cell", "([II)I"⟩ : MethodName) ∈ tf_Ts := tf_mem 368 (by decide +kernel) rfl
theorem w_33 : Cond.methodLink "TypeFoundryLaw" 52 (⟨"TypeFoundry", "<init>", "(I)V"⟩ : MethodName) ∈ tf_Ts := tf_mem 33 (by decide +kernel) rfl
theorem w_34 : Cond.instanceMethod (⟨"TypeFoundry", "<init>", "(I)V"⟩ : MethodName) ∈ tf_Ts := tf_mem 34 (by decide +kernel) rfl
theorem w_1121 : Cond.classLink "TypeFoundryLaw" 55 "TypeFoundryModel" ∈ tf_Ts := tf_mem 1121 (by decide +kernel) rfl
theorem w_1122 : Cond.instantiable "TypeFoundryModel" 55 ∈ tf_Ts := tf_mem 1122 (by decide +kernel) rfl
theorem w_1123 : Cond.methodLink "TypeFoundryLaw" 57 (⟨"TypeFoundryModel", "<init>", "(I)V"⟩ : MethodName) ∈ tf_Ts := tf_mem 1123 (by decide +kernel) rfl
theorem w_1124 : Cond.instanceMethod (⟨"TypeFoundryModel", "<init>", "(I)V"⟩ : MethodName) ∈ tf_Ts := tf_mem 1124 (by decide +kernel) rfl
theorem w_370 : Cond.methodLink "TypeFoundryLaw" 58 (⟨"TypeFoundryLaw", "glyph", "(LTypeFoundry;[J)I"⟩ : MethodName) ∈ tf_Ts := tf_mem 370 (by decide +kernel) rfl
theorem w_1299 : Cond.methodLink "TypeFoundryLaw" 61 (⟨"TypeFoundryModel", "glyph", "()I"⟩ : MethodName) ∈ tf_Ts := tf_mem 1299 (by decide +kernel) rfl
theorem w_1300 : Cond.instanceMethod (⟨"TypeFoundryModel", "glyph", "()I"⟩ : MethodName) ∈ tf_Ts := tf_mem 1300 (by decide +kernel) rfl
theorem w_1301 : Cond.selects "TypeFoundryModel" (⟨"TypeFoundryModel", "glyph", "()I"⟩ : MethodName) (⟨"TypeFoundryModel", "glyph", "()I"⟩ : MethodName) ∈ tf_Ts := tf_mem 1301 (by decide +kernel) rfl
theorem w_1295 : Cond.methodLink "TypeFoundryLaw" 62 (⟨"TypeFoundryModel", "thrown", "()I"⟩ : MethodName) ∈ tf_Ts := tf_mem 1295 (by decide +kernel) rfl
theorem w_1296 : Cond.instanceMethod (⟨"TypeFoundryModel", "thrown", "()I"⟩ : MethodName) ∈ tf_Ts := tf_mem 1296 (by decide +kernel) rfl
theorem w_1297 : Cond.selects "TypeFoundryModel" (⟨"TypeFoundryModel", "thrown", "()I"⟩ : MethodName) (⟨"TypeFoundryModel", "thrown", "()I"⟩ : MethodName) ∈ tf_Ts := tf_mem 1297 (by decide +kernel) rfl
theorem w_510 : Cond.methodLink "TypeFoundryLaw" 65 (⟨"TypeFoundryLaw", "point", "(LTypeFoundry;IIIZ[J)I"⟩ : MethodName) ∈ tf_Ts := tf_mem 510 (by decide +kernel) rfl
theorem w_1303 : Cond.methodLink "TypeFoundryLaw" 68 (⟨"TypeFoundryModel", "point", "(IIIZ)I"⟩ : MethodName) ∈ tf_Ts := tf_mem 1303 (by decide +kernel) rfl
theorem w_1304 : Cond.instanceMethod (⟨"TypeFoundryModel", "point", "(IIIZ)I"⟩ : MethodName) ∈ tf_Ts := tf_mem 1304 (by decide +kernel) rfl
theorem w_1305 : Cond.selects "TypeFoundryModel" (⟨"TypeFoundryModel", "point", "(IIIZ)I"⟩ : MethodName) (⟨"TypeFoundryModel", "point", "(IIIZ)I"⟩ : MethodName) ∈ tf_Ts := tf_mem 1305 (by decide +kernel) rfl
theorem w_234 : Cond.methodLink "TypeFoundryLaw" 69 (⟨"TypeFoundry", "close", "(I)Z"⟩ : MethodName) ∈ tf_Ts := tf_mem 234 (by decide +kernel) rfl
theorem w_235 : Cond.instanceMethod (⟨"TypeFoundry", "close", "(I)Z"⟩ : MethodName) ∈ tf_Ts := tf_mem 235 (by decide +kernel) rfl
theorem w_236 : Cond.selects "TypeFoundry" (⟨"TypeFoundry", "close", "(I)Z"⟩ : MethodName) (⟨"TypeFoundry", "close", "(I)Z"⟩ : MethodName) ∈ tf_Ts := tf_mem 236 (by decide +kernel) rfl
theorem w_1317 : Cond.methodLink "TypeFoundryLaw" 73 (⟨"TypeFoundryModel", "close", "(I)Z"⟩ : MethodName) ∈ tf_Ts := tf_mem 1317 (by decide +kernel) rfl
theorem w_1318 : Cond.instanceMethod (⟨"TypeFoundryModel", "close", "(I)Z"⟩ : MethodName) ∈ tf_Ts := tf_mem 1318 (by decide +kernel) rfl
theorem w_1319 : Cond.selects "TypeFoundryModel" (⟨"TypeFoundryModel", "close", "(I)Z"⟩ : MethodName) (⟨"TypeFoundryModel", "close", "(I)Z"⟩ : MethodName) ∈ tf_Ts := tf_mem 1319 (by decide +kernel) rfl
theorem w_546 : Cond.methodLink "TypeFoundryLaw" 74 (⟨"TypeFoundryLaw", "place", "(LTypeFoundry;IIIII)I"⟩ : MethodName) ∈ tf_Ts := tf_mem 546 (by decide +kernel) rfl
theorem w_1321 : Cond.methodLink "TypeFoundryLaw" 77 (⟨"TypeFoundryModel", "place", "(IIIII)V"⟩ : MethodName) ∈ tf_Ts := tf_mem 1321 (by decide +kernel) rfl
theorem w_1322 : Cond.instanceMethod (⟨"TypeFoundryModel", "place", "(IIIII)V"⟩ : MethodName) ∈ tf_Ts := tf_mem 1322 (by decide +kernel) rfl
theorem w_1323 : Cond.selects "TypeFoundryModel" (⟨"TypeFoundryModel", "place", "(IIIII)V"⟩ : MethodName) (⟨"TypeFoundryModel", "place", "(IIIII)V"⟩ : MethodName) ∈ tf_Ts := tf_mem 1323 (by decide +kernel) rfl
theorem w_572 : Cond.methodLink "TypeFoundryLaw" 78 (⟨"TypeFoundryLaw", "component", "(LTypeFoundry;IIIII)I"⟩ : MethodName) ∈ tf_Ts := tf_mem 572 (by decide +kernel) rfl
theorem w_1325 : Cond.methodLink "TypeFoundryLaw" 80 (⟨"TypeFoundryModel", "component", "(IIIII)V"⟩ : MethodName) ∈ tf_Ts := tf_mem 1325 (by decide +kernel) rfl
theorem w_1326 : Cond.instanceMethod (⟨"TypeFoundryModel", "component", "(IIIII)V"⟩ : MethodName) ∈ tf_Ts := tf_mem 1326 (by decide +kernel) rfl
theorem w_1327 : Cond.selects "TypeFoundryModel" (⟨"TypeFoundryModel", "component", "(IIIII)V"⟩ : MethodName) (⟨"TypeFoundryModel", "component", "(IIIII)V"⟩ : MethodName) ∈ tf_Ts := tf_mem 1327 (by decide +kernel) rfl
theorem w_249 : Cond.methodLink "TypeFoundryLaw" 81 (⟨"TypeFoundry", "advance", "(III)Z"⟩ : MethodName) ∈ tf_Ts := tf_mem 249 (by decide +kernel) rfl
theorem w_250 : Cond.instanceMethod (⟨"TypeFoundry", "advance", "(III)Z"⟩ : MethodName) ∈ tf_Ts := tf_mem 250 (by decide +kernel) rfl
theorem w_251 : Cond.selects "TypeFoundry" (⟨"TypeFoundry", "advance", "(III)Z"⟩ : MethodName) (⟨"TypeFoundry", "advance", "(III)Z"⟩ : MethodName) ∈ tf_Ts := tf_mem 251 (by decide +kernel) rfl
theorem w_1336 : Cond.methodLink "TypeFoundryLaw" 85 (⟨"TypeFoundryModel", "advance", "(III)Z"⟩ : MethodName) ∈ tf_Ts := tf_mem 1336 (by decide +kernel) rfl
theorem w_1337 : Cond.instanceMethod (⟨"TypeFoundryModel", "advance", "(III)Z"⟩ : MethodName) ∈ tf_Ts := tf_mem 1337 (by decide +kernel) rfl
theorem w_1338 : Cond.selects "TypeFoundryModel" (⟨"TypeFoundryModel", "advance", "(III)Z"⟩ : MethodName) (⟨"TypeFoundryModel", "advance", "(III)Z"⟩ : MethodName) ∈ tf_Ts := tf_mem 1338 (by decide +kernel) rfl
theorem w_258 : Cond.methodLink "TypeFoundryLaw" 86 (⟨"TypeFoundry", "instance", "(II)Z"⟩ : MethodName) ∈ tf_Ts := tf_mem 258 (by decide +kernel) rfl
theorem w_259 : Cond.instanceMethod (⟨"TypeFoundry", "instance", "(II)Z"⟩ : MethodName) ∈ tf_Ts := tf_mem 259 (by decide +kernel) rfl
theorem w_260 : Cond.selects "TypeFoundry" (⟨"TypeFoundry", "instance", "(II)Z"⟩ : MethodName) (⟨"TypeFoundry", "instance", "(II)Z"⟩ : MethodName) ∈ tf_Ts := tf_mem 260 (by decide +kernel) rfl
theorem w_1340 : Cond.methodLink "TypeFoundryLaw" 90 (⟨"TypeFoundryModel", "instance", "(II)Z"⟩ : MethodName) ∈ tf_Ts := tf_mem 1340 (by decide +kernel) rfl
theorem w_1341 : Cond.instanceMethod (⟨"TypeFoundryModel", "instance", "(II)Z"⟩ : MethodName) ∈ tf_Ts := tf_mem 1341 (by decide +kernel) rfl
theorem w_1342 : Cond.selects "TypeFoundryModel" (⟨"TypeFoundryModel", "instance", "(II)Z"⟩ : MethodName) (⟨"TypeFoundryModel", "instance", "(II)Z"⟩ : MethodName) ∈ tf_Ts := tf_mem 1342 (by decide +kernel) rfl
theorem w_625 : Cond.methodLink "TypeFoundryLaw" 91 (⟨"TypeFoundryLaw", "outline", "(LTypeFoundry;III[J)I"⟩ : MethodName) ∈ tf_Ts := tf_mem 625 (by decide +kernel) rfl
theorem w_1344 : Cond.methodLink "TypeFoundryLaw" 94 (⟨"TypeFoundryModel", "outline", "(III)I"⟩ : MethodName) ∈ tf_Ts := tf_mem 1344 (by decide +kernel) rfl
theorem w_1345 : Cond.instanceMethod (⟨"TypeFoundryModel", "outline", "(III)I"⟩ : MethodName) ∈ tf_Ts := tf_mem 1345 (by decide +kernel) rfl
theorem w_1346 : Cond.selects "TypeFoundryModel" (⟨"TypeFoundryModel", "outline", "(III)I"⟩ : MethodName) (⟨"TypeFoundryModel", "outline", "(III)I"⟩ : MethodName) ∈ tf_Ts := tf_mem 1346 (by decide +kernel) rfl
theorem w_266 : Cond.methodLink "TypeFoundryLaw" 95 (⟨"TypeFoundry", "height", "(I)Z"⟩ : MethodName) ∈ tf_Ts := tf_mem 266 (by decide +kernel) rfl
theorem w_267 : Cond.instanceMethod (⟨"TypeFoundry", "height", "(I)Z"⟩ : MethodName) ∈ tf_Ts := tf_mem 267 (by decide +kernel) rfl
theorem w_268 : Cond.selects "TypeFoundry" (⟨"TypeFoundry", "height", "(I)Z"⟩ : MethodName) (⟨"TypeFoundry", "height", "(I)Z"⟩ : MethodName) ∈ tf_Ts := tf_mem 268 (by decide +kernel) rfl
theorem w_1386 : Cond.methodLink "TypeFoundryLaw" 98 (⟨"TypeFoundryModel", "height", "(I)Z"⟩ : MethodName) ∈ tf_Ts := tf_mem 1386 (by decide +kernel) rfl
theorem w_1387 : Cond.instanceMethod (⟨"TypeFoundryModel", "height", "(I)Z"⟩ : MethodName) ∈ tf_Ts := tf_mem 1387 (by decide +kernel) rfl
theorem w_1388 : Cond.selects "TypeFoundryModel" (⟨"TypeFoundryModel", "height", "(I)Z"⟩ : MethodName) (⟨"TypeFoundryModel", "height", "(I)Z"⟩ : MethodName) ∈ tf_Ts := tf_mem 1388 (by decide +kernel) rfl
theorem w_688 : Cond.methodLink "TypeFoundryLaw" 99 (⟨"TypeFoundryLaw", "draw", "(LTypeFoundry;IIZ[J)I"⟩ : MethodName) ∈ tf_Ts := tf_mem 688 (by decide +kernel) rfl
theorem w_1390 : Cond.methodLink "TypeFoundryLaw" 102 (⟨"TypeFoundryModel", "draw", "(IIZ)I"⟩ : MethodName) ∈ tf_Ts := tf_mem 1390 (by decide +kernel) rfl
theorem w_1391 : Cond.instanceMethod (⟨"TypeFoundryModel", "draw", "(IIZ)I"⟩ : MethodName) ∈ tf_Ts := tf_mem 1391 (by decide +kernel) rfl
theorem w_1392 : Cond.selects "TypeFoundryModel" (⟨"TypeFoundryModel", "draw", "(IIZ)I"⟩ : MethodName) (⟨"TypeFoundryModel", "draw", "(IIZ)I"⟩ : MethodName) ∈ tf_Ts := tf_mem 1392 (by decide +kernel) rfl
theorem w_274 : Cond.methodLink "TypeFoundryLaw" 103 (⟨"TypeFoundry", "pixel", "(II)I"⟩ : MethodName) ∈ tf_Ts := tf_mem 274 (by decide +kernel) rfl
theorem w_275 : Cond.instanceMethod (⟨"TypeFoundry", "pixel", "(II)I"⟩ : MethodName) ∈ tf_Ts := tf_mem 275 (by decide +kernel) rfl
theorem w_276 : Cond.selects "TypeFoundry" (⟨"TypeFoundry", "pixel", "(II)I"⟩ : MethodName) (⟨"TypeFoundry", "pixel", "(II)I"⟩ : MethodName) ∈ tf_Ts := tf_mem 276 (by decide +kernel) rfl
theorem w_1438 : Cond.methodLink "TypeFoundryLaw" 106 (⟨"TypeFoundryModel", "pixel", "(II)I"⟩ : MethodName) ∈ tf_Ts := tf_mem 1438 (by decide +kernel) rfl
theorem w_1439 : Cond.instanceMethod (⟨"TypeFoundryModel", "pixel", "(II)I"⟩ : MethodName) ∈ tf_Ts := tf_mem 1439 (by decide +kernel) rfl
theorem w_1440 : Cond.selects "TypeFoundryModel" (⟨"TypeFoundryModel", "pixel", "(II)I"⟩ : MethodName) (⟨"TypeFoundryModel", "pixel", "(II)I"⟩ : MethodName) ∈ tf_Ts := tf_mem 1440 (by decide +kernel) rfl
theorem w_283 : Cond.methodLink "TypeFoundryLaw" 107 (⟨"TypeFoundry", "sort", "(III)Z"⟩ : MethodName) ∈ tf_Ts := tf_mem 283 (by decide +kernel) rfl
theorem w_284 : Cond.instanceMethod (⟨"TypeFoundry", "sort", "(III)Z"⟩ : MethodName) ∈ tf_Ts := tf_mem 284 (by decide +kernel) rfl
theorem w_285 : Cond.selects "TypeFoundry" (⟨"TypeFoundry", "sort", "(III)Z"⟩ : MethodName) (⟨"TypeFoundry", "sort", "(III)Z"⟩ : MethodName) ∈ tf_Ts := tf_mem 285 (by decide +kernel) rfl
theorem w_1442 : Cond.methodLink "TypeFoundryLaw" 110 (⟨"TypeFoundryModel", "sort", "(III)Z"⟩ : MethodName) ∈ tf_Ts := tf_mem 1442 (by decide +kernel) rfl
theorem w_1443 : Cond.instanceMethod (⟨"TypeFoundryModel", "sort", "(III)Z"⟩ : MethodName) ∈ tf_Ts := tf_mem 1443 (by decide +kernel) rfl
theorem w_1444 : Cond.selects "TypeFoundryModel" (⟨"TypeFoundryModel", "sort", "(III)Z"⟩ : MethodName) (⟨"TypeFoundryModel", "sort", "(III)Z"⟩ : MethodName) ∈ tf_Ts := tf_mem 1444 (by decide +kernel) rfl
theorem w_291 : Cond.methodLink "TypeFoundryLaw" 111 (⟨"TypeFoundry", "kern", "(III)Z"⟩ : MethodName) ∈ tf_Ts := tf_mem 291 (by decide +kernel) rfl
theorem w_292 : Cond.instanceMethod (⟨"TypeFoundry", "kern", "(III)Z"⟩ : MethodName) ∈ tf_Ts := tf_mem 292 (by decide +kernel) rfl
theorem w_293 : Cond.selects "TypeFoundry" (⟨"TypeFoundry", "kern", "(III)Z"⟩ : MethodName) (⟨"TypeFoundry", "kern", "(III)Z"⟩ : MethodName) ∈ tf_Ts := tf_mem 293 (by decide +kernel) rfl
theorem w_1446 : Cond.methodLink "TypeFoundryLaw" 114 (⟨"TypeFoundryModel", "kern", "(III)Z"⟩ : MethodName) ∈ tf_Ts := tf_mem 1446 (by decide +kernel) rfl
theorem w_1447 : Cond.instanceMethod (⟨"TypeFoundryModel", "kern", "(III)Z"⟩ : MethodName) ∈ tf_Ts := tf_mem 1447 (by decide +kernel) rfl
theorem w_1448 : Cond.selects "TypeFoundryModel" (⟨"TypeFoundryModel", "kern", "(III)Z"⟩ : MethodName) (⟨"TypeFoundryModel", "kern", "(III)Z"⟩ : MethodName) ∈ tf_Ts := tf_mem 1448 (by decide +kernel) rfl
theorem w_302 : Cond.methodLink "TypeFoundryLaw" 115 (⟨"TypeFoundry", "pair", "(III)Z"⟩ : MethodName) ∈ tf_Ts := tf_mem 302 (by decide +kernel) rfl
theorem w_303 : Cond.instanceMethod (⟨"TypeFoundry", "pair", "(III)Z"⟩ : MethodName) ∈ tf_Ts := tf_mem 303 (by decide +kernel) rfl
theorem w_304 : Cond.selects "TypeFoundry" (⟨"TypeFoundry", "pair", "(III)Z"⟩ : MethodName) (⟨"TypeFoundry", "pair", "(III)Z"⟩ : MethodName) ∈ tf_Ts := tf_mem 304 (by decide +kernel) rfl
theorem w_1453 : Cond.methodLink "TypeFoundryLaw" 118 (⟨"TypeFoundryModel", "pair", "(III)Z"⟩ : MethodName) ∈ tf_Ts := tf_mem 1453 (by decide +kernel) rfl
theorem w_1454 : Cond.instanceMethod (⟨"TypeFoundryModel", "pair", "(III)Z"⟩ : MethodName) ∈ tf_Ts := tf_mem 1454 (by decide +kernel) rfl
theorem w_1455 : Cond.selects "TypeFoundryModel" (⟨"TypeFoundryModel", "pair", "(III)Z"⟩ : MethodName) (⟨"TypeFoundryModel", "pair", "(III)Z"⟩ : MethodName) ∈ tf_Ts := tf_mem 1455 (by decide +kernel) rfl
theorem w_1513 : Cond.constantLong "TypeFoundryLaw" 119 (4294967295) ∈ tf_Ts := tf_mem 1513 (by decide +kernel) rfl
theorem w_1043 : Cond.methodLink "TypeFoundryLaw" 121 (⟨"TypeFoundryLaw", "rule", "(LTypeFoundry;IJJJI[J)I"⟩ : MethodName) ∈ tf_Ts := tf_mem 1043 (by decide +kernel) rfl
theorem w_1461 : Cond.methodLink "TypeFoundryLaw" 124 (⟨"TypeFoundryModel", "rule", "(IJJJI)I"⟩ : MethodName) ∈ tf_Ts := tf_mem 1461 (by decide +kernel) rfl
theorem w_1462 : Cond.instanceMethod (⟨"TypeFoundryModel", "rule", "(IJJJI)I"⟩ : MethodName) ∈ tf_Ts := tf_mem 1462 (by decide +kernel) rfl
theorem w_1463 : Cond.selects "TypeFoundryModel" (⟨"TypeFoundryModel", "rule", "(IJJJI)I"⟩ : MethodName) (⟨"TypeFoundryModel", "rule", "(IJJJI)I"⟩ : MethodName) ∈ tf_Ts := tf_mem 1463 (by decide +kernel) rfl
theorem w_317 : Cond.methodLink "TypeFoundryLaw" 125 (⟨"TypeFoundry", "type", "(I)Z"⟩ : MethodName) ∈ tf_Ts := tf_mem 317 (by decide +kernel) rfl
theorem w_318 : Cond.instanceMethod (⟨"TypeFoundry", "type", "(I)Z"⟩ : MethodName) ∈ tf_Ts := tf_mem 318 (by decide +kernel) rfl
theorem w_319 : Cond.selects "TypeFoundry" (⟨"TypeFoundry", "type", "(I)Z"⟩ : MethodName) (⟨"TypeFoundry", "type", "(I)Z"⟩ : MethodName) ∈ tf_Ts := tf_mem 319 (by decide +kernel) rfl
theorem w_1477 : Cond.methodLink "TypeFoundryLaw" 128 (⟨"TypeFoundryModel", "type", "(I)Z"⟩ : MethodName) ∈ tf_Ts := tf_mem 1477 (by decide +kernel) rfl
theorem w_1478 : Cond.instanceMethod (⟨"TypeFoundryModel", "type", "(I)Z"⟩ : MethodName) ∈ tf_Ts := tf_mem 1478 (by decide +kernel) rfl
theorem w_1479 : Cond.selects "TypeFoundryModel" (⟨"TypeFoundryModel", "type", "(I)Z"⟩ : MethodName) (⟨"TypeFoundryModel", "type", "(I)Z"⟩ : MethodName) ∈ tf_Ts := tf_mem 1479 (by decide +kernel) rfl
theorem w_325 : Cond.methodLink "TypeFoundryLaw" 129 (⟨"TypeFoundry", "shape", "()I"⟩ : MethodName) ∈ tf_Ts := tf_mem 325 (by decide +kernel) rfl
theorem w_326 : Cond.instanceMethod (⟨"TypeFoundry", "shape", "()I"⟩ : MethodName) ∈ tf_Ts := tf_mem 326 (by decide +kernel) rfl
theorem w_327 : Cond.selects "TypeFoundry" (⟨"TypeFoundry", "shape", "()I"⟩ : MethodName) (⟨"TypeFoundry", "shape", "()I"⟩ : MethodName) ∈ tf_Ts := tf_mem 327 (by decide +kernel) rfl
theorem w_1481 : Cond.methodLink "TypeFoundryLaw" 132 (⟨"TypeFoundryModel", "shape", "()I"⟩ : MethodName) ∈ tf_Ts := tf_mem 1481 (by decide +kernel) rfl
theorem w_1482 : Cond.instanceMethod (⟨"TypeFoundryModel", "shape", "()I"⟩ : MethodName) ∈ tf_Ts := tf_mem 1482 (by decide +kernel) rfl
theorem w_1483 : Cond.selects "TypeFoundryModel" (⟨"TypeFoundryModel", "shape", "()I"⟩ : MethodName) (⟨"TypeFoundryModel", "shape", "()I"⟩ : MethodName) ∈ tf_Ts := tf_mem 1483 (by decide +kernel) rfl
theorem w_1101 : Cond.methodLink "TypeFoundryLaw" 133 (⟨"TypeFoundryLaw", "shaped", "(LTypeFoundry;II[J)I"⟩ : MethodName) ∈ tf_Ts := tf_mem 1101 (by decide +kernel) rfl
theorem w_1501 : Cond.methodLink "TypeFoundryLaw" 136 (⟨"TypeFoundryModel", "shaped", "(II)I"⟩ : MethodName) ∈ tf_Ts := tf_mem 1501 (by decide +kernel) rfl
theorem w_1502 : Cond.instanceMethod (⟨"TypeFoundryModel", "shaped", "(II)I"⟩ : MethodName) ∈ tf_Ts := tf_mem 1502 (by decide +kernel) rfl
theorem w_1503 : Cond.selects "TypeFoundryModel" (⟨"TypeFoundryModel", "shaped", "(II)I"⟩ : MethodName) (⟨"TypeFoundryModel", "shaped", "(II)I"⟩ : MethodName) ∈ tf_Ts := tf_mem 1503 (by decide +kernel) rfl
theorem w_363 : Cond.methodLink "TypeFoundryLaw" 137 (⟨"TypeFoundry", "count", "(I)I"⟩ : MethodName) ∈ tf_Ts := tf_mem 363 (by decide +kernel) rfl
theorem w_364 : Cond.instanceMethod (⟨"TypeFoundry", "count", "(I)I"⟩ : MethodName) ∈ tf_Ts := tf_mem 364 (by decide +kernel) rfl
theorem w_365 : Cond.selects "TypeFoundry" (⟨"TypeFoundry", "count", "(I)I"⟩ : MethodName) (⟨"TypeFoundry", "count", "(I)I"⟩ : MethodName) ∈ tf_Ts := tf_mem 365 (by decide +kernel) rfl
theorem w_1509 : Cond.methodLink "TypeFoundryLaw" 141 (⟨"TypeFoundryModel", "count", "(I)I"⟩ : MethodName) ∈ tf_Ts := tf_mem 1509 (by decide +kernel) rfl
theorem w_1510 : Cond.instanceMethod (⟨"TypeFoundryModel", "count", "(I)I"⟩ : MethodName) ∈ tf_Ts := tf_mem 1510 (by decide +kernel) rfl
theorem w_1511 : Cond.selects "TypeFoundryModel" (⟨"TypeFoundryModel", "count", "(I)I"⟩ : MethodName) (⟨"TypeFoundryModel", "count", "(I)I"⟩ : MethodName) ∈ tf_Ts := tf_mem 1511 (by decide +kernel) rfl
theorem w_706 : Cond.methodLink "java/util/Arrays" 13 (⟨"java/util/Arrays", "rangeCheck", "(III)V"⟩ : MethodName) ∈ tf_Ts := tf_mem 706 (by decide +kernel) rfl
theorem w_708 : Cond.code (⟨"java/util/Arrays", "rangeCheck", "(III)V"⟩ : MethodName) prog_30_method_30_code 3 none ∈ tf_Ts := tf_mem 708 (by decide +kernel) rfl
theorem w_707 : Cond.static (⟨"java/util/Arrays", "rangeCheck", "(III)V"⟩ : MethodName) ∈ tf_Ts := tf_mem 707 (by decide +kernel) rfl
theorem w_36 : Cond.methodLink "TypeFoundry" 3 (⟨"java/lang/Object", "<init>", "()V"⟩ : MethodName) ∈ tf_Ts := tf_mem 36 (by decide +kernel) rfl
theorem w_44 : Cond.methodLink "TypeFoundry$Blend" 3 (⟨"java/lang/Object", "<init>", "()V"⟩ : MethodName) ∈ tf_Ts := tf_mem 44 (by decide +kernel) rfl
theorem w_131 : Cond.methodLink "TypeFoundry$Canvas" 3 (⟨"java/lang/Object", "<init>", "()V"⟩ : MethodName) ∈ tf_Ts := tf_mem 131 (by decide +kernel) rfl
theorem w_451 : Cond.methodLink "TypeFoundry$Glyph" 3 (⟨"java/lang/Object", "<init>", "()V"⟩ : MethodName) ∈ tf_Ts := tf_mem 451 (by decide +kernel) rfl
theorem w_452 : Cond.classLink "TypeFoundry$Glyph" 19 "TypeFoundry$Part" ∈ tf_Ts := tf_mem 452 (by decide +kernel) rfl
theorem w_117 : Cond.methodLink "TypeFoundry$Heights" 3 (⟨"java/lang/Object", "<init>", "()V"⟩ : MethodName) ∈ tf_Ts := tf_mem 117 (by decide +kernel) rfl
theorem w_147 : Cond.methodLink "TypeFoundry$Kerning" 3 (⟨"java/lang/Object", "<init>", "()V"⟩ : MethodName) ∈ tf_Ts := tf_mem 147 (by decide +kernel) rfl
theorem w_63 : Cond.methodLink "TypeFoundry$Outline" 3 (⟨"java/lang/Object", "<init>", "()V"⟩ : MethodName) ∈ tf_Ts := tf_mem 63 (by decide +kernel) rfl
theorem w_597 : Cond.methodLink "TypeFoundry$Part" 3 (⟨"java/lang/Object", "<init>", "()V"⟩ : MethodName) ∈ tf_Ts := tf_mem 597 (by decide +kernel) rfl
theorem w_98 : Cond.methodLink "TypeFoundry$Path" 3 (⟨"java/lang/Object", "<init>", "()V"⟩ : MethodName) ∈ tf_Ts := tf_mem 98 (by decide +kernel) rfl
theorem w_1055 : Cond.methodLink "TypeFoundry$Rule" 3 (⟨"java/lang/Object", "<init>", "()V"⟩ : MethodName) ∈ tf_Ts := tf_mem 1055 (by decide +kernel) rfl
theorem w_176 : Cond.methodLink "TypeFoundry$Setter" 3 (⟨"java/lang/Object", "<init>", "()V"⟩ : MethodName) ∈ tf_Ts := tf_mem 176 (by decide +kernel) rfl
theorem w_177 : Cond.classLink "TypeFoundry$Setter" 18 "TypeFoundry$Rule" ∈ tf_Ts := tf_mem 177 (by decide +kernel) rfl
theorem w_1126 : Cond.methodLink "TypeFoundryModel" 1 (⟨"java/lang/Object", "<init>", "()V"⟩ : MethodName) ∈ tf_Ts := tf_mem 1126 (by decide +kernel) rfl
theorem wa_int : Cond.arrayClass (newarray.typeOf .int) ∈ tf_Ts := tf_mem 91 (by decide +kernel) rfl
theorem wa_boolean : Cond.arrayClass (newarray.typeOf .boolean) ∈ tf_Ts := tf_mem 92 (by decide +kernel) rfl
theorem wa_byte : Cond.arrayClass (newarray.typeOf .byte) ∈ tf_Ts := tf_mem 446 (by decide +kernel) rfl
theorem wa_short : Cond.arrayClass (newarray.typeOf .short) ∈ tf_Ts := tf_mem 1293 (by decide +kernel) rfl
theorem wa_long : Cond.arrayClass (newarray.typeOf .long) ∈ tf_Ts := tf_mem 1294 (by decide +kernel) rfl
theorem wo_Glyph : Cond.arrayOver (.object "TypeFoundry$Glyph") ∈ tf_NW := tf_memN 57 (by decide +kernel) rfl
theorem wo_Part : Cond.arrayOver (.object "TypeFoundry$Part") ∈ tf_NW := tf_memN 453 (by decide +kernel) rfl
theorem wo_Rule : Cond.arrayOver (.object "TypeFoundry$Rule") ∈ tf_NW := tf_memN 178 (by decide +kernel) rfl
theorem wi_obj : Cond.instanceMethod Lib.objectInit ∈ tf_Ts := tf_mem 37 (by decide +kernel) rfl
theorem wc_obj : Cond.code Lib.objectInit ⟨#[0xb1]⟩ 1 none ∈ tf_Ts := tf_mem 38 (by decide +kernel) rfl
end
section
theorem b_Tf_init_0 : tf_dec prog_1_method_1_code 0 [(.aload_n 0, 1)] = true := by decide +kernel
theorem d_Tf_init_1 : decode prog_1_method_1_code 1 = .ok (.invokespecial 3, 3) := by decide +kernel
theorem b_Tf_init_4 : tf_dec prog_1_method_1_code 4 [(.aload_n 0, 1)] = true := by decide +kernel
theorem d_Tf_init_5 : decode prog_1_method_1_code 5 = .ok (.new 9, 3) := by decide +kernel
theorem b_Tf_init_8 : tf_dec prog_1_method_1_code 8 [(.dup, 1), (.iload_n 1, 1), (.iconst 2, 1)] = true := by decide +kernel
theorem d_Tf_init_11 : decode prog_1_method_1_code 11 = .ok (.if_icmp .eq 8, 3) := by decide +kernel
theorem b_Tf_init_14 : tf_dec prog_1_method_1_code 14 [(.iload_n 1, 1), (.iconst 4, 1)] = true := by decide +kernel
theorem d_Tf_init_16 : decode prog_1_method_1_code 16 = .ok (.if_icmp .ne 7, 3) := by decide +kernel
theorem b_Tf_init_19 : tf_dec prog_1_method_1_code 19 [(.iload_n 1, 1)] = true := by decide +kernel
theorem d_Tf_init_20 : decode prog_1_method_1_code 20 = .ok (.goto 4, 3) := by decide +kernel
theorem b_Tf_init_23 : tf_dec prog_1_method_1_code 23 [(.iconst 1, 1)] = true := by decide +kernel
theorem d_Tf_init_24 : decode prog_1_method_1_code 24 = .ok (.invokespecial 11, 3) := by decide +kernel
theorem d_Tf_init_27 : decode prog_1_method_1_code 27 = .ok (.putfield 14, 3) := by decide +kernel
theorem b_Tf_init_30 : tf_dec prog_1_method_1_code 30 [(.aload_n 0, 1), (.bipush 40, 2)] = true := by decide +kernel
theorem d_Tf_init_33 : decode prog_1_method_1_code 33 = .ok (.anewarray 18, 3) := by decide +kernel
theorem d_Tf_init_36 : decode prog_1_method_1_code 36 = .ok (.putfield 20, 3) := by decide +kernel
theorem b_Tf_init_39 : tf_dec prog_1_method_1_code 39 [(.aload_n 0, 1)] = true := by decide +kernel
theorem d_Tf_init_40 : decode prog_1_method_1_code 40 = .ok (.new 24, 3) := by decide +kernel
theorem b_Tf_init_43 : tf_dec prog_1_method_1_code 43 [(.dup, 1)] = true := by decide +kernel
theorem d_Tf_init_44 : decode prog_1_method_1_code 44 = .ok (.invokespecial 26, 3) := by decide +kernel
theorem d_Tf_init_47 : decode prog_1_method_1_code 47 = .ok (.putfield 27, 3) := by decide +kernel
theorem b_Tf_init_50 : tf_dec prog_1_method_1_code 50 [(.aload_n 0, 1)] = true := by decide +kernel
theorem d_Tf_init_51 : decode prog_1_method_1_code 51 = .ok (.new 31, 3) := by decide +kernel
theorem b_Tf_init_54 : tf_dec prog_1_method_1_code 54 [(.dup, 1)] = true := by decide +kernel
theorem d_Tf_init_55 : decode prog_1_method_1_code 55 = .ok (.invokespecial 33, 3) := by decide +kernel
theorem d_Tf_init_58 : decode prog_1_method_1_code 58 = .ok (.putfield 34, 3) := by decide +kernel
theorem b_Tf_init_61 : tf_dec prog_1_method_1_code 61 [(.aload_n 0, 1)] = true := by decide +kernel
theorem d_Tf_init_62 : decode prog_1_method_1_code 62 = .ok (.new 38, 3) := by decide +kernel
theorem b_Tf_init_65 : tf_dec prog_1_method_1_code 65 [(.dup, 1)] = true := by decide +kernel
theorem d_Tf_init_66 : decode prog_1_method_1_code 66 = .ok (.invokespecial 40, 3) := by decide +kernel
theorem d_Tf_init_69 : decode prog_1_method_1_code 69 = .ok (.putfield 41, 3) := by decide +kernel
theorem b_Tf_init_72 : tf_dec prog_1_method_1_code 72 [(.aload_n 0, 1)] = true := by decide +kernel
theorem d_Tf_init_73 : decode prog_1_method_1_code 73 = .ok (.new 45, 3) := by decide +kernel
theorem b_Tf_init_76 : tf_dec prog_1_method_1_code 76 [(.dup, 1)] = true := by decide +kernel
theorem d_Tf_init_77 : decode prog_1_method_1_code 77 = .ok (.invokespecial 47, 3) := by decide +kernel
theorem d_Tf_init_80 : decode prog_1_method_1_code 80 = .ok (.putfield 48, 3) := by decide +kernel
theorem b_Tf_init_83 : tf_dec prog_1_method_1_code 83 [(.aload_n 0, 1)] = true := by decide +kernel
theorem d_Tf_init_84 : decode prog_1_method_1_code 84 = .ok (.new 52, 3) := by decide +kernel
theorem b_Tf_init_87 : tf_dec prog_1_method_1_code 87 [(.dup, 1)] = true := by decide +kernel
theorem d_Tf_init_88 : decode prog_1_method_1_code 88 = .ok (.invokespecial 54, 3) := by decide +kernel
theorem d_Tf_init_91 : decode prog_1_method_1_code 91 = .ok (.putfield 55, 3) := by decide +kernel
theorem b_Tf_init_94 : tf_dec prog_1_method_1_code 94 [(.aload_n 0, 1)] = true := by decide +kernel
theorem d_Tf_init_95 : decode prog_1_method_1_code 95 = .ok (.new 59, 3) := by decide +kernel
theorem b_Tf_init_98 : tf_dec prog_1_method_1_code 98 [(.dup, 1)] = true := by decide +kernel
theorem d_Tf_init_99 : decode prog_1_method_1_code 99 = .ok (.invokespecial 61, 3) := by decide +kernel
theorem d_Tf_init_102 : decode prog_1_method_1_code 102 = .ok (.putfield 62, 3) := by decide +kernel
theorem d_Tf_init_105 : decode prog_1_method_1_code 105 = .ok (.return_, 1) := by decide +kernel
theorem b_Tf_glyph_0 : tf_dec prog_1_method_2_code 0 [(.aload_n 0, 1)] = true := by decide +kernel
theorem d_Tf_glyph_1 : decode prog_1_method_2_code 1 = .ok (.getfield 66, 3) := by decide +kernel
theorem b_Tf_glyph_4 : tf_dec prog_1_method_2_code 4 [(.bipush 40, 2)] = true := by decide +kernel
theorem d_Tf_glyph_6 : decode prog_1_method_2_code 6 = .ok (.if_icmp .lt 13, 3) := by decide +kernel
theorem d_Tf_glyph_9 : decode prog_1_method_2_code 9 = .ok (.new 70, 3) := by decide +kernel
theorem b_Tf_glyph_12 : tf_dec prog_1_method_2_code 12 [(.dup, 1)] = true := by decide +kernel
theorem d_Tf_glyph_13 : decode prog_1_method_2_code 13 = .ok (.ldc 72, 2) := by decide +kernel
theorem d_Tf_glyph_15 : decode prog_1_method_2_code 15 = .ok (.invokespecial 74, 3) := by decide +kernel
theorem d_Tf_glyph_18 : decode prog_1_method_2_code 18 = .ok (.athrow, 1) := by decide +kernel
theorem b_Tf_glyph_19 : tf_dec prog_1_method_2_code 19 [(.aload_n 0, 1)] = true := by decide +kernel
theorem d_Tf_glyph_20 : decode prog_1_method_2_code 20 = .ok (.getfield 20, 3) := by decide +kernel
theorem b_Tf_glyph_23 : tf_dec prog_1_method_2_code 23 [(.aload_n 0, 1)] = true := by decide +kernel
theorem d_Tf_glyph_24 : decode prog_1_method_2_code 24 = .ok (.getfield 66, 3) := by decide +kernel
theorem d_Tf_glyph_27 : decode prog_1_method_2_code 27 = .ok (.new 18, 3) := by decide +kernel
theorem b_Tf_glyph_30 : tf_dec prog_1_method_2_code 30 [(.dup, 1), (.aload_n 0, 1)] = true := by decide +kernel
theorem d_Tf_glyph_32 : decode prog_1_method_2_code 32 = .ok (.getfield 14, 3) := by decide +kernel
theorem d_Tf_glyph_35 : decode prog_1_method_2_code 35 = .ok (.getfield 77, 3) := by decide +kernel
theorem d_Tf_glyph_38 : decode prog_1_method_2_code 38 = .ok (.invokespecial 80, 3) := by decide +kernel
theorem d_Tf_glyph_41 : decode prog_1_method_2_code 41 = .ok (.aastore, 1) := by decide +kernel
theorem b_Tf_glyph_42 : tf_dec prog_1_method_2_code 42 [(.aload_n 0, 1), (.dup, 1)] = true := by decide +kernel
theorem d_Tf_glyph_44 : decode prog_1_method_2_code 44 = .ok (.getfield 66, 3) := by decide +kernel
theorem b_Tf_glyph_47 : tf_dec prog_1_method_2_code 47 [(.dup_x1, 1), (.iconst 1, 1), (.iadd, 1)] = true := by decide +kernel
theorem d_Tf_glyph_50 : decode prog_1_method_2_code 50 = .ok (.putfield 66, 3) := by decide +kernel
theorem d_Tf_glyph_53 : decode prog_1_method_2_code 53 = .ok (.ireturn, 1) := by decide +kernel
theorem b_Tf_point_0 : tf_dec prog_1_method_3_code 0 [(.aload_n 0, 1), (.iload_n 1, 1)] = true := by decide +kernel
theorem d_Tf_point_2 : decode prog_1_method_3_code 2 = .ok (.invokevirtual 81, 3) := by decide +kernel
theorem b_Tf_point_5 : tf_dec prog_1_method_3_code 5 [(.astore 5, 2), (.aload 5, 2)] = true := by decide +kernel
theorem d_Tf_point_9 : decode prog_1_method_3_code 9 = .ok (.ifnull 11, 3) := by decide +kernel
theorem b_Tf_point_12 : tf_dec prog_1_method_3_code 12 [(.iload_n 2, 1), (.iload_n 3, 1)] = true := by decide +kernel
theorem d_Tf_point_14 : decode prog_1_method_3_code 14 = .ok (.invokestatic 85, 3) := by decide +kernel
theorem d_Tf_point_17 : decode prog_1_method_3_code 17 = .ok (.ifCond .ne 13, 3) := by decide +kernel
theorem d_Tf_point_20 : decode prog_1_method_3_code 20 = .ok (.new 89, 3) := by decide +kernel
theorem b_Tf_point_23 : tf_dec prog_1_method_3_code 23 [(.dup, 1)] = true := by decide +kernel
theorem d_Tf_point_24 : decode prog_1_method_3_code 24 = .ok (.ldc 91, 2) := by decide +kernel
theorem d_Tf_point_26 : decode prog_1_method_3_code 26 = .ok (.invokespecial 93, 3) := by decide +kernel
theorem d_Tf_point_29 : decode prog_1_method_3_code 29 = .ok (.athrow, 1) := by decide +kernel
theorem b_Tf_point_30 : tf_dec prog_1_method_3_code 30 [(.aload 5, 2)] = true := by decide +kernel
theorem d_Tf_point_32 : decode prog_1_method_3_code 32 = .ok (.getfield 94, 3) := by decide +kernel
theorem d_Tf_point_35 : decode prog_1_method_3_code 35 = .ok (.ifCond .ne 13, 3) := by decide +kernel
theorem b_Tf_point_38 : tf_dec prog_1_method_3_code 38 [(.aload 5, 2)] = true := by decide +kernel
theorem d_Tf_point_40 : decode prog_1_method_3_code 40 = .ok (.getfield 98, 3) := by decide +kernel
theorem b_Tf_point_43 : tf_dec prog_1_method_3_code 43 [(.bipush 40, 2)] = true := by decide +kernel
theorem d_Tf_point_45 : decode prog_1_method_3_code 45 = .ok (.if_icmp .lt 13, 3) := by decide +kernel
theorem d_Tf_point_48 : decode prog_1_method_3_code 48 = .ok (.new 70, 3) := by decide +kernel
theorem b_Tf_point_51 : tf_dec prog_1_method_3_code 51 [(.dup, 1)] = true := by decide +kernel
theorem d_Tf_point_52 : decode prog_1_method_3_code 52 = .ok (.ldc 101, 2) := by decide +kernel
theorem d_Tf_point_54 : decode prog_1_method_3_code 54 = .ok (.invokespecial 74, 3) := by decide +kernel
theorem d_Tf_point_57 : decode prog_1_method_3_code 57 = .ok (.athrow, 1) := by decide +kernel
theorem b_Tf_point_58 : tf_dec prog_1_method_3_code 58 [(.aload 5, 2), (.iload_n 2, 1), (.iload_n 3, 1), (.iload 4, 2)] = true := by decide +kernel
theorem d_Tf_point_64 : decode prog_1_method_3_code 64 = .ok (.invokevirtual 103, 3) := by decide +kernel
theorem d_Tf_point_67 : decode prog_1_method_3_code 67 = .ok (.ireturn, 1) := by decide +kernel
theorem b_Tf_close_0 : tf_dec prog_1_method_4_code 0 [(.aload_n 0, 1), (.iload_n 1, 1)] = true := by decide +kernel
theorem d_Tf_close_2 : decode prog_1_method_4_code 2 = .ok (.invokevirtual 81, 3) := by decide +kernel
theorem b_Tf_close_5 : tf_dec prog_1_method_4_code 5 [(.astore_n 2, 1), (.aload_n 2, 1)] = true := by decide +kernel
theorem d_Tf_close_7 : decode prog_1_method_4_code 7 = .ok (.ifnull 14, 3) := by decide +kernel
theorem b_Tf_close_10 : tf_dec prog_1_method_4_code 10 [(.aload_n 2, 1)] = true := by decide +kernel
theorem d_Tf_close_11 : decode prog_1_method_4_code 11 = .ok (.invokevirtual 107, 3) := by decide +kernel
theorem d_Tf_close_14 : decode prog_1_method_4_code 14 = .ok (.ifCond .eq 7, 3) := by decide +kernel
theorem b_Tf_close_17 : tf_dec prog_1_method_4_code 17 [(.iconst 1, 1)] = true := by decide +kernel
theorem d_Tf_close_18 : decode prog_1_method_4_code 18 = .ok (.goto 4, 3) := by decide +kernel
theorem b_Tf_close_21 : tf_dec prog_1_method_4_code 21 [(.iconst 0, 1)] = true := by decide +kernel
theorem d_Tf_close_22 : decode prog_1_method_4_code 22 = .ok (.ireturn, 1) := by decide +kernel
theorem b_Tf_place_0 : tf_dec prog_1_method_5_code 0 [(.aload_n 0, 1), (.iload_n 1, 1)] = true := by decide +kernel
theorem d_Tf_place_2 : decode prog_1_method_5_code 2 = .ok (.invokevirtual 81, 3) := by decide +kernel
theorem b_Tf_place_5 : tf_dec prog_1_method_5_code 5 [(.astore 6, 2), (.aload 6, 2)] = true := by decide +kernel
theorem d_Tf_place_9 : decode prog_1_method_5_code 9 = .ok (.ifnull 29, 3) := by decide +kernel
theorem b_Tf_place_12 : tf_dec prog_1_method_5_code 12 [(.iload_n 2, 1), (.iconst 0, 1), (.aload 6, 2)] = true := by decide +kernel
theorem d_Tf_place_16 : decode prog_1_method_5_code 16 = .ok (.getfield 98, 3) := by decide +kernel
theorem b_Tf_place_19 : tf_dec prog_1_method_5_code 19 [(.iconst 1, 1), (.isub, 1)] = true := by decide +kernel
theorem d_Tf_place_21 : decode prog_1_method_5_code 21 = .ok (.invokestatic 111, 3) := by decide +kernel
theorem d_Tf_place_24 : decode prog_1_method_5_code 24 = .ok (.ifCond .eq 14, 3) := by decide +kernel
theorem b_Tf_place_27 : tf_dec prog_1_method_5_code 27 [(.aload_n 0, 1)] = true := by decide +kernel
theorem d_Tf_place_28 : decode prog_1_method_5_code 28 = .ok (.getfield 14, 3) := by decide +kernel
theorem b_Tf_place_31 : tf_dec prog_1_method_5_code 31 [(.iload_n 3, 1)] = true := by decide +kernel
theorem d_Tf_place_32 : decode prog_1_method_5_code 32 = .ok (.invokevirtual 115, 3) := by decide +kernel
theorem d_Tf_place_35 : decode prog_1_method_5_code 35 = .ok (.ifCond .ne 13, 3) := by decide +kernel
theorem d_Tf_place_38 : decode prog_1_method_5_code 38 = .ok (.new 119, 3) := by decide +kernel
theorem b_Tf_place_41 : tf_dec prog_1_method_5_code 41 [(.dup, 1)] = true := by decide +kernel
theorem d_Tf_place_42 : decode prog_1_method_5_code 42 = .ok (.ldc 121, 2) := by decide +kernel
theorem d_Tf_place_44 : decode prog_1_method_5_code 44 = .ok (.invokespecial 123, 3) := by decide +kernel
theorem d_Tf_place_47 : decode prog_1_method_5_code 47 = .ok (.athrow, 1) := by decide +kernel
theorem b_Tf_place_48 : tf_dec prog_1_method_5_code 48 [(.iload 4, 2), (.iload 5, 2)] = true := by decide +kernel
theorem d_Tf_place_52 : decode prog_1_method_5_code 52 = .ok (.invokestatic 85, 3) := by decide +kernel
theorem d_Tf_place_55 : decode prog_1_method_5_code 55 = .ok (.ifCond .ne 13, 3) := by decide +kernel
theorem d_Tf_place_58 : decode prog_1_method_5_code 58 = .ok (.new 89, 3) := by decide +kernel
theorem b_Tf_place_61 : tf_dec prog_1_method_5_code 61 [(.dup, 1)] = true := by decide +kernel
theorem d_Tf_place_62 : decode prog_1_method_5_code 62 = .ok (.ldc 124, 2) := by decide +kernel
theorem d_Tf_place_64 : decode prog_1_method_5_code 64 = .ok (.invokespecial 93, 3) := by decide +kernel
theorem d_Tf_place_67 : decode prog_1_method_5_code 67 = .ok (.athrow, 1) := by decide +kernel
theorem b_Tf_place_68 : tf_dec prog_1_method_5_code 68 [(.aload 6, 2), (.iload_n 2, 1), (.iload_n 3, 1), (.iload 4, 2), (.iload 5, 2)] = true := by decide +kernel
theorem d_Tf_place_76 : decode prog_1_method_5_code 76 = .ok (.invokevirtual 126, 3) := by decide +kernel
theorem d_Tf_place_79 : decode prog_1_method_5_code 79 = .ok (.return_, 1) := by decide +kernel
theorem b_Tf_component_0 : tf_dec prog_1_method_6_code 0 [(.aload_n 0, 1), (.iload_n 1, 1)] = true := by decide +kernel
theorem d_Tf_component_2 : decode prog_1_method_6_code 2 = .ok (.invokevirtual 81, 3) := by decide +kernel
theorem b_Tf_component_5 : tf_dec prog_1_method_6_code 5 [(.astore 6, 2), (.aload_n 0, 1), (.iload_n 2, 1)] = true := by decide +kernel
theorem d_Tf_component_9 : decode prog_1_method_6_code 9 = .ok (.invokevirtual 81, 3) := by decide +kernel
theorem b_Tf_component_12 : tf_dec prog_1_method_6_code 12 [(.astore 7, 2), (.aload 6, 2)] = true := by decide +kernel
theorem d_Tf_component_16 : decode prog_1_method_6_code 16 = .ok (.ifnull 33, 3) := by decide +kernel
theorem b_Tf_component_19 : tf_dec prog_1_method_6_code 19 [(.aload 7, 2)] = true := by decide +kernel
theorem d_Tf_component_21 : decode prog_1_method_6_code 21 = .ok (.ifnull 28, 3) := by decide +kernel
theorem b_Tf_component_24 : tf_dec prog_1_method_6_code 24 [(.iload_n 1, 1), (.iload_n 2, 1)] = true := by decide +kernel
theorem d_Tf_component_26 : decode prog_1_method_6_code 26 = .ok (.if_icmp .eq 23, 3) := by decide +kernel
theorem b_Tf_component_29 : tf_dec prog_1_method_6_code 29 [(.iload_n 3, 1), (.iload 4, 2)] = true := by decide +kernel
theorem d_Tf_component_32 : decode prog_1_method_6_code 32 = .ok (.invokestatic 130, 3) := by decide +kernel
theorem d_Tf_component_35 : decode prog_1_method_6_code 35 = .ok (.ifCond .eq 14, 3) := by decide +kernel
theorem b_Tf_component_38 : tf_dec prog_1_method_6_code 38 [(.iload 5, 2), (.iconst 0, 1), (.bipush 7, 2)] = true := by decide +kernel
theorem d_Tf_component_43 : decode prog_1_method_6_code 43 = .ok (.invokestatic 111, 3) := by decide +kernel
theorem d_Tf_component_46 : decode prog_1_method_6_code 46 = .ok (.ifCond .ne 13, 3) := by decide +kernel
theorem d_Tf_component_49 : decode prog_1_method_6_code 49 = .ok (.new 89, 3) := by decide +kernel
theorem b_Tf_component_52 : tf_dec prog_1_method_6_code 52 [(.dup, 1)] = true := by decide +kernel
theorem d_Tf_component_53 : decode prog_1_method_6_code 53 = .ok (.ldc 133, 2) := by decide +kernel
theorem d_Tf_component_55 : decode prog_1_method_6_code 55 = .ok (.invokespecial 93, 3) := by decide +kernel
theorem d_Tf_component_58 : decode prog_1_method_6_code 58 = .ok (.athrow, 1) := by decide +kernel
theorem b_Tf_component_59 : tf_dec prog_1_method_6_code 59 [(.aload 6, 2), (.aload 7, 2)] = true := by decide +kernel
theorem d_Tf_component_63 : decode prog_1_method_6_code 63 = .ok (.invokevirtual 135, 3) := by decide +kernel
theorem d_Tf_component_66 : decode prog_1_method_6_code 66 = .ok (.ifCond .ne 13, 3) := by decide +kernel
theorem d_Tf_component_69 : decode prog_1_method_6_code 69 = .ok (.new 70, 3) := by decide +kernel
theorem b_Tf_component_72 : tf_dec prog_1_method_6_code 72 [(.dup, 1)] = true := by decide +kernel
theorem d_Tf_component_73 : decode prog_1_method_6_code 73 = .ok (.ldc 139, 2) := by decide +kernel
theorem d_Tf_component_75 : decode prog_1_method_6_code 75 = .ok (.invokespecial 74, 3) := by decide +kernel
theorem d_Tf_component_78 : decode prog_1_method_6_code 78 = .ok (.athrow, 1) := by decide +kernel
theorem b_Tf_component_79 : tf_dec prog_1_method_6_code 79 [(.aload 6, 2)] = true := by decide +kernel
theorem d_Tf_component_81 : decode prog_1_method_6_code 81 = .ok (.new 141, 3) := by decide +kernel
theorem b_Tf_component_84 : tf_dec prog_1_method_6_code 84 [(.dup, 1), (.aload 7, 2), (.iload_n 3, 1), (.iload 4, 2), (.iload 5, 2)] = true := by decide +kernel
theorem d_Tf_component_92 : decode prog_1_method_6_code 92 = .ok (.invokespecial 143, 3) := by decide +kernel
theorem d_Tf_component_95 : decode prog_1_method_6_code 95 = .ok (.invokevirtual 146, 3) := by decide +kernel
theorem d_Tf_component_98 : decode prog_1_method_6_code 98 = .ok (.return_, 1) := by decide +kernel
theorem b_Tf_advance_0 : tf_dec prog_1_method_7_code 0 [(.aload_n 0, 1), (.iload_n 1, 1)] = true := by decide +kernel
theorem d_Tf_advance_2 : decode prog_1_method_7_code 2 = .ok (.invokevirtual 81, 3) := by decide +kernel
theorem b_Tf_advance_5 : tf_dec prog_1_method_7_code 5 [(.astore 4, 2), (.aload 4, 2)] = true := by decide +kernel
theorem d_Tf_advance_9 : decode prog_1_method_7_code 9 = .ok (.ifnull 25, 3) := by decide +kernel
theorem b_Tf_advance_12 : tf_dec prog_1_method_7_code 12 [(.aload_n 0, 1)] = true := by decide +kernel
theorem d_Tf_advance_13 : decode prog_1_method_7_code 13 = .ok (.getfield 14, 3) := by decide +kernel
theorem b_Tf_advance_16 : tf_dec prog_1_method_7_code 16 [(.iload_n 2, 1)] = true := by decide +kernel
theorem d_Tf_advance_17 : decode prog_1_method_7_code 17 = .ok (.invokevirtual 115, 3) := by decide +kernel
theorem d_Tf_advance_20 : decode prog_1_method_7_code 20 = .ok (.ifCond .eq 14, 3) := by decide +kernel
theorem b_Tf_advance_23 : tf_dec prog_1_method_7_code 23 [(.iload_n 3, 1), (.iconst 0, 1), (.sipush 4000, 3)] = true := by decide +kernel
theorem d_Tf_advance_28 : decode prog_1_method_7_code 28 = .ok (.invokestatic 111, 3) := by decide +kernel
theorem d_Tf_advance_31 : decode prog_1_method_7_code 31 = .ok (.ifCond .ne 5, 3) := by decide +kernel
theorem b_Tf_advance_34 : tf_dec prog_1_method_7_code 34 [(.iconst 0, 1)] = true := by decide +kernel
theorem d_Tf_advance_35 : decode prog_1_method_7_code 35 = .ok (.ireturn, 1) := by decide +kernel
theorem b_Tf_advance_36 : tf_dec prog_1_method_7_code 36 [(.aload 4, 2)] = true := by decide +kernel
theorem d_Tf_advance_38 : decode prog_1_method_7_code 38 = .ok (.getfield 150, 3) := by decide +kernel
theorem b_Tf_advance_41 : tf_dec prog_1_method_7_code 41 [(.iload_n 2, 1), (.iload_n 3, 1)] = true := by decide +kernel
theorem d_Tf_advance_43 : decode prog_1_method_7_code 43 = .ok (.iastore, 1) := by decide +kernel
theorem b_Tf_advance_44 : tf_dec prog_1_method_7_code 44 [(.iconst 1, 1)] = true := by decide +kernel
theorem d_Tf_advance_45 : decode prog_1_method_7_code 45 = .ok (.ireturn, 1) := by decide +kernel
theorem b_Tf_instance_0 : tf_dec prog_1_method_8_code 0 [(.iload_n 1, 1), (.iconst 0, 1), (.sipush 1024, 3)] = true := by decide +kernel
theorem d_Tf_instance_5 : decode prog_1_method_8_code 5 = .ok (.invokestatic 111, 3) := by decide +kernel
theorem d_Tf_instance_8 : decode prog_1_method_8_code 8 = .ok (.ifCond .eq 14, 3) := by decide +kernel
theorem b_Tf_instance_11 : tf_dec prog_1_method_8_code 11 [(.iload_n 2, 1), (.iconst 0, 1), (.sipush 1024, 3)] = true := by decide +kernel
theorem d_Tf_instance_16 : decode prog_1_method_8_code 16 = .ok (.invokestatic 111, 3) := by decide +kernel
theorem d_Tf_instance_19 : decode prog_1_method_8_code 19 = .ok (.ifCond .ne 5, 3) := by decide +kernel
theorem b_Tf_instance_22 : tf_dec prog_1_method_8_code 22 [(.iconst 0, 1)] = true := by decide +kernel
theorem d_Tf_instance_23 : decode prog_1_method_8_code 23 = .ok (.ireturn, 1) := by decide +kernel
theorem b_Tf_instance_24 : tf_dec prog_1_method_8_code 24 [(.aload_n 0, 1)] = true := by decide +kernel
theorem d_Tf_instance_25 : decode prog_1_method_8_code 25 = .ok (.getfield 14, 3) := by decide +kernel
theorem b_Tf_instance_28 : tf_dec prog_1_method_8_code 28 [(.iload_n 1, 1), (.iload_n 2, 1)] = true := by decide +kernel
theorem d_Tf_instance_30 : decode prog_1_method_8_code 30 = .ok (.invokevirtual 154, 3) := by decide +kernel
theorem b_Tf_instance_33 : tf_dec prog_1_method_8_code 33 [(.iconst 1, 1)] = true := by decide +kernel
theorem d_Tf_instance_34 : decode prog_1_method_8_code 34 = .ok (.ireturn, 1) := by decide +kernel
theorem b_Tf_outline_0 : tf_dec prog_1_method_9_code 0 [(.aload_n 0, 1), (.iload_n 1, 1)] = true := by decide +kernel
theorem d_Tf_outline_2 : decode prog_1_method_9_code 2 = .ok (.invokevirtual 81, 3) := by decide +kernel
theorem b_Tf_outline_5 : tf_dec prog_1_method_9_code 5 [(.astore 4, 2), (.aload 4, 2)] = true := by decide +kernel
theorem d_Tf_outline_9 : decode prog_1_method_9_code 9 = .ok (.ifnull 27, 3) := by decide +kernel
theorem b_Tf_outline_12 : tf_dec prog_1_method_9_code 12 [(.iload_n 3, 1), (.iconst 0, 1), (.iconst 3, 1)] = true := by decide +kernel
theorem d_Tf_outline_15 : decode prog_1_method_9_code 15 = .ok (.invokestatic 111, 3) := by decide +kernel
theorem d_Tf_outline_18 : decode prog_1_method_9_code 18 = .ok (.ifCond .eq 18, 3) := by decide +kernel
theorem b_Tf_outline_21 : tf_dec prog_1_method_9_code 21 [(.iload_n 2, 1), (.iconst (-1), 1), (.aload 4, 2)] = true := by decide +kernel
theorem d_Tf_outline_25 : decode prog_1_method_9_code 25 = .ok (.invokevirtual 158, 3) := by decide +kernel
theorem b_Tf_outline_28 : tf_dec prog_1_method_9_code 28 [(.iconst 1, 1), (.isub, 1)] = true := by decide +kernel
theorem d_Tf_outline_30 : decode prog_1_method_9_code 30 = .ok (.invokestatic 111, 3) := by decide +kernel
theorem d_Tf_outline_33 : decode prog_1_method_9_code 33 = .ok (.ifCond .ne 13, 3) := by decide +kernel
theorem d_Tf_outline_36 : decode prog_1_method_9_code 36 = .ok (.new 119, 3) := by decide +kernel
theorem b_Tf_outline_39 : tf_dec prog_1_method_9_code 39 [(.dup, 1)] = true := by decide +kernel
theorem d_Tf_outline_40 : decode prog_1_method_9_code 40 = .ok (.ldc 162, 2) := by decide +kernel
theorem d_Tf_outline_42 : decode prog_1_method_9_code 42 = .ok (.invokespecial 123, 3) := by decide +kernel
theorem d_Tf_outline_45 : decode prog_1_method_9_code 45 = .ok (.athrow, 1) := by decide +kernel
theorem b_Tf_outline_46 : tf_dec prog_1_method_9_code 46 [(.iload_n 2, 1), (.iconst (-1), 1)] = true := by decide +kernel
theorem d_Tf_outline_48 : decode prog_1_method_9_code 48 = .ok (.if_icmp .ne 11, 3) := by decide +kernel
theorem b_Tf_outline_51 : tf_dec prog_1_method_9_code 51 [(.aload_n 0, 1), (.aload 4, 2), (.iload_n 3, 1)] = true := by decide +kernel
theorem d_Tf_outline_55 : decode prog_1_method_9_code 55 = .ok (.invokevirtual 164, 3) := by decide +kernel
theorem d_Tf_outline_58 : decode prog_1_method_9_code 58 = .ok (.ireturn, 1) := by decide +kernel
theorem b_Tf_outline_59 : tf_dec prog_1_method_9_code 59 [(.aload_n 0, 1)] = true := by decide +kernel
theorem d_Tf_outline_60 : decode prog_1_method_9_code 60 = .ok (.getfield 27, 3) := by decide +kernel
theorem b_Tf_outline_63 : tf_dec prog_1_method_9_code 63 [(.aload 4, 2), (.aload_n 0, 1)] = true := by decide +kernel
theorem d_Tf_outline_66 : decode prog_1_method_9_code 66 = .ok (.getfield 14, 3) := by decide +kernel
theorem d_Tf_outline_69 : decode prog_1_method_9_code 69 = .ok (.invokevirtual 168, 3) := by decide +kernel
theorem b_Tf_outline_72 : tf_dec prog_1_method_9_code 72 [(.aload_n 0, 1)] = true := by decide +kernel
theorem d_Tf_outline_73 : decode prog_1_method_9_code 73 = .ok (.getfield 27, 3) := by decide +kernel
theorem b_Tf_outline_76 : tf_dec prog_1_method_9_code 76 [(.iload_n 2, 1), (.iload_n 3, 1)] = true := by decide +kernel
theorem d_Tf_outline_78 : decode prog_1_method_9_code 78 = .ok (.invokevirtual 172, 3) := by decide +kernel
theorem d_Tf_outline_81 : decode prog_1_method_9_code 81 = .ok (.ireturn, 1) := by decide +kernel
theorem b_Tf_height_0 : tf_dec prog_1_method_10_code 0 [(.iload_n 1, 1), (.sipush (-2000), 3), (.sipush 4000, 3)] = true := by decide +kernel
theorem d_Tf_height_7 : decode prog_1_method_10_code 7 = .ok (.invokestatic 111, 3) := by decide +kernel
theorem d_Tf_height_10 : decode prog_1_method_10_code 10 = .ok (.ifCond .eq 18, 3) := by decide +kernel
theorem b_Tf_height_13 : tf_dec prog_1_method_10_code 13 [(.aload_n 0, 1)] = true := by decide +kernel
theorem d_Tf_height_14 : decode prog_1_method_10_code 14 = .ok (.getfield 41, 3) := by decide +kernel
theorem b_Tf_height_17 : tf_dec prog_1_method_10_code 17 [(.iload_n 1, 1)] = true := by decide +kernel
theorem d_Tf_height_18 : decode prog_1_method_10_code 18 = .ok (.invokevirtual 176, 3) := by decide +kernel
theorem d_Tf_height_21 : decode prog_1_method_10_code 21 = .ok (.ifCond .eq 7, 3) := by decide +kernel
theorem b_Tf_height_24 : tf_dec prog_1_method_10_code 24 [(.iconst 1, 1)] = true := by decide +kernel
theorem d_Tf_height_25 : decode prog_1_method_10_code 25 = .ok (.goto 4, 3) := by decide +kernel
theorem b_Tf_height_28 : tf_dec prog_1_method_10_code 28 [(.iconst 0, 1)] = true := by decide +kernel
theorem d_Tf_height_29 : decode prog_1_method_10_code 29 = .ok (.ireturn, 1) := by decide +kernel
theorem b_Tf_draw_0 : tf_dec prog_1_method_11_code 0 [(.aload_n 0, 1), (.iload_n 1, 1)] = true := by decide +kernel
theorem d_Tf_draw_2 : decode prog_1_method_11_code 2 = .ok (.invokevirtual 81, 3) := by decide +kernel
theorem b_Tf_draw_5 : tf_dec prog_1_method_11_code 5 [(.astore 4, 2), (.aload 4, 2)] = true := by decide +kernel
theorem d_Tf_draw_9 : decode prog_1_method_11_code 9 = .ok (.ifnull 10, 3) := by decide +kernel
theorem b_Tf_draw_12 : tf_dec prog_1_method_11_code 12 [(.iload_n 2, 1)] = true := by decide +kernel
theorem d_Tf_draw_13 : decode prog_1_method_11_code 13 = .ok (.invokestatic 179, 3) := by decide +kernel
theorem d_Tf_draw_16 : decode prog_1_method_11_code 16 = .ok (.ifCond .ne 13, 3) := by decide +kernel
theorem d_Tf_draw_19 : decode prog_1_method_11_code 19 = .ok (.new 89, 3) := by decide +kernel
theorem b_Tf_draw_22 : tf_dec prog_1_method_11_code 22 [(.dup, 1)] = true := by decide +kernel
theorem d_Tf_draw_23 : decode prog_1_method_11_code 23 = .ok (.ldc 182, 2) := by decide +kernel
theorem d_Tf_draw_25 : decode prog_1_method_11_code 25 = .ok (.invokespecial 93, 3) := by decide +kernel
theorem d_Tf_draw_28 : decode prog_1_method_11_code 28 = .ok (.athrow, 1) := by decide +kernel
theorem b_Tf_draw_29 : tf_dec prog_1_method_11_code 29 [(.aload_n 0, 1)] = true := by decide +kernel
theorem d_Tf_draw_30 : decode prog_1_method_11_code 30 = .ok (.getfield 27, 3) := by decide +kernel
theorem b_Tf_draw_33 : tf_dec prog_1_method_11_code 33 [(.aload 4, 2), (.aload_n 0, 1)] = true := by decide +kernel
theorem d_Tf_draw_36 : decode prog_1_method_11_code 36 = .ok (.getfield 14, 3) := by decide +kernel
theorem d_Tf_draw_39 : decode prog_1_method_11_code 39 = .ok (.invokevirtual 168, 3) := by decide +kernel
theorem b_Tf_draw_42 : tf_dec prog_1_method_11_code 42 [(.aload_n 0, 1)] = true := by decide +kernel
theorem d_Tf_draw_43 : decode prog_1_method_11_code 43 = .ok (.getfield 48, 3) := by decide +kernel
theorem b_Tf_draw_46 : tf_dec prog_1_method_11_code 46 [(.iload_n 2, 1)] = true := by decide +kernel
theorem d_Tf_draw_47 : decode prog_1_method_11_code 47 = .ok (.invokevirtual 184, 3) := by decide +kernel
theorem b_Tf_draw_50 : tf_dec prog_1_method_11_code 50 [(.iconst 0, 1), (.istore 5, 2)] = true := by decide +kernel
theorem b_Tf_draw_53 : tf_dec prog_1_method_11_code 53 [(.iload 5, 2), (.aload_n 0, 1)] = true := by decide +kernel
theorem d_Tf_draw_56 : decode prog_1_method_11_code 56 = .ok (.getfield 27, 3) := by decide +kernel
theorem d_Tf_draw_59 : decode prog_1_method_11_code 59 = .ok (.getfield 187, 3) := by decide +kernel
theorem d_Tf_draw_62 : decode prog_1_method_11_code 62 = .ok (.if_icmp .ge 49, 3) := by decide +kernel
theorem b_Tf_draw_65 : tf_dec prog_1_method_11_code 65 [(.aload_n 0, 1)] = true := by decide +kernel
theorem d_Tf_draw_66 : decode prog_1_method_11_code 66 = .ok (.getfield 34, 3) := by decide +kernel
theorem b_Tf_draw_69 : tf_dec prog_1_method_11_code 69 [(.aload_n 0, 1)] = true := by decide +kernel
theorem d_Tf_draw_70 : decode prog_1_method_11_code 70 = .ok (.getfield 27, 3) := by decide +kernel
theorem b_Tf_draw_73 : tf_dec prog_1_method_11_code 73 [(.iload 5, 2)] = true := by decide +kernel
theorem d_Tf_draw_75 : decode prog_1_method_11_code 75 = .ok (.invokevirtual 190, 3) := by decide +kernel
theorem b_Tf_draw_78 : tf_dec prog_1_method_11_code 78 [(.iload_n 3, 1)] = true := by decide +kernel
theorem d_Tf_draw_79 : decode prog_1_method_11_code 79 = .ok (.ifCond .eq 15, 3) := by decide +kernel
theorem b_Tf_draw_82 : tf_dec prog_1_method_11_code 82 [(.aload_n 0, 1)] = true := by decide +kernel
theorem d_Tf_draw_83 : decode prog_1_method_11_code 83 = .ok (.getfield 34, 3) := by decide +kernel
theorem b_Tf_draw_86 : tf_dec prog_1_method_11_code 86 [(.aload_n 0, 1)] = true := by decide +kernel
theorem d_Tf_draw_87 : decode prog_1_method_11_code 87 = .ok (.getfield 41, 3) := by decide +kernel
theorem b_Tf_draw_90 : tf_dec prog_1_method_11_code 90 [(.iload_n 2, 1)] = true := by decide +kernel
theorem d_Tf_draw_91 : decode prog_1_method_11_code 91 = .ok (.invokevirtual 194, 3) := by decide +kernel
theorem b_Tf_draw_94 : tf_dec prog_1_method_11_code 94 [(.aload_n 0, 1)] = true := by decide +kernel
theorem d_Tf_draw_95 : decode prog_1_method_11_code 95 = .ok (.getfield 48, 3) := by decide +kernel
theorem b_Tf_draw_98 : tf_dec prog_1_method_11_code 98 [(.aload_n 0, 1)] = true := by decide +kernel
theorem d_Tf_draw_99 : decode prog_1_method_11_code 99 = .ok (.getfield 34, 3) := by decide +kernel
theorem d_Tf_draw_102 : decode prog_1_method_11_code 102 = .ok (.invokevirtual 198, 3) := by decide +kernel
theorem b_Tf_draw_105 : tf_dec prog_1_method_11_code 105 [(.iinc 5 1, 3)] = true := by decide +kernel
theorem d_Tf_draw_108 : decode prog_1_method_11_code 108 = .ok (.goto (-55), 3) := by decide +kernel
theorem b_Tf_draw_111 : tf_dec prog_1_method_11_code 111 [(.aload_n 0, 1)] = true := by decide +kernel
theorem d_Tf_draw_112 : decode prog_1_method_11_code 112 = .ok (.getfield 48, 3) := by decide +kernel
theorem d_Tf_draw_115 : decode prog_1_method_11_code 115 = .ok (.invokevirtual 202, 3) := by decide +kernel
theorem d_Tf_draw_118 : decode prog_1_method_11_code 118 = .ok (.ireturn, 1) := by decide +kernel
theorem b_Tf_pixel_0 : tf_dec prog_1_method_12_code 0 [(.aload_n 0, 1)] = true := by decide +kernel
theorem d_Tf_pixel_1 : decode prog_1_method_12_code 1 = .ok (.getfield 48, 3) := by decide +kernel
theorem b_Tf_pixel_4 : tf_dec prog_1_method_12_code 4 [(.iload_n 1, 1), (.iload_n 2, 1)] = true := by decide +kernel
theorem d_Tf_pixel_6 : decode prog_1_method_12_code 6 = .ok (.invokevirtual 205, 3) := by decide +kernel
theorem d_Tf_pixel_9 : decode prog_1_method_12_code 9 = .ok (.ireturn, 1) := by decide +kernel
theorem b_Tf_sort_0 : tf_dec prog_1_method_13_code 0 [(.iload_n 1, 1), (.iconst 0, 1), (.iconst 1, 1)] = true := by decide +kernel
theorem d_Tf_sort_3 : decode prog_1_method_13_code 3 = .ok (.invokestatic 111, 3) := by decide +kernel
theorem d_Tf_sort_6 : decode prog_1_method_13_code 6 = .ok (.ifCond .eq 21, 3) := by decide +kernel
theorem b_Tf_sort_9 : tf_dec prog_1_method_13_code 9 [(.aload_n 0, 1), (.iload_n 2, 1)] = true := by decide +kernel
theorem d_Tf_sort_11 : decode prog_1_method_13_code 11 = .ok (.invokevirtual 81, 3) := by decide +kernel
theorem d_Tf_sort_14 : decode prog_1_method_13_code 14 = .ok (.ifnull 13, 3) := by decide +kernel
theorem b_Tf_sort_17 : tf_dec prog_1_method_13_code 17 [(.iload_n 3, 1), (.iconst 0, 1), (.bipush 15, 2)] = true := by decide +kernel
theorem d_Tf_sort_21 : decode prog_1_method_13_code 21 = .ok (.invokestatic 111, 3) := by decide +kernel
theorem d_Tf_sort_24 : decode prog_1_method_13_code 24 = .ok (.ifCond .ne 5, 3) := by decide +kernel
theorem b_Tf_sort_27 : tf_dec prog_1_method_13_code 27 [(.iconst 0, 1)] = true := by decide +kernel
theorem d_Tf_sort_28 : decode prog_1_method_13_code 28 = .ok (.ireturn, 1) := by decide +kernel
theorem b_Tf_sort_29 : tf_dec prog_1_method_13_code 29 [(.aload_n 0, 1)] = true := by decide +kernel
theorem d_Tf_sort_30 : decode prog_1_method_13_code 30 = .ok (.getfield 55, 3) := by decide +kernel
theorem b_Tf_sort_33 : tf_dec prog_1_method_13_code 33 [(.iload_n 1, 1), (.iload_n 2, 1), (.iload_n 3, 1)] = true := by decide +kernel
theorem d_Tf_sort_36 : decode prog_1_method_13_code 36 = .ok (.invokevirtual 208, 3) := by decide +kernel
theorem b_Tf_sort_39 : tf_dec prog_1_method_13_code 39 [(.iconst 1, 1)] = true := by decide +kernel
theorem d_Tf_sort_40 : decode prog_1_method_13_code 40 = .ok (.ireturn, 1) := by decide +kernel
theorem b_Tf_kern_0 : tf_dec prog_1_method_14_code 0 [(.iload_n 1, 1), (.iconst 1, 1), (.bipush 15, 2)] = true := by decide +kernel
theorem d_Tf_kern_4 : decode prog_1_method_14_code 4 = .ok (.invokestatic 111, 3) := by decide +kernel
theorem d_Tf_kern_7 : decode prog_1_method_14_code 7 = .ok (.ifCond .eq 20, 3) := by decide +kernel
theorem b_Tf_kern_10 : tf_dec prog_1_method_14_code 10 [(.iload_n 2, 1), (.iconst 1, 1), (.bipush 15, 2)] = true := by decide +kernel
theorem d_Tf_kern_14 : decode prog_1_method_14_code 14 = .ok (.invokestatic 111, 3) := by decide +kernel
theorem d_Tf_kern_17 : decode prog_1_method_14_code 17 = .ok (.ifCond .eq 10, 3) := by decide +kernel
theorem b_Tf_kern_20 : tf_dec prog_1_method_14_code 20 [(.iload_n 3, 1)] = true := by decide +kernel
theorem d_Tf_kern_21 : decode prog_1_method_14_code 21 = .ok (.invokestatic 212, 3) := by decide +kernel
theorem d_Tf_kern_24 : decode prog_1_method_14_code 24 = .ok (.ifCond .ne 5, 3) := by decide +kernel
theorem b_Tf_kern_27 : tf_dec prog_1_method_14_code 27 [(.iconst 0, 1)] = true := by decide +kernel
theorem d_Tf_kern_28 : decode prog_1_method_14_code 28 = .ok (.ireturn, 1) := by decide +kernel
theorem b_Tf_kern_29 : tf_dec prog_1_method_14_code 29 [(.aload_n 0, 1)] = true := by decide +kernel
theorem d_Tf_kern_30 : decode prog_1_method_14_code 30 = .ok (.getfield 55, 3) := by decide +kernel
theorem b_Tf_kern_33 : tf_dec prog_1_method_14_code 33 [(.iload_n 1, 1), (.iload_n 2, 1), (.iload_n 3, 1)] = true := by decide +kernel
theorem d_Tf_kern_36 : decode prog_1_method_14_code 36 = .ok (.invokevirtual 215, 3) := by decide +kernel
theorem b_Tf_kern_39 : tf_dec prog_1_method_14_code 39 [(.iconst 1, 1)] = true := by decide +kernel
theorem d_Tf_kern_40 : decode prog_1_method_14_code 40 = .ok (.ireturn, 1) := by decide +kernel
theorem b_Tf_pair_0 : tf_dec prog_1_method_15_code 0 [(.aload_n 0, 1), (.iload_n 1, 1)] = true := by decide +kernel
theorem d_Tf_pair_2 : decode prog_1_method_15_code 2 = .ok (.invokevirtual 81, 3) := by decide +kernel
theorem d_Tf_pair_5 : decode prog_1_method_15_code 5 = .ok (.ifnull 35, 3) := by decide +kernel
theorem b_Tf_pair_8 : tf_dec prog_1_method_15_code 8 [(.aload_n 0, 1), (.iload_n 2, 1)] = true := by decide +kernel
theorem d_Tf_pair_10 : decode prog_1_method_15_code 10 = .ok (.invokevirtual 81, 3) := by decide +kernel
theorem d_Tf_pair_13 : decode prog_1_method_15_code 13 = .ok (.ifnull 27, 3) := by decide +kernel
theorem b_Tf_pair_16 : tf_dec prog_1_method_15_code 16 [(.iload_n 3, 1)] = true := by decide +kernel
theorem d_Tf_pair_17 : decode prog_1_method_15_code 17 = .ok (.invokestatic 212, 3) := by decide +kernel
theorem d_Tf_pair_20 : decode prog_1_method_15_code 20 = .ok (.ifCond .eq 20, 3) := by decide +kernel
theorem b_Tf_pair_23 : tf_dec prog_1_method_15_code 23 [(.aload_n 0, 1)] = true := by decide +kernel
theorem d_Tf_pair_24 : decode prog_1_method_15_code 24 = .ok (.getfield 55, 3) := by decide +kernel
theorem b_Tf_pair_27 : tf_dec prog_1_method_15_code 27 [(.iload_n 1, 1), (.iload_n 2, 1), (.iload_n 3, 1)] = true := by decide +kernel
theorem d_Tf_pair_30 : decode prog_1_method_15_code 30 = .ok (.invokevirtual 218, 3) := by decide +kernel
theorem d_Tf_pair_33 : decode prog_1_method_15_code 33 = .ok (.ifCond .eq 7, 3) := by decide +kernel
theorem b_Tf_pair_36 : tf_dec prog_1_method_15_code 36 [(.iconst 1, 1)] = true := by decide +kernel
theorem d_Tf_pair_37 : decode prog_1_method_15_code 37 = .ok (.goto 4, 3) := by decide +kernel
theorem b_Tf_pair_40 : tf_dec prog_1_method_15_code 40 [(.iconst 0, 1)] = true := by decide +kernel
theorem d_Tf_pair_41 : decode prog_1_method_15_code 41 = .ok (.ireturn, 1) := by decide +kernel
theorem d_Tf_rule_0 : decode prog_1_method_16_code 0 = .ok (.new 221, 3) := by decide +kernel
theorem b_Tf_rule_3 : tf_dec prog_1_method_16_code 3 [(.dup, 1), (.iload_n 1, 1), (.lload_n 2, 1), (.lload 4, 2), (.lload 6, 2), (.iload 8, 2)] = true := by decide +kernel
theorem d_Tf_rule_12 : decode prog_1_method_16_code 12 = .ok (.invokespecial 223, 3) := by decide +kernel
theorem b_Tf_rule_15 : tf_dec prog_1_method_16_code 15 [(.astore 9, 2), (.iload_n 1, 1), (.iconst 0, 1), (.bipush 7, 2)] = true := by decide +kernel
theorem d_Tf_rule_21 : decode prog_1_method_16_code 21 = .ok (.invokestatic 111, 3) := by decide +kernel
theorem d_Tf_rule_24 : decode prog_1_method_16_code 24 = .ok (.ifCond .eq 15, 3) := by decide +kernel
theorem b_Tf_rule_27 : tf_dec prog_1_method_16_code 27 [(.aload 9, 2), (.aload_n 0, 1)] = true := by decide +kernel
theorem d_Tf_rule_30 : decode prog_1_method_16_code 30 = .ok (.getfield 66, 3) := by decide +kernel
theorem d_Tf_rule_33 : decode prog_1_method_16_code 33 = .ok (.invokevirtual 226, 3) := by decide +kernel
theorem d_Tf_rule_36 : decode prog_1_method_16_code 36 = .ok (.ifCond .ne 13, 3) := by decide +kernel
theorem d_Tf_rule_39 : decode prog_1_method_16_code 39 = .ok (.new 89, 3) := by decide +kernel
theorem b_Tf_rule_42 : tf_dec prog_1_method_16_code 42 [(.dup, 1)] = true := by decide +kernel
theorem d_Tf_rule_43 : decode prog_1_method_16_code 43 = .ok (.ldc 229, 2) := by decide +kernel
theorem d_Tf_rule_45 : decode prog_1_method_16_code 45 = .ok (.invokespecial 93, 3) := by decide +kernel
theorem d_Tf_rule_48 : decode prog_1_method_16_code 48 = .ok (.athrow, 1) := by decide +kernel
theorem b_Tf_rule_49 : tf_dec prog_1_method_16_code 49 [(.aload_n 0, 1)] = true := by decide +kernel
theorem d_Tf_rule_50 : decode prog_1_method_16_code 50 = .ok (.getfield 62, 3) := by decide +kernel
theorem d_Tf_rule_53 : decode prog_1_method_16_code 53 = .ok (.getfield 231, 3) := by decide +kernel
theorem b_Tf_rule_56 : tf_dec prog_1_method_16_code 56 [(.bipush 40, 2)] = true := by decide +kernel
theorem d_Tf_rule_58 : decode prog_1_method_16_code 58 = .ok (.if_icmp .lt 13, 3) := by decide +kernel
theorem d_Tf_rule_61 : decode prog_1_method_16_code 61 = .ok (.new 70, 3) := by decide +kernel
theorem b_Tf_rule_64 : tf_dec prog_1_method_16_code 64 [(.dup, 1)] = true := by decide +kernel
theorem d_Tf_rule_65 : decode prog_1_method_16_code 65 = .ok (.ldc 234, 2) := by decide +kernel
theorem d_Tf_rule_67 : decode prog_1_method_16_code 67 = .ok (.invokespecial 74, 3) := by decide +kernel
theorem d_Tf_rule_70 : decode prog_1_method_16_code 70 = .ok (.athrow, 1) := by decide +kernel
theorem b_Tf_rule_71 : tf_dec prog_1_method_16_code 71 [(.aload_n 0, 1)] = true := by decide +kernel
theorem d_Tf_rule_72 : decode prog_1_method_16_code 72 = .ok (.getfield 62, 3) := by decide +kernel
theorem b_Tf_rule_75 : tf_dec prog_1_method_16_code 75 [(.aload 9, 2)] = true := by decide +kernel
theorem d_Tf_rule_77 : decode prog_1_method_16_code 77 = .ok (.invokevirtual 236, 3) := by decide +kernel
theorem d_Tf_rule_80 : decode prog_1_method_16_code 80 = .ok (.ireturn, 1) := by decide +kernel
theorem b_Tf_type_0 : tf_dec prog_1_method_17_code 0 [(.aload_n 0, 1), (.iload_n 1, 1)] = true := by decide +kernel
theorem d_Tf_type_2 : decode prog_1_method_17_code 2 = .ok (.invokevirtual 81, 3) := by decide +kernel
theorem d_Tf_type_5 : decode prog_1_method_17_code 5 = .ok (.ifnull 18, 3) := by decide +kernel
theorem b_Tf_type_8 : tf_dec prog_1_method_17_code 8 [(.aload_n 0, 1)] = true := by decide +kernel
theorem d_Tf_type_9 : decode prog_1_method_17_code 9 = .ok (.getfield 62, 3) := by decide +kernel
theorem b_Tf_type_12 : tf_dec prog_1_method_17_code 12 [(.iload_n 1, 1)] = true := by decide +kernel
theorem d_Tf_type_13 : decode prog_1_method_17_code 13 = .ok (.invokevirtual 240, 3) := by decide +kernel
theorem d_Tf_type_16 : decode prog_1_method_17_code 16 = .ok (.ifCond .eq 7, 3) := by decide +kernel
theorem b_Tf_type_19 : tf_dec prog_1_method_17_code 19 [(.iconst 1, 1)] = true := by decide +kernel
theorem d_Tf_type_20 : decode prog_1_method_17_code 20 = .ok (.goto 4, 3) := by decide +kernel
theorem b_Tf_type_23 : tf_dec prog_1_method_17_code 23 [(.iconst 0, 1)] = true := by decide +kernel
theorem d_Tf_type_24 : decode prog_1_method_17_code 24 = .ok (.ireturn, 1) := by decide +kernel
theorem b_Tf_shape_0 : tf_dec prog_1_method_18_code 0 [(.aload_n 0, 1)] = true := by decide +kernel
theorem d_Tf_shape_1 : decode prog_1_method_18_code 1 = .ok (.getfield 62, 3) := by decide +kernel
theorem d_Tf_shape_4 : decode prog_1_method_18_code 4 = .ok (.invokevirtual 243, 3) := by decide +kernel
theorem d_Tf_shape_7 : decode prog_1_method_18_code 7 = .ok (.ireturn, 1) := by decide +kernel
theorem b_Tf_shaped_0 : tf_dec prog_1_method_19_code 0 [(.iload_n 2, 1)] = true := by decide +kernel
theorem d_Tf_shaped_1 : decode prog_1_method_19_code 1 = .ok (.ifCond .ne 30, 3) := by decide +kernel
theorem b_Tf_shaped_4 : tf_dec prog_1_method_19_code 4 [(.iload_n 1, 1), (.iconst 0, 1), (.aload_n 0, 1)] = true := by decide +kernel
theorem d_Tf_shaped_7 : decode prog_1_method_19_code 7 = .ok (.getfield 62, 3) := by decide +kernel
theorem d_Tf_shaped_10 : decode prog_1_method_19_code 10 = .ok (.getfield 246, 3) := by decide +kernel
theorem b_Tf_shaped_13 : tf_dec prog_1_method_19_code 13 [(.iconst 1, 1), (.isub, 1)] = true := by decide +kernel
theorem d_Tf_shaped_15 : decode prog_1_method_19_code 15 = .ok (.invokestatic 111, 3) := by decide +kernel
theorem d_Tf_shaped_18 : decode prog_1_method_19_code 18 = .ok (.ifCond .eq 13, 3) := by decide +kernel
theorem b_Tf_shaped_21 : tf_dec prog_1_method_19_code 21 [(.aload_n 0, 1)] = true := by decide +kernel
theorem d_Tf_shaped_22 : decode prog_1_method_19_code 22 = .ok (.getfield 62, 3) := by decide +kernel
theorem d_Tf_shaped_25 : decode prog_1_method_19_code 25 = .ok (.getfield 249, 3) := by decide +kernel
theorem b_Tf_shaped_28 : tf_dec prog_1_method_19_code 28 [(.iload_n 1, 1)] = true := by decide +kernel
theorem d_Tf_shaped_29 : decode prog_1_method_19_code 29 = .ok (.iaload, 1) := by decide +kernel
theorem d_Tf_shaped_30 : decode prog_1_method_19_code 30 = .ok (.ireturn, 1) := by decide +kernel
theorem b_Tf_shaped_31 : tf_dec prog_1_method_19_code 31 [(.iload_n 2, 1), (.iconst 1, 1)] = true := by decide +kernel
theorem d_Tf_shaped_33 : decode prog_1_method_19_code 33 = .ok (.if_icmp .ne 24, 3) := by decide +kernel
theorem b_Tf_shaped_36 : tf_dec prog_1_method_19_code 36 [(.iload_n 1, 1), (.iconst 0, 1), (.aload_n 0, 1)] = true := by decide +kernel
theorem d_Tf_shaped_39 : decode prog_1_method_19_code 39 = .ok (.getfield 62, 3) := by decide +kernel
theorem d_Tf_shaped_42 : decode prog_1_method_19_code 42 = .ok (.getfield 246, 3) := by decide +kernel
theorem d_Tf_shaped_45 : decode prog_1_method_19_code 45 = .ok (.invokestatic 111, 3) := by decide +kernel
theorem d_Tf_shaped_48 : decode prog_1_method_19_code 48 = .ok (.ifCond .eq 9, 3) := by decide +kernel
theorem b_Tf_shaped_51 : tf_dec prog_1_method_19_code 51 [(.aload_n 0, 1), (.iload_n 1, 1)] = true := by decide +kernel
theorem d_Tf_shaped_53 : decode prog_1_method_19_code 53 = .ok (.invokevirtual 252, 3) := by decide +kernel
theorem d_Tf_shaped_56 : decode prog_1_method_19_code 56 = .ok (.ireturn, 1) := by decide +kernel
theorem d_Tf_shaped_57 : decode prog_1_method_19_code 57 = .ok (.new 119, 3) := by decide +kernel
theorem b_Tf_shaped_60 : tf_dec prog_1_method_19_code 60 [(.dup, 1)] = true := by decide +kernel
theorem d_Tf_shaped_61 : decode prog_1_method_19_code 61 = .ok (.ldc_w 256, 3) := by decide +kernel
theorem d_Tf_shaped_64 : decode prog_1_method_19_code 64 = .ok (.invokespecial 123, 3) := by decide +kernel
theorem d_Tf_shaped_67 : decode prog_1_method_19_code 67 = .ok (.athrow, 1) := by decide +kernel
theorem b_Tf_count_0 : tf_dec prog_1_method_20_code 0 [(.iload_n 1, 1)] = true := by decide +kernel
theorem d_Tf_count_1 : decode prog_1_method_20_code 1 = .ok (.tableswitch 96 0 6 #[43, 48, 56, 64, 72, 80, 88], 43) := by decide +kernel
theorem b_Tf_count_44 : tf_dec prog_1_method_20_code 44 [(.aload_n 0, 1)] = true := by decide +kernel
theorem d_Tf_count_45 : decode prog_1_method_20_code 45 = .ok (.getfield 66, 3) := by decide +kernel
theorem d_Tf_count_48 : decode prog_1_method_20_code 48 = .ok (.ireturn, 1) := by decide +kernel
theorem b_Tf_count_49 : tf_dec prog_1_method_20_code 49 [(.aload_n 0, 1)] = true := by decide +kernel
theorem d_Tf_count_50 : decode prog_1_method_20_code 50 = .ok (.getfield 62, 3) := by decide +kernel
theorem d_Tf_count_53 : decode prog_1_method_20_code 53 = .ok (.getfield 231, 3) := by decide +kernel
theorem d_Tf_count_56 : decode prog_1_method_20_code 56 = .ok (.ireturn, 1) := by decide +kernel
theorem b_Tf_count_57 : tf_dec prog_1_method_20_code 57 [(.aload_n 0, 1)] = true := by decide +kernel
theorem d_Tf_count_58 : decode prog_1_method_20_code 58 = .ok (.getfield 41, 3) := by decide +kernel
theorem d_Tf_count_61 : decode prog_1_method_20_code 61 = .ok (.getfield 258, 3) := by decide +kernel
theorem d_Tf_count_64 : decode prog_1_method_20_code 64 = .ok (.ireturn, 1) := by decide +kernel
theorem b_Tf_count_65 : tf_dec prog_1_method_20_code 65 [(.aload_n 0, 1)] = true := by decide +kernel
theorem d_Tf_count_66 : decode prog_1_method_20_code 66 = .ok (.getfield 62, 3) := by decide +kernel
theorem d_Tf_count_69 : decode prog_1_method_20_code 69 = .ok (.getfield 261, 3) := by decide +kernel
theorem d_Tf_count_72 : decode prog_1_method_20_code 72 = .ok (.ireturn, 1) := by decide +kernel
theorem b_Tf_count_73 : tf_dec prog_1_method_20_code 73 [(.aload_n 0, 1)] = true := by decide +kernel
theorem d_Tf_count_74 : decode prog_1_method_20_code 74 = .ok (.getfield 62, 3) := by decide +kernel
theorem d_Tf_count_77 : decode prog_1_method_20_code 77 = .ok (.getfield 246, 3) := by decide +kernel
theorem d_Tf_count_80 : decode prog_1_method_20_code 80 = .ok (.ireturn, 1) := by decide +kernel
theorem b_Tf_count_81 : tf_dec prog_1_method_20_code 81 [(.aload_n 0, 1)] = true := by decide +kernel
theorem d_Tf_count_82 : decode prog_1_method_20_code 82 = .ok (.getfield 55, 3) := by decide +kernel
theorem d_Tf_count_85 : decode prog_1_method_20_code 85 = .ok (.getfield 264, 3) := by decide +kernel
theorem d_Tf_count_88 : decode prog_1_method_20_code 88 = .ok (.ireturn, 1) := by decide +kernel
theorem b_Tf_count_89 : tf_dec prog_1_method_20_code 89 [(.aload_n 0, 1)] = true := by decide +kernel
theorem d_Tf_count_90 : decode prog_1_method_20_code 90 = .ok (.getfield 62, 3) := by decide +kernel
theorem d_Tf_count_93 : decode prog_1_method_20_code 93 = .ok (.getfield 267, 3) := by decide +kernel
theorem d_Tf_count_96 : decode prog_1_method_20_code 96 = .ok (.ireturn, 1) := by decide +kernel
theorem b_Tf_count_97 : tf_dec prog_1_method_20_code 97 [(.iconst (-1), 1)] = true := by decide +kernel
theorem d_Tf_count_98 : decode prog_1_method_20_code 98 = .ok (.ireturn, 1) := by decide +kernel
theorem b_Tf_find_0 : tf_dec prog_1_method_21_code 0 [(.iload_n 1, 1), (.iconst 0, 1), (.aload_n 0, 1)] = true := by decide +kernel
theorem d_Tf_find_3 : decode prog_1_method_21_code 3 = .ok (.getfield 66, 3) := by decide +kernel
theorem b_Tf_find_6 : tf_dec prog_1_method_21_code 6 [(.iconst 1, 1), (.isub, 1)] = true := by decide +kernel
theorem d_Tf_find_8 : decode prog_1_method_21_code 8 = .ok (.invokestatic 111, 3) := by decide +kernel
theorem d_Tf_find_11 : decode prog_1_method_21_code 11 = .ok (.ifCond .eq 12, 3) := by decide +kernel
theorem b_Tf_find_14 : tf_dec prog_1_method_21_code 14 [(.aload_n 0, 1)] = true := by decide +kernel
theorem d_Tf_find_15 : decode prog_1_method_21_code 15 = .ok (.getfield 20, 3) := by decide +kernel
theorem b_Tf_find_18 : tf_dec prog_1_method_21_code 18 [(.iload_n 1, 1)] = true := by decide +kernel
theorem d_Tf_find_19 : decode prog_1_method_21_code 19 = .ok (.aaload, 1) := by decide +kernel
theorem d_Tf_find_20 : decode prog_1_method_21_code 20 = .ok (.goto 4, 3) := by decide +kernel
theorem b_Tf_find_23 : tf_dec prog_1_method_21_code 23 [(.aconst_null, 1)] = true := by decide +kernel
theorem d_Tf_find_24 : decode prog_1_method_21_code 24 = .ok (.areturn, 1) := by decide +kernel
theorem b_Tf_ofWholeOutline_0 : tf_dec prog_1_method_22_code 0 [(.iload_n 2, 1)] = true := by decide +kernel
theorem d_Tf_ofWholeOutline_1 : decode prog_1_method_22_code 1 = .ok (.tableswitch 50 0 2 #[27, 32, 37], 27) := by decide +kernel
theorem b_Tf_ofWholeOutline_28 : tf_dec prog_1_method_22_code 28 [(.aload_n 1, 1)] = true := by decide +kernel
theorem d_Tf_ofWholeOutline_29 : decode prog_1_method_22_code 29 = .ok (.invokevirtual 158, 3) := by decide +kernel
theorem d_Tf_ofWholeOutline_32 : decode prog_1_method_22_code 32 = .ok (.ireturn, 1) := by decide +kernel
theorem b_Tf_ofWholeOutline_33 : tf_dec prog_1_method_22_code 33 [(.aload_n 1, 1)] = true := by decide +kernel
theorem d_Tf_ofWholeOutline_34 : decode prog_1_method_22_code 34 = .ok (.invokevirtual 270, 3) := by decide +kernel
theorem d_Tf_ofWholeOutline_37 : decode prog_1_method_22_code 37 = .ok (.ireturn, 1) := by decide +kernel
theorem b_Tf_ofWholeOutline_38 : tf_dec prog_1_method_22_code 38 [(.aload_n 0, 1)] = true := by decide +kernel
theorem d_Tf_ofWholeOutline_39 : decode prog_1_method_22_code 39 = .ok (.getfield 14, 3) := by decide +kernel
theorem b_Tf_ofWholeOutline_42 : tf_dec prog_1_method_22_code 42 [(.aload_n 1, 1)] = true := by decide +kernel
theorem d_Tf_ofWholeOutline_43 : decode prog_1_method_22_code 43 = .ok (.getfield 150, 3) := by decide +kernel
theorem b_Tf_ofWholeOutline_46 : tf_dec prog_1_method_22_code 46 [(.iconst 0, 1)] = true := by decide +kernel
theorem d_Tf_ofWholeOutline_47 : decode prog_1_method_22_code 47 = .ok (.invokevirtual 273, 3) := by decide +kernel
theorem d_Tf_ofWholeOutline_50 : decode prog_1_method_22_code 50 = .ok (.ireturn, 1) := by decide +kernel
theorem b_Tf_ofWholeOutline_51 : tf_dec prog_1_method_22_code 51 [(.aload_n 1, 1)] = true := by decide +kernel
theorem d_Tf_ofWholeOutline_52 : decode prog_1_method_22_code 52 = .ok (.getfield 277, 3) := by decide +kernel
theorem d_Tf_ofWholeOutline_55 : decode prog_1_method_22_code 55 = .ok (.ireturn, 1) := by decide +kernel
theorem b_Tf_xInRow_0 : tf_dec prog_1_method_23_code 0 [(.iconst 0, 1), (.istore_n 2, 1), (.iconst 0, 1), (.istore_n 3, 1)] = true := by decide +kernel
theorem b_Tf_xInRow_4 : tf_dec prog_1_method_23_code 4 [(.iload_n 3, 1), (.iload_n 1, 1)] = true := by decide +kernel
theorem d_Tf_xInRow_6 : decode prog_1_method_23_code 6 = .ok (.if_icmp .ge 68, 3) := by decide +kernel
theorem b_Tf_xInRow_9 : tf_dec prog_1_method_23_code 9 [(.iload_n 2, 1), (.aload_n 0, 1), (.aload_n 0, 1)] = true := by decide +kernel
theorem d_Tf_xInRow_12 : decode prog_1_method_23_code 12 = .ok (.getfield 62, 3) := by decide +kernel
theorem d_Tf_xInRow_15 : decode prog_1_method_23_code 15 = .ok (.getfield 249, 3) := by decide +kernel
theorem b_Tf_xInRow_18 : tf_dec prog_1_method_23_code 18 [(.iload_n 3, 1)] = true := by decide +kernel
theorem d_Tf_xInRow_19 : decode prog_1_method_23_code 19 = .ok (.iaload, 1) := by decide +kernel
theorem d_Tf_xInRow_20 : decode prog_1_method_23_code 20 = .ok (.invokevirtual 280, 3) := by decide +kernel
theorem b_Tf_xInRow_23 : tf_dec prog_1_method_23_code 23 [(.iadd, 1), (.istore_n 2, 1), (.iload_n 3, 1), (.iconst 1, 1), (.iadd, 1), (.aload_n 0, 1)] = true := by decide +kernel
theorem d_Tf_xInRow_29 : decode prog_1_method_23_code 29 = .ok (.getfield 62, 3) := by decide +kernel
theorem d_Tf_xInRow_32 : decode prog_1_method_23_code 32 = .ok (.getfield 246, 3) := by decide +kernel
theorem d_Tf_xInRow_35 : decode prog_1_method_23_code 35 = .ok (.if_icmp .ge 33, 3) := by decide +kernel
theorem b_Tf_xInRow_38 : tf_dec prog_1_method_23_code 38 [(.iload_n 2, 1), (.aload_n 0, 1)] = true := by decide +kernel
theorem d_Tf_xInRow_40 : decode prog_1_method_23_code 40 = .ok (.getfield 55, 3) := by decide +kernel
theorem b_Tf_xInRow_43 : tf_dec prog_1_method_23_code 43 [(.aload_n 0, 1)] = true := by decide +kernel
theorem d_Tf_xInRow_44 : decode prog_1_method_23_code 44 = .ok (.getfield 62, 3) := by decide +kernel
theorem d_Tf_xInRow_47 : decode prog_1_method_23_code 47 = .ok (.getfield 249, 3) := by decide +kernel
theorem b_Tf_xInRow_50 : tf_dec prog_1_method_23_code 50 [(.iload_n 3, 1)] = true := by decide +kernel
theorem d_Tf_xInRow_51 : decode prog_1_method_23_code 51 = .ok (.iaload, 1) := by decide +kernel
theorem b_Tf_xInRow_52 : tf_dec prog_1_method_23_code 52 [(.aload_n 0, 1)] = true := by decide +kernel
theorem d_Tf_xInRow_53 : decode prog_1_method_23_code 53 = .ok (.getfield 62, 3) := by decide +kernel
theorem d_Tf_xInRow_56 : decode prog_1_method_23_code 56 = .ok (.getfield 249, 3) := by decide +kernel
theorem b_Tf_xInRow_59 : tf_dec prog_1_method_23_code 59 [(.iload_n 3, 1), (.iconst 1, 1), (.iadd, 1)] = true := by decide +kernel
theorem d_Tf_xInRow_62 : decode prog_1_method_23_code 62 = .ok (.iaload, 1) := by decide +kernel
theorem d_Tf_xInRow_63 : decode prog_1_method_23_code 63 = .ok (.invokevirtual 283, 3) := by decide +kernel
theorem b_Tf_xInRow_66 : tf_dec prog_1_method_23_code 66 [(.iadd, 1), (.istore_n 2, 1)] = true := by decide +kernel
theorem b_Tf_xInRow_68 : tf_dec prog_1_method_23_code 68 [(.iinc 3 1, 3)] = true := by decide +kernel
theorem d_Tf_xInRow_71 : decode prog_1_method_23_code 71 = .ok (.goto (-67), 3) := by decide +kernel
theorem b_Tf_xInRow_74 : tf_dec prog_1_method_23_code 74 [(.iload_n 2, 1)] = true := by decide +kernel
theorem d_Tf_xInRow_75 : decode prog_1_method_23_code 75 = .ok (.ireturn, 1) := by decide +kernel
theorem b_Tf_widthOf_0 : tf_dec prog_1_method_24_code 0 [(.aload_n 0, 1), (.iload_n 1, 1)] = true := by decide +kernel
theorem d_Tf_widthOf_2 : decode prog_1_method_24_code 2 = .ok (.invokevirtual 81, 3) := by decide +kernel
theorem b_Tf_widthOf_5 : tf_dec prog_1_method_24_code 5 [(.astore_n 2, 1), (.aload_n 2, 1)] = true := by decide +kernel
theorem d_Tf_widthOf_7 : decode prog_1_method_24_code 7 = .ok (.ifnonnull 7, 3) := by decide +kernel
theorem b_Tf_widthOf_10 : tf_dec prog_1_method_24_code 10 [(.iconst 0, 1)] = true := by decide +kernel
theorem d_Tf_widthOf_11 : decode prog_1_method_24_code 11 = .ok (.goto 15, 3) := by decide +kernel
theorem b_Tf_widthOf_14 : tf_dec prog_1_method_24_code 14 [(.aload_n 0, 1)] = true := by decide +kernel
theorem d_Tf_widthOf_15 : decode prog_1_method_24_code 15 = .ok (.getfield 14, 3) := by decide +kernel
theorem b_Tf_widthOf_18 : tf_dec prog_1_method_24_code 18 [(.aload_n 2, 1)] = true := by decide +kernel
theorem d_Tf_widthOf_19 : decode prog_1_method_24_code 19 = .ok (.getfield 150, 3) := by decide +kernel
theorem b_Tf_widthOf_22 : tf_dec prog_1_method_24_code 22 [(.iconst 0, 1)] = true := by decide +kernel
theorem d_Tf_widthOf_23 : decode prog_1_method_24_code 23 = .ok (.invokevirtual 273, 3) := by decide +kernel
theorem d_Tf_widthOf_26 : decode prog_1_method_24_code 26 = .ok (.ireturn, 1) := by decide +kernel
theorem b_Tf_isPlace_0 : tf_dec prog_1_method_25_code 0 [(.iload_n 0, 1), (.sipush (-2000), 3), (.sipush 4000, 3)] = true := by decide +kernel
theorem d_Tf_isPlace_7 : decode prog_1_method_25_code 7 = .ok (.invokestatic 111, 3) := by decide +kernel
theorem d_Tf_isPlace_10 : decode prog_1_method_25_code 10 = .ok (.ifCond .eq 20, 3) := by decide +kernel
theorem b_Tf_isPlace_13 : tf_dec prog_1_method_25_code 13 [(.iload_n 1, 1), (.sipush (-2000), 3), (.sipush 4000, 3)] = true := by decide +kernel
theorem d_Tf_isPlace_20 : decode prog_1_method_25_code 20 = .ok (.invokestatic 111, 3) := by decide +kernel
theorem d_Tf_isPlace_23 : decode prog_1_method_25_code 23 = .ok (.ifCond .eq 7, 3) := by decide +kernel
theorem b_Tf_isPlace_26 : tf_dec prog_1_method_25_code 26 [(.iconst 1, 1)] = true := by decide +kernel
theorem d_Tf_isPlace_27 : decode prog_1_method_25_code 27 = .ok (.goto 4, 3) := by decide +kernel
theorem b_Tf_isPlace_30 : tf_dec prog_1_method_25_code 30 [(.iconst 0, 1)] = true := by decide +kernel
theorem d_Tf_isPlace_31 : decode prog_1_method_25_code 31 = .ok (.ireturn, 1) := by decide +kernel
theorem b_Tf_isShift_0 : tf_dec prog_1_method_26_code 0 [(.iload_n 0, 1), (.sipush (-4000), 3), (.sipush 4000, 3)] = true := by decide +kernel
theorem d_Tf_isShift_7 : decode prog_1_method_26_code 7 = .ok (.invokestatic 111, 3) := by decide +kernel
theorem d_Tf_isShift_10 : decode prog_1_method_26_code 10 = .ok (.ifCond .eq 20, 3) := by decide +kernel
theorem b_Tf_isShift_13 : tf_dec prog_1_method_26_code 13 [(.iload_n 1, 1), (.sipush (-4000), 3), (.sipush 4000, 3)] = true := by decide +kernel
theorem d_Tf_isShift_20 : decode prog_1_method_26_code 20 = .ok (.invokestatic 111, 3) := by decide +kernel
theorem d_Tf_isShift_23 : decode prog_1_method_26_code 23 = .ok (.ifCond .eq 7, 3) := by decide +kernel
theorem b_Tf_isShift_26 : tf_dec prog_1_method_26_code 26 [(.iconst 1, 1)] = true := by decide +kernel
theorem d_Tf_isShift_27 : decode prog_1_method_26_code 27 = .ok (.goto 4, 3) := by decide +kernel
theorem b_Tf_isShift_30 : tf_dec prog_1_method_26_code 30 [(.iconst 0, 1)] = true := by decide +kernel
theorem d_Tf_isShift_31 : decode prog_1_method_26_code 31 = .ok (.ireturn, 1) := by decide +kernel
theorem b_Tf_isSide_0 : tf_dec prog_1_method_27_code 0 [(.iload_n 0, 1), (.bipush 32, 2)] = true := by decide +kernel
theorem d_Tf_isSide_3 : decode prog_1_method_27_code 3 = .ok (.if_icmp .eq 23, 3) := by decide +kernel
theorem b_Tf_isSide_6 : tf_dec prog_1_method_27_code 6 [(.iload_n 0, 1), (.bipush 64, 2)] = true := by decide +kernel
theorem d_Tf_isSide_9 : decode prog_1_method_27_code 9 = .ok (.if_icmp .eq 17, 3) := by decide +kernel
theorem b_Tf_isSide_12 : tf_dec prog_1_method_27_code 12 [(.iload_n 0, 1), (.sipush 128, 3)] = true := by decide +kernel
theorem d_Tf_isSide_16 : decode prog_1_method_27_code 16 = .ok (.if_icmp .eq 10, 3) := by decide +kernel
theorem b_Tf_isSide_19 : tf_dec prog_1_method_27_code 19 [(.iload_n 0, 1), (.sipush 256, 3)] = true := by decide +kernel
theorem d_Tf_isSide_23 : decode prog_1_method_27_code 23 = .ok (.if_icmp .ne 7, 3) := by decide +kernel
theorem b_Tf_isSide_26 : tf_dec prog_1_method_27_code 26 [(.iconst 1, 1)] = true := by decide +kernel
theorem d_Tf_isSide_27 : decode prog_1_method_27_code 27 = .ok (.goto 4, 3) := by decide +kernel
theorem b_Tf_isSide_30 : tf_dec prog_1_method_27_code 30 [(.iconst 0, 1)] = true := by decide +kernel
theorem d_Tf_isSide_31 : decode prog_1_method_27_code 31 = .ok (.ireturn, 1) := by decide +kernel
theorem b_Tf_isKerning_0 : tf_dec prog_1_method_28_code 0 [(.iload_n 0, 1), (.sipush (-1000), 3), (.sipush 1000, 3)] = true := by decide +kernel
theorem d_Tf_isKerning_7 : decode prog_1_method_28_code 7 = .ok (.invokestatic 111, 3) := by decide +kernel
theorem d_Tf_isKerning_10 : decode prog_1_method_28_code 10 = .ok (.ireturn, 1) := by decide +kernel
theorem b_Tf_within_0 : tf_dec prog_1_method_29_code 0 [(.iload_n 0, 1), (.iload_n 1, 1)] = true := by decide +kernel
theorem d_Tf_within_2 : decode prog_1_method_29_code 2 = .ok (.if_icmp .lt 12, 3) := by decide +kernel
theorem b_Tf_within_5 : tf_dec prog_1_method_29_code 5 [(.iload_n 0, 1), (.iload_n 2, 1)] = true := by decide +kernel
theorem d_Tf_within_7 : decode prog_1_method_29_code 7 = .ok (.if_icmp .gt 7, 3) := by decide +kernel
theorem b_Tf_within_10 : tf_dec prog_1_method_29_code 10 [(.iconst 1, 1)] = true := by decide +kernel
theorem d_Tf_within_11 : decode prog_1_method_29_code 11 = .ok (.goto 4, 3) := by decide +kernel
theorem b_Tf_within_14 : tf_dec prog_1_method_29_code 14 [(.iconst 0, 1)] = true := by decide +kernel
theorem d_Tf_within_15 : decode prog_1_method_29_code 15 = .ok (.ireturn, 1) := by decide +kernel
theorem b_Tf_halvesUp_0 : tf_dec prog_1_method_30_code 0 [(.lload_n 2, 1), (.lconst 0, 1), (.lcmp, 1)] = true := by decide +kernel
theorem d_Tf_halvesUp_3 : decode prog_1_method_30_code 3 = .ok (.ifCond .ne 7, 3) := by decide +kernel
theorem b_Tf_halvesUp_6 : tf_dec prog_1_method_30_code 6 [(.iconst 0, 1)] = true := by decide +kernel
theorem d_Tf_halvesUp_7 : decode prog_1_method_30_code 7 = .ok (.goto 19, 3) := by decide +kernel
theorem d_Tf_halvesUp_10 : decode prog_1_method_30_code 10 = .ok (.ldc2_w 286, 3) := by decide +kernel
theorem b_Tf_halvesUp_13 : tf_dec prog_1_method_30_code 13 [(.lload_n 0, 1), (.lmul, 1), (.lload_n 2, 1), (.ladd, 1)] = true := by decide +kernel
theorem d_Tf_halvesUp_17 : decode prog_1_method_30_code 17 = .ok (.ldc2_w 286, 3) := by decide +kernel
theorem b_Tf_halvesUp_20 : tf_dec prog_1_method_30_code 20 [(.lload_n 2, 1), (.lmul, 1)] = true := by decide +kernel
theorem d_Tf_halvesUp_22 : decode prog_1_method_30_code 22 = .ok (.invokestatic 288, 3) := by decide +kernel
theorem b_Tf_halvesUp_25 : tf_dec prog_1_method_30_code 25 [(.l2i, 1)] = true := by decide +kernel
theorem d_Tf_halvesUp_26 : decode prog_1_method_30_code 26 = .ok (.ireturn, 1) := by decide +kernel
theorem b_Blend_init_0 : tf_dec prog_2_method_1_code 0 [(.aload_n 0, 1)] = true := by decide +kernel
theorem d_Blend_init_1 : decode prog_2_method_1_code 1 = .ok (.invokespecial 3, 3) := by decide +kernel
theorem b_Blend_init_4 : tf_dec prog_2_method_1_code 4 [(.aload_n 0, 1), (.iload_n 1, 1)] = true := by decide +kernel
theorem d_Blend_init_6 : decode prog_2_method_1_code 6 = .ok (.putfield 9, 3) := by decide +kernel
theorem d_Blend_init_9 : decode prog_2_method_1_code 9 = .ok (.return_, 1) := by decide +kernel
theorem b_Blend_hasMaster_0 : tf_dec prog_2_method_2_code 0 [(.iload_n 1, 1), (.iconst 0, 1), (.aload_n 0, 1)] = true := by decide +kernel
theorem d_Blend_hasMaster_3 : decode prog_2_method_2_code 3 = .ok (.getfield 9, 3) := by decide +kernel
theorem b_Blend_hasMaster_6 : tf_dec prog_2_method_2_code 6 [(.iconst 1, 1), (.isub, 1)] = true := by decide +kernel
theorem d_Blend_hasMaster_8 : decode prog_2_method_2_code 8 = .ok (.invokestatic 15, 3) := by decide +kernel
theorem d_Blend_hasMaster_11 : decode prog_2_method_2_code 11 = .ok (.ireturn, 1) := by decide +kernel
theorem b_Blend_set_0 : tf_dec prog_2_method_3_code 0 [(.aload_n 0, 1), (.iload_n 1, 1)] = true := by decide +kernel
theorem d_Blend_set_2 : decode prog_2_method_3_code 2 = .ok (.putfield 19, 3) := by decide +kernel
theorem b_Blend_set_5 : tf_dec prog_2_method_3_code 5 [(.aload_n 0, 1), (.iload_n 2, 1)] = true := by decide +kernel
theorem d_Blend_set_7 : decode prog_2_method_3_code 7 = .ok (.putfield 22, 3) := by decide +kernel
theorem d_Blend_set_10 : decode prog_2_method_3_code 10 = .ok (.return_, 1) := by decide +kernel
theorem b_Blend_valueOf_0 : tf_dec prog_2_method_4_code 0 [(.iload_n 2, 1), (.aload_n 0, 1)] = true := by decide +kernel
theorem d_Blend_valueOf_2 : decode prog_2_method_4_code 2 = .ok (.getfield 9, 3) := by decide +kernel
theorem b_Blend_valueOf_5 : tf_dec prog_2_method_4_code 5 [(.imul, 1), (.istore_n 3, 1), (.aload_n 0, 1)] = true := by decide +kernel
theorem d_Blend_valueOf_8 : decode prog_2_method_4_code 8 = .ok (.getfield 9, 3) := by decide +kernel
theorem b_Blend_valueOf_11 : tf_dec prog_2_method_4_code 11 [(.iconst 1, 1)] = true := by decide +kernel
theorem d_Blend_valueOf_12 : decode prog_2_method_4_code 12 = .ok (.if_icmp .ne 7, 3) := by decide +kernel
theorem b_Blend_valueOf_15 : tf_dec prog_2_method_4_code 15 [(.aload_n 1, 1), (.iload_n 3, 1)] = true := by decide +kernel
theorem d_Blend_valueOf_17 : decode prog_2_method_4_code 17 = .ok (.iaload, 1) := by decide +kernel
theorem d_Blend_valueOf_18 : decode prog_2_method_4_code 18 = .ok (.ireturn, 1) := by decide +kernel
theorem b_Blend_valueOf_19 : tf_dec prog_2_method_4_code 19 [(.aload_n 1, 1), (.iload_n 3, 1)] = true := by decide +kernel
theorem d_Blend_valueOf_21 : decode prog_2_method_4_code 21 = .ok (.iaload, 1) := by decide +kernel
theorem b_Blend_valueOf_22 : tf_dec prog_2_method_4_code 22 [(.i2l, 1), (.aload_n 1, 1), (.iload_n 3, 1), (.iconst 1, 1), (.iadd, 1)] = true := by decide +kernel
theorem d_Blend_valueOf_27 : decode prog_2_method_4_code 27 = .ok (.iaload, 1) := by decide +kernel
theorem b_Blend_valueOf_28 : tf_dec prog_2_method_4_code 28 [(.i2l, 1), (.aload_n 0, 1)] = true := by decide +kernel
theorem d_Blend_valueOf_30 : decode prog_2_method_4_code 30 = .ok (.getfield 19, 3) := by decide +kernel
theorem d_Blend_valueOf_33 : decode prog_2_method_4_code 33 = .ok (.invokestatic 25, 3) := by decide +kernel
theorem b_Blend_valueOf_36 : tf_dec prog_2_method_4_code 36 [(.lstore 4, 2), (.aload_n 0, 1)] = true := by decide +kernel
theorem d_Blend_valueOf_39 : decode prog_2_method_4_code 39 = .ok (.getfield 9, 3) := by decide +kernel
theorem b_Blend_valueOf_42 : tf_dec prog_2_method_4_code 42 [(.iconst 2, 1)] = true := by decide +kernel
theorem d_Blend_valueOf_43 : decode prog_2_method_4_code 43 = .ok (.if_icmp .ne 12, 3) := by decide +kernel
theorem b_Blend_valueOf_46 : tf_dec prog_2_method_4_code 46 [(.lload 4, 2)] = true := by decide +kernel
theorem d_Blend_valueOf_48 : decode prog_2_method_4_code 48 = .ok (.ldc2_w 29, 3) := by decide +kernel
theorem d_Blend_valueOf_51 : decode prog_2_method_4_code 51 = .ok (.invokestatic 31, 3) := by decide +kernel
theorem d_Blend_valueOf_54 : decode prog_2_method_4_code 54 = .ok (.ireturn, 1) := by decide +kernel
theorem b_Blend_valueOf_55 : tf_dec prog_2_method_4_code 55 [(.aload_n 1, 1), (.iload_n 3, 1), (.iconst 2, 1), (.iadd, 1)] = true := by decide +kernel
theorem d_Blend_valueOf_59 : decode prog_2_method_4_code 59 = .ok (.iaload, 1) := by decide +kernel
theorem b_Blend_valueOf_60 : tf_dec prog_2_method_4_code 60 [(.i2l, 1), (.aload_n 1, 1), (.iload_n 3, 1), (.iconst 3, 1), (.iadd, 1)] = true := by decide +kernel
theorem d_Blend_valueOf_65 : decode prog_2_method_4_code 65 = .ok (.iaload, 1) := by decide +kernel
theorem b_Blend_valueOf_66 : tf_dec prog_2_method_4_code 66 [(.i2l, 1), (.aload_n 0, 1)] = true := by decide +kernel
theorem d_Blend_valueOf_68 : decode prog_2_method_4_code 68 = .ok (.getfield 19, 3) := by decide +kernel
theorem d_Blend_valueOf_71 : decode prog_2_method_4_code 71 = .ok (.invokestatic 25, 3) := by decide +kernel
theorem b_Blend_valueOf_74 : tf_dec prog_2_method_4_code 74 [(.lstore 6, 2), (.lload 4, 2), (.lload 6, 2), (.aload_n 0, 1)] = true := by decide +kernel
theorem d_Blend_valueOf_81 : decode prog_2_method_4_code 81 = .ok (.getfield 22, 3) := by decide +kernel
theorem d_Blend_valueOf_84 : decode prog_2_method_4_code 84 = .ok (.invokestatic 25, 3) := by decide +kernel
theorem d_Blend_valueOf_87 : decode prog_2_method_4_code 87 = .ok (.ldc2_w 35, 3) := by decide +kernel
theorem d_Blend_valueOf_90 : decode prog_2_method_4_code 90 = .ok (.invokestatic 31, 3) := by decide +kernel
theorem d_Blend_valueOf_93 : decode prog_2_method_4_code 93 = .ok (.ireturn, 1) := by decide +kernel
theorem b_Blend_mix_0 : tf_dec prog_2_method_5_code 0 [(.lload_n 0, 1), (.sipush 1024, 3), (.iload 4, 2), (.isub, 1), (.i2l, 1), (.lmul, 1), (.lload_n 2, 1), (.iload 4, 2), (.i2l, 1), (.lmul, 1), (.ladd, 1)] = true := by decide +kernel
theorem d_Blend_mix_15 : decode prog_2_method_5_code 15 = .ok (.lreturn, 1) := by decide +kernel
theorem b_Canvas_init_0 : tf_dec prog_3_method_1_code 0 [(.aload_n 0, 1)] = true := by decide +kernel
theorem d_Canvas_init_1 : decode prog_3_method_1_code 1 = .ok (.invokespecial 3, 3) := by decide +kernel
theorem b_Canvas_init_4 : tf_dec prog_3_method_1_code 4 [(.aload_n 0, 1), (.sipush 4096, 3)] = true := by decide +kernel
theorem d_Canvas_init_8 : decode prog_3_method_1_code 8 = .ok (.newarray .int, 2) := by decide +kernel
theorem d_Canvas_init_10 : decode prog_3_method_1_code 10 = .ok (.putfield 11, 3) := by decide +kernel
theorem b_Canvas_init_13 : tf_dec prog_3_method_1_code 13 [(.aload_n 0, 1), (.bipush 32, 2)] = true := by decide +kernel
theorem d_Canvas_init_16 : decode prog_3_method_1_code 16 = .ok (.putfield 15, 3) := by decide +kernel
theorem d_Canvas_init_19 : decode prog_3_method_1_code 19 = .ok (.return_, 1) := by decide +kernel
theorem b_Canvas_start_0 : tf_dec prog_3_method_2_code 0 [(.aload_n 0, 1), (.iload_n 1, 1)] = true := by decide +kernel
theorem d_Canvas_start_2 : decode prog_3_method_2_code 2 = .ok (.putfield 15, 3) := by decide +kernel
theorem b_Canvas_start_5 : tf_dec prog_3_method_2_code 5 [(.aload_n 0, 1), (.sipush 2048, 3), (.iload_n 1, 1)] = true := by decide +kernel
theorem d_Canvas_start_10 : decode prog_3_method_2_code 10 = .ok (.idiv, 1) := by decide +kernel
theorem d_Canvas_start_11 : decode prog_3_method_2_code 11 = .ok (.putfield 19, 3) := by decide +kernel
theorem b_Canvas_start_14 : tf_dec prog_3_method_2_code 14 [(.aload_n 0, 1)] = true := by decide +kernel
theorem d_Canvas_start_15 : decode prog_3_method_2_code 15 = .ok (.getfield 11, 3) := by decide +kernel
theorem b_Canvas_start_18 : tf_dec prog_3_method_2_code 18 [(.iconst 0, 1), (.aload_n 0, 1)] = true := by decide +kernel
theorem d_Canvas_start_20 : decode prog_3_method_2_code 20 = .ok (.getfield 19, 3) := by decide +kernel
theorem b_Canvas_start_23 : tf_dec prog_3_method_2_code 23 [(.aload_n 0, 1)] = true := by decide +kernel
theorem d_Canvas_start_24 : decode prog_3_method_2_code 24 = .ok (.getfield 19, 3) := by decide +kernel
theorem b_Canvas_start_27 : tf_dec prog_3_method_2_code 27 [(.imul, 1), (.iconst 0, 1)] = true := by decide +kernel
theorem d_Canvas_start_29 : decode prog_3_method_2_code 29 = .ok (.invokestatic 22, 3) := by decide +kernel
theorem d_Canvas_start_32 : decode prog_3_method_2_code 32 = .ok (.return_, 1) := by decide +kernel
theorem b_Canvas_addPath_0 : tf_dec prog_3_method_3_code 0 [(.aload_n 1, 1)] = true := by decide +kernel
theorem d_Canvas_addPath_1 : decode prog_3_method_3_code 1 = .ok (.getfield 28, 3) := by decide +kernel
theorem b_Canvas_addPath_4 : tf_dec prog_3_method_3_code 4 [(.iconst 1, 1), (.isub, 1), (.istore_n 2, 1), (.iconst 0, 1), (.istore_n 3, 1)] = true := by decide +kernel
theorem b_Canvas_addPath_9 : tf_dec prog_3_method_3_code 9 [(.iload_n 3, 1), (.aload_n 1, 1)] = true := by decide +kernel
theorem d_Canvas_addPath_11 : decode prog_3_method_3_code 11 = .ok (.getfield 28, 3) := by decide +kernel
theorem d_Canvas_addPath_14 : decode prog_3_method_3_code 14 = .ok (.if_icmp .ge 86, 3) := by decide +kernel
theorem b_Canvas_addPath_17 : tf_dec prog_3_method_3_code 17 [(.aload_n 1, 1)] = true := by decide +kernel
theorem d_Canvas_addPath_18 : decode prog_3_method_3_code 18 = .ok (.getfield 33, 3) := by decide +kernel
theorem b_Canvas_addPath_21 : tf_dec prog_3_method_3_code 21 [(.iload_n 2, 1)] = true := by decide +kernel
theorem d_Canvas_addPath_22 : decode prog_3_method_3_code 22 = .ok (.iaload, 1) := by decide +kernel
theorem b_Canvas_addPath_23 : tf_dec prog_3_method_3_code 23 [(.istore 4, 2), (.aload_n 1, 1)] = true := by decide +kernel
theorem d_Canvas_addPath_26 : decode prog_3_method_3_code 26 = .ok (.getfield 33, 3) := by decide +kernel
theorem b_Canvas_addPath_29 : tf_dec prog_3_method_3_code 29 [(.iload_n 3, 1)] = true := by decide +kernel
theorem d_Canvas_addPath_30 : decode prog_3_method_3_code 30 = .ok (.iaload, 1) := by decide +kernel
theorem b_Canvas_addPath_31 : tf_dec prog_3_method_3_code 31 [(.istore 5, 2), (.iload 4, 2), (.iload 5, 2)] = true := by decide +kernel
theorem d_Canvas_addPath_37 : decode prog_3_method_3_code 37 = .ok (.if_icmp .ge 27, 3) := by decide +kernel
theorem b_Canvas_addPath_40 : tf_dec prog_3_method_3_code 40 [(.aload_n 0, 1), (.aload_n 1, 1)] = true := by decide +kernel
theorem d_Canvas_addPath_42 : decode prog_3_method_3_code 42 = .ok (.getfield 36, 3) := by decide +kernel
theorem b_Canvas_addPath_45 : tf_dec prog_3_method_3_code 45 [(.iload_n 2, 1)] = true := by decide +kernel
theorem d_Canvas_addPath_46 : decode prog_3_method_3_code 46 = .ok (.iaload, 1) := by decide +kernel
theorem b_Canvas_addPath_47 : tf_dec prog_3_method_3_code 47 [(.iload 4, 2), (.aload_n 1, 1)] = true := by decide +kernel
theorem d_Canvas_addPath_50 : decode prog_3_method_3_code 50 = .ok (.getfield 36, 3) := by decide +kernel
theorem b_Canvas_addPath_53 : tf_dec prog_3_method_3_code 53 [(.iload_n 3, 1)] = true := by decide +kernel
theorem d_Canvas_addPath_54 : decode prog_3_method_3_code 54 = .ok (.iaload, 1) := by decide +kernel
theorem b_Canvas_addPath_55 : tf_dec prog_3_method_3_code 55 [(.iload 5, 2), (.iconst 1, 1)] = true := by decide +kernel
theorem d_Canvas_addPath_58 : decode prog_3_method_3_code 58 = .ok (.invokevirtual 39, 3) := by decide +kernel
theorem d_Canvas_addPath_61 : decode prog_3_method_3_code 61 = .ok (.goto 31, 3) := by decide +kernel
theorem b_Canvas_addPath_64 : tf_dec prog_3_method_3_code 64 [(.iload 4, 2), (.iload 5, 2)] = true := by decide +kernel
theorem d_Canvas_addPath_68 : decode prog_3_method_3_code 68 = .ok (.if_icmp .le 24, 3) := by decide +kernel
theorem b_Canvas_addPath_71 : tf_dec prog_3_method_3_code 71 [(.aload_n 0, 1), (.aload_n 1, 1)] = true := by decide +kernel
theorem d_Canvas_addPath_73 : decode prog_3_method_3_code 73 = .ok (.getfield 36, 3) := by decide +kernel
theorem b_Canvas_addPath_76 : tf_dec prog_3_method_3_code 76 [(.iload_n 3, 1)] = true := by decide +kernel
theorem d_Canvas_addPath_77 : decode prog_3_method_3_code 77 = .ok (.iaload, 1) := by decide +kernel
theorem b_Canvas_addPath_78 : tf_dec prog_3_method_3_code 78 [(.iload 5, 2), (.aload_n 1, 1)] = true := by decide +kernel
theorem d_Canvas_addPath_81 : decode prog_3_method_3_code 81 = .ok (.getfield 36, 3) := by decide +kernel
theorem b_Canvas_addPath_84 : tf_dec prog_3_method_3_code 84 [(.iload_n 2, 1)] = true := by decide +kernel
theorem d_Canvas_addPath_85 : decode prog_3_method_3_code 85 = .ok (.iaload, 1) := by decide +kernel
theorem b_Canvas_addPath_86 : tf_dec prog_3_method_3_code 86 [(.iload 4, 2), (.iconst (-1), 1)] = true := by decide +kernel
theorem d_Canvas_addPath_89 : decode prog_3_method_3_code 89 = .ok (.invokevirtual 39, 3) := by decide +kernel
theorem b_Canvas_addPath_92 : tf_dec prog_3_method_3_code 92 [(.iload_n 3, 1), (.istore_n 2, 1), (.iinc 3 1, 3)] = true := by decide +kernel
theorem d_Canvas_addPath_97 : decode prog_3_method_3_code 97 = .ok (.goto (-88), 3) := by decide +kernel
theorem d_Canvas_addPath_100 : decode prog_3_method_3_code 100 = .ok (.return_, 1) := by decide +kernel
theorem b_Canvas_turnToGreys_0 : tf_dec prog_3_method_4_code 0 [(.iconst 0, 1), (.istore_n 1, 1), (.iconst 0, 1), (.istore_n 2, 1)] = true := by decide +kernel
theorem b_Canvas_turnToGreys_4 : tf_dec prog_3_method_4_code 4 [(.iload_n 2, 1), (.aload_n 0, 1)] = true := by decide +kernel
theorem d_Canvas_turnToGreys_6 : decode prog_3_method_4_code 6 = .ok (.getfield 19, 3) := by decide +kernel
theorem d_Canvas_turnToGreys_9 : decode prog_3_method_4_code 9 = .ok (.if_icmp .ge 73, 3) := by decide +kernel
theorem b_Canvas_turnToGreys_12 : tf_dec prog_3_method_4_code 12 [(.iconst 0, 1), (.istore_n 3, 1), (.aload_n 0, 1)] = true := by decide +kernel
theorem d_Canvas_turnToGreys_15 : decode prog_3_method_4_code 15 = .ok (.getfield 19, 3) := by decide +kernel
theorem b_Canvas_turnToGreys_18 : tf_dec prog_3_method_4_code 18 [(.iconst 1, 1), (.isub, 1), (.istore 4, 2)] = true := by decide +kernel
theorem b_Canvas_turnToGreys_22 : tf_dec prog_3_method_4_code 22 [(.iload 4, 2)] = true := by decide +kernel
theorem d_Canvas_turnToGreys_24 : decode prog_3_method_4_code 24 = .ok (.ifCond .lt 52, 3) := by decide +kernel
theorem b_Canvas_turnToGreys_27 : tf_dec prog_3_method_4_code 27 [(.iload_n 2, 1), (.aload_n 0, 1)] = true := by decide +kernel
theorem d_Canvas_turnToGreys_29 : decode prog_3_method_4_code 29 = .ok (.getfield 19, 3) := by decide +kernel
theorem b_Canvas_turnToGreys_32 : tf_dec prog_3_method_4_code 32 [(.imul, 1), (.iload 4, 2), (.iadd, 1), (.istore 5, 2), (.iload_n 3, 1), (.aload_n 0, 1)] = true := by decide +kernel
theorem d_Canvas_turnToGreys_40 : decode prog_3_method_4_code 40 = .ok (.getfield 11, 3) := by decide +kernel
theorem b_Canvas_turnToGreys_43 : tf_dec prog_3_method_4_code 43 [(.iload 5, 2)] = true := by decide +kernel
theorem d_Canvas_turnToGreys_45 : decode prog_3_method_4_code 45 = .ok (.iaload, 1) := by decide +kernel
theorem b_Canvas_turnToGreys_46 : tf_dec prog_3_method_4_code 46 [(.iadd, 1), (.istore_n 3, 1), (.aload_n 0, 1)] = true := by decide +kernel
theorem d_Canvas_turnToGreys_49 : decode prog_3_method_4_code 49 = .ok (.getfield 11, 3) := by decide +kernel
theorem b_Canvas_turnToGreys_52 : tf_dec prog_3_method_4_code 52 [(.iload 5, 2), (.aload_n 0, 1), (.iload_n 3, 1)] = true := by decide +kernel
theorem d_Canvas_turnToGreys_56 : decode prog_3_method_4_code 56 = .ok (.invokevirtual 43, 3) := by decide +kernel
theorem d_Canvas_turnToGreys_59 : decode prog_3_method_4_code 59 = .ok (.iastore, 1) := by decide +kernel
theorem b_Canvas_turnToGreys_60 : tf_dec prog_3_method_4_code 60 [(.iload_n 1, 1), (.aload_n 0, 1)] = true := by decide +kernel
theorem d_Canvas_turnToGreys_62 : decode prog_3_method_4_code 62 = .ok (.getfield 11, 3) := by decide +kernel
theorem b_Canvas_turnToGreys_65 : tf_dec prog_3_method_4_code 65 [(.iload 5, 2)] = true := by decide +kernel
theorem d_Canvas_turnToGreys_67 : decode prog_3_method_4_code 67 = .ok (.iaload, 1) := by decide +kernel
theorem b_Canvas_turnToGreys_68 : tf_dec prog_3_method_4_code 68 [(.iadd, 1), (.istore_n 1, 1), (.iinc 4 (-1), 3)] = true := by decide +kernel
theorem d_Canvas_turnToGreys_73 : decode prog_3_method_4_code 73 = .ok (.goto (-51), 3) := by decide +kernel
theorem b_Canvas_turnToGreys_76 : tf_dec prog_3_method_4_code 76 [(.iinc 2 1, 3)] = true := by decide +kernel
theorem d_Canvas_turnToGreys_79 : decode prog_3_method_4_code 79 = .ok (.goto (-75), 3) := by decide +kernel
theorem b_Canvas_turnToGreys_82 : tf_dec prog_3_method_4_code 82 [(.iload_n 1, 1)] = true := by decide +kernel
theorem d_Canvas_turnToGreys_83 : decode prog_3_method_4_code 83 = .ok (.ireturn, 1) := by decide +kernel
theorem b_Canvas_greyAt_0 : tf_dec prog_3_method_5_code 0 [(.iload_n 1, 1), (.iconst 0, 1), (.aload_n 0, 1)] = true := by decide +kernel
theorem d_Canvas_greyAt_3 : decode prog_3_method_5_code 3 = .ok (.getfield 19, 3) := by decide +kernel
theorem b_Canvas_greyAt_6 : tf_dec prog_3_method_5_code 6 [(.iconst 1, 1), (.isub, 1)] = true := by decide +kernel
theorem d_Canvas_greyAt_8 : decode prog_3_method_5_code 8 = .ok (.invokestatic 47, 3) := by decide +kernel
theorem d_Canvas_greyAt_11 : decode prog_3_method_5_code 11 = .ok (.ifCond .eq 21, 3) := by decide +kernel
theorem b_Canvas_greyAt_14 : tf_dec prog_3_method_5_code 14 [(.iload_n 2, 1), (.iconst 0, 1), (.aload_n 0, 1)] = true := by decide +kernel
theorem d_Canvas_greyAt_17 : decode prog_3_method_5_code 17 = .ok (.getfield 19, 3) := by decide +kernel
theorem b_Canvas_greyAt_20 : tf_dec prog_3_method_5_code 20 [(.iconst 1, 1), (.isub, 1)] = true := by decide +kernel
theorem d_Canvas_greyAt_22 : decode prog_3_method_5_code 22 = .ok (.invokestatic 47, 3) := by decide +kernel
theorem d_Canvas_greyAt_25 : decode prog_3_method_5_code 25 = .ok (.ifCond .eq 7, 3) := by decide +kernel
theorem b_Canvas_greyAt_28 : tf_dec prog_3_method_5_code 28 [(.iconst 1, 1)] = true := by decide +kernel
theorem d_Canvas_greyAt_29 : decode prog_3_method_5_code 29 = .ok (.goto 4, 3) := by decide +kernel
theorem b_Canvas_greyAt_32 : tf_dec prog_3_method_5_code 32 [(.iconst 0, 1)] = true := by decide +kernel
theorem b_Canvas_greyAt_33 : tf_dec prog_3_method_5_code 33 [(.istore_n 3, 1), (.iload_n 3, 1)] = true := by decide +kernel
theorem d_Canvas_greyAt_35 : decode prog_3_method_5_code 35 = .ok (.ifCond .eq 19, 3) := by decide +kernel
theorem b_Canvas_greyAt_38 : tf_dec prog_3_method_5_code 38 [(.aload_n 0, 1)] = true := by decide +kernel
theorem d_Canvas_greyAt_39 : decode prog_3_method_5_code 39 = .ok (.getfield 11, 3) := by decide +kernel
theorem b_Canvas_greyAt_42 : tf_dec prog_3_method_5_code 42 [(.iload_n 2, 1), (.aload_n 0, 1)] = true := by decide +kernel
theorem d_Canvas_greyAt_44 : decode prog_3_method_5_code 44 = .ok (.getfield 19, 3) := by decide +kernel
theorem b_Canvas_greyAt_47 : tf_dec prog_3_method_5_code 47 [(.imul, 1), (.iload_n 1, 1), (.iadd, 1)] = true := by decide +kernel
theorem d_Canvas_greyAt_50 : decode prog_3_method_5_code 50 = .ok (.iaload, 1) := by decide +kernel
theorem d_Canvas_greyAt_51 : decode prog_3_method_5_code 51 = .ok (.goto 4, 3) := by decide +kernel
theorem b_Canvas_greyAt_54 : tf_dec prog_3_method_5_code 54 [(.iconst (-1), 1)] = true := by decide +kernel
theorem d_Canvas_greyAt_55 : decode prog_3_method_5_code 55 = .ok (.ireturn, 1) := by decide +kernel
theorem d_Canvas_grey_0 : decode prog_3_method_6_code 0 = .ok (.ldc2_w 51, 3) := by decide +kernel
theorem b_Canvas_grey_3 : tf_dec prog_3_method_6_code 3 [(.iload_n 1, 1), (.i2l, 1), (.lmul, 1), (.iconst 2, 1), (.aload_n 0, 1)] = true := by decide +kernel
theorem d_Canvas_grey_8 : decode prog_3_method_6_code 8 = .ok (.getfield 15, 3) := by decide +kernel
theorem b_Canvas_grey_11 : tf_dec prog_3_method_6_code 11 [(.imul, 1), (.aload_n 0, 1)] = true := by decide +kernel
theorem d_Canvas_grey_13 : decode prog_3_method_6_code 13 = .ok (.getfield 15, 3) := by decide +kernel
theorem b_Canvas_grey_16 : tf_dec prog_3_method_6_code 16 [(.imul, 1), (.i2l, 1)] = true := by decide +kernel
theorem d_Canvas_grey_18 : decode prog_3_method_6_code 18 = .ok (.invokestatic 53, 3) := by decide +kernel
theorem b_Canvas_grey_21 : tf_dec prog_3_method_6_code 21 [(.istore_n 2, 1), (.iconst 0, 1), (.sipush 255, 3), (.iload_n 2, 1)] = true := by decide +kernel
theorem d_Canvas_grey_27 : decode prog_3_method_6_code 27 = .ok (.invokestatic 57, 3) := by decide +kernel
theorem d_Canvas_grey_30 : decode prog_3_method_6_code 30 = .ok (.invokestatic 63, 3) := by decide +kernel
theorem d_Canvas_grey_33 : decode prog_3_method_6_code 33 = .ok (.ireturn, 1) := by decide +kernel
theorem b_Canvas_addRising_0 : tf_dec prog_3_method_7_code 0 [(.iload_n 1, 1), (.istore 6, 2), (.iload_n 2, 1), (.istore 7, 2), (.iconst 0, 1), (.aload_n 0, 1), (.iload_n 2, 1)] = true := by decide +kernel
theorem d_Canvas_addRising_9 : decode prog_3_method_7_code 9 = .ok (.invokevirtual 66, 3) := by decide +kernel
theorem d_Canvas_addRising_12 : decode prog_3_method_7_code 12 = .ok (.invokestatic 63, 3) := by decide +kernel
theorem b_Canvas_addRising_15 : tf_dec prog_3_method_7_code 15 [(.istore 8, 2)] = true := by decide +kernel
theorem b_Canvas_addRising_17 : tf_dec prog_3_method_7_code 17 [(.iload 8, 2), (.aload_n 0, 1)] = true := by decide +kernel
theorem d_Canvas_addRising_20 : decode prog_3_method_7_code 20 = .ok (.getfield 19, 3) := by decide +kernel
theorem d_Canvas_addRising_23 : decode prog_3_method_7_code 23 = .ok (.if_icmp .gt 64, 3) := by decide +kernel
theorem b_Canvas_addRising_26 : tf_dec prog_3_method_7_code 26 [(.iload 8, 2), (.aload_n 0, 1)] = true := by decide +kernel
theorem d_Canvas_addRising_29 : decode prog_3_method_7_code 29 = .ok (.getfield 15, 3) := by decide +kernel
theorem b_Canvas_addRising_32 : tf_dec prog_3_method_7_code 32 [(.imul, 1), (.iload 4, 2)] = true := by decide +kernel
theorem d_Canvas_addRising_35 : decode prog_3_method_7_code 35 = .ok (.if_icmp .ge 52, 3) := by decide +kernel
theorem b_Canvas_addRising_38 : tf_dec prog_3_method_7_code 38 [(.iload 8, 2), (.aload_n 0, 1)] = true := by decide +kernel
theorem d_Canvas_addRising_41 : decode prog_3_method_7_code 41 = .ok (.getfield 15, 3) := by decide +kernel
theorem b_Canvas_addRising_44 : tf_dec prog_3_method_7_code 44 [(.imul, 1), (.istore 9, 2), (.iload_n 2, 1), (.iload_n 1, 1), (.iload 4, 2), (.iload_n 3, 1), (.iload 9, 2)] = true := by decide +kernel
theorem d_Canvas_addRising_54 : decode prog_3_method_7_code 54 = .ok (.invokestatic 69, 3) := by decide +kernel
theorem b_Canvas_addRising_57 : tf_dec prog_3_method_7_code 57 [(.istore 10, 2), (.aload_n 0, 1), (.iload 6, 2), (.iload 7, 2), (.iload 10, 2), (.iload 9, 2), (.iload 5, 2)] = true := by decide +kernel
theorem d_Canvas_addRising_70 : decode prog_3_method_7_code 70 = .ok (.invokevirtual 73, 3) := by decide +kernel
theorem b_Canvas_addRising_73 : tf_dec prog_3_method_7_code 73 [(.iload 10, 2), (.istore 6, 2), (.iload 9, 2), (.istore 7, 2), (.iinc 8 1, 3)] = true := by decide +kernel
theorem d_Canvas_addRising_84 : decode prog_3_method_7_code 84 = .ok (.goto (-67), 3) := by decide +kernel
theorem b_Canvas_addRising_87 : tf_dec prog_3_method_7_code 87 [(.aload_n 0, 1), (.iload 6, 2), (.iload 7, 2), (.iload_n 3, 1), (.iload 4, 2), (.iload 5, 2)] = true := by decide +kernel
theorem d_Canvas_addRising_97 : decode prog_3_method_7_code 97 = .ok (.invokevirtual 73, 3) := by decide +kernel
theorem d_Canvas_addRising_100 : decode prog_3_method_7_code 100 = .ok (.return_, 1) := by decide +kernel
theorem b_Canvas_addPart_0 : tf_dec prog_3_method_8_code 0 [(.iload_n 2, 1), (.aload_n 0, 1)] = true := by decide +kernel
theorem d_Canvas_addPart_2 : decode prog_3_method_8_code 2 = .ok (.getfield 15, 3) := by decide +kernel
theorem d_Canvas_addPart_5 : decode prog_3_method_8_code 5 = .ok (.invokestatic 76, 3) := by decide +kernel
theorem b_Canvas_addPart_8 : tf_dec prog_3_method_8_code 8 [(.istore 6, 2), (.iload 6, 2), (.iconst 0, 1), (.aload_n 0, 1)] = true := by decide +kernel
theorem d_Canvas_addPart_14 : decode prog_3_method_8_code 14 = .ok (.getfield 19, 3) := by decide +kernel
theorem b_Canvas_addPart_17 : tf_dec prog_3_method_8_code 17 [(.iconst 1, 1), (.isub, 1)] = true := by decide +kernel
theorem d_Canvas_addPart_19 : decode prog_3_method_8_code 19 = .ok (.invokestatic 47, 3) := by decide +kernel
theorem d_Canvas_addPart_22 : decode prog_3_method_8_code 22 = .ok (.ifCond .ne 4, 3) := by decide +kernel
theorem d_Canvas_addPart_25 : decode prog_3_method_8_code 25 = .ok (.return_, 1) := by decide +kernel
theorem b_Canvas_addPart_26 : tf_dec prog_3_method_8_code 26 [(.iload_n 1, 1), (.iload_n 3, 1)] = true := by decide +kernel
theorem d_Canvas_addPart_28 : decode prog_3_method_8_code 28 = .ok (.if_icmp .gt 7, 3) := by decide +kernel
theorem b_Canvas_addPart_31 : tf_dec prog_3_method_8_code 31 [(.iconst 1, 1)] = true := by decide +kernel
theorem d_Canvas_addPart_32 : decode prog_3_method_8_code 32 = .ok (.goto 4, 3) := by decide +kernel
theorem b_Canvas_addPart_35 : tf_dec prog_3_method_8_code 35 [(.iconst 0, 1)] = true := by decide +kernel
theorem b_Canvas_addPart_36 : tf_dec prog_3_method_8_code 36 [(.istore 7, 2), (.iload 7, 2)] = true := by decide +kernel
theorem d_Canvas_addPart_40 : decode prog_3_method_8_code 40 = .ok (.ifCond .eq 7, 3) := by decide +kernel
theorem b_Canvas_addPart_43 : tf_dec prog_3_method_8_code 43 [(.iload_n 1, 1)] = true := by decide +kernel
theorem d_Canvas_addPart_44 : decode prog_3_method_8_code 44 = .ok (.goto 4, 3) := by decide +kernel
theorem b_Canvas_addPart_47 : tf_dec prog_3_method_8_code 47 [(.iload_n 3, 1)] = true := by decide +kernel
theorem b_Canvas_addPart_48 : tf_dec prog_3_method_8_code 48 [(.istore 8, 2), (.iload 7, 2)] = true := by decide +kernel
theorem d_Canvas_addPart_52 : decode prog_3_method_8_code 52 = .ok (.ifCond .eq 7, 3) := by decide +kernel
theorem b_Canvas_addPart_55 : tf_dec prog_3_method_8_code 55 [(.iload_n 2, 1)] = true := by decide +kernel
theorem d_Canvas_addPart_56 : decode prog_3_method_8_code 56 = .ok (.goto 5, 3) := by decide +kernel
theorem b_Canvas_addPart_59 : tf_dec prog_3_method_8_code 59 [(.iload 4, 2)] = true := by decide +kernel
theorem b_Canvas_addPart_61 : tf_dec prog_3_method_8_code 61 [(.istore 9, 2), (.iload 7, 2)] = true := by decide +kernel
theorem d_Canvas_addPart_65 : decode prog_3_method_8_code 65 = .ok (.ifCond .eq 7, 3) := by decide +kernel
theorem b_Canvas_addPart_68 : tf_dec prog_3_method_8_code 68 [(.iload_n 3, 1)] = true := by decide +kernel
theorem d_Canvas_addPart_69 : decode prog_3_method_8_code 69 = .ok (.goto 4, 3) := by decide +kernel
theorem b_Canvas_addPart_72 : tf_dec prog_3_method_8_code 72 [(.iload_n 1, 1)] = true := by decide +kernel
theorem b_Canvas_addPart_73 : tf_dec prog_3_method_8_code 73 [(.istore 10, 2), (.iload 7, 2)] = true := by decide +kernel
theorem d_Canvas_addPart_77 : decode prog_3_method_8_code 77 = .ok (.ifCond .eq 8, 3) := by decide +kernel
theorem b_Canvas_addPart_80 : tf_dec prog_3_method_8_code 80 [(.iload 4, 2)] = true := by decide +kernel
theorem d_Canvas_addPart_82 : decode prog_3_method_8_code 82 = .ok (.goto 4, 3) := by decide +kernel
theorem b_Canvas_addPart_85 : tf_dec prog_3_method_8_code 85 [(.iload_n 2, 1)] = true := by decide +kernel
theorem b_Canvas_addPart_86 : tf_dec prog_3_method_8_code 86 [(.istore 11, 2), (.iload 8, 2), (.istore 12, 2), (.iload 9, 2), (.istore 13, 2), (.iconst 0, 1), (.aload_n 0, 1), (.iload 8, 2)] = true := by decide +kernel
theorem d_Canvas_addPart_100 : decode prog_3_method_8_code 100 = .ok (.invokevirtual 66, 3) := by decide +kernel
theorem d_Canvas_addPart_103 : decode prog_3_method_8_code 103 = .ok (.invokestatic 63, 3) := by decide +kernel
theorem b_Canvas_addPart_106 : tf_dec prog_3_method_8_code 106 [(.istore 14, 2)] = true := by decide +kernel
theorem b_Canvas_addPart_108 : tf_dec prog_3_method_8_code 108 [(.iload 14, 2), (.aload_n 0, 1)] = true := by decide +kernel
theorem d_Canvas_addPart_111 : decode prog_3_method_8_code 111 = .ok (.getfield 19, 3) := by decide +kernel
theorem d_Canvas_addPart_114 : decode prog_3_method_8_code 114 = .ok (.if_icmp .gt 74, 3) := by decide +kernel
theorem b_Canvas_addPart_117 : tf_dec prog_3_method_8_code 117 [(.iload 14, 2), (.aload_n 0, 1)] = true := by decide +kernel
theorem d_Canvas_addPart_120 : decode prog_3_method_8_code 120 = .ok (.getfield 15, 3) := by decide +kernel
theorem b_Canvas_addPart_123 : tf_dec prog_3_method_8_code 123 [(.imul, 1), (.iload 10, 2)] = true := by decide +kernel
theorem d_Canvas_addPart_126 : decode prog_3_method_8_code 126 = .ok (.if_icmp .ge 62, 3) := by decide +kernel
theorem b_Canvas_addPart_129 : tf_dec prog_3_method_8_code 129 [(.iload 14, 2), (.aload_n 0, 1)] = true := by decide +kernel
theorem d_Canvas_addPart_132 : decode prog_3_method_8_code 132 = .ok (.getfield 15, 3) := by decide +kernel
theorem b_Canvas_addPart_135 : tf_dec prog_3_method_8_code 135 [(.imul, 1), (.istore 15, 2), (.iload 8, 2), (.iload 9, 2), (.iload 10, 2), (.iload 11, 2), (.iload 15, 2)] = true := by decide +kernel
theorem d_Canvas_addPart_148 : decode prog_3_method_8_code 148 = .ok (.invokestatic 69, 3) := by decide +kernel
theorem b_Canvas_addPart_151 : tf_dec prog_3_method_8_code 151 [(.istore 16, 2), (.aload_n 0, 1), (.iload 6, 2), (.iload 12, 2), (.iload 15, 2), (.iload 5, 2), (.iload 16, 2), (.iload 13, 2), (.isub, 1)] = true := by decide +kernel
theorem d_Canvas_addPart_167 : decode prog_3_method_8_code 167 = .ok (.invokestatic 79, 3) := by decide +kernel
theorem b_Canvas_addPart_170 : tf_dec prog_3_method_8_code 170 [(.imul, 1)] = true := by decide +kernel
theorem d_Canvas_addPart_171 : decode prog_3_method_8_code 171 = .ok (.invokevirtual 82, 3) := by decide +kernel
theorem b_Canvas_addPart_174 : tf_dec prog_3_method_8_code 174 [(.iload 15, 2), (.istore 12, 2), (.iload 16, 2), (.istore 13, 2), (.iinc 14 1, 3)] = true := by decide +kernel
theorem d_Canvas_addPart_185 : decode prog_3_method_8_code 185 = .ok (.goto (-77), 3) := by decide +kernel
theorem b_Canvas_addPart_188 : tf_dec prog_3_method_8_code 188 [(.aload_n 0, 1), (.iload 6, 2), (.iload 12, 2), (.iload 10, 2), (.iload 5, 2), (.iload 11, 2), (.iload 13, 2), (.isub, 1)] = true := by decide +kernel
theorem d_Canvas_addPart_202 : decode prog_3_method_8_code 202 = .ok (.invokestatic 79, 3) := by decide +kernel
theorem b_Canvas_addPart_205 : tf_dec prog_3_method_8_code 205 [(.imul, 1)] = true := by decide +kernel
theorem d_Canvas_addPart_206 : decode prog_3_method_8_code 206 = .ok (.invokevirtual 82, 3) := by decide +kernel
theorem d_Canvas_addPart_209 : decode prog_3_method_8_code 209 = .ok (.return_, 1) := by decide +kernel
theorem b_Canvas_addRise_0 : tf_dec prog_3_method_9_code 0 [(.iload_n 2, 1), (.aload_n 0, 1)] = true := by decide +kernel
theorem d_Canvas_addRise_2 : decode prog_3_method_9_code 2 = .ok (.getfield 15, 3) := by decide +kernel
theorem d_Canvas_addRise_5 : decode prog_3_method_9_code 5 = .ok (.invokestatic 76, 3) := by decide +kernel
theorem b_Canvas_addRise_8 : tf_dec prog_3_method_9_code 8 [(.istore 5, 2), (.iconst 2, 1), (.aload_n 0, 1)] = true := by decide +kernel
theorem d_Canvas_addRise_12 : decode prog_3_method_9_code 12 = .ok (.getfield 15, 3) := by decide +kernel
theorem b_Canvas_addRise_15 : tf_dec prog_3_method_9_code 15 [(.imul, 1), (.iload 4, 2), (.imul, 1), (.istore 6, 2), (.iload 5, 2), (.aload_n 0, 1)] = true := by decide +kernel
theorem d_Canvas_addRise_24 : decode prog_3_method_9_code 24 = .ok (.getfield 19, 3) := by decide +kernel
theorem d_Canvas_addRise_27 : decode prog_3_method_9_code 27 = .ok (.if_icmp .lt 29, 3) := by decide +kernel
theorem b_Canvas_addRise_30 : tf_dec prog_3_method_9_code 30 [(.aload_n 0, 1)] = true := by decide +kernel
theorem d_Canvas_addRise_31 : decode prog_3_method_9_code 31 = .ok (.getfield 11, 3) := by decide +kernel
theorem b_Canvas_addRise_34 : tf_dec prog_3_method_9_code 34 [(.iload_n 1, 1), (.aload_n 0, 1)] = true := by decide +kernel
theorem d_Canvas_addRise_36 : decode prog_3_method_9_code 36 = .ok (.getfield 19, 3) := by decide +kernel
theorem b_Canvas_addRise_39 : tf_dec prog_3_method_9_code 39 [(.imul, 1), (.aload_n 0, 1)] = true := by decide +kernel
theorem d_Canvas_addRise_41 : decode prog_3_method_9_code 41 = .ok (.getfield 19, 3) := by decide +kernel
theorem b_Canvas_addRise_44 : tf_dec prog_3_method_9_code 44 [(.iadd, 1), (.iconst 1, 1), (.isub, 1), (.dup2, 1)] = true := by decide +kernel
theorem d_Canvas_addRise_48 : decode prog_3_method_9_code 48 = .ok (.iaload, 1) := by decide +kernel
theorem b_Canvas_addRise_49 : tf_dec prog_3_method_9_code 49 [(.iload 6, 2), (.iadd, 1)] = true := by decide +kernel
theorem d_Canvas_addRise_52 : decode prog_3_method_9_code 52 = .ok (.iastore, 1) := by decide +kernel
theorem d_Canvas_addRise_53 : decode prog_3_method_9_code 53 = .ok (.goto 74, 3) := by decide +kernel
theorem b_Canvas_addRise_56 : tf_dec prog_3_method_9_code 56 [(.iload 5, 2)] = true := by decide +kernel
theorem d_Canvas_addRise_58 : decode prog_3_method_9_code 58 = .ok (.ifCond .lt 69, 3) := by decide +kernel
theorem b_Canvas_addRise_61 : tf_dec prog_3_method_9_code 61 [(.iload_n 2, 1), (.iload_n 3, 1), (.iadd, 1), (.iconst 2, 1), (.iload 5, 2), (.imul, 1), (.aload_n 0, 1)] = true := by decide +kernel
theorem d_Canvas_addRise_69 : decode prog_3_method_9_code 69 = .ok (.getfield 15, 3) := by decide +kernel
theorem b_Canvas_addRise_72 : tf_dec prog_3_method_9_code 72 [(.imul, 1), (.isub, 1), (.iload 4, 2), (.imul, 1), (.istore 7, 2), (.aload_n 0, 1)] = true := by decide +kernel
theorem d_Canvas_addRise_80 : decode prog_3_method_9_code 80 = .ok (.getfield 11, 3) := by decide +kernel
theorem b_Canvas_addRise_83 : tf_dec prog_3_method_9_code 83 [(.iload_n 1, 1), (.aload_n 0, 1)] = true := by decide +kernel
theorem d_Canvas_addRise_85 : decode prog_3_method_9_code 85 = .ok (.getfield 19, 3) := by decide +kernel
theorem b_Canvas_addRise_88 : tf_dec prog_3_method_9_code 88 [(.imul, 1), (.iload 5, 2), (.iadd, 1), (.dup2, 1)] = true := by decide +kernel
theorem d_Canvas_addRise_93 : decode prog_3_method_9_code 93 = .ok (.iaload, 1) := by decide +kernel
theorem b_Canvas_addRise_94 : tf_dec prog_3_method_9_code 94 [(.iload 7, 2), (.iadd, 1)] = true := by decide +kernel
theorem d_Canvas_addRise_97 : decode prog_3_method_9_code 97 = .ok (.iastore, 1) := by decide +kernel
theorem b_Canvas_addRise_98 : tf_dec prog_3_method_9_code 98 [(.iload 5, 2)] = true := by decide +kernel
theorem d_Canvas_addRise_100 : decode prog_3_method_9_code 100 = .ok (.ifCond .le 27, 3) := by decide +kernel
theorem b_Canvas_addRise_103 : tf_dec prog_3_method_9_code 103 [(.aload_n 0, 1)] = true := by decide +kernel
theorem d_Canvas_addRise_104 : decode prog_3_method_9_code 104 = .ok (.getfield 11, 3) := by decide +kernel
theorem b_Canvas_addRise_107 : tf_dec prog_3_method_9_code 107 [(.iload_n 1, 1), (.aload_n 0, 1)] = true := by decide +kernel
theorem d_Canvas_addRise_109 : decode prog_3_method_9_code 109 = .ok (.getfield 19, 3) := by decide +kernel
theorem b_Canvas_addRise_112 : tf_dec prog_3_method_9_code 112 [(.imul, 1), (.iload 5, 2), (.iadd, 1), (.iconst 1, 1), (.isub, 1), (.dup2, 1)] = true := by decide +kernel
theorem d_Canvas_addRise_119 : decode prog_3_method_9_code 119 = .ok (.iaload, 1) := by decide +kernel
theorem b_Canvas_addRise_120 : tf_dec prog_3_method_9_code 120 [(.iload 6, 2), (.iload 7, 2), (.isub, 1), (.iadd, 1)] = true := by decide +kernel
theorem d_Canvas_addRise_126 : decode prog_3_method_9_code 126 = .ok (.iastore, 1) := by decide +kernel
theorem d_Canvas_addRise_127 : decode prog_3_method_9_code 127 = .ok (.return_, 1) := by decide +kernel
theorem b_Canvas_firstCut_0 : tf_dec prog_3_method_10_code 0 [(.iload_n 1, 1), (.aload_n 0, 1)] = true := by decide +kernel
theorem d_Canvas_firstCut_2 : decode prog_3_method_10_code 2 = .ok (.getfield 15, 3) := by decide +kernel
theorem d_Canvas_firstCut_5 : decode prog_3_method_10_code 5 = .ok (.invokestatic 76, 3) := by decide +kernel
theorem b_Canvas_firstCut_8 : tf_dec prog_3_method_10_code 8 [(.iconst 1, 1), (.iadd, 1)] = true := by decide +kernel
theorem d_Canvas_firstCut_10 : decode prog_3_method_10_code 10 = .ok (.ireturn, 1) := by decide +kernel
theorem b_Canvas_crossing_0 : tf_dec prog_3_method_11_code 0 [(.iload_n 1, 1), (.iload 4, 2), (.iload_n 0, 1), (.isub, 1), (.i2l, 1), (.iload_n 3, 1), (.iload_n 1, 1), (.isub, 1), (.i2l, 1), (.lmul, 1), (.iload_n 2, 1), (.iload_n 0, 1), (.isub, 1), (.i2l, 1)] = true := by decide +kernel
theorem d_Canvas_crossing_15 : decode prog_3_method_11_code 15 = .ok (.invokestatic 53, 3) := by decide +kernel
theorem b_Canvas_crossing_18 : tf_dec prog_3_method_11_code 18 [(.iadd, 1)] = true := by decide +kernel
theorem d_Canvas_crossing_19 : decode prog_3_method_11_code 19 = .ok (.ireturn, 1) := by decide +kernel
theorem b_Glyph_init_0 : tf_dec prog_4_method_1_code 0 [(.aload_n 0, 1)] = true := by decide +kernel
theorem d_Glyph_init_1 : decode prog_4_method_1_code 1 = .ok (.invokespecial 3, 3) := by decide +kernel
theorem b_Glyph_init_4 : tf_dec prog_4_method_1_code 4 [(.aload_n 0, 1), (.bipush 40, 2)] = true := by decide +kernel
theorem d_Glyph_init_7 : decode prog_4_method_1_code 7 = .ok (.newarray .boolean, 2) := by decide +kernel
theorem d_Glyph_init_9 : decode prog_4_method_1_code 9 = .ok (.putfield 9, 3) := by decide +kernel
theorem b_Glyph_init_12 : tf_dec prog_4_method_1_code 12 [(.aload_n 0, 1), (.bipush 13, 2)] = true := by decide +kernel
theorem d_Glyph_init_15 : decode prog_4_method_1_code 15 = .ok (.newarray .int, 2) := by decide +kernel
theorem d_Glyph_init_17 : decode prog_4_method_1_code 17 = .ok (.putfield 15, 3) := by decide +kernel
theorem b_Glyph_init_20 : tf_dec prog_4_method_1_code 20 [(.aload_n 0, 1), (.iconst 4, 1)] = true := by decide +kernel
theorem d_Glyph_init_22 : decode prog_4_method_1_code 22 = .ok (.anewarray 19, 3) := by decide +kernel
theorem d_Glyph_init_25 : decode prog_4_method_1_code 25 = .ok (.putfield 21, 3) := by decide +kernel
theorem b_Glyph_init_28 : tf_dec prog_4_method_1_code 28 [(.aload_n 0, 1), (.iload_n 1, 1)] = true := by decide +kernel
theorem d_Glyph_init_30 : decode prog_4_method_1_code 30 = .ok (.putfield 25, 3) := by decide +kernel
theorem b_Glyph_init_33 : tf_dec prog_4_method_1_code 33 [(.aload_n 0, 1), (.bipush 40, 2), (.iload_n 1, 1), (.imul, 1)] = true := by decide +kernel
theorem d_Glyph_init_38 : decode prog_4_method_1_code 38 = .ok (.newarray .int, 2) := by decide +kernel
theorem d_Glyph_init_40 : decode prog_4_method_1_code 40 = .ok (.putfield 29, 3) := by decide +kernel
theorem b_Glyph_init_43 : tf_dec prog_4_method_1_code 43 [(.aload_n 0, 1), (.bipush 40, 2), (.iload_n 1, 1), (.imul, 1)] = true := by decide +kernel
theorem d_Glyph_init_48 : decode prog_4_method_1_code 48 = .ok (.newarray .int, 2) := by decide +kernel
theorem d_Glyph_init_50 : decode prog_4_method_1_code 50 = .ok (.putfield 32, 3) := by decide +kernel
theorem b_Glyph_init_53 : tf_dec prog_4_method_1_code 53 [(.aload_n 0, 1), (.iload_n 1, 1)] = true := by decide +kernel
theorem d_Glyph_init_55 : decode prog_4_method_1_code 55 = .ok (.newarray .int, 2) := by decide +kernel
theorem d_Glyph_init_57 : decode prog_4_method_1_code 57 = .ok (.putfield 35, 3) := by decide +kernel
theorem d_Glyph_init_60 : decode prog_4_method_1_code 60 = .ok (.return_, 1) := by decide +kernel
theorem b_Glyph_addPoint_0 : tf_dec prog_4_method_2_code 0 [(.iconst 0, 1), (.istore 4, 2)] = true := by decide +kernel
theorem b_Glyph_addPoint_3 : tf_dec prog_4_method_2_code 3 [(.iload 4, 2), (.aload_n 0, 1)] = true := by decide +kernel
theorem d_Glyph_addPoint_6 : decode prog_4_method_2_code 6 = .ok (.getfield 25, 3) := by decide +kernel
theorem d_Glyph_addPoint_9 : decode prog_4_method_2_code 9 = .ok (.if_icmp .ge 21, 3) := by decide +kernel
theorem b_Glyph_addPoint_12 : tf_dec prog_4_method_2_code 12 [(.aload_n 0, 1), (.aload_n 0, 1)] = true := by decide +kernel
theorem d_Glyph_addPoint_14 : decode prog_4_method_2_code 14 = .ok (.getfield 38, 3) := by decide +kernel
theorem b_Glyph_addPoint_17 : tf_dec prog_4_method_2_code 17 [(.iload 4, 2), (.iload_n 1, 1), (.iload_n 2, 1)] = true := by decide +kernel
theorem d_Glyph_addPoint_21 : decode prog_4_method_2_code 21 = .ok (.invokevirtual 41, 3) := by decide +kernel
theorem b_Glyph_addPoint_24 : tf_dec prog_4_method_2_code 24 [(.iinc 4 1, 3)] = true := by decide +kernel
theorem d_Glyph_addPoint_27 : decode prog_4_method_2_code 27 = .ok (.goto (-24), 3) := by decide +kernel
theorem b_Glyph_addPoint_30 : tf_dec prog_4_method_2_code 30 [(.aload_n 0, 1)] = true := by decide +kernel
theorem d_Glyph_addPoint_31 : decode prog_4_method_2_code 31 = .ok (.getfield 9, 3) := by decide +kernel
theorem b_Glyph_addPoint_34 : tf_dec prog_4_method_2_code 34 [(.aload_n 0, 1)] = true := by decide +kernel
theorem d_Glyph_addPoint_35 : decode prog_4_method_2_code 35 = .ok (.getfield 38, 3) := by decide +kernel
theorem b_Glyph_addPoint_38 : tf_dec prog_4_method_2_code 38 [(.iload_n 3, 1)] = true := by decide +kernel
theorem d_Glyph_addPoint_39 : decode prog_4_method_2_code 39 = .ok (.bastore, 1) := by decide +kernel
theorem b_Glyph_addPoint_40 : tf_dec prog_4_method_2_code 40 [(.aload_n 0, 1), (.dup, 1)] = true := by decide +kernel
theorem d_Glyph_addPoint_42 : decode prog_4_method_2_code 42 = .ok (.getfield 38, 3) := by decide +kernel
theorem b_Glyph_addPoint_45 : tf_dec prog_4_method_2_code 45 [(.dup_x1, 1), (.iconst 1, 1), (.iadd, 1)] = true := by decide +kernel
theorem d_Glyph_addPoint_48 : decode prog_4_method_2_code 48 = .ok (.putfield 38, 3) := by decide +kernel
theorem d_Glyph_addPoint_51 : decode prog_4_method_2_code 51 = .ok (.ireturn, 1) := by decide +kernel
theorem b_Glyph_movePoint_0 : tf_dec prog_4_method_3_code 0 [(.aload_n 0, 1)] = true := by decide +kernel
theorem d_Glyph_movePoint_1 : decode prog_4_method_3_code 1 = .ok (.getfield 29, 3) := by decide +kernel
theorem b_Glyph_movePoint_4 : tf_dec prog_4_method_3_code 4 [(.iload_n 1, 1), (.aload_n 0, 1)] = true := by decide +kernel
theorem d_Glyph_movePoint_6 : decode prog_4_method_3_code 6 = .ok (.getfield 25, 3) := by decide +kernel
theorem b_Glyph_movePoint_9 : tf_dec prog_4_method_3_code 9 [(.imul, 1), (.iload_n 2, 1), (.iadd, 1), (.iload_n 3, 1)] = true := by decide +kernel
theorem d_Glyph_movePoint_13 : decode prog_4_method_3_code 13 = .ok (.iastore, 1) := by decide +kernel
theorem b_Glyph_movePoint_14 : tf_dec prog_4_method_3_code 14 [(.aload_n 0, 1)] = true := by decide +kernel
theorem d_Glyph_movePoint_15 : decode prog_4_method_3_code 15 = .ok (.getfield 32, 3) := by decide +kernel
theorem b_Glyph_movePoint_18 : tf_dec prog_4_method_3_code 18 [(.iload_n 1, 1), (.aload_n 0, 1)] = true := by decide +kernel
theorem d_Glyph_movePoint_20 : decode prog_4_method_3_code 20 = .ok (.getfield 25, 3) := by decide +kernel
theorem b_Glyph_movePoint_23 : tf_dec prog_4_method_3_code 23 [(.imul, 1), (.iload_n 2, 1), (.iadd, 1), (.iload 4, 2)] = true := by decide +kernel
theorem d_Glyph_movePoint_28 : decode prog_4_method_3_code 28 = .ok (.iastore, 1) := by decide +kernel
theorem d_Glyph_movePoint_29 : decode prog_4_method_3_code 29 = .ok (.return_, 1) := by decide +kernel
theorem b_Glyph_endContour_0 : tf_dec prog_4_method_4_code 0 [(.aload_n 0, 1)] = true := by decide +kernel
theorem d_Glyph_endContour_1 : decode prog_4_method_4_code 1 = .ok (.getfield 45, 3) := by decide +kernel
theorem d_Glyph_endContour_4 : decode prog_4_method_4_code 4 = .ok (.ifCond .ne 16, 3) := by decide +kernel
theorem b_Glyph_endContour_7 : tf_dec prog_4_method_4_code 7 [(.aload_n 0, 1)] = true := by decide +kernel
theorem d_Glyph_endContour_8 : decode prog_4_method_4_code 8 = .ok (.getfield 38, 3) := by decide +kernel
theorem b_Glyph_endContour_11 : tf_dec prog_4_method_4_code 11 [(.aload_n 0, 1)] = true := by decide +kernel
theorem d_Glyph_endContour_12 : decode prog_4_method_4_code 12 = .ok (.getfield 49, 3) := by decide +kernel
theorem b_Glyph_endContour_15 : tf_dec prog_4_method_4_code 15 [(.isub, 1), (.iconst 3, 1)] = true := by decide +kernel
theorem d_Glyph_endContour_17 : decode prog_4_method_4_code 17 = .ok (.if_icmp .ge 5, 3) := by decide +kernel
theorem b_Glyph_endContour_20 : tf_dec prog_4_method_4_code 20 [(.iconst 0, 1)] = true := by decide +kernel
theorem d_Glyph_endContour_21 : decode prog_4_method_4_code 21 = .ok (.ireturn, 1) := by decide +kernel
theorem b_Glyph_endContour_22 : tf_dec prog_4_method_4_code 22 [(.aload_n 0, 1)] = true := by decide +kernel
theorem d_Glyph_endContour_23 : decode prog_4_method_4_code 23 = .ok (.getfield 15, 3) := by decide +kernel
theorem b_Glyph_endContour_26 : tf_dec prog_4_method_4_code 26 [(.aload_n 0, 1)] = true := by decide +kernel
theorem d_Glyph_endContour_27 : decode prog_4_method_4_code 27 = .ok (.getfield 52, 3) := by decide +kernel
theorem b_Glyph_endContour_30 : tf_dec prog_4_method_4_code 30 [(.aload_n 0, 1)] = true := by decide +kernel
theorem d_Glyph_endContour_31 : decode prog_4_method_4_code 31 = .ok (.getfield 38, 3) := by decide +kernel
theorem d_Glyph_endContour_34 : decode prog_4_method_4_code 34 = .ok (.iastore, 1) := by decide +kernel
theorem b_Glyph_endContour_35 : tf_dec prog_4_method_4_code 35 [(.aload_n 0, 1), (.dup, 1)] = true := by decide +kernel
theorem d_Glyph_endContour_37 : decode prog_4_method_4_code 37 = .ok (.getfield 52, 3) := by decide +kernel
theorem b_Glyph_endContour_40 : tf_dec prog_4_method_4_code 40 [(.iconst 1, 1), (.iadd, 1)] = true := by decide +kernel
theorem d_Glyph_endContour_42 : decode prog_4_method_4_code 42 = .ok (.putfield 52, 3) := by decide +kernel
theorem b_Glyph_endContour_45 : tf_dec prog_4_method_4_code 45 [(.aload_n 0, 1), (.aload_n 0, 1)] = true := by decide +kernel
theorem d_Glyph_endContour_47 : decode prog_4_method_4_code 47 = .ok (.getfield 38, 3) := by decide +kernel
theorem d_Glyph_endContour_50 : decode prog_4_method_4_code 50 = .ok (.putfield 49, 3) := by decide +kernel
theorem b_Glyph_endContour_53 : tf_dec prog_4_method_4_code 53 [(.iconst 1, 1)] = true := by decide +kernel
theorem d_Glyph_endContour_54 : decode prog_4_method_4_code 54 = .ok (.ireturn, 1) := by decide +kernel
theorem b_Glyph_hasRoomFor_0 : tf_dec prog_4_method_5_code 0 [(.aload_n 0, 1)] = true := by decide +kernel
theorem d_Glyph_hasRoomFor_1 : decode prog_4_method_5_code 1 = .ok (.getfield 45, 3) := by decide +kernel
theorem d_Glyph_hasRoomFor_4 : decode prog_4_method_5_code 4 = .ok (.ifCond .ne 37, 3) := by decide +kernel
theorem b_Glyph_hasRoomFor_7 : tf_dec prog_4_method_5_code 7 [(.aload_n 0, 1)] = true := by decide +kernel
theorem d_Glyph_hasRoomFor_8 : decode prog_4_method_5_code 8 = .ok (.getfield 55, 3) := by decide +kernel
theorem b_Glyph_hasRoomFor_11 : tf_dec prog_4_method_5_code 11 [(.iconst 4, 1)] = true := by decide +kernel
theorem d_Glyph_hasRoomFor_12 : decode prog_4_method_5_code 12 = .ok (.if_icmp .ge 29, 3) := by decide +kernel
theorem b_Glyph_hasRoomFor_15 : tf_dec prog_4_method_5_code 15 [(.aload_n 1, 1)] = true := by decide +kernel
theorem d_Glyph_hasRoomFor_16 : decode prog_4_method_5_code 16 = .ok (.getfield 58, 3) := by decide +kernel
theorem b_Glyph_hasRoomFor_19 : tf_dec prog_4_method_5_code 19 [(.iconst 4, 1)] = true := by decide +kernel
theorem d_Glyph_hasRoomFor_20 : decode prog_4_method_5_code 20 = .ok (.if_icmp .ge 21, 3) := by decide +kernel
theorem b_Glyph_hasRoomFor_23 : tf_dec prog_4_method_5_code 23 [(.aload_n 0, 1)] = true := by decide +kernel
theorem d_Glyph_hasRoomFor_24 : decode prog_4_method_5_code 24 = .ok (.getfield 61, 3) := by decide +kernel
theorem b_Glyph_hasRoomFor_27 : tf_dec prog_4_method_5_code 27 [(.aload_n 1, 1)] = true := by decide +kernel
theorem d_Glyph_hasRoomFor_28 : decode prog_4_method_5_code 28 = .ok (.invokevirtual 64, 3) := by decide +kernel
theorem b_Glyph_hasRoomFor_31 : tf_dec prog_4_method_5_code 31 [(.iadd, 1), (.bipush 120, 2)] = true := by decide +kernel
theorem d_Glyph_hasRoomFor_34 : decode prog_4_method_5_code 34 = .ok (.if_icmp .gt 7, 3) := by decide +kernel
theorem b_Glyph_hasRoomFor_37 : tf_dec prog_4_method_5_code 37 [(.iconst 1, 1)] = true := by decide +kernel
theorem d_Glyph_hasRoomFor_38 : decode prog_4_method_5_code 38 = .ok (.goto 4, 3) := by decide +kernel
theorem b_Glyph_hasRoomFor_41 : tf_dec prog_4_method_5_code 41 [(.iconst 0, 1)] = true := by decide +kernel
theorem d_Glyph_hasRoomFor_42 : decode prog_4_method_5_code 42 = .ok (.ireturn, 1) := by decide +kernel
theorem b_Glyph_addPart_0 : tf_dec prog_4_method_6_code 0 [(.aload_n 1, 1)] = true := by decide +kernel
theorem d_Glyph_addPart_1 : decode prog_4_method_6_code 1 = .ok (.getfield 68, 3) := by decide +kernel
theorem b_Glyph_addPart_4 : tf_dec prog_4_method_6_code 4 [(.astore_n 2, 1), (.aload_n 0, 1)] = true := by decide +kernel
theorem d_Glyph_addPart_6 : decode prog_4_method_6_code 6 = .ok (.getfield 21, 3) := by decide +kernel
theorem b_Glyph_addPart_9 : tf_dec prog_4_method_6_code 9 [(.aload_n 0, 1)] = true := by decide +kernel
theorem d_Glyph_addPart_10 : decode prog_4_method_6_code 10 = .ok (.getfield 55, 3) := by decide +kernel
theorem b_Glyph_addPart_13 : tf_dec prog_4_method_6_code 13 [(.aload_n 1, 1)] = true := by decide +kernel
theorem d_Glyph_addPart_14 : decode prog_4_method_6_code 14 = .ok (.aastore, 1) := by decide +kernel
theorem b_Glyph_addPart_15 : tf_dec prog_4_method_6_code 15 [(.aload_n 0, 1), (.dup, 1)] = true := by decide +kernel
theorem d_Glyph_addPart_17 : decode prog_4_method_6_code 17 = .ok (.getfield 55, 3) := by decide +kernel
theorem b_Glyph_addPart_20 : tf_dec prog_4_method_6_code 20 [(.iconst 1, 1), (.iadd, 1)] = true := by decide +kernel
theorem d_Glyph_addPart_22 : decode prog_4_method_6_code 22 = .ok (.putfield 55, 3) := by decide +kernel
theorem b_Glyph_addPart_25 : tf_dec prog_4_method_6_code 25 [(.aload_n 0, 1), (.dup, 1)] = true := by decide +kernel
theorem d_Glyph_addPart_27 : decode prog_4_method_6_code 27 = .ok (.getfield 61, 3) := by decide +kernel
theorem b_Glyph_addPart_30 : tf_dec prog_4_method_6_code 30 [(.aload_n 2, 1)] = true := by decide +kernel
theorem d_Glyph_addPart_31 : decode prog_4_method_6_code 31 = .ok (.invokevirtual 64, 3) := by decide +kernel
theorem b_Glyph_addPart_34 : tf_dec prog_4_method_6_code 34 [(.iadd, 1)] = true := by decide +kernel
theorem d_Glyph_addPart_35 : decode prog_4_method_6_code 35 = .ok (.putfield 61, 3) := by decide +kernel
theorem b_Glyph_addPart_38 : tf_dec prog_4_method_6_code 38 [(.aload_n 0, 1), (.dup, 1)] = true := by decide +kernel
theorem d_Glyph_addPart_40 : decode prog_4_method_6_code 40 = .ok (.getfield 72, 3) := by decide +kernel
theorem b_Glyph_addPart_43 : tf_dec prog_4_method_6_code 43 [(.aload_n 2, 1)] = true := by decide +kernel
theorem d_Glyph_addPart_44 : decode prog_4_method_6_code 44 = .ok (.invokevirtual 75, 3) := by decide +kernel
theorem b_Glyph_addPart_47 : tf_dec prog_4_method_6_code 47 [(.iadd, 1)] = true := by decide +kernel
theorem d_Glyph_addPart_48 : decode prog_4_method_6_code 48 = .ok (.putfield 72, 3) := by decide +kernel
theorem b_Glyph_addPart_51 : tf_dec prog_4_method_6_code 51 [(.aload_n 0, 1), (.aload_n 0, 1)] = true := by decide +kernel
theorem d_Glyph_addPart_53 : decode prog_4_method_6_code 53 = .ok (.getfield 58, 3) := by decide +kernel
theorem b_Glyph_addPart_56 : tf_dec prog_4_method_6_code 56 [(.aload_n 2, 1)] = true := by decide +kernel
theorem d_Glyph_addPart_57 : decode prog_4_method_6_code 57 = .ok (.getfield 58, 3) := by decide +kernel
theorem b_Glyph_addPart_60 : tf_dec prog_4_method_6_code 60 [(.iconst 1, 1), (.iadd, 1)] = true := by decide +kernel
theorem d_Glyph_addPart_62 : decode prog_4_method_6_code 62 = .ok (.invokestatic 78, 3) := by decide +kernel
theorem d_Glyph_addPart_65 : decode prog_4_method_6_code 65 = .ok (.putfield 58, 3) := by decide +kernel
theorem b_Glyph_addPart_68 : tf_dec prog_4_method_6_code 68 [(.aload_n 2, 1), (.iconst 1, 1)] = true := by decide +kernel
theorem d_Glyph_addPart_70 : decode prog_4_method_6_code 70 = .ok (.putfield 45, 3) := by decide +kernel
theorem d_Glyph_addPart_73 : decode prog_4_method_6_code 73 = .ok (.return_, 1) := by decide +kernel
theorem b_Glyph_outlinePoints_0 : tf_dec prog_4_method_7_code 0 [(.aload_n 0, 1)] = true := by decide +kernel
theorem d_Glyph_outlinePoints_1 : decode prog_4_method_7_code 1 = .ok (.getfield 49, 3) := by decide +kernel
theorem b_Glyph_outlinePoints_4 : tf_dec prog_4_method_7_code 4 [(.aload_n 0, 1)] = true := by decide +kernel
theorem d_Glyph_outlinePoints_5 : decode prog_4_method_7_code 5 = .ok (.getfield 61, 3) := by decide +kernel
theorem b_Glyph_outlinePoints_8 : tf_dec prog_4_method_7_code 8 [(.iadd, 1)] = true := by decide +kernel
theorem d_Glyph_outlinePoints_9 : decode prog_4_method_7_code 9 = .ok (.ireturn, 1) := by decide +kernel
theorem b_Glyph_outlineContours_0 : tf_dec prog_4_method_8_code 0 [(.aload_n 0, 1)] = true := by decide +kernel
theorem d_Glyph_outlineContours_1 : decode prog_4_method_8_code 1 = .ok (.getfield 52, 3) := by decide +kernel
theorem b_Glyph_outlineContours_4 : tf_dec prog_4_method_8_code 4 [(.aload_n 0, 1)] = true := by decide +kernel
theorem d_Glyph_outlineContours_5 : decode prog_4_method_8_code 5 = .ok (.getfield 72, 3) := by decide +kernel
theorem b_Glyph_outlineContours_8 : tf_dec prog_4_method_8_code 8 [(.iadd, 1)] = true := by decide +kernel
theorem d_Glyph_outlineContours_9 : decode prog_4_method_8_code 9 = .ok (.ireturn, 1) := by decide +kernel
theorem b_Heights_init_0 : tf_dec prog_5_method_1_code 0 [(.aload_n 0, 1)] = true := by decide +kernel
theorem d_Heights_init_1 : decode prog_5_method_1_code 1 = .ok (.invokespecial 3, 3) := by decide +kernel
theorem b_Heights_init_4 : tf_dec prog_5_method_1_code 4 [(.aload_n 0, 1), (.bipush 8, 2)] = true := by decide +kernel
theorem d_Heights_init_7 : decode prog_5_method_1_code 7 = .ok (.newarray .int, 2) := by decide +kernel
theorem d_Heights_init_9 : decode prog_5_method_1_code 9 = .ok (.putfield 9, 3) := by decide +kernel
theorem d_Heights_init_12 : decode prog_5_method_1_code 12 = .ok (.return_, 1) := by decide +kernel
theorem b_Heights_add_0 : tf_dec prog_5_method_2_code 0 [(.iconst 0, 1), (.istore_n 2, 1)] = true := by decide +kernel
theorem b_Heights_add_2 : tf_dec prog_5_method_2_code 2 [(.iload_n 2, 1), (.aload_n 0, 1)] = true := by decide +kernel
theorem d_Heights_add_4 : decode prog_5_method_2_code 4 = .ok (.getfield 15, 3) := by decide +kernel
theorem d_Heights_add_7 : decode prog_5_method_2_code 7 = .ok (.if_icmp .ge 19, 3) := by decide +kernel
theorem b_Heights_add_10 : tf_dec prog_5_method_2_code 10 [(.aload_n 0, 1)] = true := by decide +kernel
theorem d_Heights_add_11 : decode prog_5_method_2_code 11 = .ok (.getfield 9, 3) := by decide +kernel
theorem b_Heights_add_14 : tf_dec prog_5_method_2_code 14 [(.iload_n 2, 1)] = true := by decide +kernel
theorem d_Heights_add_15 : decode prog_5_method_2_code 15 = .ok (.iaload, 1) := by decide +kernel
theorem b_Heights_add_16 : tf_dec prog_5_method_2_code 16 [(.iload_n 1, 1)] = true := by decide +kernel
theorem d_Heights_add_17 : decode prog_5_method_2_code 17 = .ok (.if_icmp .ge 9, 3) := by decide +kernel
theorem b_Heights_add_20 : tf_dec prog_5_method_2_code 20 [(.iinc 2 1, 3)] = true := by decide +kernel
theorem d_Heights_add_23 : decode prog_5_method_2_code 23 = .ok (.goto (-21), 3) := by decide +kernel
theorem b_Heights_add_26 : tf_dec prog_5_method_2_code 26 [(.aload_n 0, 1)] = true := by decide +kernel
theorem d_Heights_add_27 : decode prog_5_method_2_code 27 = .ok (.getfield 15, 3) := by decide +kernel
theorem b_Heights_add_30 : tf_dec prog_5_method_2_code 30 [(.bipush 8, 2)] = true := by decide +kernel
theorem d_Heights_add_32 : decode prog_5_method_2_code 32 = .ok (.if_icmp .ge 21, 3) := by decide +kernel
theorem b_Heights_add_35 : tf_dec prog_5_method_2_code 35 [(.iload_n 2, 1), (.aload_n 0, 1)] = true := by decide +kernel
theorem d_Heights_add_37 : decode prog_5_method_2_code 37 = .ok (.getfield 15, 3) := by decide +kernel
theorem d_Heights_add_40 : decode prog_5_method_2_code 40 = .ok (.if_icmp .ge 15, 3) := by decide +kernel
theorem b_Heights_add_43 : tf_dec prog_5_method_2_code 43 [(.aload_n 0, 1)] = true := by decide +kernel
theorem d_Heights_add_44 : decode prog_5_method_2_code 44 = .ok (.getfield 9, 3) := by decide +kernel
theorem b_Heights_add_47 : tf_dec prog_5_method_2_code 47 [(.iload_n 2, 1)] = true := by decide +kernel
theorem d_Heights_add_48 : decode prog_5_method_2_code 48 = .ok (.iaload, 1) := by decide +kernel
theorem b_Heights_add_49 : tf_dec prog_5_method_2_code 49 [(.iload_n 1, 1)] = true := by decide +kernel
theorem d_Heights_add_50 : decode prog_5_method_2_code 50 = .ok (.if_icmp .ne 5, 3) := by decide +kernel
theorem b_Heights_add_53 : tf_dec prog_5_method_2_code 53 [(.iconst 0, 1)] = true := by decide +kernel
theorem d_Heights_add_54 : decode prog_5_method_2_code 54 = .ok (.ireturn, 1) := by decide +kernel
theorem b_Heights_add_55 : tf_dec prog_5_method_2_code 55 [(.aload_n 0, 1)] = true := by decide +kernel
theorem d_Heights_add_56 : decode prog_5_method_2_code 56 = .ok (.getfield 15, 3) := by decide +kernel
theorem b_Heights_add_59 : tf_dec prog_5_method_2_code 59 [(.istore_n 3, 1)] = true := by decide +kernel
theorem b_Heights_add_60 : tf_dec prog_5_method_2_code 60 [(.iload_n 3, 1), (.iload_n 2, 1)] = true := by decide +kernel
theorem d_Heights_add_62 : decode prog_5_method_2_code 62 = .ok (.if_icmp .le 23, 3) := by decide +kernel
theorem b_Heights_add_65 : tf_dec prog_5_method_2_code 65 [(.aload_n 0, 1)] = true := by decide +kernel
theorem d_Heights_add_66 : decode prog_5_method_2_code 66 = .ok (.getfield 9, 3) := by decide +kernel
theorem b_Heights_add_69 : tf_dec prog_5_method_2_code 69 [(.iload_n 3, 1), (.aload_n 0, 1)] = true := by decide +kernel
theorem d_Heights_add_71 : decode prog_5_method_2_code 71 = .ok (.getfield 9, 3) := by decide +kernel
theorem b_Heights_add_74 : tf_dec prog_5_method_2_code 74 [(.iload_n 3, 1), (.iconst 1, 1), (.isub, 1)] = true := by decide +kernel
theorem d_Heights_add_77 : decode prog_5_method_2_code 77 = .ok (.iaload, 1) := by decide +kernel
theorem d_Heights_add_78 : decode prog_5_method_2_code 78 = .ok (.iastore, 1) := by decide +kernel
theorem b_Heights_add_79 : tf_dec prog_5_method_2_code 79 [(.iinc 3 (-1), 3)] = true := by decide +kernel
theorem d_Heights_add_82 : decode prog_5_method_2_code 82 = .ok (.goto (-22), 3) := by decide +kernel
theorem b_Heights_add_85 : tf_dec prog_5_method_2_code 85 [(.aload_n 0, 1)] = true := by decide +kernel
theorem d_Heights_add_86 : decode prog_5_method_2_code 86 = .ok (.getfield 9, 3) := by decide +kernel
theorem b_Heights_add_89 : tf_dec prog_5_method_2_code 89 [(.iload_n 2, 1), (.iload_n 1, 1)] = true := by decide +kernel
theorem d_Heights_add_91 : decode prog_5_method_2_code 91 = .ok (.iastore, 1) := by decide +kernel
theorem b_Heights_add_92 : tf_dec prog_5_method_2_code 92 [(.aload_n 0, 1), (.dup, 1)] = true := by decide +kernel
theorem d_Heights_add_94 : decode prog_5_method_2_code 94 = .ok (.getfield 15, 3) := by decide +kernel
theorem b_Heights_add_97 : tf_dec prog_5_method_2_code 97 [(.iconst 1, 1), (.iadd, 1)] = true := by decide +kernel
theorem d_Heights_add_99 : decode prog_5_method_2_code 99 = .ok (.putfield 15, 3) := by decide +kernel
theorem b_Heights_add_102 : tf_dec prog_5_method_2_code 102 [(.iconst 1, 1)] = true := by decide +kernel
theorem d_Heights_add_103 : decode prog_5_method_2_code 103 = .ok (.ireturn, 1) := by decide +kernel
theorem b_Heights_fitted_0 : tf_dec prog_5_method_3_code 0 [(.aload_n 0, 1)] = true := by decide +kernel
theorem d_Heights_fitted_1 : decode prog_5_method_3_code 1 = .ok (.getfield 15, 3) := by decide +kernel
theorem d_Heights_fitted_4 : decode prog_5_method_3_code 4 = .ok (.ifCond .ne 5, 3) := by decide +kernel
theorem b_Heights_fitted_7 : tf_dec prog_5_method_3_code 7 [(.iload_n 1, 1)] = true := by decide +kernel
theorem d_Heights_fitted_8 : decode prog_5_method_3_code 8 = .ok (.ireturn, 1) := by decide +kernel
theorem b_Heights_fitted_9 : tf_dec prog_5_method_3_code 9 [(.iload_n 1, 1), (.aload_n 0, 1)] = true := by decide +kernel
theorem d_Heights_fitted_11 : decode prog_5_method_3_code 11 = .ok (.getfield 9, 3) := by decide +kernel
theorem b_Heights_fitted_14 : tf_dec prog_5_method_3_code 14 [(.iconst 0, 1)] = true := by decide +kernel
theorem d_Heights_fitted_15 : decode prog_5_method_3_code 15 = .ok (.iaload, 1) := by decide +kernel
theorem d_Heights_fitted_16 : decode prog_5_method_3_code 16 = .ok (.if_icmp .gt 23, 3) := by decide +kernel
theorem b_Heights_fitted_19 : tf_dec prog_5_method_3_code 19 [(.iload_n 1, 1), (.aload_n 0, 1)] = true := by decide +kernel
theorem d_Heights_fitted_21 : decode prog_5_method_3_code 21 = .ok (.getfield 9, 3) := by decide +kernel
theorem b_Heights_fitted_24 : tf_dec prog_5_method_3_code 24 [(.iconst 0, 1)] = true := by decide +kernel
theorem d_Heights_fitted_25 : decode prog_5_method_3_code 25 = .ok (.iaload, 1) := by decide +kernel
theorem b_Heights_fitted_26 : tf_dec prog_5_method_3_code 26 [(.isub, 1), (.aload_n 0, 1)] = true := by decide +kernel
theorem d_Heights_fitted_28 : decode prog_5_method_3_code 28 = .ok (.getfield 9, 3) := by decide +kernel
theorem b_Heights_fitted_31 : tf_dec prog_5_method_3_code 31 [(.iconst 0, 1)] = true := by decide +kernel
theorem d_Heights_fitted_32 : decode prog_5_method_3_code 32 = .ok (.iaload, 1) := by decide +kernel
theorem b_Heights_fitted_33 : tf_dec prog_5_method_3_code 33 [(.iload_n 2, 1)] = true := by decide +kernel
theorem d_Heights_fitted_34 : decode prog_5_method_3_code 34 = .ok (.invokestatic 19, 3) := by decide +kernel
theorem b_Heights_fitted_37 : tf_dec prog_5_method_3_code 37 [(.iadd, 1)] = true := by decide +kernel
theorem d_Heights_fitted_38 : decode prog_5_method_3_code 38 = .ok (.ireturn, 1) := by decide +kernel
theorem b_Heights_fitted_39 : tf_dec prog_5_method_3_code 39 [(.iconst 1, 1), (.istore_n 3, 1)] = true := by decide +kernel
theorem b_Heights_fitted_41 : tf_dec prog_5_method_3_code 41 [(.iload_n 3, 1), (.aload_n 0, 1)] = true := by decide +kernel
theorem d_Heights_fitted_43 : decode prog_5_method_3_code 43 = .ok (.getfield 15, 3) := by decide +kernel
theorem d_Heights_fitted_46 : decode prog_5_method_3_code 46 = .ok (.if_icmp .ge 39, 3) := by decide +kernel
theorem b_Heights_fitted_49 : tf_dec prog_5_method_3_code 49 [(.iload_n 1, 1), (.aload_n 0, 1)] = true := by decide +kernel
theorem d_Heights_fitted_51 : decode prog_5_method_3_code 51 = .ok (.getfield 9, 3) := by decide +kernel
theorem b_Heights_fitted_54 : tf_dec prog_5_method_3_code 54 [(.iload_n 3, 1)] = true := by decide +kernel
theorem d_Heights_fitted_55 : decode prog_5_method_3_code 55 = .ok (.iaload, 1) := by decide +kernel
theorem d_Heights_fitted_56 : decode prog_5_method_3_code 56 = .ok (.if_icmp .ge 23, 3) := by decide +kernel
theorem b_Heights_fitted_59 : tf_dec prog_5_method_3_code 59 [(.aload_n 0, 1)] = true := by decide +kernel
theorem d_Heights_fitted_60 : decode prog_5_method_3_code 60 = .ok (.getfield 9, 3) := by decide +kernel
theorem b_Heights_fitted_63 : tf_dec prog_5_method_3_code 63 [(.iload_n 3, 1), (.iconst 1, 1), (.isub, 1)] = true := by decide +kernel
theorem d_Heights_fitted_66 : decode prog_5_method_3_code 66 = .ok (.iaload, 1) := by decide +kernel
theorem b_Heights_fitted_67 : tf_dec prog_5_method_3_code 67 [(.aload_n 0, 1)] = true := by decide +kernel
theorem d_Heights_fitted_68 : decode prog_5_method_3_code 68 = .ok (.getfield 9, 3) := by decide +kernel
theorem b_Heights_fitted_71 : tf_dec prog_5_method_3_code 71 [(.iload_n 3, 1)] = true := by decide +kernel
theorem d_Heights_fitted_72 : decode prog_5_method_3_code 72 = .ok (.iaload, 1) := by decide +kernel
theorem b_Heights_fitted_73 : tf_dec prog_5_method_3_code 73 [(.iload_n 1, 1), (.iload_n 2, 1)] = true := by decide +kernel
theorem d_Heights_fitted_75 : decode prog_5_method_3_code 75 = .ok (.invokestatic 23, 3) := by decide +kernel
theorem d_Heights_fitted_78 : decode prog_5_method_3_code 78 = .ok (.ireturn, 1) := by decide +kernel
theorem b_Heights_fitted_79 : tf_dec prog_5_method_3_code 79 [(.iinc 3 1, 3)] = true := by decide +kernel
theorem d_Heights_fitted_82 : decode prog_5_method_3_code 82 = .ok (.goto (-41), 3) := by decide +kernel
theorem b_Heights_fitted_85 : tf_dec prog_5_method_3_code 85 [(.iload_n 1, 1), (.aload_n 0, 1)] = true := by decide +kernel
theorem d_Heights_fitted_87 : decode prog_5_method_3_code 87 = .ok (.getfield 9, 3) := by decide +kernel
theorem b_Heights_fitted_90 : tf_dec prog_5_method_3_code 90 [(.aload_n 0, 1)] = true := by decide +kernel
theorem d_Heights_fitted_91 : decode prog_5_method_3_code 91 = .ok (.getfield 15, 3) := by decide +kernel
theorem b_Heights_fitted_94 : tf_dec prog_5_method_3_code 94 [(.iconst 1, 1), (.isub, 1)] = true := by decide +kernel
theorem d_Heights_fitted_96 : decode prog_5_method_3_code 96 = .ok (.iaload, 1) := by decide +kernel
theorem b_Heights_fitted_97 : tf_dec prog_5_method_3_code 97 [(.isub, 1), (.aload_n 0, 1)] = true := by decide +kernel
theorem d_Heights_fitted_99 : decode prog_5_method_3_code 99 = .ok (.getfield 9, 3) := by decide +kernel
theorem b_Heights_fitted_102 : tf_dec prog_5_method_3_code 102 [(.aload_n 0, 1)] = true := by decide +kernel
theorem d_Heights_fitted_103 : decode prog_5_method_3_code 103 = .ok (.getfield 15, 3) := by decide +kernel
theorem b_Heights_fitted_106 : tf_dec prog_5_method_3_code 106 [(.iconst 1, 1), (.isub, 1)] = true := by decide +kernel
theorem d_Heights_fitted_108 : decode prog_5_method_3_code 108 = .ok (.iaload, 1) := by decide +kernel
theorem b_Heights_fitted_109 : tf_dec prog_5_method_3_code 109 [(.iload_n 2, 1)] = true := by decide +kernel
theorem d_Heights_fitted_110 : decode prog_5_method_3_code 110 = .ok (.invokestatic 19, 3) := by decide +kernel
theorem b_Heights_fitted_113 : tf_dec prog_5_method_3_code 113 [(.iadd, 1)] = true := by decide +kernel
theorem d_Heights_fitted_114 : decode prog_5_method_3_code 114 = .ok (.ireturn, 1) := by decide +kernel
theorem b_Heights_between_0 : tf_dec prog_5_method_4_code 0 [(.iload_n 0, 1), (.iload_n 3, 1)] = true := by decide +kernel
theorem d_Heights_between_2 : decode prog_5_method_4_code 2 = .ok (.invokestatic 19, 3) := by decide +kernel
theorem b_Heights_between_5 : tf_dec prog_5_method_4_code 5 [(.istore 4, 2), (.iload 4, 2), (.iload_n 2, 1), (.iload_n 0, 1), (.isub, 1), (.iload_n 1, 1), (.iload_n 3, 1)] = true := by decide +kernel
theorem d_Heights_between_14 : decode prog_5_method_4_code 14 = .ok (.invokestatic 19, 3) := by decide +kernel
theorem b_Heights_between_17 : tf_dec prog_5_method_4_code 17 [(.iload 4, 2), (.isub, 1), (.imul, 1), (.i2l, 1), (.iload_n 1, 1), (.iload_n 0, 1), (.isub, 1), (.i2l, 1)] = true := by decide +kernel
theorem d_Heights_between_26 : decode prog_5_method_4_code 26 = .ok (.invokestatic 27, 3) := by decide +kernel
theorem b_Heights_between_29 : tf_dec prog_5_method_4_code 29 [(.iadd, 1)] = true := by decide +kernel
theorem d_Heights_between_30 : decode prog_5_method_4_code 30 = .ok (.ireturn, 1) := by decide +kernel
theorem b_Heights_goal_0 : tf_dec prog_5_method_5_code 0 [(.iload_n 1, 1), (.iload_n 0, 1), (.i2l, 1), (.iload_n 1, 1), (.i2l, 1)] = true := by decide +kernel
theorem d_Heights_goal_5 : decode prog_5_method_5_code 5 = .ok (.invokestatic 27, 3) := by decide +kernel
theorem b_Heights_goal_8 : tf_dec prog_5_method_5_code 8 [(.imul, 1)] = true := by decide +kernel
theorem d_Heights_goal_9 : decode prog_5_method_5_code 9 = .ok (.ireturn, 1) := by decide +kernel
theorem b_Kerning_init_0 : tf_dec prog_6_method_1_code 0 [(.aload_n 0, 1)] = true := by decide +kernel
theorem d_Kerning_init_1 : decode prog_6_method_1_code 1 = .ok (.invokespecial 3, 3) := by decide +kernel
theorem b_Kerning_init_4 : tf_dec prog_6_method_1_code 4 [(.aload_n 0, 1), (.bipush 40, 2)] = true := by decide +kernel
theorem d_Kerning_init_7 : decode prog_6_method_1_code 7 = .ok (.newarray .int, 2) := by decide +kernel
theorem d_Kerning_init_9 : decode prog_6_method_1_code 9 = .ok (.putfield 9, 3) := by decide +kernel
theorem b_Kerning_init_12 : tf_dec prog_6_method_1_code 12 [(.aload_n 0, 1), (.bipush 40, 2)] = true := by decide +kernel
theorem d_Kerning_init_15 : decode prog_6_method_1_code 15 = .ok (.newarray .int, 2) := by decide +kernel
theorem d_Kerning_init_17 : decode prog_6_method_1_code 17 = .ok (.putfield 15, 3) := by decide +kernel
theorem b_Kerning_init_20 : tf_dec prog_6_method_1_code 20 [(.aload_n 0, 1), (.sipush 256, 3)] = true := by decide +kernel
theorem d_Kerning_init_24 : decode prog_6_method_1_code 24 = .ok (.newarray .int, 2) := by decide +kernel
theorem d_Kerning_init_26 : decode prog_6_method_1_code 26 = .ok (.putfield 18, 3) := by decide +kernel
theorem b_Kerning_init_29 : tf_dec prog_6_method_1_code 29 [(.aload_n 0, 1), (.bipush 40, 2)] = true := by decide +kernel
theorem d_Kerning_init_32 : decode prog_6_method_1_code 32 = .ok (.newarray .int, 2) := by decide +kernel
theorem d_Kerning_init_34 : decode prog_6_method_1_code 34 = .ok (.putfield 21, 3) := by decide +kernel
theorem b_Kerning_init_37 : tf_dec prog_6_method_1_code 37 [(.aload_n 0, 1), (.bipush 40, 2)] = true := by decide +kernel
theorem d_Kerning_init_40 : decode prog_6_method_1_code 40 = .ok (.newarray .int, 2) := by decide +kernel
theorem d_Kerning_init_42 : decode prog_6_method_1_code 42 = .ok (.putfield 24, 3) := by decide +kernel
theorem b_Kerning_init_45 : tf_dec prog_6_method_1_code 45 [(.aload_n 0, 1), (.bipush 40, 2)] = true := by decide +kernel
theorem d_Kerning_init_48 : decode prog_6_method_1_code 48 = .ok (.newarray .int, 2) := by decide +kernel
theorem d_Kerning_init_50 : decode prog_6_method_1_code 50 = .ok (.putfield 27, 3) := by decide +kernel
theorem d_Kerning_init_53 : decode prog_6_method_1_code 53 = .ok (.return_, 1) := by decide +kernel
theorem b_Kerning_setClass_0 : tf_dec prog_6_method_2_code 0 [(.iload_n 1, 1)] = true := by decide +kernel
theorem d_Kerning_setClass_1 : decode prog_6_method_2_code 1 = .ok (.ifCond .ne 13, 3) := by decide +kernel
theorem b_Kerning_setClass_4 : tf_dec prog_6_method_2_code 4 [(.aload_n 0, 1)] = true := by decide +kernel
theorem d_Kerning_setClass_5 : decode prog_6_method_2_code 5 = .ok (.getfield 9, 3) := by decide +kernel
theorem b_Kerning_setClass_8 : tf_dec prog_6_method_2_code 8 [(.iload_n 2, 1), (.iload_n 3, 1)] = true := by decide +kernel
theorem d_Kerning_setClass_10 : decode prog_6_method_2_code 10 = .ok (.iastore, 1) := by decide +kernel
theorem d_Kerning_setClass_11 : decode prog_6_method_2_code 11 = .ok (.goto 10, 3) := by decide +kernel
theorem b_Kerning_setClass_14 : tf_dec prog_6_method_2_code 14 [(.aload_n 0, 1)] = true := by decide +kernel
theorem d_Kerning_setClass_15 : decode prog_6_method_2_code 15 = .ok (.getfield 15, 3) := by decide +kernel
theorem b_Kerning_setClass_18 : tf_dec prog_6_method_2_code 18 [(.iload_n 2, 1), (.iload_n 3, 1)] = true := by decide +kernel
theorem d_Kerning_setClass_20 : decode prog_6_method_2_code 20 = .ok (.iastore, 1) := by decide +kernel
theorem d_Kerning_setClass_21 : decode prog_6_method_2_code 21 = .ok (.return_, 1) := by decide +kernel
theorem b_Kerning_tellClasses_0 : tf_dec prog_6_method_3_code 0 [(.aload_n 0, 1)] = true := by decide +kernel
theorem d_Kerning_tellClasses_1 : decode prog_6_method_3_code 1 = .ok (.getfield 18, 3) := by decide +kernel
theorem b_Kerning_tellClasses_4 : tf_dec prog_6_method_3_code 4 [(.iload_n 1, 1), (.bipush 16, 2), (.imul, 1), (.iload_n 2, 1), (.iadd, 1), (.iload_n 3, 1)] = true := by decide +kernel
theorem d_Kerning_tellClasses_11 : decode prog_6_method_3_code 11 = .ok (.iastore, 1) := by decide +kernel
theorem d_Kerning_tellClasses_12 : decode prog_6_method_3_code 12 = .ok (.return_, 1) := by decide +kernel
theorem b_Kerning_tellPair_0 : tf_dec prog_6_method_4_code 0 [(.aload_n 0, 1), (.iload_n 1, 1), (.iload_n 2, 1)] = true := by decide +kernel
theorem d_Kerning_tellPair_3 : decode prog_6_method_4_code 3 = .ok (.invokevirtual 30, 3) := by decide +kernel
theorem b_Kerning_tellPair_6 : tf_dec prog_6_method_4_code 6 [(.istore 4, 2), (.iload 4, 2), (.bipush 40, 2)] = true := by decide +kernel
theorem d_Kerning_tellPair_12 : decode prog_6_method_4_code 12 = .ok (.if_icmp .lt 5, 3) := by decide +kernel
theorem b_Kerning_tellPair_15 : tf_dec prog_6_method_4_code 15 [(.iconst 0, 1)] = true := by decide +kernel
theorem d_Kerning_tellPair_16 : decode prog_6_method_4_code 16 = .ok (.ireturn, 1) := by decide +kernel
theorem b_Kerning_tellPair_17 : tf_dec prog_6_method_4_code 17 [(.aload_n 0, 1)] = true := by decide +kernel
theorem d_Kerning_tellPair_18 : decode prog_6_method_4_code 18 = .ok (.getfield 21, 3) := by decide +kernel
theorem b_Kerning_tellPair_21 : tf_dec prog_6_method_4_code 21 [(.iload 4, 2), (.iload_n 1, 1)] = true := by decide +kernel
theorem d_Kerning_tellPair_24 : decode prog_6_method_4_code 24 = .ok (.iastore, 1) := by decide +kernel
theorem b_Kerning_tellPair_25 : tf_dec prog_6_method_4_code 25 [(.aload_n 0, 1)] = true := by decide +kernel
theorem d_Kerning_tellPair_26 : decode prog_6_method_4_code 26 = .ok (.getfield 24, 3) := by decide +kernel
theorem b_Kerning_tellPair_29 : tf_dec prog_6_method_4_code 29 [(.iload 4, 2), (.iload_n 2, 1)] = true := by decide +kernel
theorem d_Kerning_tellPair_32 : decode prog_6_method_4_code 32 = .ok (.iastore, 1) := by decide +kernel
theorem b_Kerning_tellPair_33 : tf_dec prog_6_method_4_code 33 [(.aload_n 0, 1)] = true := by decide +kernel
theorem d_Kerning_tellPair_34 : decode prog_6_method_4_code 34 = .ok (.getfield 27, 3) := by decide +kernel
theorem b_Kerning_tellPair_37 : tf_dec prog_6_method_4_code 37 [(.iload 4, 2), (.iload_n 3, 1)] = true := by decide +kernel
theorem d_Kerning_tellPair_40 : decode prog_6_method_4_code 40 = .ok (.iastore, 1) := by decide +kernel
theorem b_Kerning_tellPair_41 : tf_dec prog_6_method_4_code 41 [(.aload_n 0, 1), (.aload_n 0, 1)] = true := by decide +kernel
theorem d_Kerning_tellPair_43 : decode prog_6_method_4_code 43 = .ok (.getfield 34, 3) := by decide +kernel
theorem b_Kerning_tellPair_46 : tf_dec prog_6_method_4_code 46 [(.iload 4, 2), (.iconst 1, 1), (.iadd, 1)] = true := by decide +kernel
theorem d_Kerning_tellPair_50 : decode prog_6_method_4_code 50 = .ok (.invokestatic 38, 3) := by decide +kernel
theorem d_Kerning_tellPair_53 : decode prog_6_method_4_code 53 = .ok (.putfield 34, 3) := by decide +kernel
theorem b_Kerning_tellPair_56 : tf_dec prog_6_method_4_code 56 [(.iconst 1, 1)] = true := by decide +kernel
theorem d_Kerning_tellPair_57 : decode prog_6_method_4_code 57 = .ok (.ireturn, 1) := by decide +kernel
theorem b_Kerning_of_0 : tf_dec prog_6_method_5_code 0 [(.aload_n 0, 1), (.iload_n 1, 1), (.iload_n 2, 1)] = true := by decide +kernel
theorem d_Kerning_of_3 : decode prog_6_method_5_code 3 = .ok (.invokevirtual 30, 3) := by decide +kernel
theorem b_Kerning_of_6 : tf_dec prog_6_method_5_code 6 [(.istore_n 3, 1), (.iload_n 3, 1), (.aload_n 0, 1)] = true := by decide +kernel
theorem d_Kerning_of_9 : decode prog_6_method_5_code 9 = .ok (.getfield 34, 3) := by decide +kernel
theorem d_Kerning_of_12 : decode prog_6_method_5_code 12 = .ok (.if_icmp .ge 10, 3) := by decide +kernel
theorem b_Kerning_of_15 : tf_dec prog_6_method_5_code 15 [(.aload_n 0, 1)] = true := by decide +kernel
theorem d_Kerning_of_16 : decode prog_6_method_5_code 16 = .ok (.getfield 27, 3) := by decide +kernel
theorem b_Kerning_of_19 : tf_dec prog_6_method_5_code 19 [(.iload_n 3, 1)] = true := by decide +kernel
theorem d_Kerning_of_20 : decode prog_6_method_5_code 20 = .ok (.iaload, 1) := by decide +kernel
theorem d_Kerning_of_21 : decode prog_6_method_5_code 21 = .ok (.ireturn, 1) := by decide +kernel
theorem b_Kerning_of_22 : tf_dec prog_6_method_5_code 22 [(.aload_n 0, 1)] = true := by decide +kernel
theorem d_Kerning_of_23 : decode prog_6_method_5_code 23 = .ok (.getfield 18, 3) := by decide +kernel
theorem b_Kerning_of_26 : tf_dec prog_6_method_5_code 26 [(.aload_n 0, 1)] = true := by decide +kernel
theorem d_Kerning_of_27 : decode prog_6_method_5_code 27 = .ok (.getfield 9, 3) := by decide +kernel
theorem b_Kerning_of_30 : tf_dec prog_6_method_5_code 30 [(.iload_n 1, 1)] = true := by decide +kernel
theorem d_Kerning_of_31 : decode prog_6_method_5_code 31 = .ok (.iaload, 1) := by decide +kernel
theorem b_Kerning_of_32 : tf_dec prog_6_method_5_code 32 [(.bipush 16, 2), (.imul, 1), (.aload_n 0, 1)] = true := by decide +kernel
theorem d_Kerning_of_36 : decode prog_6_method_5_code 36 = .ok (.getfield 15, 3) := by decide +kernel
theorem b_Kerning_of_39 : tf_dec prog_6_method_5_code 39 [(.iload_n 2, 1)] = true := by decide +kernel
theorem d_Kerning_of_40 : decode prog_6_method_5_code 40 = .ok (.iaload, 1) := by decide +kernel
theorem b_Kerning_of_41 : tf_dec prog_6_method_5_code 41 [(.iadd, 1)] = true := by decide +kernel
theorem d_Kerning_of_42 : decode prog_6_method_5_code 42 = .ok (.iaload, 1) := by decide +kernel
theorem d_Kerning_of_43 : decode prog_6_method_5_code 43 = .ok (.ireturn, 1) := by decide +kernel
theorem b_Kerning_pairAt_0 : tf_dec prog_6_method_6_code 0 [(.iconst 0, 1), (.istore_n 3, 1)] = true := by decide +kernel
theorem b_Kerning_pairAt_2 : tf_dec prog_6_method_6_code 2 [(.iload_n 3, 1), (.aload_n 0, 1)] = true := by decide +kernel
theorem d_Kerning_pairAt_4 : decode prog_6_method_6_code 4 = .ok (.getfield 34, 3) := by decide +kernel
theorem d_Kerning_pairAt_7 : decode prog_6_method_6_code 7 = .ok (.if_icmp .ge 29, 3) := by decide +kernel
theorem b_Kerning_pairAt_10 : tf_dec prog_6_method_6_code 10 [(.aload_n 0, 1)] = true := by decide +kernel
theorem d_Kerning_pairAt_11 : decode prog_6_method_6_code 11 = .ok (.getfield 21, 3) := by decide +kernel
theorem b_Kerning_pairAt_14 : tf_dec prog_6_method_6_code 14 [(.iload_n 3, 1)] = true := by decide +kernel
theorem d_Kerning_pairAt_15 : decode prog_6_method_6_code 15 = .ok (.iaload, 1) := by decide +kernel
theorem b_Kerning_pairAt_16 : tf_dec prog_6_method_6_code 16 [(.iload_n 1, 1)] = true := by decide +kernel
theorem d_Kerning_pairAt_17 : decode prog_6_method_6_code 17 = .ok (.if_icmp .ne 13, 3) := by decide +kernel
theorem b_Kerning_pairAt_20 : tf_dec prog_6_method_6_code 20 [(.aload_n 0, 1)] = true := by decide +kernel
theorem d_Kerning_pairAt_21 : decode prog_6_method_6_code 21 = .ok (.getfield 24, 3) := by decide +kernel
theorem b_Kerning_pairAt_24 : tf_dec prog_6_method_6_code 24 [(.iload_n 3, 1)] = true := by decide +kernel
theorem d_Kerning_pairAt_25 : decode prog_6_method_6_code 25 = .ok (.iaload, 1) := by decide +kernel
theorem b_Kerning_pairAt_26 : tf_dec prog_6_method_6_code 26 [(.iload_n 2, 1)] = true := by decide +kernel
theorem d_Kerning_pairAt_27 : decode prog_6_method_6_code 27 = .ok (.if_icmp .eq 9, 3) := by decide +kernel
theorem b_Kerning_pairAt_30 : tf_dec prog_6_method_6_code 30 [(.iinc 3 1, 3)] = true := by decide +kernel
theorem d_Kerning_pairAt_33 : decode prog_6_method_6_code 33 = .ok (.goto (-31), 3) := by decide +kernel
theorem b_Kerning_pairAt_36 : tf_dec prog_6_method_6_code 36 [(.iload_n 3, 1)] = true := by decide +kernel
theorem d_Kerning_pairAt_37 : decode prog_6_method_6_code 37 = .ok (.ireturn, 1) := by decide +kernel
theorem b_Outline_init_0 : tf_dec prog_7_method_1_code 0 [(.aload_n 0, 1)] = true := by decide +kernel
theorem d_Outline_init_1 : decode prog_7_method_1_code 1 = .ok (.invokespecial 3, 3) := by decide +kernel
theorem b_Outline_init_4 : tf_dec prog_7_method_1_code 4 [(.aload_n 0, 1), (.sipush 160, 3)] = true := by decide +kernel
theorem d_Outline_init_8 : decode prog_7_method_1_code 8 = .ok (.newarray .int, 2) := by decide +kernel
theorem d_Outline_init_10 : decode prog_7_method_1_code 10 = .ok (.putfield 9, 3) := by decide +kernel
theorem b_Outline_init_13 : tf_dec prog_7_method_1_code 13 [(.aload_n 0, 1), (.sipush 160, 3)] = true := by decide +kernel
theorem d_Outline_init_17 : decode prog_7_method_1_code 17 = .ok (.newarray .int, 2) := by decide +kernel
theorem d_Outline_init_19 : decode prog_7_method_1_code 19 = .ok (.putfield 15, 3) := by decide +kernel
theorem b_Outline_init_22 : tf_dec prog_7_method_1_code 22 [(.aload_n 0, 1), (.sipush 160, 3)] = true := by decide +kernel
theorem d_Outline_init_26 : decode prog_7_method_1_code 26 = .ok (.newarray .boolean, 2) := by decide +kernel
theorem d_Outline_init_28 : decode prog_7_method_1_code 28 = .ok (.putfield 18, 3) := by decide +kernel
theorem b_Outline_init_31 : tf_dec prog_7_method_1_code 31 [(.aload_n 0, 1), (.bipush 54, 2)] = true := by decide +kernel
theorem d_Outline_init_34 : decode prog_7_method_1_code 34 = .ok (.newarray .int, 2) := by decide +kernel
theorem d_Outline_init_36 : decode prog_7_method_1_code 36 = .ok (.putfield 22, 3) := by decide +kernel
theorem b_Outline_init_39 : tf_dec prog_7_method_1_code 39 [(.aload_n 0, 1), (.sipush 160, 3)] = true := by decide +kernel
theorem d_Outline_init_43 : decode prog_7_method_1_code 43 = .ok (.newarray .int, 2) := by decide +kernel
theorem d_Outline_init_45 : decode prog_7_method_1_code 45 = .ok (.putfield 25, 3) := by decide +kernel
theorem d_Outline_init_48 : decode prog_7_method_1_code 48 = .ok (.return_, 1) := by decide +kernel
theorem b_Outline_become_0 : tf_dec prog_7_method_2_code 0 [(.aload_n 0, 1), (.iconst 0, 1)] = true := by decide +kernel
theorem d_Outline_become_2 : decode prog_7_method_2_code 2 = .ok (.putfield 28, 3) := by decide +kernel
theorem b_Outline_become_5 : tf_dec prog_7_method_2_code 5 [(.aload_n 0, 1), (.iconst 0, 1)] = true := by decide +kernel
theorem d_Outline_become_7 : decode prog_7_method_2_code 7 = .ok (.putfield 32, 3) := by decide +kernel
theorem b_Outline_become_10 : tf_dec prog_7_method_2_code 10 [(.aload_n 0, 1), (.aload_n 1, 1), (.aload_n 2, 1), (.iconst 0, 1)] = true := by decide +kernel
theorem d_Outline_become_14 : decode prog_7_method_2_code 14 = .ok (.invokevirtual 35, 3) := by decide +kernel
theorem d_Outline_become_17 : decode prog_7_method_2_code 17 = .ok (.return_, 1) := by decide +kernel
theorem b_Outline_ofPoint_0 : tf_dec prog_7_method_3_code 0 [(.iload_n 2, 1)] = true := by decide +kernel
theorem d_Outline_ofPoint_1 : decode prog_7_method_3_code 1 = .ok (.tableswitch 56 0 2 #[27, 34, 41], 27) := by decide +kernel
theorem b_Outline_ofPoint_28 : tf_dec prog_7_method_3_code 28 [(.aload_n 0, 1)] = true := by decide +kernel
theorem d_Outline_ofPoint_29 : decode prog_7_method_3_code 29 = .ok (.getfield 9, 3) := by decide +kernel
theorem b_Outline_ofPoint_32 : tf_dec prog_7_method_3_code 32 [(.iload_n 1, 1)] = true := by decide +kernel
theorem d_Outline_ofPoint_33 : decode prog_7_method_3_code 33 = .ok (.iaload, 1) := by decide +kernel
theorem d_Outline_ofPoint_34 : decode prog_7_method_3_code 34 = .ok (.ireturn, 1) := by decide +kernel
theorem b_Outline_ofPoint_35 : tf_dec prog_7_method_3_code 35 [(.aload_n 0, 1)] = true := by decide +kernel
theorem d_Outline_ofPoint_36 : decode prog_7_method_3_code 36 = .ok (.getfield 15, 3) := by decide +kernel
theorem b_Outline_ofPoint_39 : tf_dec prog_7_method_3_code 39 [(.iload_n 1, 1)] = true := by decide +kernel
theorem d_Outline_ofPoint_40 : decode prog_7_method_3_code 40 = .ok (.iaload, 1) := by decide +kernel
theorem d_Outline_ofPoint_41 : decode prog_7_method_3_code 41 = .ok (.ireturn, 1) := by decide +kernel
theorem b_Outline_ofPoint_42 : tf_dec prog_7_method_3_code 42 [(.aload_n 0, 1)] = true := by decide +kernel
theorem d_Outline_ofPoint_43 : decode prog_7_method_3_code 43 = .ok (.getfield 18, 3) := by decide +kernel
theorem b_Outline_ofPoint_46 : tf_dec prog_7_method_3_code 46 [(.iload_n 1, 1)] = true := by decide +kernel
theorem d_Outline_ofPoint_47 : decode prog_7_method_3_code 47 = .ok (.baload, 1) := by decide +kernel
theorem d_Outline_ofPoint_48 : decode prog_7_method_3_code 48 = .ok (.ifCond .eq 7, 3) := by decide +kernel
theorem b_Outline_ofPoint_51 : tf_dec prog_7_method_3_code 51 [(.iconst 1, 1)] = true := by decide +kernel
theorem d_Outline_ofPoint_52 : decode prog_7_method_3_code 52 = .ok (.goto 4, 3) := by decide +kernel
theorem b_Outline_ofPoint_55 : tf_dec prog_7_method_3_code 55 [(.iconst 0, 1)] = true := by decide +kernel
theorem d_Outline_ofPoint_56 : decode prog_7_method_3_code 56 = .ok (.ireturn, 1) := by decide +kernel
theorem b_Outline_ofPoint_57 : tf_dec prog_7_method_3_code 57 [(.aload_n 0, 1)] = true := by decide +kernel
theorem d_Outline_ofPoint_58 : decode prog_7_method_3_code 58 = .ok (.getfield 25, 3) := by decide +kernel
theorem b_Outline_ofPoint_61 : tf_dec prog_7_method_3_code 61 [(.iload_n 1, 1)] = true := by decide +kernel
theorem d_Outline_ofPoint_62 : decode prog_7_method_3_code 62 = .ok (.iaload, 1) := by decide +kernel
theorem d_Outline_ofPoint_63 : decode prog_7_method_3_code 63 = .ok (.ireturn, 1) := by decide +kernel
theorem b_Outline_gather_0 : tf_dec prog_7_method_4_code 0 [(.aload_n 1, 1)] = true := by decide +kernel
theorem d_Outline_gather_1 : decode prog_7_method_4_code 1 = .ok (.ifnull 8, 3) := by decide +kernel
theorem b_Outline_gather_4 : tf_dec prog_7_method_4_code 4 [(.iload_n 3, 1), (.iconst 4, 1)] = true := by decide +kernel
theorem d_Outline_gather_6 : decode prog_7_method_4_code 6 = .ok (.if_icmp .le 4, 3) := by decide +kernel
theorem d_Outline_gather_9 : decode prog_7_method_4_code 9 = .ok (.return_, 1) := by decide +kernel
theorem b_Outline_gather_10 : tf_dec prog_7_method_4_code 10 [(.aload_n 0, 1), (.aload_n 1, 1), (.aload_n 2, 1)] = true := by decide +kernel
theorem d_Outline_gather_13 : decode prog_7_method_4_code 13 = .ok (.invokevirtual 39, 3) := by decide +kernel
theorem b_Outline_gather_16 : tf_dec prog_7_method_4_code 16 [(.aload_n 1, 1)] = true := by decide +kernel
theorem d_Outline_gather_17 : decode prog_7_method_4_code 17 = .ok (.getfield 43, 3) := by decide +kernel
theorem b_Outline_gather_20 : tf_dec prog_7_method_4_code 20 [(.astore 4, 2), (.aload 4, 2)] = true := by decide +kernel
theorem d_Outline_gather_24 : decode prog_7_method_4_code 24 = .ok (.arraylength, 1) := by decide +kernel
theorem b_Outline_gather_25 : tf_dec prog_7_method_4_code 25 [(.istore 5, 2), (.iconst 0, 1), (.istore 6, 2)] = true := by decide +kernel
theorem b_Outline_gather_30 : tf_dec prog_7_method_4_code 30 [(.iload 6, 2), (.iload 5, 2)] = true := by decide +kernel
theorem d_Outline_gather_34 : decode prog_7_method_4_code 34 = .ok (.if_icmp .ge 63, 3) := by decide +kernel
theorem b_Outline_gather_37 : tf_dec prog_7_method_4_code 37 [(.aload 4, 2), (.iload 6, 2)] = true := by decide +kernel
theorem d_Outline_gather_41 : decode prog_7_method_4_code 41 = .ok (.aaload, 1) := by decide +kernel
theorem b_Outline_gather_42 : tf_dec prog_7_method_4_code 42 [(.astore 7, 2), (.aload 7, 2)] = true := by decide +kernel
theorem d_Outline_gather_46 : decode prog_7_method_4_code 46 = .ok (.ifnonnull 4, 3) := by decide +kernel
theorem d_Outline_gather_49 : decode prog_7_method_4_code 49 = .ok (.return_, 1) := by decide +kernel
theorem b_Outline_gather_50 : tf_dec prog_7_method_4_code 50 [(.aload_n 0, 1)] = true := by decide +kernel
theorem d_Outline_gather_51 : decode prog_7_method_4_code 51 = .ok (.getfield 32, 3) := by decide +kernel
theorem b_Outline_gather_54 : tf_dec prog_7_method_4_code 54 [(.istore 8, 2), (.aload_n 0, 1), (.aload 7, 2)] = true := by decide +kernel
theorem d_Outline_gather_59 : decode prog_7_method_4_code 59 = .ok (.getfield 49, 3) := by decide +kernel
theorem b_Outline_gather_62 : tf_dec prog_7_method_4_code 62 [(.aload_n 2, 1), (.iload_n 3, 1), (.iconst 1, 1), (.iadd, 1)] = true := by decide +kernel
theorem d_Outline_gather_66 : decode prog_7_method_4_code 66 = .ok (.invokevirtual 35, 3) := by decide +kernel
theorem b_Outline_gather_69 : tf_dec prog_7_method_4_code 69 [(.aload_n 0, 1), (.iload 8, 2), (.aload 7, 2)] = true := by decide +kernel
theorem d_Outline_gather_74 : decode prog_7_method_4_code 74 = .ok (.invokevirtual 55, 3) := by decide +kernel
theorem b_Outline_gather_77 : tf_dec prog_7_method_4_code 77 [(.aload 7, 2)] = true := by decide +kernel
theorem d_Outline_gather_79 : decode prog_7_method_4_code 79 = .ok (.invokevirtual 59, 3) := by decide +kernel
theorem d_Outline_gather_82 : decode prog_7_method_4_code 82 = .ok (.ifCond .eq 9, 3) := by decide +kernel
theorem b_Outline_gather_85 : tf_dec prog_7_method_4_code 85 [(.aload_n 0, 1), (.iload 8, 2)] = true := by decide +kernel
theorem d_Outline_gather_88 : decode prog_7_method_4_code 88 = .ok (.invokevirtual 63, 3) := by decide +kernel
theorem b_Outline_gather_91 : tf_dec prog_7_method_4_code 91 [(.iinc 6 1, 3)] = true := by decide +kernel
theorem d_Outline_gather_94 : decode prog_7_method_4_code 94 = .ok (.goto (-64), 3) := by decide +kernel
theorem d_Outline_gather_97 : decode prog_7_method_4_code 97 = .ok (.return_, 1) := by decide +kernel
theorem b_Outline_addContours_0 : tf_dec prog_7_method_5_code 0 [(.iconst 0, 1), (.istore_n 3, 1), (.iconst 0, 1), (.istore 4, 2)] = true := by decide +kernel
theorem b_Outline_addContours_5 : tf_dec prog_7_method_5_code 5 [(.iload 4, 2), (.aload_n 1, 1)] = true := by decide +kernel
theorem d_Outline_addContours_8 : decode prog_7_method_5_code 8 = .ok (.getfield 67, 3) := by decide +kernel
theorem d_Outline_addContours_11 : decode prog_7_method_5_code 11 = .ok (.if_icmp .ge 123, 3) := by decide +kernel
theorem b_Outline_addContours_14 : tf_dec prog_7_method_5_code 14 [(.iload_n 3, 1), (.aload_n 1, 1)] = true := by decide +kernel
theorem d_Outline_addContours_16 : decode prog_7_method_5_code 16 = .ok (.getfield 68, 3) := by decide +kernel
theorem b_Outline_addContours_19 : tf_dec prog_7_method_5_code 19 [(.iload 4, 2)] = true := by decide +kernel
theorem d_Outline_addContours_21 : decode prog_7_method_5_code 21 = .ok (.iaload, 1) := by decide +kernel
theorem d_Outline_addContours_22 : decode prog_7_method_5_code 22 = .ok (.if_icmp .ge 83, 3) := by decide +kernel
theorem b_Outline_addContours_25 : tf_dec prog_7_method_5_code 25 [(.aload_n 0, 1)] = true := by decide +kernel
theorem d_Outline_addContours_26 : decode prog_7_method_5_code 26 = .ok (.getfield 9, 3) := by decide +kernel
theorem b_Outline_addContours_29 : tf_dec prog_7_method_5_code 29 [(.aload_n 0, 1)] = true := by decide +kernel
theorem d_Outline_addContours_30 : decode prog_7_method_5_code 30 = .ok (.getfield 28, 3) := by decide +kernel
theorem b_Outline_addContours_33 : tf_dec prog_7_method_5_code 33 [(.aload_n 2, 1), (.aload_n 1, 1)] = true := by decide +kernel
theorem d_Outline_addContours_35 : decode prog_7_method_5_code 35 = .ok (.getfield 71, 3) := by decide +kernel
theorem b_Outline_addContours_38 : tf_dec prog_7_method_5_code 38 [(.iload_n 3, 1)] = true := by decide +kernel
theorem d_Outline_addContours_39 : decode prog_7_method_5_code 39 = .ok (.invokevirtual 72, 3) := by decide +kernel
theorem d_Outline_addContours_42 : decode prog_7_method_5_code 42 = .ok (.iastore, 1) := by decide +kernel
theorem b_Outline_addContours_43 : tf_dec prog_7_method_5_code 43 [(.aload_n 0, 1)] = true := by decide +kernel
theorem d_Outline_addContours_44 : decode prog_7_method_5_code 44 = .ok (.getfield 15, 3) := by decide +kernel
theorem b_Outline_addContours_47 : tf_dec prog_7_method_5_code 47 [(.aload_n 0, 1)] = true := by decide +kernel
theorem d_Outline_addContours_48 : decode prog_7_method_5_code 48 = .ok (.getfield 28, 3) := by decide +kernel
theorem b_Outline_addContours_51 : tf_dec prog_7_method_5_code 51 [(.aload_n 2, 1), (.aload_n 1, 1)] = true := by decide +kernel
theorem d_Outline_addContours_53 : decode prog_7_method_5_code 53 = .ok (.getfield 78, 3) := by decide +kernel
theorem b_Outline_addContours_56 : tf_dec prog_7_method_5_code 56 [(.iload_n 3, 1)] = true := by decide +kernel
theorem d_Outline_addContours_57 : decode prog_7_method_5_code 57 = .ok (.invokevirtual 72, 3) := by decide +kernel
theorem d_Outline_addContours_60 : decode prog_7_method_5_code 60 = .ok (.iastore, 1) := by decide +kernel
theorem b_Outline_addContours_61 : tf_dec prog_7_method_5_code 61 [(.aload_n 0, 1)] = true := by decide +kernel
theorem d_Outline_addContours_62 : decode prog_7_method_5_code 62 = .ok (.getfield 18, 3) := by decide +kernel
theorem b_Outline_addContours_65 : tf_dec prog_7_method_5_code 65 [(.aload_n 0, 1)] = true := by decide +kernel
theorem d_Outline_addContours_66 : decode prog_7_method_5_code 66 = .ok (.getfield 28, 3) := by decide +kernel
theorem b_Outline_addContours_69 : tf_dec prog_7_method_5_code 69 [(.aload_n 1, 1)] = true := by decide +kernel
theorem d_Outline_addContours_70 : decode prog_7_method_5_code 70 = .ok (.getfield 79, 3) := by decide +kernel
theorem b_Outline_addContours_73 : tf_dec prog_7_method_5_code 73 [(.iload_n 3, 1)] = true := by decide +kernel
theorem d_Outline_addContours_74 : decode prog_7_method_5_code 74 = .ok (.baload, 1) := by decide +kernel
theorem d_Outline_addContours_75 : decode prog_7_method_5_code 75 = .ok (.bastore, 1) := by decide +kernel
theorem b_Outline_addContours_76 : tf_dec prog_7_method_5_code 76 [(.aload_n 0, 1)] = true := by decide +kernel
theorem d_Outline_addContours_77 : decode prog_7_method_5_code 77 = .ok (.getfield 25, 3) := by decide +kernel
theorem b_Outline_addContours_80 : tf_dec prog_7_method_5_code 80 [(.aload_n 0, 1)] = true := by decide +kernel
theorem d_Outline_addContours_81 : decode prog_7_method_5_code 81 = .ok (.getfield 28, 3) := by decide +kernel
theorem b_Outline_addContours_84 : tf_dec prog_7_method_5_code 84 [(.aload_n 0, 1)] = true := by decide +kernel
theorem d_Outline_addContours_85 : decode prog_7_method_5_code 85 = .ok (.getfield 32, 3) := by decide +kernel
theorem d_Outline_addContours_88 : decode prog_7_method_5_code 88 = .ok (.iastore, 1) := by decide +kernel
theorem b_Outline_addContours_89 : tf_dec prog_7_method_5_code 89 [(.aload_n 0, 1), (.dup, 1)] = true := by decide +kernel
theorem d_Outline_addContours_91 : decode prog_7_method_5_code 91 = .ok (.getfield 28, 3) := by decide +kernel
theorem b_Outline_addContours_94 : tf_dec prog_7_method_5_code 94 [(.iconst 1, 1), (.iadd, 1)] = true := by decide +kernel
theorem d_Outline_addContours_96 : decode prog_7_method_5_code 96 = .ok (.putfield 28, 3) := by decide +kernel
theorem b_Outline_addContours_99 : tf_dec prog_7_method_5_code 99 [(.iinc 3 1, 3)] = true := by decide +kernel
theorem d_Outline_addContours_102 : decode prog_7_method_5_code 102 = .ok (.goto (-88), 3) := by decide +kernel
theorem b_Outline_addContours_105 : tf_dec prog_7_method_5_code 105 [(.aload_n 0, 1), (.dup, 1)] = true := by decide +kernel
theorem d_Outline_addContours_107 : decode prog_7_method_5_code 107 = .ok (.getfield 32, 3) := by decide +kernel
theorem b_Outline_addContours_110 : tf_dec prog_7_method_5_code 110 [(.iconst 1, 1), (.iadd, 1)] = true := by decide +kernel
theorem d_Outline_addContours_112 : decode prog_7_method_5_code 112 = .ok (.putfield 32, 3) := by decide +kernel
theorem b_Outline_addContours_115 : tf_dec prog_7_method_5_code 115 [(.aload_n 0, 1)] = true := by decide +kernel
theorem d_Outline_addContours_116 : decode prog_7_method_5_code 116 = .ok (.getfield 22, 3) := by decide +kernel
theorem b_Outline_addContours_119 : tf_dec prog_7_method_5_code 119 [(.aload_n 0, 1)] = true := by decide +kernel
theorem d_Outline_addContours_120 : decode prog_7_method_5_code 120 = .ok (.getfield 32, 3) := by decide +kernel
theorem b_Outline_addContours_123 : tf_dec prog_7_method_5_code 123 [(.aload_n 0, 1)] = true := by decide +kernel
theorem d_Outline_addContours_124 : decode prog_7_method_5_code 124 = .ok (.getfield 28, 3) := by decide +kernel
theorem d_Outline_addContours_127 : decode prog_7_method_5_code 127 = .ok (.iastore, 1) := by decide +kernel
theorem b_Outline_addContours_128 : tf_dec prog_7_method_5_code 128 [(.iinc 4 1, 3)] = true := by decide +kernel
theorem d_Outline_addContours_131 : decode prog_7_method_5_code 131 = .ok (.goto (-126), 3) := by decide +kernel
theorem d_Outline_addContours_134 : decode prog_7_method_5_code 134 = .ok (.return_, 1) := by decide +kernel
theorem b_Outline_turnAndShift_0 : tf_dec prog_7_method_6_code 0 [(.aload_n 0, 1)] = true := by decide +kernel
theorem d_Outline_turnAndShift_1 : decode prog_7_method_6_code 1 = .ok (.getfield 22, 3) := by decide +kernel
theorem b_Outline_turnAndShift_4 : tf_dec prog_7_method_6_code 4 [(.iload_n 1, 1)] = true := by decide +kernel
theorem d_Outline_turnAndShift_5 : decode prog_7_method_6_code 5 = .ok (.iaload, 1) := by decide +kernel
theorem b_Outline_turnAndShift_6 : tf_dec prog_7_method_6_code 6 [(.istore_n 3, 1)] = true := by decide +kernel
theorem b_Outline_turnAndShift_7 : tf_dec prog_7_method_6_code 7 [(.iload_n 3, 1), (.aload_n 0, 1)] = true := by decide +kernel
theorem d_Outline_turnAndShift_9 : decode prog_7_method_6_code 9 = .ok (.getfield 28, 3) := by decide +kernel
theorem d_Outline_turnAndShift_12 : decode prog_7_method_6_code 12 = .ok (.if_icmp .ge 100, 3) := by decide +kernel
theorem b_Outline_turnAndShift_15 : tf_dec prog_7_method_6_code 15 [(.aload_n 2, 1)] = true := by decide +kernel
theorem d_Outline_turnAndShift_16 : decode prog_7_method_6_code 16 = .ok (.invokevirtual 59, 3) := by decide +kernel
theorem d_Outline_turnAndShift_19 : decode prog_7_method_6_code 19 = .ok (.ifCond .eq 13, 3) := by decide +kernel
theorem b_Outline_turnAndShift_22 : tf_dec prog_7_method_6_code 22 [(.aload_n 0, 1)] = true := by decide +kernel
theorem d_Outline_turnAndShift_23 : decode prog_7_method_6_code 23 = .ok (.getfield 9, 3) := by decide +kernel
theorem b_Outline_turnAndShift_26 : tf_dec prog_7_method_6_code 26 [(.iload_n 3, 1)] = true := by decide +kernel
theorem d_Outline_turnAndShift_27 : decode prog_7_method_6_code 27 = .ok (.iaload, 1) := by decide +kernel
theorem b_Outline_turnAndShift_28 : tf_dec prog_7_method_6_code 28 [(.ineg, 1)] = true := by decide +kernel
theorem d_Outline_turnAndShift_29 : decode prog_7_method_6_code 29 = .ok (.goto 9, 3) := by decide +kernel
theorem b_Outline_turnAndShift_32 : tf_dec prog_7_method_6_code 32 [(.aload_n 0, 1)] = true := by decide +kernel
theorem d_Outline_turnAndShift_33 : decode prog_7_method_6_code 33 = .ok (.getfield 9, 3) := by decide +kernel
theorem b_Outline_turnAndShift_36 : tf_dec prog_7_method_6_code 36 [(.iload_n 3, 1)] = true := by decide +kernel
theorem d_Outline_turnAndShift_37 : decode prog_7_method_6_code 37 = .ok (.iaload, 1) := by decide +kernel
theorem b_Outline_turnAndShift_38 : tf_dec prog_7_method_6_code 38 [(.istore 4, 2), (.aload_n 0, 1)] = true := by decide +kernel
theorem d_Outline_turnAndShift_41 : decode prog_7_method_6_code 41 = .ok (.getfield 15, 3) := by decide +kernel
theorem b_Outline_turnAndShift_44 : tf_dec prog_7_method_6_code 44 [(.iload_n 3, 1)] = true := by decide +kernel
theorem d_Outline_turnAndShift_45 : decode prog_7_method_6_code 45 = .ok (.iaload, 1) := by decide +kernel
theorem b_Outline_turnAndShift_46 : tf_dec prog_7_method_6_code 46 [(.istore 5, 2), (.aload_n 2, 1)] = true := by decide +kernel
theorem d_Outline_turnAndShift_49 : decode prog_7_method_6_code 49 = .ok (.getfield 80, 3) := by decide +kernel
theorem b_Outline_turnAndShift_52 : tf_dec prog_7_method_6_code 52 [(.iconst 4, 1)] = true := by decide +kernel
theorem d_Outline_turnAndShift_53 : decode prog_7_method_6_code 53 = .ok (.irem, 1) := by decide +kernel
theorem b_Outline_turnAndShift_54 : tf_dec prog_7_method_6_code 54 [(.istore 6, 2)] = true := by decide +kernel
theorem b_Outline_turnAndShift_56 : tf_dec prog_7_method_6_code 56 [(.iload 6, 2)] = true := by decide +kernel
theorem d_Outline_turnAndShift_58 : decode prog_7_method_6_code 58 = .ok (.ifCond .le 22, 3) := by decide +kernel
theorem b_Outline_turnAndShift_61 : tf_dec prog_7_method_6_code 61 [(.iload 4, 2), (.istore 7, 2), (.iload 5, 2), (.ineg, 1), (.istore 4, 2), (.iload 7, 2), (.istore 5, 2), (.iinc 6 (-1), 3)] = true := by decide +kernel
theorem d_Outline_turnAndShift_77 : decode prog_7_method_6_code 77 = .ok (.goto (-21), 3) := by decide +kernel
theorem b_Outline_turnAndShift_80 : tf_dec prog_7_method_6_code 80 [(.aload_n 0, 1)] = true := by decide +kernel
theorem d_Outline_turnAndShift_81 : decode prog_7_method_6_code 81 = .ok (.getfield 9, 3) := by decide +kernel
theorem b_Outline_turnAndShift_84 : tf_dec prog_7_method_6_code 84 [(.iload_n 3, 1), (.iload 4, 2), (.aload_n 2, 1)] = true := by decide +kernel
theorem d_Outline_turnAndShift_88 : decode prog_7_method_6_code 88 = .ok (.getfield 83, 3) := by decide +kernel
theorem b_Outline_turnAndShift_91 : tf_dec prog_7_method_6_code 91 [(.iadd, 1)] = true := by decide +kernel
theorem d_Outline_turnAndShift_92 : decode prog_7_method_6_code 92 = .ok (.iastore, 1) := by decide +kernel
theorem b_Outline_turnAndShift_93 : tf_dec prog_7_method_6_code 93 [(.aload_n 0, 1)] = true := by decide +kernel
theorem d_Outline_turnAndShift_94 : decode prog_7_method_6_code 94 = .ok (.getfield 15, 3) := by decide +kernel
theorem b_Outline_turnAndShift_97 : tf_dec prog_7_method_6_code 97 [(.iload_n 3, 1), (.iload 5, 2), (.aload_n 2, 1)] = true := by decide +kernel
theorem d_Outline_turnAndShift_101 : decode prog_7_method_6_code 101 = .ok (.getfield 86, 3) := by decide +kernel
theorem b_Outline_turnAndShift_104 : tf_dec prog_7_method_6_code 104 [(.iadd, 1)] = true := by decide +kernel
theorem d_Outline_turnAndShift_105 : decode prog_7_method_6_code 105 = .ok (.iastore, 1) := by decide +kernel
theorem b_Outline_turnAndShift_106 : tf_dec prog_7_method_6_code 106 [(.iinc 3 1, 3)] = true := by decide +kernel
theorem d_Outline_turnAndShift_109 : decode prog_7_method_6_code 109 = .ok (.goto (-102), 3) := by decide +kernel
theorem d_Outline_turnAndShift_112 : decode prog_7_method_6_code 112 = .ok (.return_, 1) := by decide +kernel
theorem b_Outline_reverseContours_0 : tf_dec prog_7_method_7_code 0 [(.iload_n 1, 1), (.istore_n 2, 1)] = true := by decide +kernel
theorem b_Outline_reverseContours_2 : tf_dec prog_7_method_7_code 2 [(.iload_n 2, 1), (.aload_n 0, 1)] = true := by decide +kernel
theorem d_Outline_reverseContours_4 : decode prog_7_method_7_code 4 = .ok (.getfield 32, 3) := by decide +kernel
theorem d_Outline_reverseContours_7 : decode prog_7_method_7_code 7 = .ok (.if_icmp .ge 50, 3) := by decide +kernel
theorem b_Outline_reverseContours_10 : tf_dec prog_7_method_7_code 10 [(.aload_n 0, 1)] = true := by decide +kernel
theorem d_Outline_reverseContours_11 : decode prog_7_method_7_code 11 = .ok (.getfield 22, 3) := by decide +kernel
theorem b_Outline_reverseContours_14 : tf_dec prog_7_method_7_code 14 [(.iload_n 2, 1), (.iconst 1, 1), (.iadd, 1)] = true := by decide +kernel
theorem d_Outline_reverseContours_17 : decode prog_7_method_7_code 17 = .ok (.iaload, 1) := by decide +kernel
theorem b_Outline_reverseContours_18 : tf_dec prog_7_method_7_code 18 [(.iconst 1, 1), (.isub, 1), (.istore_n 3, 1), (.aload_n 0, 1)] = true := by decide +kernel
theorem d_Outline_reverseContours_22 : decode prog_7_method_7_code 22 = .ok (.getfield 22, 3) := by decide +kernel
theorem b_Outline_reverseContours_25 : tf_dec prog_7_method_7_code 25 [(.iload_n 2, 1)] = true := by decide +kernel
theorem d_Outline_reverseContours_26 : decode prog_7_method_7_code 26 = .ok (.iaload, 1) := by decide +kernel
theorem b_Outline_reverseContours_27 : tf_dec prog_7_method_7_code 27 [(.istore 4, 2)] = true := by decide +kernel
theorem b_Outline_reverseContours_29 : tf_dec prog_7_method_7_code 29 [(.iload 4, 2), (.iload_n 3, 1)] = true := by decide +kernel
theorem d_Outline_reverseContours_32 : decode prog_7_method_7_code 32 = .ok (.if_icmp .ge 19, 3) := by decide +kernel
theorem b_Outline_reverseContours_35 : tf_dec prog_7_method_7_code 35 [(.aload_n 0, 1), (.iload 4, 2), (.iload_n 3, 1)] = true := by decide +kernel
theorem d_Outline_reverseContours_39 : decode prog_7_method_7_code 39 = .ok (.invokevirtual 89, 3) := by decide +kernel
theorem b_Outline_reverseContours_42 : tf_dec prog_7_method_7_code 42 [(.iinc 3 (-1), 3), (.iinc 4 1, 3)] = true := by decide +kernel
theorem d_Outline_reverseContours_48 : decode prog_7_method_7_code 48 = .ok (.goto (-19), 3) := by decide +kernel
theorem b_Outline_reverseContours_51 : tf_dec prog_7_method_7_code 51 [(.iinc 2 1, 3)] = true := by decide +kernel
theorem d_Outline_reverseContours_54 : decode prog_7_method_7_code 54 = .ok (.goto (-52), 3) := by decide +kernel
theorem d_Outline_reverseContours_57 : decode prog_7_method_7_code 57 = .ok (.return_, 1) := by decide +kernel
theorem b_Outline_swap_0 : tf_dec prog_7_method_8_code 0 [(.aload_n 0, 1)] = true := by decide +kernel
theorem d_Outline_swap_1 : decode prog_7_method_8_code 1 = .ok (.getfield 9, 3) := by decide +kernel
theorem b_Outline_swap_4 : tf_dec prog_7_method_8_code 4 [(.iload_n 1, 1)] = true := by decide +kernel
theorem d_Outline_swap_5 : decode prog_7_method_8_code 5 = .ok (.iaload, 1) := by decide +kernel
theorem b_Outline_swap_6 : tf_dec prog_7_method_8_code 6 [(.istore_n 3, 1), (.aload_n 0, 1)] = true := by decide +kernel
theorem d_Outline_swap_8 : decode prog_7_method_8_code 8 = .ok (.getfield 15, 3) := by decide +kernel
theorem b_Outline_swap_11 : tf_dec prog_7_method_8_code 11 [(.iload_n 1, 1)] = true := by decide +kernel
theorem d_Outline_swap_12 : decode prog_7_method_8_code 12 = .ok (.iaload, 1) := by decide +kernel
theorem b_Outline_swap_13 : tf_dec prog_7_method_8_code 13 [(.istore 4, 2), (.aload_n 0, 1)] = true := by decide +kernel
theorem d_Outline_swap_16 : decode prog_7_method_8_code 16 = .ok (.getfield 18, 3) := by decide +kernel
theorem b_Outline_swap_19 : tf_dec prog_7_method_8_code 19 [(.iload_n 1, 1)] = true := by decide +kernel
theorem d_Outline_swap_20 : decode prog_7_method_8_code 20 = .ok (.baload, 1) := by decide +kernel
theorem b_Outline_swap_21 : tf_dec prog_7_method_8_code 21 [(.istore 5, 2), (.aload_n 0, 1)] = true := by decide +kernel
theorem d_Outline_swap_24 : decode prog_7_method_8_code 24 = .ok (.getfield 9, 3) := by decide +kernel
theorem b_Outline_swap_27 : tf_dec prog_7_method_8_code 27 [(.iload_n 1, 1), (.aload_n 0, 1)] = true := by decide +kernel
theorem d_Outline_swap_29 : decode prog_7_method_8_code 29 = .ok (.getfield 9, 3) := by decide +kernel
theorem b_Outline_swap_32 : tf_dec prog_7_method_8_code 32 [(.iload_n 2, 1)] = true := by decide +kernel
theorem d_Outline_swap_33 : decode prog_7_method_8_code 33 = .ok (.iaload, 1) := by decide +kernel
theorem d_Outline_swap_34 : decode prog_7_method_8_code 34 = .ok (.iastore, 1) := by decide +kernel
theorem b_Outline_swap_35 : tf_dec prog_7_method_8_code 35 [(.aload_n 0, 1)] = true := by decide +kernel
theorem d_Outline_swap_36 : decode prog_7_method_8_code 36 = .ok (.getfield 15, 3) := by decide +kernel
theorem b_Outline_swap_39 : tf_dec prog_7_method_8_code 39 [(.iload_n 1, 1), (.aload_n 0, 1)] = true := by decide +kernel
theorem d_Outline_swap_41 : decode prog_7_method_8_code 41 = .ok (.getfield 15, 3) := by decide +kernel
theorem b_Outline_swap_44 : tf_dec prog_7_method_8_code 44 [(.iload_n 2, 1)] = true := by decide +kernel
theorem d_Outline_swap_45 : decode prog_7_method_8_code 45 = .ok (.iaload, 1) := by decide +kernel
theorem d_Outline_swap_46 : decode prog_7_method_8_code 46 = .ok (.iastore, 1) := by decide +kernel
theorem b_Outline_swap_47 : tf_dec prog_7_method_8_code 47 [(.aload_n 0, 1)] = true := by decide +kernel
theorem d_Outline_swap_48 : decode prog_7_method_8_code 48 = .ok (.getfield 18, 3) := by decide +kernel
theorem b_Outline_swap_51 : tf_dec prog_7_method_8_code 51 [(.iload_n 1, 1), (.aload_n 0, 1)] = true := by decide +kernel
theorem d_Outline_swap_53 : decode prog_7_method_8_code 53 = .ok (.getfield 18, 3) := by decide +kernel
theorem b_Outline_swap_56 : tf_dec prog_7_method_8_code 56 [(.iload_n 2, 1)] = true := by decide +kernel
theorem d_Outline_swap_57 : decode prog_7_method_8_code 57 = .ok (.baload, 1) := by decide +kernel
theorem d_Outline_swap_58 : decode prog_7_method_8_code 58 = .ok (.bastore, 1) := by decide +kernel
theorem b_Outline_swap_59 : tf_dec prog_7_method_8_code 59 [(.aload_n 0, 1)] = true := by decide +kernel
theorem d_Outline_swap_60 : decode prog_7_method_8_code 60 = .ok (.getfield 9, 3) := by decide +kernel
theorem b_Outline_swap_63 : tf_dec prog_7_method_8_code 63 [(.iload_n 2, 1), (.iload_n 3, 1)] = true := by decide +kernel
theorem d_Outline_swap_65 : decode prog_7_method_8_code 65 = .ok (.iastore, 1) := by decide +kernel
theorem b_Outline_swap_66 : tf_dec prog_7_method_8_code 66 [(.aload_n 0, 1)] = true := by decide +kernel
theorem d_Outline_swap_67 : decode prog_7_method_8_code 67 = .ok (.getfield 15, 3) := by decide +kernel
theorem b_Outline_swap_70 : tf_dec prog_7_method_8_code 70 [(.iload_n 2, 1), (.iload 4, 2)] = true := by decide +kernel
theorem d_Outline_swap_73 : decode prog_7_method_8_code 73 = .ok (.iastore, 1) := by decide +kernel
theorem b_Outline_swap_74 : tf_dec prog_7_method_8_code 74 [(.aload_n 0, 1)] = true := by decide +kernel
theorem d_Outline_swap_75 : decode prog_7_method_8_code 75 = .ok (.getfield 18, 3) := by decide +kernel
theorem b_Outline_swap_78 : tf_dec prog_7_method_8_code 78 [(.iload_n 2, 1), (.iload 5, 2)] = true := by decide +kernel
theorem d_Outline_swap_81 : decode prog_7_method_8_code 81 = .ok (.bastore, 1) := by decide +kernel
theorem d_Outline_swap_82 : decode prog_7_method_8_code 82 = .ok (.return_, 1) := by decide +kernel
theorem b_Part_init_0 : tf_dec prog_8_method_1_code 0 [(.aload_n 0, 1)] = true := by decide +kernel
theorem d_Part_init_1 : decode prog_8_method_1_code 1 = .ok (.invokespecial 3, 3) := by decide +kernel
theorem b_Part_init_4 : tf_dec prog_8_method_1_code 4 [(.aload_n 0, 1), (.aload_n 1, 1)] = true := by decide +kernel
theorem d_Part_init_6 : decode prog_8_method_1_code 6 = .ok (.putfield 9, 3) := by decide +kernel
theorem b_Part_init_9 : tf_dec prog_8_method_1_code 9 [(.aload_n 0, 1), (.iload_n 2, 1)] = true := by decide +kernel
theorem d_Part_init_11 : decode prog_8_method_1_code 11 = .ok (.putfield 15, 3) := by decide +kernel
theorem b_Part_init_14 : tf_dec prog_8_method_1_code 14 [(.aload_n 0, 1), (.iload_n 3, 1)] = true := by decide +kernel
theorem d_Part_init_16 : decode prog_8_method_1_code 16 = .ok (.putfield 19, 3) := by decide +kernel
theorem b_Part_init_19 : tf_dec prog_8_method_1_code 19 [(.aload_n 0, 1), (.iload 4, 2)] = true := by decide +kernel
theorem d_Part_init_22 : decode prog_8_method_1_code 22 = .ok (.putfield 22, 3) := by decide +kernel
theorem d_Part_init_25 : decode prog_8_method_1_code 25 = .ok (.return_, 1) := by decide +kernel
theorem b_Part_isMirrored_0 : tf_dec prog_8_method_2_code 0 [(.aload_n 0, 1)] = true := by decide +kernel
theorem d_Part_isMirrored_1 : decode prog_8_method_2_code 1 = .ok (.getfield 22, 3) := by decide +kernel
theorem b_Part_isMirrored_4 : tf_dec prog_8_method_2_code 4 [(.iconst 4, 1)] = true := by decide +kernel
theorem d_Part_isMirrored_5 : decode prog_8_method_2_code 5 = .ok (.if_icmp .lt 7, 3) := by decide +kernel
theorem b_Part_isMirrored_8 : tf_dec prog_8_method_2_code 8 [(.iconst 1, 1)] = true := by decide +kernel
theorem d_Part_isMirrored_9 : decode prog_8_method_2_code 9 = .ok (.goto 4, 3) := by decide +kernel
theorem b_Part_isMirrored_12 : tf_dec prog_8_method_2_code 12 [(.iconst 0, 1)] = true := by decide +kernel
theorem d_Part_isMirrored_13 : decode prog_8_method_2_code 13 = .ok (.ireturn, 1) := by decide +kernel
theorem b_Path_init_0 : tf_dec prog_9_method_1_code 0 [(.aload_n 0, 1)] = true := by decide +kernel
theorem d_Path_init_1 : decode prog_9_method_1_code 1 = .ok (.invokespecial 3, 3) := by decide +kernel
theorem b_Path_init_4 : tf_dec prog_9_method_1_code 4 [(.aload_n 0, 1), (.sipush 320, 3)] = true := by decide +kernel
theorem d_Path_init_8 : decode prog_9_method_1_code 8 = .ok (.newarray .int, 2) := by decide +kernel
theorem d_Path_init_10 : decode prog_9_method_1_code 10 = .ok (.putfield 9, 3) := by decide +kernel
theorem b_Path_init_13 : tf_dec prog_9_method_1_code 13 [(.aload_n 0, 1), (.sipush 320, 3)] = true := by decide +kernel
theorem d_Path_init_17 : decode prog_9_method_1_code 17 = .ok (.newarray .int, 2) := by decide +kernel
theorem d_Path_init_19 : decode prog_9_method_1_code 19 = .ok (.putfield 15, 3) := by decide +kernel
theorem d_Path_init_22 : decode prog_9_method_1_code 22 = .ok (.return_, 1) := by decide +kernel
theorem b_Path_follow_0 : tf_dec prog_9_method_2_code 0 [(.aload_n 1, 1)] = true := by decide +kernel
theorem d_Path_follow_1 : decode prog_9_method_2_code 1 = .ok (.getfield 18, 3) := by decide +kernel
theorem b_Path_follow_4 : tf_dec prog_9_method_2_code 4 [(.iload_n 2, 1)] = true := by decide +kernel
theorem d_Path_follow_5 : decode prog_9_method_2_code 5 = .ok (.iaload, 1) := by decide +kernel
theorem b_Path_follow_6 : tf_dec prog_9_method_2_code 6 [(.istore_n 3, 1), (.aload_n 1, 1)] = true := by decide +kernel
theorem d_Path_follow_8 : decode prog_9_method_2_code 8 = .ok (.getfield 18, 3) := by decide +kernel
theorem b_Path_follow_11 : tf_dec prog_9_method_2_code 11 [(.iload_n 2, 1), (.iconst 1, 1), (.iadd, 1)] = true := by decide +kernel
theorem d_Path_follow_14 : decode prog_9_method_2_code 14 = .ok (.iaload, 1) := by decide +kernel
theorem b_Path_follow_15 : tf_dec prog_9_method_2_code 15 [(.istore 4, 2), (.aload_n 0, 1), (.iconst 0, 1)] = true := by decide +kernel
theorem d_Path_follow_19 : decode prog_9_method_2_code 19 = .ok (.putfield 23, 3) := by decide +kernel
theorem b_Path_follow_22 : tf_dec prog_9_method_2_code 22 [(.iload_n 3, 1), (.istore 5, 2)] = true := by decide +kernel
theorem b_Path_follow_25 : tf_dec prog_9_method_2_code 25 [(.iload 5, 2), (.iload 4, 2)] = true := by decide +kernel
theorem d_Path_follow_29 : decode prog_9_method_2_code 29 = .ok (.if_icmp .ge 95, 3) := by decide +kernel
theorem b_Path_follow_32 : tf_dec prog_9_method_2_code 32 [(.iload 5, 2), (.iconst 1, 1), (.iadd, 1), (.iload 4, 2)] = true := by decide +kernel
theorem d_Path_follow_38 : decode prog_9_method_2_code 38 = .ok (.if_icmp .ge 10, 3) := by decide +kernel
theorem b_Path_follow_41 : tf_dec prog_9_method_2_code 41 [(.iload 5, 2), (.iconst 1, 1), (.iadd, 1)] = true := by decide +kernel
theorem d_Path_follow_45 : decode prog_9_method_2_code 45 = .ok (.goto 4, 3) := by decide +kernel
theorem b_Path_follow_48 : tf_dec prog_9_method_2_code 48 [(.iload_n 3, 1)] = true := by decide +kernel
theorem b_Path_follow_49 : tf_dec prog_9_method_2_code 49 [(.istore 6, 2), (.aload_n 1, 1)] = true := by decide +kernel
theorem d_Path_follow_52 : decode prog_9_method_2_code 52 = .ok (.getfield 27, 3) := by decide +kernel
theorem b_Path_follow_55 : tf_dec prog_9_method_2_code 55 [(.iload 5, 2)] = true := by decide +kernel
theorem d_Path_follow_57 : decode prog_9_method_2_code 57 = .ok (.baload, 1) := by decide +kernel
theorem d_Path_follow_58 : decode prog_9_method_2_code 58 = .ok (.ifCond .ne 32, 3) := by decide +kernel
theorem b_Path_follow_61 : tf_dec prog_9_method_2_code 61 [(.aload_n 0, 1), (.aload_n 1, 1), (.iload 5, 2), (.iload_n 3, 1)] = true := by decide +kernel
theorem d_Path_follow_66 : decode prog_9_method_2_code 66 = .ok (.if_icmp .le 10, 3) := by decide +kernel
theorem b_Path_follow_69 : tf_dec prog_9_method_2_code 69 [(.iload 5, 2), (.iconst 1, 1), (.isub, 1)] = true := by decide +kernel
theorem d_Path_follow_73 : decode prog_9_method_2_code 73 = .ok (.goto 7, 3) := by decide +kernel
theorem b_Path_follow_76 : tf_dec prog_9_method_2_code 76 [(.iload 4, 2), (.iconst 1, 1), (.isub, 1)] = true := by decide +kernel
theorem b_Path_follow_80 : tf_dec prog_9_method_2_code 80 [(.iload 5, 2), (.iload 6, 2)] = true := by decide +kernel
theorem d_Path_follow_84 : decode prog_9_method_2_code 84 = .ok (.invokevirtual 31, 3) := by decide +kernel
theorem d_Path_follow_87 : decode prog_9_method_2_code 87 = .ok (.goto 31, 3) := by decide +kernel
theorem b_Path_follow_90 : tf_dec prog_9_method_2_code 90 [(.aload_n 1, 1)] = true := by decide +kernel
theorem d_Path_follow_91 : decode prog_9_method_2_code 91 = .ok (.getfield 27, 3) := by decide +kernel
theorem b_Path_follow_94 : tf_dec prog_9_method_2_code 94 [(.iload 6, 2)] = true := by decide +kernel
theorem d_Path_follow_96 : decode prog_9_method_2_code 96 = .ok (.baload, 1) := by decide +kernel
theorem d_Path_follow_97 : decode prog_9_method_2_code 97 = .ok (.ifCond .eq 21, 3) := by decide +kernel
theorem b_Path_follow_100 : tf_dec prog_9_method_2_code 100 [(.aload_n 0, 1), (.aload_n 1, 1)] = true := by decide +kernel
theorem d_Path_follow_102 : decode prog_9_method_2_code 102 = .ok (.getfield 35, 3) := by decide +kernel
theorem b_Path_follow_105 : tf_dec prog_9_method_2_code 105 [(.iload 6, 2)] = true := by decide +kernel
theorem d_Path_follow_107 : decode prog_9_method_2_code 107 = .ok (.iaload, 1) := by decide +kernel
theorem b_Path_follow_108 : tf_dec prog_9_method_2_code 108 [(.aload_n 1, 1)] = true := by decide +kernel
theorem d_Path_follow_109 : decode prog_9_method_2_code 109 = .ok (.getfield 36, 3) := by decide +kernel
theorem b_Path_follow_112 : tf_dec prog_9_method_2_code 112 [(.iload 6, 2)] = true := by decide +kernel
theorem d_Path_follow_114 : decode prog_9_method_2_code 114 = .ok (.iaload, 1) := by decide +kernel
theorem d_Path_follow_115 : decode prog_9_method_2_code 115 = .ok (.invokevirtual 37, 3) := by decide +kernel
theorem b_Path_follow_118 : tf_dec prog_9_method_2_code 118 [(.iinc 5 1, 3)] = true := by decide +kernel
theorem d_Path_follow_121 : decode prog_9_method_2_code 121 = .ok (.goto (-96), 3) := by decide +kernel
theorem d_Path_follow_124 : decode prog_9_method_2_code 124 = .ok (.return_, 1) := by decide +kernel
theorem b_Path_fit_0 : tf_dec prog_9_method_3_code 0 [(.iconst 0, 1), (.istore_n 3, 1)] = true := by decide +kernel
theorem b_Path_fit_2 : tf_dec prog_9_method_3_code 2 [(.iload_n 3, 1), (.aload_n 0, 1)] = true := by decide +kernel
theorem d_Path_fit_4 : decode prog_9_method_3_code 4 = .ok (.getfield 23, 3) := by decide +kernel
theorem d_Path_fit_7 : decode prog_9_method_3_code 7 = .ok (.if_icmp .ge 26, 3) := by decide +kernel
theorem b_Path_fit_10 : tf_dec prog_9_method_3_code 10 [(.aload_n 0, 1)] = true := by decide +kernel
theorem d_Path_fit_11 : decode prog_9_method_3_code 11 = .ok (.getfield 15, 3) := by decide +kernel
theorem b_Path_fit_14 : tf_dec prog_9_method_3_code 14 [(.iload_n 3, 1), (.aload_n 1, 1), (.aload_n 0, 1)] = true := by decide +kernel
theorem d_Path_fit_17 : decode prog_9_method_3_code 17 = .ok (.getfield 15, 3) := by decide +kernel
theorem b_Path_fit_20 : tf_dec prog_9_method_3_code 20 [(.iload_n 3, 1)] = true := by decide +kernel
theorem d_Path_fit_21 : decode prog_9_method_3_code 21 = .ok (.iaload, 1) := by decide +kernel
theorem b_Path_fit_22 : tf_dec prog_9_method_3_code 22 [(.iload_n 2, 1)] = true := by decide +kernel
theorem d_Path_fit_23 : decode prog_9_method_3_code 23 = .ok (.invokevirtual 41, 3) := by decide +kernel
theorem d_Path_fit_26 : decode prog_9_method_3_code 26 = .ok (.iastore, 1) := by decide +kernel
theorem b_Path_fit_27 : tf_dec prog_9_method_3_code 27 [(.iinc 3 1, 3)] = true := by decide +kernel
theorem d_Path_fit_30 : decode prog_9_method_3_code 30 = .ok (.goto (-28), 3) := by decide +kernel
theorem d_Path_fit_33 : decode prog_9_method_3_code 33 = .ok (.return_, 1) := by decide +kernel
theorem b_Path_addQuadratic_0 : tf_dec prog_9_method_4_code 0 [(.aload_n 1, 1)] = true := by decide +kernel
theorem d_Path_addQuadratic_1 : decode prog_9_method_4_code 1 = .ok (.getfield 35, 3) := by decide +kernel
theorem b_Path_addQuadratic_4 : tf_dec prog_9_method_4_code 4 [(.iload_n 2, 1), (.iload_n 3, 1), (.aload_n 1, 1)] = true := by decide +kernel
theorem d_Path_addQuadratic_7 : decode prog_9_method_4_code 7 = .ok (.getfield 27, 3) := by decide +kernel
theorem b_Path_addQuadratic_10 : tf_dec prog_9_method_4_code 10 [(.iload_n 2, 1)] = true := by decide +kernel
theorem d_Path_addQuadratic_11 : decode prog_9_method_4_code 11 = .ok (.baload, 1) := by decide +kernel
theorem d_Path_addQuadratic_12 : decode prog_9_method_4_code 12 = .ok (.invokestatic 47, 3) := by decide +kernel
theorem b_Path_addQuadratic_15 : tf_dec prog_9_method_4_code 15 [(.istore 5, 2), (.aload_n 1, 1)] = true := by decide +kernel
theorem d_Path_addQuadratic_18 : decode prog_9_method_4_code 18 = .ok (.getfield 36, 3) := by decide +kernel
theorem b_Path_addQuadratic_21 : tf_dec prog_9_method_4_code 21 [(.iload_n 2, 1), (.iload_n 3, 1), (.aload_n 1, 1)] = true := by decide +kernel
theorem d_Path_addQuadratic_24 : decode prog_9_method_4_code 24 = .ok (.getfield 27, 3) := by decide +kernel
theorem b_Path_addQuadratic_27 : tf_dec prog_9_method_4_code 27 [(.iload_n 2, 1)] = true := by decide +kernel
theorem d_Path_addQuadratic_28 : decode prog_9_method_4_code 28 = .ok (.baload, 1) := by decide +kernel
theorem d_Path_addQuadratic_29 : decode prog_9_method_4_code 29 = .ok (.invokestatic 47, 3) := by decide +kernel
theorem b_Path_addQuadratic_32 : tf_dec prog_9_method_4_code 32 [(.istore 6, 2), (.aload_n 1, 1)] = true := by decide +kernel
theorem d_Path_addQuadratic_35 : decode prog_9_method_4_code 35 = .ok (.getfield 35, 3) := by decide +kernel
theorem b_Path_addQuadratic_38 : tf_dec prog_9_method_4_code 38 [(.iload 4, 2), (.iload_n 3, 1), (.aload_n 1, 1)] = true := by decide +kernel
theorem d_Path_addQuadratic_42 : decode prog_9_method_4_code 42 = .ok (.getfield 27, 3) := by decide +kernel
theorem b_Path_addQuadratic_45 : tf_dec prog_9_method_4_code 45 [(.iload 4, 2)] = true := by decide +kernel
theorem d_Path_addQuadratic_47 : decode prog_9_method_4_code 47 = .ok (.baload, 1) := by decide +kernel
theorem d_Path_addQuadratic_48 : decode prog_9_method_4_code 48 = .ok (.invokestatic 47, 3) := by decide +kernel
theorem b_Path_addQuadratic_51 : tf_dec prog_9_method_4_code 51 [(.istore 7, 2), (.aload_n 1, 1)] = true := by decide +kernel
theorem d_Path_addQuadratic_54 : decode prog_9_method_4_code 54 = .ok (.getfield 36, 3) := by decide +kernel
theorem b_Path_addQuadratic_57 : tf_dec prog_9_method_4_code 57 [(.iload 4, 2), (.iload_n 3, 1), (.aload_n 1, 1)] = true := by decide +kernel
theorem d_Path_addQuadratic_61 : decode prog_9_method_4_code 61 = .ok (.getfield 27, 3) := by decide +kernel
theorem b_Path_addQuadratic_64 : tf_dec prog_9_method_4_code 64 [(.iload 4, 2)] = true := by decide +kernel
theorem d_Path_addQuadratic_66 : decode prog_9_method_4_code 66 = .ok (.baload, 1) := by decide +kernel
theorem d_Path_addQuadratic_67 : decode prog_9_method_4_code 67 = .ok (.invokestatic 47, 3) := by decide +kernel
theorem b_Path_addQuadratic_70 : tf_dec prog_9_method_4_code 70 [(.istore 8, 2), (.iconst 1, 1), (.istore 9, 2)] = true := by decide +kernel
theorem b_Path_addQuadratic_75 : tf_dec prog_9_method_4_code 75 [(.iload 9, 2), (.bipush 8, 2)] = true := by decide +kernel
theorem d_Path_addQuadratic_79 : decode prog_9_method_4_code 79 = .ok (.if_icmp .gt 43, 3) := by decide +kernel
theorem b_Path_addQuadratic_82 : tf_dec prog_9_method_4_code 82 [(.aload_n 0, 1), (.iload 5, 2), (.aload_n 1, 1)] = true := by decide +kernel
theorem d_Path_addQuadratic_86 : decode prog_9_method_4_code 86 = .ok (.getfield 35, 3) := by decide +kernel
theorem b_Path_addQuadratic_89 : tf_dec prog_9_method_4_code 89 [(.iload_n 3, 1)] = true := by decide +kernel
theorem d_Path_addQuadratic_90 : decode prog_9_method_4_code 90 = .ok (.iaload, 1) := by decide +kernel
theorem b_Path_addQuadratic_91 : tf_dec prog_9_method_4_code 91 [(.iload 7, 2), (.iload 9, 2)] = true := by decide +kernel
theorem d_Path_addQuadratic_95 : decode prog_9_method_4_code 95 = .ok (.invokestatic 51, 3) := by decide +kernel
theorem b_Path_addQuadratic_98 : tf_dec prog_9_method_4_code 98 [(.iload 6, 2), (.aload_n 1, 1)] = true := by decide +kernel
theorem d_Path_addQuadratic_101 : decode prog_9_method_4_code 101 = .ok (.getfield 36, 3) := by decide +kernel
theorem b_Path_addQuadratic_104 : tf_dec prog_9_method_4_code 104 [(.iload_n 3, 1)] = true := by decide +kernel
theorem d_Path_addQuadratic_105 : decode prog_9_method_4_code 105 = .ok (.iaload, 1) := by decide +kernel
theorem b_Path_addQuadratic_106 : tf_dec prog_9_method_4_code 106 [(.iload 8, 2), (.iload 9, 2)] = true := by decide +kernel
theorem d_Path_addQuadratic_110 : decode prog_9_method_4_code 110 = .ok (.invokestatic 51, 3) := by decide +kernel
theorem d_Path_addQuadratic_113 : decode prog_9_method_4_code 113 = .ok (.invokevirtual 37, 3) := by decide +kernel
theorem b_Path_addQuadratic_116 : tf_dec prog_9_method_4_code 116 [(.iinc 9 1, 3)] = true := by decide +kernel
theorem d_Path_addQuadratic_119 : decode prog_9_method_4_code 119 = .ok (.goto (-44), 3) := by decide +kernel
theorem d_Path_addQuadratic_122 : decode prog_9_method_4_code 122 = .ok (.return_, 1) := by decide +kernel
theorem b_Path_addCorner_0 : tf_dec prog_9_method_5_code 0 [(.aload_n 0, 1)] = true := by decide +kernel
theorem d_Path_addCorner_1 : decode prog_9_method_5_code 1 = .ok (.getfield 9, 3) := by decide +kernel
theorem b_Path_addCorner_4 : tf_dec prog_9_method_5_code 4 [(.aload_n 0, 1)] = true := by decide +kernel
theorem d_Path_addCorner_5 : decode prog_9_method_5_code 5 = .ok (.getfield 23, 3) := by decide +kernel
theorem b_Path_addCorner_8 : tf_dec prog_9_method_5_code 8 [(.iload_n 1, 1)] = true := by decide +kernel
theorem d_Path_addCorner_9 : decode prog_9_method_5_code 9 = .ok (.iastore, 1) := by decide +kernel
theorem b_Path_addCorner_10 : tf_dec prog_9_method_5_code 10 [(.aload_n 0, 1)] = true := by decide +kernel
theorem d_Path_addCorner_11 : decode prog_9_method_5_code 11 = .ok (.getfield 15, 3) := by decide +kernel
theorem b_Path_addCorner_14 : tf_dec prog_9_method_5_code 14 [(.aload_n 0, 1)] = true := by decide +kernel
theorem d_Path_addCorner_15 : decode prog_9_method_5_code 15 = .ok (.getfield 23, 3) := by decide +kernel
theorem b_Path_addCorner_18 : tf_dec prog_9_method_5_code 18 [(.iload_n 2, 1)] = true := by decide +kernel
theorem d_Path_addCorner_19 : decode prog_9_method_5_code 19 = .ok (.iastore, 1) := by decide +kernel
theorem b_Path_addCorner_20 : tf_dec prog_9_method_5_code 20 [(.aload_n 0, 1), (.dup, 1)] = true := by decide +kernel
theorem d_Path_addCorner_22 : decode prog_9_method_5_code 22 = .ok (.getfield 23, 3) := by decide +kernel
theorem b_Path_addCorner_25 : tf_dec prog_9_method_5_code 25 [(.iconst 1, 1), (.iadd, 1)] = true := by decide +kernel
theorem d_Path_addCorner_27 : decode prog_9_method_5_code 27 = .ok (.putfield 23, 3) := by decide +kernel
theorem d_Path_addCorner_30 : decode prog_9_method_5_code 30 = .ok (.return_, 1) := by decide +kernel
theorem b_Path_endAt_0 : tf_dec prog_9_method_6_code 0 [(.iload_n 3, 1)] = true := by decide +kernel
theorem d_Path_endAt_1 : decode prog_9_method_6_code 1 = .ok (.ifCond .eq 9, 3) := by decide +kernel
theorem b_Path_endAt_4 : tf_dec prog_9_method_6_code 4 [(.aload_n 0, 1), (.iload_n 1, 1)] = true := by decide +kernel
theorem d_Path_endAt_6 : decode prog_9_method_6_code 6 = .ok (.iaload, 1) := by decide +kernel
theorem d_Path_endAt_7 : decode prog_9_method_6_code 7 = .ok (.goto 17, 3) := by decide +kernel
theorem b_Path_endAt_10 : tf_dec prog_9_method_6_code 10 [(.aload_n 0, 1), (.iload_n 1, 1)] = true := by decide +kernel
theorem d_Path_endAt_12 : decode prog_9_method_6_code 12 = .ok (.iaload, 1) := by decide +kernel
theorem b_Path_endAt_13 : tf_dec prog_9_method_6_code 13 [(.aload_n 0, 1), (.iload_n 2, 1)] = true := by decide +kernel
theorem d_Path_endAt_15 : decode prog_9_method_6_code 15 = .ok (.iaload, 1) := by decide +kernel
theorem b_Path_endAt_16 : tf_dec prog_9_method_6_code 16 [(.iadd, 1), (.i2l, 1)] = true := by decide +kernel
theorem d_Path_endAt_18 : decode prog_9_method_6_code 18 = .ok (.ldc2_w 55, 3) := by decide +kernel
theorem d_Path_endAt_21 : decode prog_9_method_6_code 21 = .ok (.invokestatic 57, 3) := by decide +kernel
theorem d_Path_endAt_24 : decode prog_9_method_6_code 24 = .ok (.ireturn, 1) := by decide +kernel
theorem b_Path_onQuadratic_0 : tf_dec prog_9_method_7_code 0 [(.bipush 8, 2), (.iload_n 3, 1), (.isub, 1), (.istore 4, 2), (.iload 4, 2), (.iload 4, 2), (.imul, 1), (.iload_n 0, 1), (.imul, 1), (.iconst 2, 1), (.iload_n 3, 1), (.imul, 1), (.iload 4, 2), (.imul, 1), (.iload_n 1, 1), (.imul, 1), (.iadd, 1), (.iload_n 3, 1), (.iload_n 3, 1), (.imul, 1), (.iload_n 2, 1), (.imul, 1), (.iadd, 1), (.i2l, 1)] = true := by decide +kernel
theorem d_Path_onQuadratic_29 : decode prog_9_method_7_code 29 = .ok (.ldc2_w 61, 3) := by decide +kernel
theorem d_Path_onQuadratic_32 : decode prog_9_method_7_code 32 = .ok (.invokestatic 57, 3) := by decide +kernel
theorem d_Path_onQuadratic_35 : decode prog_9_method_7_code 35 = .ok (.ireturn, 1) := by decide +kernel
theorem b_Rule_init_0 : tf_dec prog_10_method_1_code 0 [(.aload_n 0, 1)] = true := by decide +kernel
theorem d_Rule_init_1 : decode prog_10_method_1_code 1 = .ok (.invokespecial 3, 3) := by decide +kernel
theorem b_Rule_init_4 : tf_dec prog_10_method_1_code 4 [(.aload_n 0, 1), (.iload_n 1, 1)] = true := by decide +kernel
theorem d_Rule_init_6 : decode prog_10_method_1_code 6 = .ok (.putfield 9, 3) := by decide +kernel
theorem b_Rule_init_9 : tf_dec prog_10_method_1_code 9 [(.aload_n 0, 1), (.lload_n 2, 1)] = true := by decide +kernel
theorem d_Rule_init_11 : decode prog_10_method_1_code 11 = .ok (.putfield 15, 3) := by decide +kernel
theorem b_Rule_init_14 : tf_dec prog_10_method_1_code 14 [(.aload_n 0, 1), (.lload 4, 2)] = true := by decide +kernel
theorem d_Rule_init_17 : decode prog_10_method_1_code 17 = .ok (.putfield 19, 3) := by decide +kernel
theorem b_Rule_init_20 : tf_dec prog_10_method_1_code 20 [(.aload_n 0, 1), (.lload 6, 2)] = true := by decide +kernel
theorem d_Rule_init_23 : decode prog_10_method_1_code 23 = .ok (.putfield 22, 3) := by decide +kernel
theorem b_Rule_init_26 : tf_dec prog_10_method_1_code 26 [(.aload_n 0, 1), (.iload 8, 2)] = true := by decide +kernel
theorem d_Rule_init_29 : decode prog_10_method_1_code 29 = .ok (.putfield 25, 3) := by decide +kernel
theorem b_Rule_init_32 : tf_dec prog_10_method_1_code 32 [(.aload_n 0, 1), (.lload_n 2, 1), (.iconst 2, 1)] = true := by decide +kernel
theorem d_Rule_init_35 : decode prog_10_method_1_code 35 = .ok (.invokestatic 28, 3) := by decide +kernel
theorem d_Rule_init_38 : decode prog_10_method_1_code 38 = .ok (.putfield 32, 3) := by decide +kernel
theorem b_Rule_init_41 : tf_dec prog_10_method_1_code 41 [(.aload_n 0, 1), (.lload 4, 2), (.iconst 4, 1)] = true := by decide +kernel
theorem d_Rule_init_45 : decode prog_10_method_1_code 45 = .ok (.invokestatic 28, 3) := by decide +kernel
theorem d_Rule_init_48 : decode prog_10_method_1_code 48 = .ok (.putfield 35, 3) := by decide +kernel
theorem b_Rule_init_51 : tf_dec prog_10_method_1_code 51 [(.aload_n 0, 1), (.lload 6, 2), (.iconst 2, 1)] = true := by decide +kernel
theorem d_Rule_init_55 : decode prog_10_method_1_code 55 = .ok (.invokestatic 28, 3) := by decide +kernel
theorem d_Rule_init_58 : decode prog_10_method_1_code 58 = .ok (.putfield 38, 3) := by decide +kernel
theorem d_Rule_init_61 : decode prog_10_method_1_code 61 = .ok (.return_, 1) := by decide +kernel
theorem b_Rule_isMadeOf_0 : tf_dec prog_10_method_2_code 0 [(.aload_n 0, 1)] = true := by decide +kernel
theorem d_Rule_isMadeOf_1 : decode prog_10_method_2_code 1 = .ok (.getfield 35, 3) := by decide +kernel
theorem d_Rule_isMadeOf_4 : decode prog_10_method_2_code 4 = .ok (.ifCond .le 66, 3) := by decide +kernel
theorem b_Rule_isMadeOf_7 : tf_dec prog_10_method_2_code 7 [(.iload_n 1, 1), (.aload_n 0, 1)] = true := by decide +kernel
theorem d_Rule_isMadeOf_9 : decode prog_10_method_2_code 9 = .ok (.getfield 15, 3) := by decide +kernel
theorem b_Rule_isMadeOf_12 : tf_dec prog_10_method_2_code 12 [(.aload_n 0, 1)] = true := by decide +kernel
theorem d_Rule_isMadeOf_13 : decode prog_10_method_2_code 13 = .ok (.getfield 32, 3) := by decide +kernel
theorem d_Rule_isMadeOf_16 : decode prog_10_method_2_code 16 = .ok (.invokestatic 41, 3) := by decide +kernel
theorem d_Rule_isMadeOf_19 : decode prog_10_method_2_code 19 = .ok (.ifCond .eq 51, 3) := by decide +kernel
theorem b_Rule_isMadeOf_22 : tf_dec prog_10_method_2_code 22 [(.iload_n 1, 1), (.aload_n 0, 1)] = true := by decide +kernel
theorem d_Rule_isMadeOf_24 : decode prog_10_method_2_code 24 = .ok (.getfield 19, 3) := by decide +kernel
theorem b_Rule_isMadeOf_27 : tf_dec prog_10_method_2_code 27 [(.aload_n 0, 1)] = true := by decide +kernel
theorem d_Rule_isMadeOf_28 : decode prog_10_method_2_code 28 = .ok (.getfield 35, 3) := by decide +kernel
theorem d_Rule_isMadeOf_31 : decode prog_10_method_2_code 31 = .ok (.invokestatic 41, 3) := by decide +kernel
theorem d_Rule_isMadeOf_34 : decode prog_10_method_2_code 34 = .ok (.ifCond .eq 36, 3) := by decide +kernel
theorem b_Rule_isMadeOf_37 : tf_dec prog_10_method_2_code 37 [(.iload_n 1, 1), (.aload_n 0, 1)] = true := by decide +kernel
theorem d_Rule_isMadeOf_39 : decode prog_10_method_2_code 39 = .ok (.getfield 22, 3) := by decide +kernel
theorem b_Rule_isMadeOf_42 : tf_dec prog_10_method_2_code 42 [(.aload_n 0, 1)] = true := by decide +kernel
theorem d_Rule_isMadeOf_43 : decode prog_10_method_2_code 43 = .ok (.getfield 38, 3) := by decide +kernel
theorem d_Rule_isMadeOf_46 : decode prog_10_method_2_code 46 = .ok (.invokestatic 41, 3) := by decide +kernel
theorem d_Rule_isMadeOf_49 : decode prog_10_method_2_code 49 = .ok (.ifCond .eq 21, 3) := by decide +kernel
theorem b_Rule_isMadeOf_52 : tf_dec prog_10_method_2_code 52 [(.aload_n 0, 1)] = true := by decide +kernel
theorem d_Rule_isMadeOf_53 : decode prog_10_method_2_code 53 = .ok (.getfield 25, 3) := by decide +kernel
theorem b_Rule_isMadeOf_56 : tf_dec prog_10_method_2_code 56 [(.iconst 0, 1), (.iload_n 1, 1), (.iconst 1, 1), (.isub, 1)] = true := by decide +kernel
theorem d_Rule_isMadeOf_60 : decode prog_10_method_2_code 60 = .ok (.invokestatic 45, 3) := by decide +kernel
theorem d_Rule_isMadeOf_63 : decode prog_10_method_2_code 63 = .ok (.ifCond .eq 7, 3) := by decide +kernel
theorem b_Rule_isMadeOf_66 : tf_dec prog_10_method_2_code 66 [(.iconst 1, 1)] = true := by decide +kernel
theorem d_Rule_isMadeOf_67 : decode prog_10_method_2_code 67 = .ok (.goto 4, 3) := by decide +kernel
theorem b_Rule_isMadeOf_70 : tf_dec prog_10_method_2_code 70 [(.iconst 0, 1)] = true := by decide +kernel
theorem d_Rule_isMadeOf_71 : decode prog_10_method_2_code 71 = .ok (.ireturn, 1) := by decide +kernel
theorem b_Rule_isLongerThan_0 : tf_dec prog_10_method_3_code 0 [(.aload_n 1, 1)] = true := by decide +kernel
theorem d_Rule_isLongerThan_1 : decode prog_10_method_3_code 1 = .ok (.ifnull 14, 3) := by decide +kernel
theorem b_Rule_isLongerThan_4 : tf_dec prog_10_method_3_code 4 [(.aload_n 0, 1)] = true := by decide +kernel
theorem d_Rule_isLongerThan_5 : decode prog_10_method_3_code 5 = .ok (.getfield 35, 3) := by decide +kernel
theorem b_Rule_isLongerThan_8 : tf_dec prog_10_method_3_code 8 [(.aload_n 1, 1)] = true := by decide +kernel
theorem d_Rule_isLongerThan_9 : decode prog_10_method_3_code 9 = .ok (.getfield 35, 3) := by decide +kernel
theorem d_Rule_isLongerThan_12 : decode prog_10_method_3_code 12 = .ok (.if_icmp .le 7, 3) := by decide +kernel
theorem b_Rule_isLongerThan_15 : tf_dec prog_10_method_3_code 15 [(.iconst 1, 1)] = true := by decide +kernel
theorem d_Rule_isLongerThan_16 : decode prog_10_method_3_code 16 = .ok (.goto 4, 3) := by decide +kernel
theorem b_Rule_isLongerThan_19 : tf_dec prog_10_method_3_code 19 [(.iconst 0, 1)] = true := by decide +kernel
theorem d_Rule_isLongerThan_20 : decode prog_10_method_3_code 20 = .ok (.ireturn, 1) := by decide +kernel
theorem b_Rule_fits_0 : tf_dec prog_10_method_4_code 0 [(.iload_n 3, 1), (.aload_n 0, 1)] = true := by decide +kernel
theorem d_Rule_fits_2 : decode prog_10_method_4_code 2 = .ok (.getfield 35, 3) := by decide +kernel
theorem b_Rule_fits_5 : tf_dec prog_10_method_4_code 5 [(.iadd, 1), (.istore 4, 2), (.iload_n 3, 1), (.aload_n 0, 1)] = true := by decide +kernel
theorem d_Rule_fits_10 : decode prog_10_method_4_code 10 = .ok (.getfield 32, 3) := by decide +kernel
theorem d_Rule_fits_13 : decode prog_10_method_4_code 13 = .ok (.if_icmp .lt 72, 3) := by decide +kernel
theorem b_Rule_fits_16 : tf_dec prog_10_method_4_code 16 [(.iload 4, 2), (.aload_n 0, 1)] = true := by decide +kernel
theorem d_Rule_fits_19 : decode prog_10_method_4_code 19 = .ok (.getfield 38, 3) := by decide +kernel
theorem b_Rule_fits_22 : tf_dec prog_10_method_4_code 22 [(.iadd, 1), (.iload_n 2, 1)] = true := by decide +kernel
theorem d_Rule_fits_24 : decode prog_10_method_4_code 24 = .ok (.if_icmp .gt 61, 3) := by decide +kernel
theorem b_Rule_fits_27 : tf_dec prog_10_method_4_code 27 [(.aload_n 1, 1), (.iload_n 3, 1), (.aload_n 0, 1)] = true := by decide +kernel
theorem d_Rule_fits_30 : decode prog_10_method_4_code 30 = .ok (.getfield 32, 3) := by decide +kernel
theorem b_Rule_fits_33 : tf_dec prog_10_method_4_code 33 [(.isub, 1), (.aload_n 0, 1)] = true := by decide +kernel
theorem d_Rule_fits_35 : decode prog_10_method_4_code 35 = .ok (.getfield 15, 3) := by decide +kernel
theorem b_Rule_fits_38 : tf_dec prog_10_method_4_code 38 [(.aload_n 0, 1)] = true := by decide +kernel
theorem d_Rule_fits_39 : decode prog_10_method_4_code 39 = .ok (.getfield 32, 3) := by decide +kernel
theorem d_Rule_fits_42 : decode prog_10_method_4_code 42 = .ok (.invokestatic 49, 3) := by decide +kernel
theorem d_Rule_fits_45 : decode prog_10_method_4_code 45 = .ok (.ifCond .eq 40, 3) := by decide +kernel
theorem b_Rule_fits_48 : tf_dec prog_10_method_4_code 48 [(.aload_n 1, 1), (.iload_n 3, 1), (.aload_n 0, 1)] = true := by decide +kernel
theorem d_Rule_fits_51 : decode prog_10_method_4_code 51 = .ok (.getfield 19, 3) := by decide +kernel
theorem b_Rule_fits_54 : tf_dec prog_10_method_4_code 54 [(.aload_n 0, 1)] = true := by decide +kernel
theorem d_Rule_fits_55 : decode prog_10_method_4_code 55 = .ok (.getfield 35, 3) := by decide +kernel
theorem d_Rule_fits_58 : decode prog_10_method_4_code 58 = .ok (.invokestatic 49, 3) := by decide +kernel
theorem d_Rule_fits_61 : decode prog_10_method_4_code 61 = .ok (.ifCond .eq 24, 3) := by decide +kernel
theorem b_Rule_fits_64 : tf_dec prog_10_method_4_code 64 [(.aload_n 1, 1), (.iload 4, 2), (.aload_n 0, 1)] = true := by decide +kernel
theorem d_Rule_fits_68 : decode prog_10_method_4_code 68 = .ok (.getfield 22, 3) := by decide +kernel
theorem b_Rule_fits_71 : tf_dec prog_10_method_4_code 71 [(.aload_n 0, 1)] = true := by decide +kernel
theorem d_Rule_fits_72 : decode prog_10_method_4_code 72 = .ok (.getfield 38, 3) := by decide +kernel
theorem d_Rule_fits_75 : decode prog_10_method_4_code 75 = .ok (.invokestatic 49, 3) := by decide +kernel
theorem d_Rule_fits_78 : decode prog_10_method_4_code 78 = .ok (.ifCond .eq 7, 3) := by decide +kernel
theorem b_Rule_fits_81 : tf_dec prog_10_method_4_code 81 [(.iconst 1, 1)] = true := by decide +kernel
theorem d_Rule_fits_82 : decode prog_10_method_4_code 82 = .ok (.goto 4, 3) := by decide +kernel
theorem b_Rule_fits_85 : tf_dec prog_10_method_4_code 85 [(.iconst 0, 1)] = true := by decide +kernel
theorem d_Rule_fits_86 : decode prog_10_method_4_code 86 = .ok (.ireturn, 1) := by decide +kernel
theorem b_Rule_lengthOf_0 : tf_dec prog_10_method_5_code 0 [(.iconst 0, 1), (.istore_n 3, 1)] = true := by decide +kernel
theorem b_Rule_lengthOf_2 : tf_dec prog_10_method_5_code 2 [(.iload_n 3, 1), (.iload_n 2, 1)] = true := by decide +kernel
theorem d_Rule_lengthOf_4 : decode prog_10_method_5_code 4 = .ok (.if_icmp .ge 18, 3) := by decide +kernel
theorem b_Rule_lengthOf_7 : tf_dec prog_10_method_5_code 7 [(.lload_n 0, 1), (.iload_n 3, 1)] = true := by decide +kernel
theorem d_Rule_lengthOf_9 : decode prog_10_method_5_code 9 = .ok (.invokestatic 53, 3) := by decide +kernel
theorem b_Rule_lengthOf_12 : tf_dec prog_10_method_5_code 12 [(.iconst (-1), 1)] = true := by decide +kernel
theorem d_Rule_lengthOf_13 : decode prog_10_method_5_code 13 = .ok (.if_icmp .eq 9, 3) := by decide +kernel
theorem b_Rule_lengthOf_16 : tf_dec prog_10_method_5_code 16 [(.iinc 3 1, 3)] = true := by decide +kernel
theorem d_Rule_lengthOf_19 : decode prog_10_method_5_code 19 = .ok (.goto (-17), 3) := by decide +kernel
theorem b_Rule_lengthOf_22 : tf_dec prog_10_method_5_code 22 [(.iload_n 3, 1)] = true := by decide +kernel
theorem d_Rule_lengthOf_23 : decode prog_10_method_5_code 23 = .ok (.ireturn, 1) := by decide +kernel
theorem b_Rule_glyphAt_0 : tf_dec prog_10_method_6_code 0 [(.lload_n 0, 1), (.bipush 8, 2), (.iload_n 2, 1), (.imul, 1), (.lushr, 1)] = true := by decide +kernel
theorem d_Rule_glyphAt_6 : decode prog_10_method_6_code 6 = .ok (.ldc2_w 56, 3) := by decide +kernel
theorem b_Rule_glyphAt_9 : tf_dec prog_10_method_6_code 9 [(.land, 1), (.l2i, 1), (.iconst 1, 1), (.isub, 1)] = true := by decide +kernel
theorem d_Rule_glyphAt_13 : decode prog_10_method_6_code 13 = .ok (.ireturn, 1) := by decide +kernel
theorem b_Rule_isOf_0 : tf_dec prog_10_method_7_code 0 [(.iconst 0, 1), (.istore 4, 2)] = true := by decide +kernel
theorem b_Rule_isOf_3 : tf_dec prog_10_method_7_code 3 [(.iload 4, 2), (.iload_n 3, 1)] = true := by decide +kernel
theorem d_Rule_isOf_6 : decode prog_10_method_7_code 6 = .ok (.if_icmp .ge 21, 3) := by decide +kernel
theorem b_Rule_isOf_9 : tf_dec prog_10_method_7_code 9 [(.lload_n 1, 1), (.iload 4, 2)] = true := by decide +kernel
theorem d_Rule_isOf_12 : decode prog_10_method_7_code 12 = .ok (.invokestatic 53, 3) := by decide +kernel
theorem b_Rule_isOf_15 : tf_dec prog_10_method_7_code 15 [(.iload_n 0, 1)] = true := by decide +kernel
theorem d_Rule_isOf_16 : decode prog_10_method_7_code 16 = .ok (.if_icmp .lt 5, 3) := by decide +kernel
theorem b_Rule_isOf_19 : tf_dec prog_10_method_7_code 19 [(.iconst 0, 1)] = true := by decide +kernel
theorem d_Rule_isOf_20 : decode prog_10_method_7_code 20 = .ok (.ireturn, 1) := by decide +kernel
theorem b_Rule_isOf_21 : tf_dec prog_10_method_7_code 21 [(.iinc 4 1, 3)] = true := by decide +kernel
theorem d_Rule_isOf_24 : decode prog_10_method_7_code 24 = .ok (.goto (-21), 3) := by decide +kernel
theorem b_Rule_isOf_27 : tf_dec prog_10_method_7_code 27 [(.iconst 1, 1)] = true := by decide +kernel
theorem d_Rule_isOf_28 : decode prog_10_method_7_code 28 = .ok (.ireturn, 1) := by decide +kernel
theorem b_Rule_stands_0 : tf_dec prog_10_method_8_code 0 [(.iconst 0, 1), (.istore 5, 2)] = true := by decide +kernel
theorem b_Rule_stands_3 : tf_dec prog_10_method_8_code 3 [(.iload 5, 2), (.iload 4, 2)] = true := by decide +kernel
theorem d_Rule_stands_7 : decode prog_10_method_8_code 7 = .ok (.if_icmp .ge 26, 3) := by decide +kernel
theorem b_Rule_stands_10 : tf_dec prog_10_method_8_code 10 [(.aload_n 0, 1), (.iload_n 1, 1), (.iload 5, 2), (.iadd, 1)] = true := by decide +kernel
theorem d_Rule_stands_15 : decode prog_10_method_8_code 15 = .ok (.iaload, 1) := by decide +kernel
theorem b_Rule_stands_16 : tf_dec prog_10_method_8_code 16 [(.lload_n 2, 1), (.iload 5, 2)] = true := by decide +kernel
theorem d_Rule_stands_19 : decode prog_10_method_8_code 19 = .ok (.invokestatic 53, 3) := by decide +kernel
theorem d_Rule_stands_22 : decode prog_10_method_8_code 22 = .ok (.if_icmp .eq 5, 3) := by decide +kernel
theorem b_Rule_stands_25 : tf_dec prog_10_method_8_code 25 [(.iconst 0, 1)] = true := by decide +kernel
theorem d_Rule_stands_26 : decode prog_10_method_8_code 26 = .ok (.ireturn, 1) := by decide +kernel
theorem b_Rule_stands_27 : tf_dec prog_10_method_8_code 27 [(.iinc 5 1, 3)] = true := by decide +kernel
theorem d_Rule_stands_30 : decode prog_10_method_8_code 30 = .ok (.goto (-27), 3) := by decide +kernel
theorem b_Rule_stands_33 : tf_dec prog_10_method_8_code 33 [(.iconst 1, 1)] = true := by decide +kernel
theorem d_Rule_stands_34 : decode prog_10_method_8_code 34 = .ok (.ireturn, 1) := by decide +kernel
theorem b_Setter_init_0 : tf_dec prog_11_method_1_code 0 [(.aload_n 0, 1)] = true := by decide +kernel
theorem d_Setter_init_1 : decode prog_11_method_1_code 1 = .ok (.invokespecial 3, 3) := by decide +kernel
theorem b_Setter_init_4 : tf_dec prog_11_method_1_code 4 [(.aload_n 0, 1), (.bipush 60, 2)] = true := by decide +kernel
theorem d_Setter_init_7 : decode prog_11_method_1_code 7 = .ok (.newarray .int, 2) := by decide +kernel
theorem d_Setter_init_9 : decode prog_11_method_1_code 9 = .ok (.putfield 9, 3) := by decide +kernel
theorem b_Setter_init_12 : tf_dec prog_11_method_1_code 12 [(.aload_n 0, 1), (.bipush 60, 2)] = true := by decide +kernel
theorem d_Setter_init_15 : decode prog_11_method_1_code 15 = .ok (.newarray .int, 2) := by decide +kernel
theorem d_Setter_init_17 : decode prog_11_method_1_code 17 = .ok (.putfield 15, 3) := by decide +kernel
theorem b_Setter_init_20 : tf_dec prog_11_method_1_code 20 [(.aload_n 0, 1), (.bipush 40, 2)] = true := by decide +kernel
theorem d_Setter_init_23 : decode prog_11_method_1_code 23 = .ok (.anewarray 18, 3) := by decide +kernel
theorem d_Setter_init_26 : decode prog_11_method_1_code 26 = .ok (.putfield 20, 3) := by decide +kernel
theorem d_Setter_init_29 : decode prog_11_method_1_code 29 = .ok (.return_, 1) := by decide +kernel
theorem b_Setter_addRule_0 : tf_dec prog_11_method_2_code 0 [(.aload_n 0, 1)] = true := by decide +kernel
theorem d_Setter_addRule_1 : decode prog_11_method_2_code 1 = .ok (.getfield 20, 3) := by decide +kernel
theorem b_Setter_addRule_4 : tf_dec prog_11_method_2_code 4 [(.aload_n 0, 1)] = true := by decide +kernel
theorem d_Setter_addRule_5 : decode prog_11_method_2_code 5 = .ok (.getfield 24, 3) := by decide +kernel
theorem b_Setter_addRule_8 : tf_dec prog_11_method_2_code 8 [(.aload_n 1, 1)] = true := by decide +kernel
theorem d_Setter_addRule_9 : decode prog_11_method_2_code 9 = .ok (.aastore, 1) := by decide +kernel
theorem b_Setter_addRule_10 : tf_dec prog_11_method_2_code 10 [(.aload_n 0, 1), (.dup, 1)] = true := by decide +kernel
theorem d_Setter_addRule_12 : decode prog_11_method_2_code 12 = .ok (.getfield 24, 3) := by decide +kernel
theorem b_Setter_addRule_15 : tf_dec prog_11_method_2_code 15 [(.dup_x1, 1), (.iconst 1, 1), (.iadd, 1)] = true := by decide +kernel
theorem d_Setter_addRule_18 : decode prog_11_method_2_code 18 = .ok (.putfield 24, 3) := by decide +kernel
theorem d_Setter_addRule_21 : decode prog_11_method_2_code 21 = .ok (.ireturn, 1) := by decide +kernel
theorem b_Setter_addToText_0 : tf_dec prog_11_method_3_code 0 [(.aload_n 0, 1)] = true := by decide +kernel
theorem d_Setter_addToText_1 : decode prog_11_method_3_code 1 = .ok (.getfield 28, 3) := by decide +kernel
theorem b_Setter_addToText_4 : tf_dec prog_11_method_3_code 4 [(.bipush 60, 2)] = true := by decide +kernel
theorem d_Setter_addToText_6 : decode prog_11_method_3_code 6 = .ok (.if_icmp .lt 5, 3) := by decide +kernel
theorem b_Setter_addToText_9 : tf_dec prog_11_method_3_code 9 [(.iconst 0, 1)] = true := by decide +kernel
theorem d_Setter_addToText_10 : decode prog_11_method_3_code 10 = .ok (.ireturn, 1) := by decide +kernel
theorem b_Setter_addToText_11 : tf_dec prog_11_method_3_code 11 [(.aload_n 0, 1)] = true := by decide +kernel
theorem d_Setter_addToText_12 : decode prog_11_method_3_code 12 = .ok (.getfield 15, 3) := by decide +kernel
theorem b_Setter_addToText_15 : tf_dec prog_11_method_3_code 15 [(.aload_n 0, 1)] = true := by decide +kernel
theorem d_Setter_addToText_16 : decode prog_11_method_3_code 16 = .ok (.getfield 28, 3) := by decide +kernel
theorem b_Setter_addToText_19 : tf_dec prog_11_method_3_code 19 [(.iload_n 1, 1)] = true := by decide +kernel
theorem d_Setter_addToText_20 : decode prog_11_method_3_code 20 = .ok (.iastore, 1) := by decide +kernel
theorem b_Setter_addToText_21 : tf_dec prog_11_method_3_code 21 [(.aload_n 0, 1), (.dup, 1)] = true := by decide +kernel
theorem d_Setter_addToText_23 : decode prog_11_method_3_code 23 = .ok (.getfield 28, 3) := by decide +kernel
theorem b_Setter_addToText_26 : tf_dec prog_11_method_3_code 26 [(.iconst 1, 1), (.iadd, 1)] = true := by decide +kernel
theorem d_Setter_addToText_28 : decode prog_11_method_3_code 28 = .ok (.putfield 28, 3) := by decide +kernel
theorem b_Setter_addToText_31 : tf_dec prog_11_method_3_code 31 [(.iconst 1, 1)] = true := by decide +kernel
theorem d_Setter_addToText_32 : decode prog_11_method_3_code 32 = .ok (.ireturn, 1) := by decide +kernel
theorem b_Setter_setRow_0 : tf_dec prog_11_method_4_code 0 [(.aload_n 0, 1)] = true := by decide +kernel
theorem d_Setter_setRow_1 : decode prog_11_method_4_code 1 = .ok (.getfield 15, 3) := by decide +kernel
theorem b_Setter_setRow_4 : tf_dec prog_11_method_4_code 4 [(.iconst 0, 1), (.aload_n 0, 1)] = true := by decide +kernel
theorem d_Setter_setRow_6 : decode prog_11_method_4_code 6 = .ok (.getfield 9, 3) := by decide +kernel
theorem b_Setter_setRow_9 : tf_dec prog_11_method_4_code 9 [(.iconst 0, 1), (.aload_n 0, 1)] = true := by decide +kernel
theorem d_Setter_setRow_11 : decode prog_11_method_4_code 11 = .ok (.getfield 28, 3) := by decide +kernel
theorem d_Setter_setRow_14 : decode prog_11_method_4_code 14 = .ok (.invokestatic 31, 3) := by decide +kernel
theorem b_Setter_setRow_17 : tf_dec prog_11_method_4_code 17 [(.aload_n 0, 1), (.aload_n 0, 1)] = true := by decide +kernel
theorem d_Setter_setRow_19 : decode prog_11_method_4_code 19 = .ok (.getfield 28, 3) := by decide +kernel
theorem d_Setter_setRow_22 : decode prog_11_method_4_code 22 = .ok (.putfield 37, 3) := by decide +kernel
theorem b_Setter_setRow_25 : tf_dec prog_11_method_4_code 25 [(.aload_n 0, 1), (.iconst 0, 1)] = true := by decide +kernel
theorem d_Setter_setRow_27 : decode prog_11_method_4_code 27 = .ok (.putfield 28, 3) := by decide +kernel
theorem b_Setter_setRow_30 : tf_dec prog_11_method_4_code 30 [(.aload_n 0, 1), (.iconst 0, 1)] = true := by decide +kernel
theorem d_Setter_setRow_32 : decode prog_11_method_4_code 32 = .ok (.putfield 40, 3) := by decide +kernel
theorem b_Setter_setRow_35 : tf_dec prog_11_method_4_code 35 [(.iconst 0, 1), (.istore_n 1, 1)] = true := by decide +kernel
theorem b_Setter_setRow_37 : tf_dec prog_11_method_4_code 37 [(.iload_n 1, 1), (.bipush 8, 2)] = true := by decide +kernel
theorem d_Setter_setRow_40 : decode prog_11_method_4_code 40 = .ok (.if_icmp .ge 14, 3) := by decide +kernel
theorem b_Setter_setRow_43 : tf_dec prog_11_method_4_code 43 [(.aload_n 0, 1), (.iload_n 1, 1)] = true := by decide +kernel
theorem d_Setter_setRow_45 : decode prog_11_method_4_code 45 = .ok (.invokevirtual 43, 3) := by decide +kernel
theorem b_Setter_setRow_48 : tf_dec prog_11_method_4_code 48 [(.iinc 1 1, 3)] = true := by decide +kernel
theorem d_Setter_setRow_51 : decode prog_11_method_4_code 51 = .ok (.goto (-14), 3) := by decide +kernel
theorem b_Setter_setRow_54 : tf_dec prog_11_method_4_code 54 [(.aload_n 0, 1)] = true := by decide +kernel
theorem d_Setter_setRow_55 : decode prog_11_method_4_code 55 = .ok (.getfield 37, 3) := by decide +kernel
theorem d_Setter_setRow_58 : decode prog_11_method_4_code 58 = .ok (.ireturn, 1) := by decide +kernel
theorem b_Setter_run_0 : tf_dec prog_11_method_5_code 0 [(.iconst 0, 1), (.istore_n 2, 1)] = true := by decide +kernel
theorem b_Setter_run_2 : tf_dec prog_11_method_5_code 2 [(.iload_n 2, 1), (.aload_n 0, 1)] = true := by decide +kernel
theorem d_Setter_run_4 : decode prog_11_method_5_code 4 = .ok (.getfield 37, 3) := by decide +kernel
theorem d_Setter_run_7 : decode prog_11_method_5_code 7 = .ok (.if_icmp .ge 26, 3) := by decide +kernel
theorem b_Setter_run_10 : tf_dec prog_11_method_5_code 10 [(.aload_n 0, 1), (.iload_n 1, 1), (.iload_n 2, 1)] = true := by decide +kernel
theorem d_Setter_run_13 : decode prog_11_method_5_code 13 = .ok (.invokevirtual 47, 3) := by decide +kernel
theorem b_Setter_run_16 : tf_dec prog_11_method_5_code 16 [(.astore_n 3, 1), (.aload_n 3, 1)] = true := by decide +kernel
theorem d_Setter_run_18 : decode prog_11_method_5_code 18 = .ok (.ifnull 9, 3) := by decide +kernel
theorem b_Setter_run_21 : tf_dec prog_11_method_5_code 21 [(.aload_n 0, 1), (.aload_n 3, 1), (.iload_n 2, 1)] = true := by decide +kernel
theorem d_Setter_run_24 : decode prog_11_method_5_code 24 = .ok (.invokevirtual 51, 3) := by decide +kernel
theorem b_Setter_run_27 : tf_dec prog_11_method_5_code 27 [(.iinc 2 1, 3)] = true := by decide +kernel
theorem d_Setter_run_30 : decode prog_11_method_5_code 30 = .ok (.goto (-28), 3) := by decide +kernel
theorem d_Setter_run_33 : decode prog_11_method_5_code 33 = .ok (.return_, 1) := by decide +kernel
theorem b_Setter_bestAt_0 : tf_dec prog_11_method_6_code 0 [(.aconst_null, 1), (.astore_n 3, 1), (.iconst 0, 1), (.istore 4, 2)] = true := by decide +kernel
theorem b_Setter_bestAt_5 : tf_dec prog_11_method_6_code 5 [(.iload 4, 2), (.aload_n 0, 1)] = true := by decide +kernel
theorem d_Setter_bestAt_8 : decode prog_11_method_6_code 8 = .ok (.getfield 24, 3) := by decide +kernel
theorem d_Setter_bestAt_11 : decode prog_11_method_6_code 11 = .ok (.if_icmp .ge 61, 3) := by decide +kernel
theorem b_Setter_bestAt_14 : tf_dec prog_11_method_6_code 14 [(.aload_n 0, 1)] = true := by decide +kernel
theorem d_Setter_bestAt_15 : decode prog_11_method_6_code 15 = .ok (.getfield 20, 3) := by decide +kernel
theorem b_Setter_bestAt_18 : tf_dec prog_11_method_6_code 18 [(.iload 4, 2)] = true := by decide +kernel
theorem d_Setter_bestAt_20 : decode prog_11_method_6_code 20 = .ok (.aaload, 1) := by decide +kernel
theorem b_Setter_bestAt_21 : tf_dec prog_11_method_6_code 21 [(.astore 5, 2), (.aload 5, 2)] = true := by decide +kernel
theorem d_Setter_bestAt_25 : decode prog_11_method_6_code 25 = .ok (.ifnull 41, 3) := by decide +kernel
theorem b_Setter_bestAt_28 : tf_dec prog_11_method_6_code 28 [(.aload 5, 2)] = true := by decide +kernel
theorem d_Setter_bestAt_30 : decode prog_11_method_6_code 30 = .ok (.getfield 55, 3) := by decide +kernel
theorem b_Setter_bestAt_33 : tf_dec prog_11_method_6_code 33 [(.iload_n 1, 1)] = true := by decide +kernel
theorem d_Setter_bestAt_34 : decode prog_11_method_6_code 34 = .ok (.if_icmp .ne 32, 3) := by decide +kernel
theorem b_Setter_bestAt_37 : tf_dec prog_11_method_6_code 37 [(.aload 5, 2), (.aload_n 3, 1)] = true := by decide +kernel
theorem d_Setter_bestAt_40 : decode prog_11_method_6_code 40 = .ok (.invokevirtual 58, 3) := by decide +kernel
theorem d_Setter_bestAt_43 : decode prog_11_method_6_code 43 = .ok (.ifCond .eq 23, 3) := by decide +kernel
theorem b_Setter_bestAt_46 : tf_dec prog_11_method_6_code 46 [(.aload 5, 2), (.aload_n 0, 1)] = true := by decide +kernel
theorem d_Setter_bestAt_49 : decode prog_11_method_6_code 49 = .ok (.getfield 9, 3) := by decide +kernel
theorem b_Setter_bestAt_52 : tf_dec prog_11_method_6_code 52 [(.aload_n 0, 1)] = true := by decide +kernel
theorem d_Setter_bestAt_53 : decode prog_11_method_6_code 53 = .ok (.getfield 37, 3) := by decide +kernel
theorem b_Setter_bestAt_56 : tf_dec prog_11_method_6_code 56 [(.iload_n 2, 1)] = true := by decide +kernel
theorem d_Setter_bestAt_57 : decode prog_11_method_6_code 57 = .ok (.invokevirtual 62, 3) := by decide +kernel
theorem d_Setter_bestAt_60 : decode prog_11_method_6_code 60 = .ok (.ifCond .eq 6, 3) := by decide +kernel
theorem b_Setter_bestAt_63 : tf_dec prog_11_method_6_code 63 [(.aload 5, 2), (.astore_n 3, 1)] = true := by decide +kernel
theorem b_Setter_bestAt_66 : tf_dec prog_11_method_6_code 66 [(.iinc 4 1, 3)] = true := by decide +kernel
theorem d_Setter_bestAt_69 : decode prog_11_method_6_code 69 = .ok (.goto (-64), 3) := by decide +kernel
theorem b_Setter_bestAt_72 : tf_dec prog_11_method_6_code 72 [(.aload_n 3, 1)] = true := by decide +kernel
theorem d_Setter_bestAt_73 : decode prog_11_method_6_code 73 = .ok (.areturn, 1) := by decide +kernel
theorem b_Setter_put_0 : tf_dec prog_11_method_7_code 0 [(.iload_n 2, 1), (.aload_n 1, 1)] = true := by decide +kernel
theorem d_Setter_put_2 : decode prog_11_method_7_code 2 = .ok (.getfield 66, 3) := by decide +kernel
theorem b_Setter_put_5 : tf_dec prog_11_method_7_code 5 [(.iadd, 1), (.istore_n 3, 1), (.aload_n 0, 1)] = true := by decide +kernel
theorem d_Setter_put_8 : decode prog_11_method_7_code 8 = .ok (.getfield 9, 3) := by decide +kernel
theorem b_Setter_put_11 : tf_dec prog_11_method_7_code 11 [(.iload_n 2, 1), (.aload_n 1, 1)] = true := by decide +kernel
theorem d_Setter_put_13 : decode prog_11_method_7_code 13 = .ok (.getfield 69, 3) := by decide +kernel
theorem d_Setter_put_16 : decode prog_11_method_7_code 16 = .ok (.iastore, 1) := by decide +kernel
theorem b_Setter_put_17 : tf_dec prog_11_method_7_code 17 [(.aload_n 0, 1)] = true := by decide +kernel
theorem d_Setter_put_18 : decode prog_11_method_7_code 18 = .ok (.getfield 9, 3) := by decide +kernel
theorem b_Setter_put_21 : tf_dec prog_11_method_7_code 21 [(.iload_n 3, 1), (.aload_n 0, 1)] = true := by decide +kernel
theorem d_Setter_put_23 : decode prog_11_method_7_code 23 = .ok (.getfield 9, 3) := by decide +kernel
theorem b_Setter_put_26 : tf_dec prog_11_method_7_code 26 [(.iload_n 2, 1), (.iconst 1, 1), (.iadd, 1), (.aload_n 0, 1)] = true := by decide +kernel
theorem d_Setter_put_30 : decode prog_11_method_7_code 30 = .ok (.getfield 37, 3) := by decide +kernel
theorem b_Setter_put_33 : tf_dec prog_11_method_7_code 33 [(.iload_n 3, 1), (.isub, 1)] = true := by decide +kernel
theorem d_Setter_put_35 : decode prog_11_method_7_code 35 = .ok (.invokestatic 31, 3) := by decide +kernel
theorem b_Setter_put_38 : tf_dec prog_11_method_7_code 38 [(.aload_n 0, 1), (.dup, 1)] = true := by decide +kernel
theorem d_Setter_put_40 : decode prog_11_method_7_code 40 = .ok (.getfield 37, 3) := by decide +kernel
theorem b_Setter_put_43 : tf_dec prog_11_method_7_code 43 [(.aload_n 1, 1)] = true := by decide +kernel
theorem d_Setter_put_44 : decode prog_11_method_7_code 44 = .ok (.getfield 66, 3) := by decide +kernel
theorem b_Setter_put_47 : tf_dec prog_11_method_7_code 47 [(.iconst 1, 1), (.isub, 1), (.isub, 1)] = true := by decide +kernel
theorem d_Setter_put_50 : decode prog_11_method_7_code 50 = .ok (.putfield 37, 3) := by decide +kernel
theorem b_Setter_put_53 : tf_dec prog_11_method_7_code 53 [(.aload_n 0, 1), (.dup, 1)] = true := by decide +kernel
theorem d_Setter_put_55 : decode prog_11_method_7_code 55 = .ok (.getfield 40, 3) := by decide +kernel
theorem b_Setter_put_58 : tf_dec prog_11_method_7_code 58 [(.iconst 1, 1), (.iadd, 1)] = true := by decide +kernel
theorem d_Setter_put_60 : decode prog_11_method_7_code 60 = .ok (.putfield 40, 3) := by decide +kernel
theorem d_Setter_put_63 : decode prog_11_method_7_code 63 = .ok (.return_, 1) := by decide +kernel
end
section
theorem b_Mod_init_0 : tf_dec prog_13_method_1_code 0 [(.aload_n 0, 1)] = true := by decide +kernel
theorem d_Mod_init_1 : decode prog_13_method_1_code 1 = .ok (.invokespecial 1, 3) := by decide +kernel
theorem b_Mod_init_4 : tf_dec prog_13_method_1_code 4 [(.aload_n 0, 1), (.sipush 6400, 3)] = true := by decide +kernel
theorem d_Mod_init_8 : decode prog_13_method_1_code 8 = .ok (.newarray .int, 2) := by decide +kernel
theorem d_Mod_init_10 : decode prog_13_method_1_code 10 = .ok (.putfield 7, 3) := by decide +kernel
theorem b_Mod_init_13 : tf_dec prog_13_method_1_code 13 [(.aload_n 0, 1), (.sipush 1600, 3)] = true := by decide +kernel
theorem d_Mod_init_17 : decode prog_13_method_1_code 17 = .ok (.newarray .byte, 2) := by decide +kernel
theorem d_Mod_init_19 : decode prog_13_method_1_code 19 = .ok (.putfield 13, 3) := by decide +kernel
theorem b_Mod_init_22 : tf_dec prog_13_method_1_code 22 [(.aload_n 0, 1), (.bipush 40, 2)] = true := by decide +kernel
theorem d_Mod_init_25 : decode prog_13_method_1_code 25 = .ok (.newarray .int, 2) := by decide +kernel
theorem d_Mod_init_27 : decode prog_13_method_1_code 27 = .ok (.putfield 17, 3) := by decide +kernel
theorem b_Mod_init_30 : tf_dec prog_13_method_1_code 30 [(.aload_n 0, 1), (.bipush 40, 2)] = true := by decide +kernel
theorem d_Mod_init_33 : decode prog_13_method_1_code 33 = .ok (.newarray .int, 2) := by decide +kernel
theorem d_Mod_init_35 : decode prog_13_method_1_code 35 = .ok (.putfield 20, 3) := by decide +kernel
theorem b_Mod_init_38 : tf_dec prog_13_method_1_code 38 [(.aload_n 0, 1), (.bipush 40, 2)] = true := by decide +kernel
theorem d_Mod_init_41 : decode prog_13_method_1_code 41 = .ok (.newarray .int, 2) := by decide +kernel
theorem d_Mod_init_43 : decode prog_13_method_1_code 43 = .ok (.putfield 23, 3) := by decide +kernel
theorem b_Mod_init_46 : tf_dec prog_13_method_1_code 46 [(.aload_n 0, 1), (.sipush 160, 3)] = true := by decide +kernel
theorem d_Mod_init_50 : decode prog_13_method_1_code 50 = .ok (.newarray .int, 2) := by decide +kernel
theorem d_Mod_init_52 : decode prog_13_method_1_code 52 = .ok (.putfield 26, 3) := by decide +kernel
theorem b_Mod_init_55 : tf_dec prog_13_method_1_code 55 [(.aload_n 0, 1), (.bipush 40, 2)] = true := by decide +kernel
theorem d_Mod_init_58 : decode prog_13_method_1_code 58 = .ok (.newarray .boolean, 2) := by decide +kernel
theorem d_Mod_init_60 : decode prog_13_method_1_code 60 = .ok (.putfield 29, 3) := by decide +kernel
theorem b_Mod_init_63 : tf_dec prog_13_method_1_code 63 [(.aload_n 0, 1), (.bipush 40, 2)] = true := by decide +kernel
theorem d_Mod_init_66 : decode prog_13_method_1_code 66 = .ok (.newarray .int, 2) := by decide +kernel
theorem d_Mod_init_68 : decode prog_13_method_1_code 68 = .ok (.putfield 33, 3) := by decide +kernel
theorem b_Mod_init_71 : tf_dec prog_13_method_1_code 71 [(.aload_n 0, 1), (.bipush 40, 2)] = true := by decide +kernel
theorem d_Mod_init_74 : decode prog_13_method_1_code 74 = .ok (.newarray .int, 2) := by decide +kernel
theorem d_Mod_init_76 : decode prog_13_method_1_code 76 = .ok (.putfield 36, 3) := by decide +kernel
theorem b_Mod_init_79 : tf_dec prog_13_method_1_code 79 [(.aload_n 0, 1), (.bipush 40, 2)] = true := by decide +kernel
theorem d_Mod_init_82 : decode prog_13_method_1_code 82 = .ok (.newarray .int, 2) := by decide +kernel
theorem d_Mod_init_84 : decode prog_13_method_1_code 84 = .ok (.putfield 39, 3) := by decide +kernel
theorem b_Mod_init_87 : tf_dec prog_13_method_1_code 87 [(.aload_n 0, 1), (.sipush 160, 3)] = true := by decide +kernel
theorem d_Mod_init_91 : decode prog_13_method_1_code 91 = .ok (.newarray .int, 2) := by decide +kernel
theorem d_Mod_init_93 : decode prog_13_method_1_code 93 = .ok (.putfield 42, 3) := by decide +kernel
theorem b_Mod_init_96 : tf_dec prog_13_method_1_code 96 [(.aload_n 0, 1), (.sipush 160, 3)] = true := by decide +kernel
theorem d_Mod_init_100 : decode prog_13_method_1_code 100 = .ok (.newarray .int, 2) := by decide +kernel
theorem d_Mod_init_102 : decode prog_13_method_1_code 102 = .ok (.putfield 45, 3) := by decide +kernel
theorem b_Mod_init_105 : tf_dec prog_13_method_1_code 105 [(.aload_n 0, 1), (.sipush 160, 3)] = true := by decide +kernel
theorem d_Mod_init_109 : decode prog_13_method_1_code 109 = .ok (.newarray .int, 2) := by decide +kernel
theorem d_Mod_init_111 : decode prog_13_method_1_code 111 = .ok (.putfield 48, 3) := by decide +kernel
theorem b_Mod_init_114 : tf_dec prog_13_method_1_code 114 [(.aload_n 0, 1), (.sipush 160, 3)] = true := by decide +kernel
theorem d_Mod_init_118 : decode prog_13_method_1_code 118 = .ok (.newarray .int, 2) := by decide +kernel
theorem d_Mod_init_120 : decode prog_13_method_1_code 120 = .ok (.putfield 51, 3) := by decide +kernel
theorem b_Mod_init_123 : tf_dec prog_13_method_1_code 123 [(.aload_n 0, 1), (.sipush 160, 3)] = true := by decide +kernel
theorem d_Mod_init_127 : decode prog_13_method_1_code 127 = .ok (.newarray .int, 2) := by decide +kernel
theorem d_Mod_init_129 : decode prog_13_method_1_code 129 = .ok (.putfield 54, 3) := by decide +kernel
theorem b_Mod_init_132 : tf_dec prog_13_method_1_code 132 [(.aload_n 0, 1), (.sipush 160, 3)] = true := by decide +kernel
theorem d_Mod_init_136 : decode prog_13_method_1_code 136 = .ok (.newarray .int, 2) := by decide +kernel
theorem d_Mod_init_138 : decode prog_13_method_1_code 138 = .ok (.putfield 57, 3) := by decide +kernel
theorem b_Mod_init_141 : tf_dec prog_13_method_1_code 141 [(.aload_n 0, 1), (.sipush 160, 3)] = true := by decide +kernel
theorem d_Mod_init_145 : decode prog_13_method_1_code 145 = .ok (.newarray .boolean, 2) := by decide +kernel
theorem d_Mod_init_147 : decode prog_13_method_1_code 147 = .ok (.putfield 60, 3) := by decide +kernel
theorem b_Mod_init_150 : tf_dec prog_13_method_1_code 150 [(.aload_n 0, 1), (.sipush 160, 3)] = true := by decide +kernel
theorem d_Mod_init_154 : decode prog_13_method_1_code 154 = .ok (.newarray .int, 2) := by decide +kernel
theorem d_Mod_init_156 : decode prog_13_method_1_code 156 = .ok (.putfield 63, 3) := by decide +kernel
theorem b_Mod_init_159 : tf_dec prog_13_method_1_code 159 [(.aload_n 0, 1), (.bipush 6, 2)] = true := by decide +kernel
theorem d_Mod_init_162 : decode prog_13_method_1_code 162 = .ok (.newarray .int, 2) := by decide +kernel
theorem d_Mod_init_164 : decode prog_13_method_1_code 164 = .ok (.putfield 66, 3) := by decide +kernel
theorem b_Mod_init_167 : tf_dec prog_13_method_1_code 167 [(.aload_n 0, 1), (.bipush 6, 2)] = true := by decide +kernel
theorem d_Mod_init_170 : decode prog_13_method_1_code 170 = .ok (.newarray .int, 2) := by decide +kernel
theorem d_Mod_init_172 : decode prog_13_method_1_code 172 = .ok (.putfield 69, 3) := by decide +kernel
theorem b_Mod_init_175 : tf_dec prog_13_method_1_code 175 [(.aload_n 0, 1), (.bipush 8, 2)] = true := by decide +kernel
theorem d_Mod_init_178 : decode prog_13_method_1_code 178 = .ok (.newarray .int, 2) := by decide +kernel
theorem d_Mod_init_180 : decode prog_13_method_1_code 180 = .ok (.putfield 72, 3) := by decide +kernel
theorem b_Mod_init_183 : tf_dec prog_13_method_1_code 183 [(.aload_n 0, 1), (.sipush 4096, 3)] = true := by decide +kernel
theorem d_Mod_init_187 : decode prog_13_method_1_code 187 = .ok (.newarray .int, 2) := by decide +kernel
theorem d_Mod_init_189 : decode prog_13_method_1_code 189 = .ok (.putfield 75, 3) := by decide +kernel
theorem b_Mod_init_192 : tf_dec prog_13_method_1_code 192 [(.aload_n 0, 1), (.bipush 40, 2)] = true := by decide +kernel
theorem d_Mod_init_195 : decode prog_13_method_1_code 195 = .ok (.newarray .byte, 2) := by decide +kernel
theorem d_Mod_init_197 : decode prog_13_method_1_code 197 = .ok (.putfield 78, 3) := by decide +kernel
theorem b_Mod_init_200 : tf_dec prog_13_method_1_code 200 [(.aload_n 0, 1), (.bipush 40, 2)] = true := by decide +kernel
theorem d_Mod_init_203 : decode prog_13_method_1_code 203 = .ok (.newarray .byte, 2) := by decide +kernel
theorem d_Mod_init_205 : decode prog_13_method_1_code 205 = .ok (.putfield 81, 3) := by decide +kernel
theorem b_Mod_init_208 : tf_dec prog_13_method_1_code 208 [(.aload_n 0, 1), (.sipush 256, 3)] = true := by decide +kernel
theorem d_Mod_init_212 : decode prog_13_method_1_code 212 = .ok (.newarray .short, 2) := by decide +kernel
theorem d_Mod_init_214 : decode prog_13_method_1_code 214 = .ok (.putfield 84, 3) := by decide +kernel
theorem b_Mod_init_217 : tf_dec prog_13_method_1_code 217 [(.aload_n 0, 1), (.sipush 256, 3)] = true := by decide +kernel
theorem d_Mod_init_221 : decode prog_13_method_1_code 221 = .ok (.newarray .boolean, 2) := by decide +kernel
theorem d_Mod_init_223 : decode prog_13_method_1_code 223 = .ok (.putfield 88, 3) := by decide +kernel
theorem b_Mod_init_226 : tf_dec prog_13_method_1_code 226 [(.aload_n 0, 1), (.bipush 40, 2)] = true := by decide +kernel
theorem d_Mod_init_229 : decode prog_13_method_1_code 229 = .ok (.newarray .int, 2) := by decide +kernel
theorem d_Mod_init_231 : decode prog_13_method_1_code 231 = .ok (.putfield 91, 3) := by decide +kernel
theorem b_Mod_init_234 : tf_dec prog_13_method_1_code 234 [(.aload_n 0, 1), (.bipush 40, 2)] = true := by decide +kernel
theorem d_Mod_init_237 : decode prog_13_method_1_code 237 = .ok (.newarray .int, 2) := by decide +kernel
theorem d_Mod_init_239 : decode prog_13_method_1_code 239 = .ok (.putfield 94, 3) := by decide +kernel
theorem b_Mod_init_242 : tf_dec prog_13_method_1_code 242 [(.aload_n 0, 1), (.bipush 40, 2)] = true := by decide +kernel
theorem d_Mod_init_245 : decode prog_13_method_1_code 245 = .ok (.newarray .int, 2) := by decide +kernel
theorem d_Mod_init_247 : decode prog_13_method_1_code 247 = .ok (.putfield 97, 3) := by decide +kernel
theorem b_Mod_init_250 : tf_dec prog_13_method_1_code 250 [(.aload_n 0, 1), (.bipush 40, 2)] = true := by decide +kernel
theorem d_Mod_init_253 : decode prog_13_method_1_code 253 = .ok (.newarray .int, 2) := by decide +kernel
theorem d_Mod_init_255 : decode prog_13_method_1_code 255 = .ok (.putfield 100, 3) := by decide +kernel
theorem b_Mod_init_258 : tf_dec prog_13_method_1_code 258 [(.aload_n 0, 1), (.bipush 40, 2)] = true := by decide +kernel
theorem d_Mod_init_261 : decode prog_13_method_1_code 261 = .ok (.newarray .int, 2) := by decide +kernel
theorem d_Mod_init_263 : decode prog_13_method_1_code 263 = .ok (.putfield 103, 3) := by decide +kernel
theorem b_Mod_init_266 : tf_dec prog_13_method_1_code 266 [(.aload_n 0, 1), (.bipush 40, 2)] = true := by decide +kernel
theorem d_Mod_init_269 : decode prog_13_method_1_code 269 = .ok (.newarray .long, 2) := by decide +kernel
theorem d_Mod_init_271 : decode prog_13_method_1_code 271 = .ok (.putfield 106, 3) := by decide +kernel
theorem b_Mod_init_274 : tf_dec prog_13_method_1_code 274 [(.aload_n 0, 1), (.bipush 40, 2)] = true := by decide +kernel
theorem d_Mod_init_277 : decode prog_13_method_1_code 277 = .ok (.newarray .int, 2) := by decide +kernel
theorem d_Mod_init_279 : decode prog_13_method_1_code 279 = .ok (.putfield 110, 3) := by decide +kernel
theorem b_Mod_init_282 : tf_dec prog_13_method_1_code 282 [(.aload_n 0, 1), (.bipush 60, 2)] = true := by decide +kernel
theorem d_Mod_init_285 : decode prog_13_method_1_code 285 = .ok (.newarray .int, 2) := by decide +kernel
theorem d_Mod_init_287 : decode prog_13_method_1_code 287 = .ok (.putfield 113, 3) := by decide +kernel
theorem b_Mod_init_290 : tf_dec prog_13_method_1_code 290 [(.aload_n 0, 1), (.bipush 60, 2)] = true := by decide +kernel
theorem d_Mod_init_293 : decode prog_13_method_1_code 293 = .ok (.newarray .int, 2) := by decide +kernel
theorem d_Mod_init_295 : decode prog_13_method_1_code 295 = .ok (.putfield 116, 3) := by decide +kernel
theorem b_Mod_init_298 : tf_dec prog_13_method_1_code 298 [(.aload_n 0, 1), (.iload_n 1, 1), (.iconst 2, 1)] = true := by decide +kernel
theorem d_Mod_init_301 : decode prog_13_method_1_code 301 = .ok (.if_icmp .eq 8, 3) := by decide +kernel
theorem b_Mod_init_304 : tf_dec prog_13_method_1_code 304 [(.iload_n 1, 1), (.iconst 4, 1)] = true := by decide +kernel
theorem d_Mod_init_306 : decode prog_13_method_1_code 306 = .ok (.if_icmp .ne 7, 3) := by decide +kernel
theorem b_Mod_init_309 : tf_dec prog_13_method_1_code 309 [(.iload_n 1, 1)] = true := by decide +kernel
theorem d_Mod_init_310 : decode prog_13_method_1_code 310 = .ok (.goto 4, 3) := by decide +kernel
theorem b_Mod_init_313 : tf_dec prog_13_method_1_code 313 [(.iconst 1, 1)] = true := by decide +kernel
theorem d_Mod_init_314 : decode prog_13_method_1_code 314 = .ok (.putfield 119, 3) := by decide +kernel
theorem d_Mod_init_317 : decode prog_13_method_1_code 317 = .ok (.return_, 1) := by decide +kernel
theorem b_Mod_thrown_0 : tf_dec prog_13_method_2_code 0 [(.aload_n 0, 1)] = true := by decide +kernel
theorem d_Mod_thrown_1 : decode prog_13_method_2_code 1 = .ok (.getfield 123, 3) := by decide +kernel
theorem d_Mod_thrown_4 : decode prog_13_method_2_code 4 = .ok (.ireturn, 1) := by decide +kernel
theorem b_Mod_floor_0 : tf_dec prog_13_method_3_code 0 [(.lload_n 0, 1), (.lload_n 2, 1)] = true := by decide +kernel
theorem d_Mod_floor_2 : decode prog_13_method_3_code 2 = .ok (.ldiv, 1) := by decide +kernel
theorem b_Mod_floor_3 : tf_dec prog_13_method_3_code 3 [(.lstore 4, 2), (.lload_n 0, 1), (.lload_n 2, 1)] = true := by decide +kernel
theorem d_Mod_floor_7 : decode prog_13_method_3_code 7 = .ok (.lrem, 1) := by decide +kernel
theorem b_Mod_floor_8 : tf_dec prog_13_method_3_code 8 [(.lconst 0, 1), (.lcmp, 1)] = true := by decide +kernel
theorem d_Mod_floor_10 : decode prog_13_method_3_code 10 = .ok (.ifCond .ge 10, 3) := by decide +kernel
theorem b_Mod_floor_13 : tf_dec prog_13_method_3_code 13 [(.lload 4, 2), (.lconst 1, 1), (.lsub, 1)] = true := by decide +kernel
theorem d_Mod_floor_17 : decode prog_13_method_3_code 17 = .ok (.goto 5, 3) := by decide +kernel
theorem b_Mod_floor_20 : tf_dec prog_13_method_3_code 20 [(.lload 4, 2)] = true := by decide +kernel
theorem d_Mod_floor_22 : decode prog_13_method_3_code 22 = .ok (.lreturn, 1) := by decide +kernel
theorem d_Mod_near_0 : decode prog_13_method_4_code 0 = .ok (.ldc2_w 126, 3) := by decide +kernel
theorem b_Mod_near_3 : tf_dec prog_13_method_4_code 3 [(.lload_n 0, 1), (.lmul, 1), (.lload_n 2, 1), (.ladd, 1)] = true := by decide +kernel
theorem d_Mod_near_7 : decode prog_13_method_4_code 7 = .ok (.ldc2_w 126, 3) := by decide +kernel
theorem b_Mod_near_10 : tf_dec prog_13_method_4_code 10 [(.lload_n 2, 1), (.lmul, 1)] = true := by decide +kernel
theorem d_Mod_near_12 : decode prog_13_method_4_code 12 = .ok (.invokestatic 128, 3) := by decide +kernel
theorem d_Mod_near_15 : decode prog_13_method_4_code 15 = .ok (.lreturn, 1) := by decide +kernel
theorem b_Mod_between_0 : tf_dec prog_13_method_5_code 0 [(.sipush 1024, 3), (.aload_n 0, 1)] = true := by decide +kernel
theorem d_Mod_between_4 : decode prog_13_method_5_code 4 = .ok (.getfield 132, 3) := by decide +kernel
theorem b_Mod_between_7 : tf_dec prog_13_method_5_code 7 [(.isub, 1), (.i2l, 1), (.lstore 5, 2), (.sipush 1024, 3), (.aload_n 0, 1)] = true := by decide +kernel
theorem d_Mod_between_15 : decode prog_13_method_5_code 15 = .ok (.getfield 135, 3) := by decide +kernel
theorem b_Mod_between_18 : tf_dec prog_13_method_5_code 18 [(.isub, 1), (.i2l, 1), (.lstore 7, 2), (.aload_n 0, 1)] = true := by decide +kernel
theorem d_Mod_between_23 : decode prog_13_method_5_code 23 = .ok (.getfield 119, 3) := by decide +kernel
theorem b_Mod_between_26 : tf_dec prog_13_method_5_code 26 [(.iconst 1, 1)] = true := by decide +kernel
theorem d_Mod_between_27 : decode prog_13_method_5_code 27 = .ok (.if_icmp .ne 5, 3) := by decide +kernel
theorem b_Mod_between_30 : tf_dec prog_13_method_5_code 30 [(.iload_n 1, 1)] = true := by decide +kernel
theorem d_Mod_between_31 : decode prog_13_method_5_code 31 = .ok (.ireturn, 1) := by decide +kernel
theorem b_Mod_between_32 : tf_dec prog_13_method_5_code 32 [(.aload_n 0, 1)] = true := by decide +kernel
theorem d_Mod_between_33 : decode prog_13_method_5_code 33 = .ok (.getfield 119, 3) := by decide +kernel
theorem b_Mod_between_36 : tf_dec prog_13_method_5_code 36 [(.iconst 2, 1)] = true := by decide +kernel
theorem d_Mod_between_37 : decode prog_13_method_5_code 37 = .ok (.if_icmp .ne 25, 3) := by decide +kernel
theorem b_Mod_between_40 : tf_dec prog_13_method_5_code 40 [(.iload_n 1, 1), (.i2l, 1), (.lload 5, 2), (.lmul, 1), (.iload_n 2, 1), (.i2l, 1), (.aload_n 0, 1)] = true := by decide +kernel
theorem d_Mod_between_48 : decode prog_13_method_5_code 48 = .ok (.getfield 132, 3) := by decide +kernel
theorem b_Mod_between_51 : tf_dec prog_13_method_5_code 51 [(.i2l, 1), (.lmul, 1), (.ladd, 1)] = true := by decide +kernel
theorem d_Mod_between_54 : decode prog_13_method_5_code 54 = .ok (.ldc2_w 138, 3) := by decide +kernel
theorem d_Mod_between_57 : decode prog_13_method_5_code 57 = .ok (.invokestatic 140, 3) := by decide +kernel
theorem b_Mod_between_60 : tf_dec prog_13_method_5_code 60 [(.l2i, 1)] = true := by decide +kernel
theorem d_Mod_between_61 : decode prog_13_method_5_code 61 = .ok (.ireturn, 1) := by decide +kernel
theorem b_Mod_between_62 : tf_dec prog_13_method_5_code 62 [(.iload_n 1, 1), (.i2l, 1), (.lload 5, 2), (.lmul, 1), (.lload 7, 2), (.lmul, 1), (.iload_n 2, 1), (.aload_n 0, 1)] = true := by decide +kernel
theorem d_Mod_between_72 : decode prog_13_method_5_code 72 = .ok (.getfield 132, 3) := by decide +kernel
theorem b_Mod_between_75 : tf_dec prog_13_method_5_code 75 [(.imul, 1), (.i2l, 1), (.lload 7, 2), (.lmul, 1), (.ladd, 1), (.iload_n 3, 1), (.i2l, 1), (.lload 5, 2), (.lmul, 1), (.aload_n 0, 1)] = true := by decide +kernel
theorem d_Mod_between_87 : decode prog_13_method_5_code 87 = .ok (.getfield 135, 3) := by decide +kernel
theorem b_Mod_between_90 : tf_dec prog_13_method_5_code 90 [(.i2l, 1), (.lmul, 1), (.ladd, 1), (.iload 4, 2), (.i2l, 1), (.aload_n 0, 1)] = true := by decide +kernel
theorem d_Mod_between_97 : decode prog_13_method_5_code 97 = .ok (.getfield 132, 3) := by decide +kernel
theorem b_Mod_between_100 : tf_dec prog_13_method_5_code 100 [(.i2l, 1), (.lmul, 1), (.aload_n 0, 1)] = true := by decide +kernel
theorem d_Mod_between_103 : decode prog_13_method_5_code 103 = .ok (.getfield 135, 3) := by decide +kernel
theorem b_Mod_between_106 : tf_dec prog_13_method_5_code 106 [(.i2l, 1), (.lmul, 1), (.ladd, 1)] = true := by decide +kernel
theorem d_Mod_between_109 : decode prog_13_method_5_code 109 = .ok (.ldc2_w 143, 3) := by decide +kernel
theorem d_Mod_between_112 : decode prog_13_method_5_code 112 = .ok (.invokestatic 140, 3) := by decide +kernel
theorem b_Mod_between_115 : tf_dec prog_13_method_5_code 115 [(.l2i, 1)] = true := by decide +kernel
theorem d_Mod_between_116 : decode prog_13_method_5_code 116 = .ok (.ireturn, 1) := by decide +kernel
theorem b_Mod_glyph_0 : tf_dec prog_13_method_6_code 0 [(.aload_n 0, 1), (.aload_n 0, 1)] = true := by decide +kernel
theorem d_Mod_glyph_2 : decode prog_13_method_6_code 2 = .ok (.getfield 145, 3) := by decide +kernel
theorem b_Mod_glyph_5 : tf_dec prog_13_method_6_code 5 [(.bipush 40, 2)] = true := by decide +kernel
theorem d_Mod_glyph_7 : decode prog_13_method_6_code 7 = .ok (.if_icmp .ne 7, 3) := by decide +kernel
theorem b_Mod_glyph_10 : tf_dec prog_13_method_6_code 10 [(.iconst 1, 1)] = true := by decide +kernel
theorem d_Mod_glyph_11 : decode prog_13_method_6_code 11 = .ok (.goto 4, 3) := by decide +kernel
theorem b_Mod_glyph_14 : tf_dec prog_13_method_6_code 14 [(.iconst 0, 1)] = true := by decide +kernel
theorem d_Mod_glyph_15 : decode prog_13_method_6_code 15 = .ok (.putfield 123, 3) := by decide +kernel
theorem b_Mod_glyph_18 : tf_dec prog_13_method_6_code 18 [(.aload_n 0, 1)] = true := by decide +kernel
theorem d_Mod_glyph_19 : decode prog_13_method_6_code 19 = .ok (.getfield 123, 3) := by decide +kernel
theorem d_Mod_glyph_22 : decode prog_13_method_6_code 22 = .ok (.ifCond .le 5, 3) := by decide +kernel
theorem b_Mod_glyph_25 : tf_dec prog_13_method_6_code 25 [(.iconst 0, 1)] = true := by decide +kernel
theorem d_Mod_glyph_26 : decode prog_13_method_6_code 26 = .ok (.ireturn, 1) := by decide +kernel
theorem b_Mod_glyph_27 : tf_dec prog_13_method_6_code 27 [(.aload_n 0, 1), (.dup, 1)] = true := by decide +kernel
theorem d_Mod_glyph_29 : decode prog_13_method_6_code 29 = .ok (.getfield 145, 3) := by decide +kernel
theorem b_Mod_glyph_32 : tf_dec prog_13_method_6_code 32 [(.iconst 1, 1), (.iadd, 1)] = true := by decide +kernel
theorem d_Mod_glyph_34 : decode prog_13_method_6_code 34 = .ok (.putfield 145, 3) := by decide +kernel
theorem b_Mod_glyph_37 : tf_dec prog_13_method_6_code 37 [(.aload_n 0, 1)] = true := by decide +kernel
theorem d_Mod_glyph_38 : decode prog_13_method_6_code 38 = .ok (.getfield 145, 3) := by decide +kernel
theorem b_Mod_glyph_41 : tf_dec prog_13_method_6_code 41 [(.iconst 1, 1), (.isub, 1)] = true := by decide +kernel
theorem d_Mod_glyph_43 : decode prog_13_method_6_code 43 = .ok (.ireturn, 1) := by decide +kernel
theorem b_Mod_isGlyph_0 : tf_dec prog_13_method_7_code 0 [(.iload_n 1, 1)] = true := by decide +kernel
theorem d_Mod_isGlyph_1 : decode prog_13_method_7_code 1 = .ok (.ifCond .lt 15, 3) := by decide +kernel
theorem b_Mod_isGlyph_4 : tf_dec prog_13_method_7_code 4 [(.iload_n 1, 1), (.aload_n 0, 1)] = true := by decide +kernel
theorem d_Mod_isGlyph_6 : decode prog_13_method_7_code 6 = .ok (.getfield 145, 3) := by decide +kernel
theorem d_Mod_isGlyph_9 : decode prog_13_method_7_code 9 = .ok (.if_icmp .ge 7, 3) := by decide +kernel
theorem b_Mod_isGlyph_12 : tf_dec prog_13_method_7_code 12 [(.iconst 1, 1)] = true := by decide +kernel
theorem d_Mod_isGlyph_13 : decode prog_13_method_7_code 13 = .ok (.goto 4, 3) := by decide +kernel
theorem b_Mod_isGlyph_16 : tf_dec prog_13_method_7_code 16 [(.iconst 0, 1)] = true := by decide +kernel
theorem d_Mod_isGlyph_17 : decode prog_13_method_7_code 17 = .ok (.ireturn, 1) := by decide +kernel
theorem b_Mod_isPlace_0 : tf_dec prog_13_method_8_code 0 [(.iload_n 0, 1), (.sipush (-2000), 3)] = true := by decide +kernel
theorem d_Mod_isPlace_4 : decode prog_13_method_8_code 4 = .ok (.if_icmp .lt 14, 3) := by decide +kernel
theorem b_Mod_isPlace_7 : tf_dec prog_13_method_8_code 7 [(.iload_n 0, 1), (.sipush 4000, 3)] = true := by decide +kernel
theorem d_Mod_isPlace_11 : decode prog_13_method_8_code 11 = .ok (.if_icmp .gt 7, 3) := by decide +kernel
theorem b_Mod_isPlace_14 : tf_dec prog_13_method_8_code 14 [(.iconst 1, 1)] = true := by decide +kernel
theorem d_Mod_isPlace_15 : decode prog_13_method_8_code 15 = .ok (.goto 4, 3) := by decide +kernel
theorem b_Mod_isPlace_18 : tf_dec prog_13_method_8_code 18 [(.iconst 0, 1)] = true := by decide +kernel
theorem d_Mod_isPlace_19 : decode prog_13_method_8_code 19 = .ok (.ireturn, 1) := by decide +kernel
theorem b_Mod_packed_0 : tf_dec prog_13_method_9_code 0 [(.iload_n 0, 1), (.sipush 8192, 3), (.iadd, 1), (.bipush 16, 2), (.ishl, 1), (.iload_n 1, 1), (.sipush 8192, 3), (.iadd, 1), (.ior, 1)] = true := by decide +kernel
theorem d_Mod_packed_14 : decode prog_13_method_9_code 14 = .ok (.ireturn, 1) := by decide +kernel
theorem b_Mod_point_0 : tf_dec prog_13_method_10_code 0 [(.aload_n 0, 1), (.aload_n 0, 1), (.iload_n 1, 1)] = true := by decide +kernel
theorem d_Mod_point_3 : decode prog_13_method_10_code 3 = .ok (.invokevirtual 148, 3) := by decide +kernel
theorem d_Mod_point_6 : decode prog_13_method_10_code 6 = .ok (.ifCond .eq 17, 3) := by decide +kernel
theorem b_Mod_point_9 : tf_dec prog_13_method_10_code 9 [(.iload_n 2, 1)] = true := by decide +kernel
theorem d_Mod_point_10 : decode prog_13_method_10_code 10 = .ok (.invokestatic 152, 3) := by decide +kernel
theorem d_Mod_point_13 : decode prog_13_method_10_code 13 = .ok (.ifCond .eq 10, 3) := by decide +kernel
theorem b_Mod_point_16 : tf_dec prog_13_method_10_code 16 [(.iload_n 3, 1)] = true := by decide +kernel
theorem d_Mod_point_17 : decode prog_13_method_10_code 17 = .ok (.invokestatic 152, 3) := by decide +kernel
theorem d_Mod_point_20 : decode prog_13_method_10_code 20 = .ok (.ifCond .ne 7, 3) := by decide +kernel
theorem b_Mod_point_23 : tf_dec prog_13_method_10_code 23 [(.iconst 1, 1)] = true := by decide +kernel
theorem d_Mod_point_24 : decode prog_13_method_10_code 24 = .ok (.goto 28, 3) := by decide +kernel
theorem b_Mod_point_27 : tf_dec prog_13_method_10_code 27 [(.aload_n 0, 1)] = true := by decide +kernel
theorem d_Mod_point_28 : decode prog_13_method_10_code 28 = .ok (.getfield 29, 3) := by decide +kernel
theorem b_Mod_point_31 : tf_dec prog_13_method_10_code 31 [(.iload_n 1, 1)] = true := by decide +kernel
theorem d_Mod_point_32 : decode prog_13_method_10_code 32 = .ok (.baload, 1) := by decide +kernel
theorem d_Mod_point_33 : decode prog_13_method_10_code 33 = .ok (.ifCond .ne 14, 3) := by decide +kernel
theorem b_Mod_point_36 : tf_dec prog_13_method_10_code 36 [(.aload_n 0, 1)] = true := by decide +kernel
theorem d_Mod_point_37 : decode prog_13_method_10_code 37 = .ok (.getfield 17, 3) := by decide +kernel
theorem b_Mod_point_40 : tf_dec prog_13_method_10_code 40 [(.iload_n 1, 1)] = true := by decide +kernel
theorem d_Mod_point_41 : decode prog_13_method_10_code 41 = .ok (.iaload, 1) := by decide +kernel
theorem b_Mod_point_42 : tf_dec prog_13_method_10_code 42 [(.bipush 40, 2)] = true := by decide +kernel
theorem d_Mod_point_44 : decode prog_13_method_10_code 44 = .ok (.if_icmp .ne 7, 3) := by decide +kernel
theorem b_Mod_point_47 : tf_dec prog_13_method_10_code 47 [(.iconst 2, 1)] = true := by decide +kernel
theorem d_Mod_point_48 : decode prog_13_method_10_code 48 = .ok (.goto 4, 3) := by decide +kernel
theorem b_Mod_point_51 : tf_dec prog_13_method_10_code 51 [(.iconst 0, 1)] = true := by decide +kernel
theorem d_Mod_point_52 : decode prog_13_method_10_code 52 = .ok (.putfield 123, 3) := by decide +kernel
theorem b_Mod_point_55 : tf_dec prog_13_method_10_code 55 [(.aload_n 0, 1)] = true := by decide +kernel
theorem d_Mod_point_56 : decode prog_13_method_10_code 56 = .ok (.getfield 123, 3) := by decide +kernel
theorem d_Mod_point_59 : decode prog_13_method_10_code 59 = .ok (.ifCond .le 5, 3) := by decide +kernel
theorem b_Mod_point_62 : tf_dec prog_13_method_10_code 62 [(.iconst 0, 1)] = true := by decide +kernel
theorem d_Mod_point_63 : decode prog_13_method_10_code 63 = .ok (.ireturn, 1) := by decide +kernel
theorem b_Mod_point_64 : tf_dec prog_13_method_10_code 64 [(.bipush 40, 2), (.iload_n 1, 1), (.imul, 1), (.aload_n 0, 1)] = true := by decide +kernel
theorem d_Mod_point_69 : decode prog_13_method_10_code 69 = .ok (.getfield 17, 3) := by decide +kernel
theorem b_Mod_point_72 : tf_dec prog_13_method_10_code 72 [(.iload_n 1, 1)] = true := by decide +kernel
theorem d_Mod_point_73 : decode prog_13_method_10_code 73 = .ok (.iaload, 1) := by decide +kernel
theorem b_Mod_point_74 : tf_dec prog_13_method_10_code 74 [(.iadd, 1), (.istore 5, 2), (.iconst 0, 1), (.istore 6, 2)] = true := by decide +kernel
theorem b_Mod_point_80 : tf_dec prog_13_method_10_code 80 [(.iload 6, 2), (.iconst 4, 1)] = true := by decide +kernel
theorem d_Mod_point_83 : decode prog_13_method_10_code 83 = .ok (.if_icmp .ge 26, 3) := by decide +kernel
theorem b_Mod_point_86 : tf_dec prog_13_method_10_code 86 [(.aload_n 0, 1)] = true := by decide +kernel
theorem d_Mod_point_87 : decode prog_13_method_10_code 87 = .ok (.getfield 7, 3) := by decide +kernel
theorem b_Mod_point_90 : tf_dec prog_13_method_10_code 90 [(.iconst 4, 1), (.iload 5, 2), (.imul, 1), (.iload 6, 2), (.iadd, 1), (.iload_n 2, 1), (.iload_n 3, 1)] = true := by decide +kernel
theorem d_Mod_point_99 : decode prog_13_method_10_code 99 = .ok (.invokestatic 155, 3) := by decide +kernel
theorem d_Mod_point_102 : decode prog_13_method_10_code 102 = .ok (.iastore, 1) := by decide +kernel
theorem b_Mod_point_103 : tf_dec prog_13_method_10_code 103 [(.iinc 6 1, 3)] = true := by decide +kernel
theorem d_Mod_point_106 : decode prog_13_method_10_code 106 = .ok (.goto (-26), 3) := by decide +kernel
theorem b_Mod_point_109 : tf_dec prog_13_method_10_code 109 [(.aload_n 0, 1)] = true := by decide +kernel
theorem d_Mod_point_110 : decode prog_13_method_10_code 110 = .ok (.getfield 13, 3) := by decide +kernel
theorem b_Mod_point_113 : tf_dec prog_13_method_10_code 113 [(.iload 5, 2), (.iconst 2, 1), (.aload_n 0, 1)] = true := by decide +kernel
theorem d_Mod_point_117 : decode prog_13_method_10_code 117 = .ok (.getfield 23, 3) := by decide +kernel
theorem b_Mod_point_120 : tf_dec prog_13_method_10_code 120 [(.iload_n 1, 1)] = true := by decide +kernel
theorem d_Mod_point_121 : decode prog_13_method_10_code 121 = .ok (.iaload, 1) := by decide +kernel
theorem b_Mod_point_122 : tf_dec prog_13_method_10_code 122 [(.imul, 1), (.iload 4, 2)] = true := by decide +kernel
theorem d_Mod_point_125 : decode prog_13_method_10_code 125 = .ok (.ifCond .eq 7, 3) := by decide +kernel
theorem b_Mod_point_128 : tf_dec prog_13_method_10_code 128 [(.iconst 1, 1)] = true := by decide +kernel
theorem d_Mod_point_129 : decode prog_13_method_10_code 129 = .ok (.goto 4, 3) := by decide +kernel
theorem b_Mod_point_132 : tf_dec prog_13_method_10_code 132 [(.iconst 0, 1)] = true := by decide +kernel
theorem b_Mod_point_133 : tf_dec prog_13_method_10_code 133 [(.iadd, 1), (.i2b, 1)] = true := by decide +kernel
theorem d_Mod_point_135 : decode prog_13_method_10_code 135 = .ok (.bastore, 1) := by decide +kernel
theorem b_Mod_point_136 : tf_dec prog_13_method_10_code 136 [(.aload_n 0, 1)] = true := by decide +kernel
theorem d_Mod_point_137 : decode prog_13_method_10_code 137 = .ok (.getfield 17, 3) := by decide +kernel
theorem b_Mod_point_140 : tf_dec prog_13_method_10_code 140 [(.iload_n 1, 1), (.dup2, 1)] = true := by decide +kernel
theorem d_Mod_point_142 : decode prog_13_method_10_code 142 = .ok (.iaload, 1) := by decide +kernel
theorem b_Mod_point_143 : tf_dec prog_13_method_10_code 143 [(.iconst 1, 1), (.iadd, 1)] = true := by decide +kernel
theorem d_Mod_point_145 : decode prog_13_method_10_code 145 = .ok (.iastore, 1) := by decide +kernel
theorem b_Mod_point_146 : tf_dec prog_13_method_10_code 146 [(.aload_n 0, 1)] = true := by decide +kernel
theorem d_Mod_point_147 : decode prog_13_method_10_code 147 = .ok (.getfield 17, 3) := by decide +kernel
theorem b_Mod_point_150 : tf_dec prog_13_method_10_code 150 [(.iload_n 1, 1)] = true := by decide +kernel
theorem d_Mod_point_151 : decode prog_13_method_10_code 151 = .ok (.iaload, 1) := by decide +kernel
theorem b_Mod_point_152 : tf_dec prog_13_method_10_code 152 [(.iconst 1, 1), (.isub, 1)] = true := by decide +kernel
theorem d_Mod_point_154 : decode prog_13_method_10_code 154 = .ok (.ireturn, 1) := by decide +kernel
theorem b_Mod_close_0 : tf_dec prog_13_method_11_code 0 [(.aload_n 0, 1), (.iconst 0, 1)] = true := by decide +kernel
theorem d_Mod_close_2 : decode prog_13_method_11_code 2 = .ok (.putfield 123, 3) := by decide +kernel
theorem b_Mod_close_5 : tf_dec prog_13_method_11_code 5 [(.aload_n 0, 1), (.iload_n 1, 1)] = true := by decide +kernel
theorem d_Mod_close_7 : decode prog_13_method_11_code 7 = .ok (.invokevirtual 148, 3) := by decide +kernel
theorem d_Mod_close_10 : decode prog_13_method_11_code 10 = .ok (.ifCond .eq 29, 3) := by decide +kernel
theorem b_Mod_close_13 : tf_dec prog_13_method_11_code 13 [(.aload_n 0, 1)] = true := by decide +kernel
theorem d_Mod_close_14 : decode prog_13_method_11_code 14 = .ok (.getfield 29, 3) := by decide +kernel
theorem b_Mod_close_17 : tf_dec prog_13_method_11_code 17 [(.iload_n 1, 1)] = true := by decide +kernel
theorem d_Mod_close_18 : decode prog_13_method_11_code 18 = .ok (.baload, 1) := by decide +kernel
theorem d_Mod_close_19 : decode prog_13_method_11_code 19 = .ok (.ifCond .ne 20, 3) := by decide +kernel
theorem b_Mod_close_22 : tf_dec prog_13_method_11_code 22 [(.aload_n 0, 1)] = true := by decide +kernel
theorem d_Mod_close_23 : decode prog_13_method_11_code 23 = .ok (.getfield 17, 3) := by decide +kernel
theorem b_Mod_close_26 : tf_dec prog_13_method_11_code 26 [(.iload_n 1, 1)] = true := by decide +kernel
theorem d_Mod_close_27 : decode prog_13_method_11_code 27 = .ok (.iaload, 1) := by decide +kernel
theorem b_Mod_close_28 : tf_dec prog_13_method_11_code 28 [(.aload_n 0, 1)] = true := by decide +kernel
theorem d_Mod_close_29 : decode prog_13_method_11_code 29 = .ok (.getfield 20, 3) := by decide +kernel
theorem b_Mod_close_32 : tf_dec prog_13_method_11_code 32 [(.iload_n 1, 1)] = true := by decide +kernel
theorem d_Mod_close_33 : decode prog_13_method_11_code 33 = .ok (.iaload, 1) := by decide +kernel
theorem b_Mod_close_34 : tf_dec prog_13_method_11_code 34 [(.isub, 1), (.iconst 3, 1)] = true := by decide +kernel
theorem d_Mod_close_36 : decode prog_13_method_11_code 36 = .ok (.if_icmp .ge 5, 3) := by decide +kernel
theorem b_Mod_close_39 : tf_dec prog_13_method_11_code 39 [(.iconst 0, 1)] = true := by decide +kernel
theorem d_Mod_close_40 : decode prog_13_method_11_code 40 = .ok (.ireturn, 1) := by decide +kernel
theorem b_Mod_close_41 : tf_dec prog_13_method_11_code 41 [(.aload_n 0, 1)] = true := by decide +kernel
theorem d_Mod_close_42 : decode prog_13_method_11_code 42 = .ok (.getfield 36, 3) := by decide +kernel
theorem b_Mod_close_45 : tf_dec prog_13_method_11_code 45 [(.iload_n 1, 1), (.dup2, 1)] = true := by decide +kernel
theorem d_Mod_close_47 : decode prog_13_method_11_code 47 = .ok (.iaload, 1) := by decide +kernel
theorem b_Mod_close_48 : tf_dec prog_13_method_11_code 48 [(.aload_n 0, 1)] = true := by decide +kernel
theorem d_Mod_close_49 : decode prog_13_method_11_code 49 = .ok (.getfield 17, 3) := by decide +kernel
theorem b_Mod_close_52 : tf_dec prog_13_method_11_code 52 [(.iload_n 1, 1)] = true := by decide +kernel
theorem d_Mod_close_53 : decode prog_13_method_11_code 53 = .ok (.iaload, 1) := by decide +kernel
theorem b_Mod_close_54 : tf_dec prog_13_method_11_code 54 [(.aload_n 0, 1)] = true := by decide +kernel
theorem d_Mod_close_55 : decode prog_13_method_11_code 55 = .ok (.getfield 20, 3) := by decide +kernel
theorem b_Mod_close_58 : tf_dec prog_13_method_11_code 58 [(.iload_n 1, 1)] = true := by decide +kernel
theorem d_Mod_close_59 : decode prog_13_method_11_code 59 = .ok (.iaload, 1) := by decide +kernel
theorem b_Mod_close_60 : tf_dec prog_13_method_11_code 60 [(.isub, 1), (.iadd, 1)] = true := by decide +kernel
theorem d_Mod_close_62 : decode prog_13_method_11_code 62 = .ok (.iastore, 1) := by decide +kernel
theorem b_Mod_close_63 : tf_dec prog_13_method_11_code 63 [(.aload_n 0, 1)] = true := by decide +kernel
theorem d_Mod_close_64 : decode prog_13_method_11_code 64 = .ok (.getfield 20, 3) := by decide +kernel
theorem b_Mod_close_67 : tf_dec prog_13_method_11_code 67 [(.iload_n 1, 1), (.aload_n 0, 1)] = true := by decide +kernel
theorem d_Mod_close_69 : decode prog_13_method_11_code 69 = .ok (.getfield 17, 3) := by decide +kernel
theorem b_Mod_close_72 : tf_dec prog_13_method_11_code 72 [(.iload_n 1, 1)] = true := by decide +kernel
theorem d_Mod_close_73 : decode prog_13_method_11_code 73 = .ok (.iaload, 1) := by decide +kernel
theorem d_Mod_close_74 : decode prog_13_method_11_code 74 = .ok (.iastore, 1) := by decide +kernel
theorem b_Mod_close_75 : tf_dec prog_13_method_11_code 75 [(.aload_n 0, 1)] = true := by decide +kernel
theorem d_Mod_close_76 : decode prog_13_method_11_code 76 = .ok (.getfield 23, 3) := by decide +kernel
theorem b_Mod_close_79 : tf_dec prog_13_method_11_code 79 [(.iload_n 1, 1), (.dup2, 1)] = true := by decide +kernel
theorem d_Mod_close_81 : decode prog_13_method_11_code 81 = .ok (.iaload, 1) := by decide +kernel
theorem b_Mod_close_82 : tf_dec prog_13_method_11_code 82 [(.iconst 1, 1), (.iadd, 1)] = true := by decide +kernel
theorem d_Mod_close_84 : decode prog_13_method_11_code 84 = .ok (.iastore, 1) := by decide +kernel
theorem b_Mod_close_85 : tf_dec prog_13_method_11_code 85 [(.iconst 1, 1)] = true := by decide +kernel
theorem d_Mod_close_86 : decode prog_13_method_11_code 86 = .ok (.ireturn, 1) := by decide +kernel
theorem b_Mod_place_0 : tf_dec prog_13_method_12_code 0 [(.aload_n 0, 1), (.iload_n 1, 1)] = true := by decide +kernel
theorem d_Mod_place_2 : decode prog_13_method_12_code 2 = .ok (.invokevirtual 148, 3) := by decide +kernel
theorem d_Mod_place_5 : decode prog_13_method_12_code 5 = .ok (.ifCond .eq 23, 3) := by decide +kernel
theorem b_Mod_place_8 : tf_dec prog_13_method_12_code 8 [(.iload_n 2, 1)] = true := by decide +kernel
theorem d_Mod_place_9 : decode prog_13_method_12_code 9 = .ok (.ifCond .lt 19, 3) := by decide +kernel
theorem b_Mod_place_12 : tf_dec prog_13_method_12_code 12 [(.iload_n 3, 1)] = true := by decide +kernel
theorem d_Mod_place_13 : decode prog_13_method_12_code 13 = .ok (.ifCond .lt 15, 3) := by decide +kernel
theorem b_Mod_place_16 : tf_dec prog_13_method_12_code 16 [(.iload_n 3, 1), (.aload_n 0, 1)] = true := by decide +kernel
theorem d_Mod_place_18 : decode prog_13_method_12_code 18 = .ok (.getfield 119, 3) := by decide +kernel
theorem d_Mod_place_21 : decode prog_13_method_12_code 21 = .ok (.if_icmp .ge 7, 3) := by decide +kernel
theorem b_Mod_place_24 : tf_dec prog_13_method_12_code 24 [(.iconst 1, 1)] = true := by decide +kernel
theorem d_Mod_place_25 : decode prog_13_method_12_code 25 = .ok (.goto 4, 3) := by decide +kernel
theorem b_Mod_place_28 : tf_dec prog_13_method_12_code 28 [(.iconst 0, 1)] = true := by decide +kernel
theorem b_Mod_place_29 : tf_dec prog_13_method_12_code 29 [(.istore 6, 2), (.aload_n 0, 1), (.iload 6, 2)] = true := by decide +kernel
theorem d_Mod_place_34 : decode prog_13_method_12_code 34 = .ok (.ifCond .eq 13, 3) := by decide +kernel
theorem b_Mod_place_37 : tf_dec prog_13_method_12_code 37 [(.iload_n 2, 1), (.aload_n 0, 1)] = true := by decide +kernel
theorem d_Mod_place_39 : decode prog_13_method_12_code 39 = .ok (.getfield 17, 3) := by decide +kernel
theorem b_Mod_place_42 : tf_dec prog_13_method_12_code 42 [(.iload_n 1, 1)] = true := by decide +kernel
theorem d_Mod_place_43 : decode prog_13_method_12_code 43 = .ok (.iaload, 1) := by decide +kernel
theorem d_Mod_place_44 : decode prog_13_method_12_code 44 = .ok (.if_icmp .lt 7, 3) := by decide +kernel
theorem b_Mod_place_47 : tf_dec prog_13_method_12_code 47 [(.iconst 1, 1)] = true := by decide +kernel
theorem d_Mod_place_48 : decode prog_13_method_12_code 48 = .ok (.goto 24, 3) := by decide +kernel
theorem b_Mod_place_51 : tf_dec prog_13_method_12_code 51 [(.iload 4, 2)] = true := by decide +kernel
theorem d_Mod_place_53 : decode prog_13_method_12_code 53 = .ok (.invokestatic 152, 3) := by decide +kernel
theorem d_Mod_place_56 : decode prog_13_method_12_code 56 = .ok (.ifCond .eq 11, 3) := by decide +kernel
theorem b_Mod_place_59 : tf_dec prog_13_method_12_code 59 [(.iload 5, 2)] = true := by decide +kernel
theorem d_Mod_place_61 : decode prog_13_method_12_code 61 = .ok (.invokestatic 152, 3) := by decide +kernel
theorem d_Mod_place_64 : decode prog_13_method_12_code 64 = .ok (.ifCond .ne 7, 3) := by decide +kernel
theorem b_Mod_place_67 : tf_dec prog_13_method_12_code 67 [(.iconst 2, 1)] = true := by decide +kernel
theorem d_Mod_place_68 : decode prog_13_method_12_code 68 = .ok (.goto 4, 3) := by decide +kernel
theorem b_Mod_place_71 : tf_dec prog_13_method_12_code 71 [(.iconst 0, 1)] = true := by decide +kernel
theorem d_Mod_place_72 : decode prog_13_method_12_code 72 = .ok (.putfield 123, 3) := by decide +kernel
theorem b_Mod_place_75 : tf_dec prog_13_method_12_code 75 [(.aload_n 0, 1)] = true := by decide +kernel
theorem d_Mod_place_76 : decode prog_13_method_12_code 76 = .ok (.getfield 123, 3) := by decide +kernel
theorem d_Mod_place_79 : decode prog_13_method_12_code 79 = .ok (.ifCond .ne 26, 3) := by decide +kernel
theorem b_Mod_place_82 : tf_dec prog_13_method_12_code 82 [(.aload_n 0, 1)] = true := by decide +kernel
theorem d_Mod_place_83 : decode prog_13_method_12_code 83 = .ok (.getfield 7, 3) := by decide +kernel
theorem b_Mod_place_86 : tf_dec prog_13_method_12_code 86 [(.sipush 160, 3), (.iload_n 1, 1), (.imul, 1), (.iconst 4, 1), (.iload_n 2, 1), (.imul, 1), (.iadd, 1), (.iload_n 3, 1), (.iadd, 1), (.iload 4, 2), (.iload 5, 2)] = true := by decide +kernel
theorem d_Mod_place_101 : decode prog_13_method_12_code 101 = .ok (.invokestatic 155, 3) := by decide +kernel
theorem d_Mod_place_104 : decode prog_13_method_12_code 104 = .ok (.iastore, 1) := by decide +kernel
theorem d_Mod_place_105 : decode prog_13_method_12_code 105 = .ok (.return_, 1) := by decide +kernel
theorem b_Mod_isShift_0 : tf_dec prog_13_method_13_code 0 [(.iload_n 0, 1), (.sipush (-4000), 3)] = true := by decide +kernel
theorem d_Mod_isShift_4 : decode prog_13_method_13_code 4 = .ok (.if_icmp .lt 14, 3) := by decide +kernel
theorem b_Mod_isShift_7 : tf_dec prog_13_method_13_code 7 [(.iload_n 0, 1), (.sipush 4000, 3)] = true := by decide +kernel
theorem d_Mod_isShift_11 : decode prog_13_method_13_code 11 = .ok (.if_icmp .gt 7, 3) := by decide +kernel
theorem b_Mod_isShift_14 : tf_dec prog_13_method_13_code 14 [(.iconst 1, 1)] = true := by decide +kernel
theorem d_Mod_isShift_15 : decode prog_13_method_13_code 15 = .ok (.goto 4, 3) := by decide +kernel
theorem b_Mod_isShift_18 : tf_dec prog_13_method_13_code 18 [(.iconst 0, 1)] = true := by decide +kernel
theorem d_Mod_isShift_19 : decode prog_13_method_13_code 19 = .ok (.ireturn, 1) := by decide +kernel
theorem b_Mod_componentPoints_0 : tf_dec prog_13_method_14_code 0 [(.iconst 0, 1), (.istore_n 2, 1), (.iconst 0, 1), (.istore_n 3, 1)] = true := by decide +kernel
theorem b_Mod_componentPoints_4 : tf_dec prog_13_method_14_code 4 [(.iload_n 3, 1), (.aload_n 0, 1)] = true := by decide +kernel
theorem d_Mod_componentPoints_6 : decode prog_13_method_14_code 6 = .ok (.getfield 39, 3) := by decide +kernel
theorem b_Mod_componentPoints_9 : tf_dec prog_13_method_14_code 9 [(.iload_n 1, 1)] = true := by decide +kernel
theorem d_Mod_componentPoints_10 : decode prog_13_method_14_code 10 = .ok (.iaload, 1) := by decide +kernel
theorem d_Mod_componentPoints_11 : decode prog_13_method_14_code 11 = .ok (.if_icmp .ge 27, 3) := by decide +kernel
theorem b_Mod_componentPoints_14 : tf_dec prog_13_method_14_code 14 [(.iload_n 2, 1), (.aload_n 0, 1)] = true := by decide +kernel
theorem d_Mod_componentPoints_16 : decode prog_13_method_14_code 16 = .ok (.getfield 36, 3) := by decide +kernel
theorem b_Mod_componentPoints_19 : tf_dec prog_13_method_14_code 19 [(.aload_n 0, 1)] = true := by decide +kernel
theorem d_Mod_componentPoints_20 : decode prog_13_method_14_code 20 = .ok (.getfield 42, 3) := by decide +kernel
theorem b_Mod_componentPoints_23 : tf_dec prog_13_method_14_code 23 [(.iconst 4, 1), (.iload_n 1, 1), (.imul, 1), (.iload_n 3, 1), (.iadd, 1)] = true := by decide +kernel
theorem d_Mod_componentPoints_28 : decode prog_13_method_14_code 28 = .ok (.iaload, 1) := by decide +kernel
theorem d_Mod_componentPoints_29 : decode prog_13_method_14_code 29 = .ok (.iaload, 1) := by decide +kernel
theorem b_Mod_componentPoints_30 : tf_dec prog_13_method_14_code 30 [(.iadd, 1), (.istore_n 2, 1), (.iinc 3 1, 3)] = true := by decide +kernel
theorem d_Mod_componentPoints_35 : decode prog_13_method_14_code 35 = .ok (.goto (-31), 3) := by decide +kernel
theorem b_Mod_componentPoints_38 : tf_dec prog_13_method_14_code 38 [(.iload_n 2, 1)] = true := by decide +kernel
theorem d_Mod_componentPoints_39 : decode prog_13_method_14_code 39 = .ok (.ireturn, 1) := by decide +kernel
theorem b_Mod_component_0 : tf_dec prog_13_method_15_code 0 [(.aload_n 0, 1), (.iload_n 1, 1)] = true := by decide +kernel
theorem d_Mod_component_2 : decode prog_13_method_15_code 2 = .ok (.invokevirtual 148, 3) := by decide +kernel
theorem d_Mod_component_5 : decode prog_13_method_15_code 5 = .ok (.ifCond .eq 47, 3) := by decide +kernel
theorem b_Mod_component_8 : tf_dec prog_13_method_15_code 8 [(.aload_n 0, 1), (.iload_n 2, 1)] = true := by decide +kernel
theorem d_Mod_component_10 : decode prog_13_method_15_code 10 = .ok (.invokevirtual 148, 3) := by decide +kernel
theorem d_Mod_component_13 : decode prog_13_method_15_code 13 = .ok (.ifCond .eq 39, 3) := by decide +kernel
theorem b_Mod_component_16 : tf_dec prog_13_method_15_code 16 [(.iload_n 1, 1), (.iload_n 2, 1)] = true := by decide +kernel
theorem d_Mod_component_18 : decode prog_13_method_15_code 18 = .ok (.if_icmp .eq 34, 3) := by decide +kernel
theorem b_Mod_component_21 : tf_dec prog_13_method_15_code 21 [(.iload_n 3, 1)] = true := by decide +kernel
theorem d_Mod_component_22 : decode prog_13_method_15_code 22 = .ok (.invokestatic 159, 3) := by decide +kernel
theorem d_Mod_component_25 : decode prog_13_method_15_code 25 = .ok (.ifCond .eq 27, 3) := by decide +kernel
theorem b_Mod_component_28 : tf_dec prog_13_method_15_code 28 [(.iload 4, 2)] = true := by decide +kernel
theorem d_Mod_component_30 : decode prog_13_method_15_code 30 = .ok (.invokestatic 159, 3) := by decide +kernel
theorem d_Mod_component_33 : decode prog_13_method_15_code 33 = .ok (.ifCond .eq 19, 3) := by decide +kernel
theorem b_Mod_component_36 : tf_dec prog_13_method_15_code 36 [(.iload 5, 2)] = true := by decide +kernel
theorem d_Mod_component_38 : decode prog_13_method_15_code 38 = .ok (.ifCond .lt 14, 3) := by decide +kernel
theorem b_Mod_component_41 : tf_dec prog_13_method_15_code 41 [(.iload 5, 2), (.bipush 8, 2)] = true := by decide +kernel
theorem d_Mod_component_45 : decode prog_13_method_15_code 45 = .ok (.if_icmp .ge 7, 3) := by decide +kernel
theorem b_Mod_component_48 : tf_dec prog_13_method_15_code 48 [(.iconst 1, 1)] = true := by decide +kernel
theorem d_Mod_component_49 : decode prog_13_method_15_code 49 = .ok (.goto 4, 3) := by decide +kernel
theorem b_Mod_component_52 : tf_dec prog_13_method_15_code 52 [(.iconst 0, 1)] = true := by decide +kernel
theorem b_Mod_component_53 : tf_dec prog_13_method_15_code 53 [(.istore 6, 2), (.aload_n 0, 1), (.iload 6, 2)] = true := by decide +kernel
theorem d_Mod_component_58 : decode prog_13_method_15_code 58 = .ok (.ifCond .ne 7, 3) := by decide +kernel
theorem b_Mod_component_61 : tf_dec prog_13_method_15_code 61 [(.iconst 1, 1)] = true := by decide +kernel
theorem d_Mod_component_62 : decode prog_13_method_15_code 62 = .ok (.goto 54, 3) := by decide +kernel
theorem b_Mod_component_65 : tf_dec prog_13_method_15_code 65 [(.aload_n 0, 1)] = true := by decide +kernel
theorem d_Mod_component_66 : decode prog_13_method_15_code 66 = .ok (.getfield 29, 3) := by decide +kernel
theorem b_Mod_component_69 : tf_dec prog_13_method_15_code 69 [(.iload_n 1, 1)] = true := by decide +kernel
theorem d_Mod_component_70 : decode prog_13_method_15_code 70 = .ok (.baload, 1) := by decide +kernel
theorem d_Mod_component_71 : decode prog_13_method_15_code 71 = .ok (.ifCond .ne 40, 3) := by decide +kernel
theorem b_Mod_component_74 : tf_dec prog_13_method_15_code 74 [(.aload_n 0, 1)] = true := by decide +kernel
theorem d_Mod_component_75 : decode prog_13_method_15_code 75 = .ok (.getfield 39, 3) := by decide +kernel
theorem b_Mod_component_78 : tf_dec prog_13_method_15_code 78 [(.iload_n 1, 1)] = true := by decide +kernel
theorem d_Mod_component_79 : decode prog_13_method_15_code 79 = .ok (.iaload, 1) := by decide +kernel
theorem b_Mod_component_80 : tf_dec prog_13_method_15_code 80 [(.iconst 4, 1)] = true := by decide +kernel
theorem d_Mod_component_81 : decode prog_13_method_15_code 81 = .ok (.if_icmp .eq 30, 3) := by decide +kernel
theorem b_Mod_component_84 : tf_dec prog_13_method_15_code 84 [(.aload_n 0, 1)] = true := by decide +kernel
theorem d_Mod_component_85 : decode prog_13_method_15_code 85 = .ok (.getfield 33, 3) := by decide +kernel
theorem b_Mod_component_88 : tf_dec prog_13_method_15_code 88 [(.iload_n 2, 1)] = true := by decide +kernel
theorem d_Mod_component_89 : decode prog_13_method_15_code 89 = .ok (.iaload, 1) := by decide +kernel
theorem b_Mod_component_90 : tf_dec prog_13_method_15_code 90 [(.iconst 3, 1)] = true := by decide +kernel
theorem d_Mod_component_91 : decode prog_13_method_15_code 91 = .ok (.if_icmp .gt 20, 3) := by decide +kernel
theorem b_Mod_component_94 : tf_dec prog_13_method_15_code 94 [(.aload_n 0, 1), (.iload_n 1, 1)] = true := by decide +kernel
theorem d_Mod_component_96 : decode prog_13_method_15_code 96 = .ok (.invokevirtual 162, 3) := by decide +kernel
theorem b_Mod_component_99 : tf_dec prog_13_method_15_code 99 [(.aload_n 0, 1)] = true := by decide +kernel
theorem d_Mod_component_100 : decode prog_13_method_15_code 100 = .ok (.getfield 36, 3) := by decide +kernel
theorem b_Mod_component_103 : tf_dec prog_13_method_15_code 103 [(.iload_n 2, 1)] = true := by decide +kernel
theorem d_Mod_component_104 : decode prog_13_method_15_code 104 = .ok (.iaload, 1) := by decide +kernel
theorem b_Mod_component_105 : tf_dec prog_13_method_15_code 105 [(.iadd, 1), (.bipush 120, 2)] = true := by decide +kernel
theorem d_Mod_component_108 : decode prog_13_method_15_code 108 = .ok (.if_icmp .le 7, 3) := by decide +kernel
theorem b_Mod_component_111 : tf_dec prog_13_method_15_code 111 [(.iconst 2, 1)] = true := by decide +kernel
theorem d_Mod_component_112 : decode prog_13_method_15_code 112 = .ok (.goto 4, 3) := by decide +kernel
theorem b_Mod_component_115 : tf_dec prog_13_method_15_code 115 [(.iconst 0, 1)] = true := by decide +kernel
theorem d_Mod_component_116 : decode prog_13_method_15_code 116 = .ok (.putfield 123, 3) := by decide +kernel
theorem b_Mod_component_119 : tf_dec prog_13_method_15_code 119 [(.aload_n 0, 1)] = true := by decide +kernel
theorem d_Mod_component_120 : decode prog_13_method_15_code 120 = .ok (.getfield 123, 3) := by decide +kernel
theorem d_Mod_component_123 : decode prog_13_method_15_code 123 = .ok (.ifCond .le 4, 3) := by decide +kernel
theorem d_Mod_component_126 : decode prog_13_method_15_code 126 = .ok (.return_, 1) := by decide +kernel
theorem b_Mod_component_127 : tf_dec prog_13_method_15_code 127 [(.iconst 4, 1), (.iload_n 1, 1), (.imul, 1), (.aload_n 0, 1)] = true := by decide +kernel
theorem d_Mod_component_131 : decode prog_13_method_15_code 131 = .ok (.getfield 39, 3) := by decide +kernel
theorem b_Mod_component_134 : tf_dec prog_13_method_15_code 134 [(.iload_n 1, 1)] = true := by decide +kernel
theorem d_Mod_component_135 : decode prog_13_method_15_code 135 = .ok (.iaload, 1) := by decide +kernel
theorem b_Mod_component_136 : tf_dec prog_13_method_15_code 136 [(.iadd, 1), (.istore 7, 2), (.aload_n 0, 1)] = true := by decide +kernel
theorem d_Mod_component_140 : decode prog_13_method_15_code 140 = .ok (.getfield 42, 3) := by decide +kernel
theorem b_Mod_component_143 : tf_dec prog_13_method_15_code 143 [(.iload 7, 2), (.iload_n 2, 1)] = true := by decide +kernel
theorem d_Mod_component_146 : decode prog_13_method_15_code 146 = .ok (.iastore, 1) := by decide +kernel
theorem b_Mod_component_147 : tf_dec prog_13_method_15_code 147 [(.aload_n 0, 1)] = true := by decide +kernel
theorem d_Mod_component_148 : decode prog_13_method_15_code 148 = .ok (.getfield 45, 3) := by decide +kernel
theorem b_Mod_component_151 : tf_dec prog_13_method_15_code 151 [(.iload 7, 2), (.iload_n 3, 1)] = true := by decide +kernel
theorem d_Mod_component_154 : decode prog_13_method_15_code 154 = .ok (.iastore, 1) := by decide +kernel
theorem b_Mod_component_155 : tf_dec prog_13_method_15_code 155 [(.aload_n 0, 1)] = true := by decide +kernel
theorem d_Mod_component_156 : decode prog_13_method_15_code 156 = .ok (.getfield 48, 3) := by decide +kernel
theorem b_Mod_component_159 : tf_dec prog_13_method_15_code 159 [(.iload 7, 2), (.iload 4, 2)] = true := by decide +kernel
theorem d_Mod_component_163 : decode prog_13_method_15_code 163 = .ok (.iastore, 1) := by decide +kernel
theorem b_Mod_component_164 : tf_dec prog_13_method_15_code 164 [(.aload_n 0, 1)] = true := by decide +kernel
theorem d_Mod_component_165 : decode prog_13_method_15_code 165 = .ok (.getfield 51, 3) := by decide +kernel
theorem b_Mod_component_168 : tf_dec prog_13_method_15_code 168 [(.iload 7, 2), (.iload 5, 2)] = true := by decide +kernel
theorem d_Mod_component_172 : decode prog_13_method_15_code 172 = .ok (.iastore, 1) := by decide +kernel
theorem b_Mod_component_173 : tf_dec prog_13_method_15_code 173 [(.aload_n 0, 1)] = true := by decide +kernel
theorem d_Mod_component_174 : decode prog_13_method_15_code 174 = .ok (.getfield 39, 3) := by decide +kernel
theorem b_Mod_component_177 : tf_dec prog_13_method_15_code 177 [(.iload_n 1, 1), (.dup2, 1)] = true := by decide +kernel
theorem d_Mod_component_179 : decode prog_13_method_15_code 179 = .ok (.iaload, 1) := by decide +kernel
theorem b_Mod_component_180 : tf_dec prog_13_method_15_code 180 [(.iconst 1, 1), (.iadd, 1)] = true := by decide +kernel
theorem d_Mod_component_182 : decode prog_13_method_15_code 182 = .ok (.iastore, 1) := by decide +kernel
theorem b_Mod_component_183 : tf_dec prog_13_method_15_code 183 [(.aload_n 0, 1)] = true := by decide +kernel
theorem d_Mod_component_184 : decode prog_13_method_15_code 184 = .ok (.getfield 36, 3) := by decide +kernel
theorem b_Mod_component_187 : tf_dec prog_13_method_15_code 187 [(.iload_n 1, 1), (.dup2, 1)] = true := by decide +kernel
theorem d_Mod_component_189 : decode prog_13_method_15_code 189 = .ok (.iaload, 1) := by decide +kernel
theorem b_Mod_component_190 : tf_dec prog_13_method_15_code 190 [(.aload_n 0, 1)] = true := by decide +kernel
theorem d_Mod_component_191 : decode prog_13_method_15_code 191 = .ok (.getfield 36, 3) := by decide +kernel
theorem b_Mod_component_194 : tf_dec prog_13_method_15_code 194 [(.iload_n 2, 1)] = true := by decide +kernel
theorem d_Mod_component_195 : decode prog_13_method_15_code 195 = .ok (.iaload, 1) := by decide +kernel
theorem b_Mod_component_196 : tf_dec prog_13_method_15_code 196 [(.iadd, 1)] = true := by decide +kernel
theorem d_Mod_component_197 : decode prog_13_method_15_code 197 = .ok (.iastore, 1) := by decide +kernel
theorem b_Mod_component_198 : tf_dec prog_13_method_15_code 198 [(.aload_n 0, 1)] = true := by decide +kernel
theorem d_Mod_component_199 : decode prog_13_method_15_code 199 = .ok (.getfield 33, 3) := by decide +kernel
theorem b_Mod_component_202 : tf_dec prog_13_method_15_code 202 [(.iload_n 1, 1), (.aload_n 0, 1)] = true := by decide +kernel
theorem d_Mod_component_204 : decode prog_13_method_15_code 204 = .ok (.getfield 33, 3) := by decide +kernel
theorem b_Mod_component_207 : tf_dec prog_13_method_15_code 207 [(.iload_n 2, 1)] = true := by decide +kernel
theorem d_Mod_component_208 : decode prog_13_method_15_code 208 = .ok (.iaload, 1) := by decide +kernel
theorem b_Mod_component_209 : tf_dec prog_13_method_15_code 209 [(.iconst 1, 1), (.iadd, 1), (.aload_n 0, 1)] = true := by decide +kernel
theorem d_Mod_component_212 : decode prog_13_method_15_code 212 = .ok (.getfield 33, 3) := by decide +kernel
theorem b_Mod_component_215 : tf_dec prog_13_method_15_code 215 [(.iload_n 1, 1)] = true := by decide +kernel
theorem d_Mod_component_216 : decode prog_13_method_15_code 216 = .ok (.iaload, 1) := by decide +kernel
theorem d_Mod_component_217 : decode prog_13_method_15_code 217 = .ok (.if_icmp .le 14, 3) := by decide +kernel
theorem b_Mod_component_220 : tf_dec prog_13_method_15_code 220 [(.aload_n 0, 1)] = true := by decide +kernel
theorem d_Mod_component_221 : decode prog_13_method_15_code 221 = .ok (.getfield 33, 3) := by decide +kernel
theorem b_Mod_component_224 : tf_dec prog_13_method_15_code 224 [(.iload_n 2, 1)] = true := by decide +kernel
theorem d_Mod_component_225 : decode prog_13_method_15_code 225 = .ok (.iaload, 1) := by decide +kernel
theorem b_Mod_component_226 : tf_dec prog_13_method_15_code 226 [(.iconst 1, 1), (.iadd, 1)] = true := by decide +kernel
theorem d_Mod_component_228 : decode prog_13_method_15_code 228 = .ok (.goto 9, 3) := by decide +kernel
theorem b_Mod_component_231 : tf_dec prog_13_method_15_code 231 [(.aload_n 0, 1)] = true := by decide +kernel
theorem d_Mod_component_232 : decode prog_13_method_15_code 232 = .ok (.getfield 33, 3) := by decide +kernel
theorem b_Mod_component_235 : tf_dec prog_13_method_15_code 235 [(.iload_n 1, 1)] = true := by decide +kernel
theorem d_Mod_component_236 : decode prog_13_method_15_code 236 = .ok (.iaload, 1) := by decide +kernel
theorem d_Mod_component_237 : decode prog_13_method_15_code 237 = .ok (.iastore, 1) := by decide +kernel
theorem b_Mod_component_238 : tf_dec prog_13_method_15_code 238 [(.aload_n 0, 1)] = true := by decide +kernel
theorem d_Mod_component_239 : decode prog_13_method_15_code 239 = .ok (.getfield 29, 3) := by decide +kernel
theorem b_Mod_component_242 : tf_dec prog_13_method_15_code 242 [(.iload_n 2, 1), (.iconst 1, 1)] = true := by decide +kernel
theorem d_Mod_component_244 : decode prog_13_method_15_code 244 = .ok (.bastore, 1) := by decide +kernel
theorem d_Mod_component_245 : decode prog_13_method_15_code 245 = .ok (.return_, 1) := by decide +kernel
theorem b_Mod_advance_0 : tf_dec prog_13_method_16_code 0 [(.aload_n 0, 1), (.iconst 0, 1)] = true := by decide +kernel
theorem d_Mod_advance_2 : decode prog_13_method_16_code 2 = .ok (.putfield 123, 3) := by decide +kernel
theorem b_Mod_advance_5 : tf_dec prog_13_method_16_code 5 [(.aload_n 0, 1), (.iload_n 1, 1)] = true := by decide +kernel
theorem d_Mod_advance_7 : decode prog_13_method_16_code 7 = .ok (.invokevirtual 148, 3) := by decide +kernel
theorem d_Mod_advance_10 : decode prog_13_method_16_code 10 = .ok (.ifCond .eq 26, 3) := by decide +kernel
theorem b_Mod_advance_13 : tf_dec prog_13_method_16_code 13 [(.iload_n 2, 1)] = true := by decide +kernel
theorem d_Mod_advance_14 : decode prog_13_method_16_code 14 = .ok (.ifCond .lt 22, 3) := by decide +kernel
theorem b_Mod_advance_17 : tf_dec prog_13_method_16_code 17 [(.iload_n 2, 1), (.aload_n 0, 1)] = true := by decide +kernel
theorem d_Mod_advance_19 : decode prog_13_method_16_code 19 = .ok (.getfield 119, 3) := by decide +kernel
theorem d_Mod_advance_22 : decode prog_13_method_16_code 22 = .ok (.if_icmp .ge 14, 3) := by decide +kernel
theorem b_Mod_advance_25 : tf_dec prog_13_method_16_code 25 [(.iload_n 3, 1)] = true := by decide +kernel
theorem d_Mod_advance_26 : decode prog_13_method_16_code 26 = .ok (.ifCond .lt 10, 3) := by decide +kernel
theorem b_Mod_advance_29 : tf_dec prog_13_method_16_code 29 [(.iload_n 3, 1), (.sipush 4000, 3)] = true := by decide +kernel
theorem d_Mod_advance_33 : decode prog_13_method_16_code 33 = .ok (.if_icmp .le 5, 3) := by decide +kernel
theorem b_Mod_advance_36 : tf_dec prog_13_method_16_code 36 [(.iconst 0, 1)] = true := by decide +kernel
theorem d_Mod_advance_37 : decode prog_13_method_16_code 37 = .ok (.ireturn, 1) := by decide +kernel
theorem b_Mod_advance_38 : tf_dec prog_13_method_16_code 38 [(.aload_n 0, 1)] = true := by decide +kernel
theorem d_Mod_advance_39 : decode prog_13_method_16_code 39 = .ok (.getfield 26, 3) := by decide +kernel
theorem b_Mod_advance_42 : tf_dec prog_13_method_16_code 42 [(.iconst 4, 1), (.iload_n 1, 1), (.imul, 1), (.iload_n 2, 1), (.iadd, 1), (.iload_n 3, 1)] = true := by decide +kernel
theorem d_Mod_advance_48 : decode prog_13_method_16_code 48 = .ok (.iastore, 1) := by decide +kernel
theorem b_Mod_advance_49 : tf_dec prog_13_method_16_code 49 [(.iconst 1, 1)] = true := by decide +kernel
theorem d_Mod_advance_50 : decode prog_13_method_16_code 50 = .ok (.ireturn, 1) := by decide +kernel
theorem b_Mod_instance_0 : tf_dec prog_13_method_17_code 0 [(.aload_n 0, 1), (.iconst 0, 1)] = true := by decide +kernel
theorem d_Mod_instance_2 : decode prog_13_method_17_code 2 = .ok (.putfield 123, 3) := by decide +kernel
theorem b_Mod_instance_5 : tf_dec prog_13_method_17_code 5 [(.iload_n 1, 1)] = true := by decide +kernel
theorem d_Mod_instance_6 : decode prog_13_method_17_code 6 = .ok (.ifCond .lt 21, 3) := by decide +kernel
theorem b_Mod_instance_9 : tf_dec prog_13_method_17_code 9 [(.iload_n 1, 1), (.sipush 1024, 3)] = true := by decide +kernel
theorem d_Mod_instance_13 : decode prog_13_method_17_code 13 = .ok (.if_icmp .gt 14, 3) := by decide +kernel
theorem b_Mod_instance_16 : tf_dec prog_13_method_17_code 16 [(.iload_n 2, 1)] = true := by decide +kernel
theorem d_Mod_instance_17 : decode prog_13_method_17_code 17 = .ok (.ifCond .lt 10, 3) := by decide +kernel
theorem b_Mod_instance_20 : tf_dec prog_13_method_17_code 20 [(.iload_n 2, 1), (.sipush 1024, 3)] = true := by decide +kernel
theorem d_Mod_instance_24 : decode prog_13_method_17_code 24 = .ok (.if_icmp .le 5, 3) := by decide +kernel
theorem b_Mod_instance_27 : tf_dec prog_13_method_17_code 27 [(.iconst 0, 1)] = true := by decide +kernel
theorem d_Mod_instance_28 : decode prog_13_method_17_code 28 = .ok (.ireturn, 1) := by decide +kernel
theorem b_Mod_instance_29 : tf_dec prog_13_method_17_code 29 [(.aload_n 0, 1), (.iload_n 1, 1)] = true := by decide +kernel
theorem d_Mod_instance_31 : decode prog_13_method_17_code 31 = .ok (.putfield 132, 3) := by decide +kernel
theorem b_Mod_instance_34 : tf_dec prog_13_method_17_code 34 [(.aload_n 0, 1), (.iload_n 2, 1)] = true := by decide +kernel
theorem d_Mod_instance_36 : decode prog_13_method_17_code 36 = .ok (.putfield 135, 3) := by decide +kernel
theorem b_Mod_instance_39 : tf_dec prog_13_method_17_code 39 [(.iconst 1, 1)] = true := by decide +kernel
theorem d_Mod_instance_40 : decode prog_13_method_17_code 40 = .ok (.ireturn, 1) := by decide +kernel
theorem b_Mod_xOf_0 : tf_dec prog_13_method_18_code 0 [(.aload_n 0, 1)] = true := by decide +kernel
theorem d_Mod_xOf_1 : decode prog_13_method_18_code 1 = .ok (.getfield 7, 3) := by decide +kernel
theorem b_Mod_xOf_4 : tf_dec prog_13_method_18_code 4 [(.iconst 4, 1), (.iload_n 1, 1), (.imul, 1), (.iload_n 2, 1), (.iadd, 1)] = true := by decide +kernel
theorem d_Mod_xOf_9 : decode prog_13_method_18_code 9 = .ok (.iaload, 1) := by decide +kernel
theorem b_Mod_xOf_10 : tf_dec prog_13_method_18_code 10 [(.bipush 16, 2), (.iushr, 1), (.sipush 8192, 3), (.isub, 1)] = true := by decide +kernel
theorem d_Mod_xOf_17 : decode prog_13_method_18_code 17 = .ok (.ireturn, 1) := by decide +kernel
theorem b_Mod_yOf_0 : tf_dec prog_13_method_19_code 0 [(.aload_n 0, 1)] = true := by decide +kernel
theorem d_Mod_yOf_1 : decode prog_13_method_19_code 1 = .ok (.getfield 7, 3) := by decide +kernel
theorem b_Mod_yOf_4 : tf_dec prog_13_method_19_code 4 [(.iconst 4, 1), (.iload_n 1, 1), (.imul, 1), (.iload_n 2, 1), (.iadd, 1)] = true := by decide +kernel
theorem d_Mod_yOf_9 : decode prog_13_method_19_code 9 = .ok (.iaload, 1) := by decide +kernel
theorem d_Mod_yOf_10 : decode prog_13_method_19_code 10 = .ok (.ldc 166, 2) := by decide +kernel
theorem b_Mod_yOf_12 : tf_dec prog_13_method_19_code 12 [(.iand, 1), (.sipush 8192, 3), (.isub, 1)] = true := by decide +kernel
theorem d_Mod_yOf_17 : decode prog_13_method_19_code 17 = .ok (.ireturn, 1) := by decide +kernel
theorem b_Mod_turnPoint_0 : tf_dec prog_13_method_20_code 0 [(.aload_n 0, 1), (.aload_n 0, 1), (.iload_n 1, 1), (.iconst 0, 1)] = true := by decide +kernel
theorem d_Mod_turnPoint_4 : decode prog_13_method_20_code 4 = .ok (.invokevirtual 167, 3) := by decide +kernel
theorem b_Mod_turnPoint_7 : tf_dec prog_13_method_20_code 7 [(.aload_n 0, 1), (.iload_n 1, 1), (.iconst 1, 1)] = true := by decide +kernel
theorem d_Mod_turnPoint_10 : decode prog_13_method_20_code 10 = .ok (.invokevirtual 167, 3) := by decide +kernel
theorem b_Mod_turnPoint_13 : tf_dec prog_13_method_20_code 13 [(.aload_n 0, 1), (.iload_n 1, 1), (.iconst 2, 1)] = true := by decide +kernel
theorem d_Mod_turnPoint_16 : decode prog_13_method_20_code 16 = .ok (.invokevirtual 167, 3) := by decide +kernel
theorem b_Mod_turnPoint_19 : tf_dec prog_13_method_20_code 19 [(.aload_n 0, 1), (.iload_n 1, 1), (.iconst 3, 1)] = true := by decide +kernel
theorem d_Mod_turnPoint_22 : decode prog_13_method_20_code 22 = .ok (.invokevirtual 167, 3) := by decide +kernel
theorem d_Mod_turnPoint_25 : decode prog_13_method_20_code 25 = .ok (.invokevirtual 170, 3) := by decide +kernel
theorem b_Mod_turnPoint_28 : tf_dec prog_13_method_20_code 28 [(.istore_n 3, 1), (.aload_n 0, 1), (.aload_n 0, 1), (.iload_n 1, 1), (.iconst 0, 1)] = true := by decide +kernel
theorem d_Mod_turnPoint_33 : decode prog_13_method_20_code 33 = .ok (.invokevirtual 174, 3) := by decide +kernel
theorem b_Mod_turnPoint_36 : tf_dec prog_13_method_20_code 36 [(.aload_n 0, 1), (.iload_n 1, 1), (.iconst 1, 1)] = true := by decide +kernel
theorem d_Mod_turnPoint_39 : decode prog_13_method_20_code 39 = .ok (.invokevirtual 174, 3) := by decide +kernel
theorem b_Mod_turnPoint_42 : tf_dec prog_13_method_20_code 42 [(.aload_n 0, 1), (.iload_n 1, 1), (.iconst 2, 1)] = true := by decide +kernel
theorem d_Mod_turnPoint_45 : decode prog_13_method_20_code 45 = .ok (.invokevirtual 174, 3) := by decide +kernel
theorem b_Mod_turnPoint_48 : tf_dec prog_13_method_20_code 48 [(.aload_n 0, 1), (.iload_n 1, 1), (.iconst 3, 1)] = true := by decide +kernel
theorem d_Mod_turnPoint_51 : decode prog_13_method_20_code 51 = .ok (.invokevirtual 174, 3) := by decide +kernel
theorem d_Mod_turnPoint_54 : decode prog_13_method_20_code 54 = .ok (.invokevirtual 170, 3) := by decide +kernel
theorem b_Mod_turnPoint_57 : tf_dec prog_13_method_20_code 57 [(.istore 4, 2), (.iload_n 2, 1), (.iconst 1, 1), (.isub, 1), (.istore 5, 2)] = true := by decide +kernel
theorem b_Mod_turnPoint_64 : tf_dec prog_13_method_20_code 64 [(.iload 5, 2)] = true := by decide +kernel
theorem d_Mod_turnPoint_66 : decode prog_13_method_20_code 66 = .ok (.ifCond .lt 104, 3) := by decide +kernel
theorem b_Mod_turnPoint_69 : tf_dec prog_13_method_20_code 69 [(.iconst 4, 1), (.aload_n 0, 1)] = true := by decide +kernel
theorem d_Mod_turnPoint_71 : decode prog_13_method_20_code 71 = .ok (.getfield 66, 3) := by decide +kernel
theorem b_Mod_turnPoint_74 : tf_dec prog_13_method_20_code 74 [(.iload 5, 2)] = true := by decide +kernel
theorem d_Mod_turnPoint_76 : decode prog_13_method_20_code 76 = .ok (.iaload, 1) := by decide +kernel
theorem b_Mod_turnPoint_77 : tf_dec prog_13_method_20_code 77 [(.imul, 1), (.aload_n 0, 1)] = true := by decide +kernel
theorem d_Mod_turnPoint_79 : decode prog_13_method_20_code 79 = .ok (.getfield 69, 3) := by decide +kernel
theorem b_Mod_turnPoint_82 : tf_dec prog_13_method_20_code 82 [(.iload 5, 2)] = true := by decide +kernel
theorem d_Mod_turnPoint_84 : decode prog_13_method_20_code 84 = .ok (.iaload, 1) := by decide +kernel
theorem b_Mod_turnPoint_85 : tf_dec prog_13_method_20_code 85 [(.iadd, 1), (.iconst 1, 1), (.isub, 1), (.istore 6, 2), (.aload_n 0, 1)] = true := by decide +kernel
theorem d_Mod_turnPoint_91 : decode prog_13_method_20_code 91 = .ok (.getfield 51, 3) := by decide +kernel
theorem b_Mod_turnPoint_94 : tf_dec prog_13_method_20_code 94 [(.iload 6, 2)] = true := by decide +kernel
theorem d_Mod_turnPoint_96 : decode prog_13_method_20_code 96 = .ok (.iaload, 1) := by decide +kernel
theorem b_Mod_turnPoint_97 : tf_dec prog_13_method_20_code 97 [(.iconst 3, 1)] = true := by decide +kernel
theorem d_Mod_turnPoint_98 : decode prog_13_method_20_code 98 = .ok (.if_icmp .le 8, 3) := by decide +kernel
theorem b_Mod_turnPoint_101 : tf_dec prog_13_method_20_code 101 [(.iload_n 3, 1), (.ineg, 1)] = true := by decide +kernel
theorem d_Mod_turnPoint_103 : decode prog_13_method_20_code 103 = .ok (.goto 4, 3) := by decide +kernel
theorem b_Mod_turnPoint_106 : tf_dec prog_13_method_20_code 106 [(.iload_n 3, 1)] = true := by decide +kernel
theorem b_Mod_turnPoint_107 : tf_dec prog_13_method_20_code 107 [(.istore_n 3, 1), (.iconst 0, 1), (.istore 7, 2)] = true := by decide +kernel
theorem b_Mod_turnPoint_111 : tf_dec prog_13_method_20_code 111 [(.iload 7, 2), (.aload_n 0, 1)] = true := by decide +kernel
theorem d_Mod_turnPoint_114 : decode prog_13_method_20_code 114 = .ok (.getfield 51, 3) := by decide +kernel
theorem b_Mod_turnPoint_117 : tf_dec prog_13_method_20_code 117 [(.iload 6, 2)] = true := by decide +kernel
theorem d_Mod_turnPoint_119 : decode prog_13_method_20_code 119 = .ok (.iaload, 1) := by decide +kernel
theorem b_Mod_turnPoint_120 : tf_dec prog_13_method_20_code 120 [(.iconst 4, 1)] = true := by decide +kernel
theorem d_Mod_turnPoint_121 : decode prog_13_method_20_code 121 = .ok (.irem, 1) := by decide +kernel
theorem d_Mod_turnPoint_122 : decode prog_13_method_20_code 122 = .ok (.if_icmp .ge 20, 3) := by decide +kernel
theorem b_Mod_turnPoint_125 : tf_dec prog_13_method_20_code 125 [(.iload_n 3, 1), (.istore 8, 2), (.iload 4, 2), (.ineg, 1), (.istore_n 3, 1), (.iload 8, 2), (.istore 4, 2), (.iinc 7 1, 3)] = true := by decide +kernel
theorem d_Mod_turnPoint_139 : decode prog_13_method_20_code 139 = .ok (.goto (-28), 3) := by decide +kernel
theorem b_Mod_turnPoint_142 : tf_dec prog_13_method_20_code 142 [(.iload_n 3, 1), (.aload_n 0, 1)] = true := by decide +kernel
theorem d_Mod_turnPoint_144 : decode prog_13_method_20_code 144 = .ok (.getfield 45, 3) := by decide +kernel
theorem b_Mod_turnPoint_147 : tf_dec prog_13_method_20_code 147 [(.iload 6, 2)] = true := by decide +kernel
theorem d_Mod_turnPoint_149 : decode prog_13_method_20_code 149 = .ok (.iaload, 1) := by decide +kernel
theorem b_Mod_turnPoint_150 : tf_dec prog_13_method_20_code 150 [(.iadd, 1), (.istore_n 3, 1), (.iload 4, 2), (.aload_n 0, 1)] = true := by decide +kernel
theorem d_Mod_turnPoint_155 : decode prog_13_method_20_code 155 = .ok (.getfield 48, 3) := by decide +kernel
theorem b_Mod_turnPoint_158 : tf_dec prog_13_method_20_code 158 [(.iload 6, 2)] = true := by decide +kernel
theorem d_Mod_turnPoint_160 : decode prog_13_method_20_code 160 = .ok (.iaload, 1) := by decide +kernel
theorem b_Mod_turnPoint_161 : tf_dec prog_13_method_20_code 161 [(.iadd, 1), (.istore 4, 2), (.iinc 5 (-1), 3)] = true := by decide +kernel
theorem d_Mod_turnPoint_167 : decode prog_13_method_20_code 167 = .ok (.goto (-103), 3) := by decide +kernel
theorem b_Mod_turnPoint_170 : tf_dec prog_13_method_20_code 170 [(.aload_n 0, 1), (.iload_n 3, 1)] = true := by decide +kernel
theorem d_Mod_turnPoint_172 : decode prog_13_method_20_code 172 = .ok (.putfield 177, 3) := by decide +kernel
theorem b_Mod_turnPoint_175 : tf_dec prog_13_method_20_code 175 [(.aload_n 0, 1), (.iload 4, 2)] = true := by decide +kernel
theorem d_Mod_turnPoint_178 : decode prog_13_method_20_code 178 = .ok (.putfield 180, 3) := by decide +kernel
theorem d_Mod_turnPoint_181 : decode prog_13_method_20_code 181 = .ok (.return_, 1) := by decide +kernel
theorem b_Mod_tellContours_0 : tf_dec prog_13_method_21_code 0 [(.aload_n 0, 1)] = true := by decide +kernel
theorem d_Mod_tellContours_1 : decode prog_13_method_21_code 1 = .ok (.getfield 66, 3) := by decide +kernel
theorem b_Mod_tellContours_4 : tf_dec prog_13_method_21_code 4 [(.iload_n 1, 1)] = true := by decide +kernel
theorem d_Mod_tellContours_5 : decode prog_13_method_21_code 5 = .ok (.iaload, 1) := by decide +kernel
theorem b_Mod_tellContours_6 : tf_dec prog_13_method_21_code 6 [(.istore_n 2, 1), (.iconst 0, 1), (.istore_n 3, 1), (.iconst 0, 1), (.istore 4, 2)] = true := by decide +kernel
theorem b_Mod_tellContours_12 : tf_dec prog_13_method_21_code 12 [(.iload 4, 2), (.iload_n 1, 1)] = true := by decide +kernel
theorem d_Mod_tellContours_15 : decode prog_13_method_21_code 15 = .ok (.if_icmp .ge 52, 3) := by decide +kernel
theorem b_Mod_tellContours_18 : tf_dec prog_13_method_21_code 18 [(.iload_n 3, 1), (.aload_n 0, 1)] = true := by decide +kernel
theorem d_Mod_tellContours_20 : decode prog_13_method_21_code 20 = .ok (.getfield 51, 3) := by decide +kernel
theorem b_Mod_tellContours_23 : tf_dec prog_13_method_21_code 23 [(.iconst 4, 1), (.aload_n 0, 1)] = true := by decide +kernel
theorem d_Mod_tellContours_25 : decode prog_13_method_21_code 25 = .ok (.getfield 66, 3) := by decide +kernel
theorem b_Mod_tellContours_28 : tf_dec prog_13_method_21_code 28 [(.iload 4, 2)] = true := by decide +kernel
theorem d_Mod_tellContours_30 : decode prog_13_method_21_code 30 = .ok (.iaload, 1) := by decide +kernel
theorem b_Mod_tellContours_31 : tf_dec prog_13_method_21_code 31 [(.imul, 1), (.aload_n 0, 1)] = true := by decide +kernel
theorem d_Mod_tellContours_33 : decode prog_13_method_21_code 33 = .ok (.getfield 69, 3) := by decide +kernel
theorem b_Mod_tellContours_36 : tf_dec prog_13_method_21_code 36 [(.iload 4, 2)] = true := by decide +kernel
theorem d_Mod_tellContours_38 : decode prog_13_method_21_code 38 = .ok (.iaload, 1) := by decide +kernel
theorem b_Mod_tellContours_39 : tf_dec prog_13_method_21_code 39 [(.iadd, 1), (.iconst 1, 1), (.isub, 1)] = true := by decide +kernel
theorem d_Mod_tellContours_42 : decode prog_13_method_21_code 42 = .ok (.iaload, 1) := by decide +kernel
theorem b_Mod_tellContours_43 : tf_dec prog_13_method_21_code 43 [(.iconst 3, 1)] = true := by decide +kernel
theorem d_Mod_tellContours_44 : decode prog_13_method_21_code 44 = .ok (.if_icmp .le 7, 3) := by decide +kernel
theorem b_Mod_tellContours_47 : tf_dec prog_13_method_21_code 47 [(.iconst 1, 1)] = true := by decide +kernel
theorem d_Mod_tellContours_48 : decode prog_13_method_21_code 48 = .ok (.goto 4, 3) := by decide +kernel
theorem b_Mod_tellContours_51 : tf_dec prog_13_method_21_code 51 [(.iconst 0, 1)] = true := by decide +kernel
theorem d_Mod_tellContours_52 : decode prog_13_method_21_code 52 = .ok (.if_icmp .eq 7, 3) := by decide +kernel
theorem b_Mod_tellContours_55 : tf_dec prog_13_method_21_code 55 [(.iconst 1, 1)] = true := by decide +kernel
theorem d_Mod_tellContours_56 : decode prog_13_method_21_code 56 = .ok (.goto 4, 3) := by decide +kernel
theorem b_Mod_tellContours_59 : tf_dec prog_13_method_21_code 59 [(.iconst 0, 1)] = true := by decide +kernel
theorem b_Mod_tellContours_60 : tf_dec prog_13_method_21_code 60 [(.istore_n 3, 1), (.iinc 4 1, 3)] = true := by decide +kernel
theorem d_Mod_tellContours_64 : decode prog_13_method_21_code 64 = .ok (.goto (-52), 3) := by decide +kernel
theorem b_Mod_tellContours_67 : tf_dec prog_13_method_21_code 67 [(.iconst 0, 1), (.istore 4, 2)] = true := by decide +kernel
theorem b_Mod_tellContours_70 : tf_dec prog_13_method_21_code 70 [(.iload 4, 2), (.aload_n 0, 1)] = true := by decide +kernel
theorem d_Mod_tellContours_73 : decode prog_13_method_21_code 73 = .ok (.getfield 23, 3) := by decide +kernel
theorem b_Mod_tellContours_76 : tf_dec prog_13_method_21_code 76 [(.iload_n 2, 1)] = true := by decide +kernel
theorem d_Mod_tellContours_77 : decode prog_13_method_21_code 77 = .ok (.iaload, 1) := by decide +kernel
theorem d_Mod_tellContours_78 : decode prog_13_method_21_code 78 = .ok (.if_icmp .ge 163, 3) := by decide +kernel
theorem b_Mod_tellContours_81 : tf_dec prog_13_method_21_code 81 [(.iconst 0, 1), (.istore 5, 2)] = true := by decide +kernel
theorem b_Mod_tellContours_84 : tf_dec prog_13_method_21_code 84 [(.iload 5, 2), (.aload_n 0, 1)] = true := by decide +kernel
theorem d_Mod_tellContours_87 : decode prog_13_method_21_code 87 = .ok (.getfield 20, 3) := by decide +kernel
theorem b_Mod_tellContours_90 : tf_dec prog_13_method_21_code 90 [(.iload_n 2, 1)] = true := by decide +kernel
theorem d_Mod_tellContours_91 : decode prog_13_method_21_code 91 = .ok (.iaload, 1) := by decide +kernel
theorem d_Mod_tellContours_92 : decode prog_13_method_21_code 92 = .ok (.if_icmp .ge 133, 3) := by decide +kernel
theorem b_Mod_tellContours_95 : tf_dec prog_13_method_21_code 95 [(.bipush 40, 2), (.iload_n 2, 1), (.imul, 1), (.iload_n 3, 1)] = true := by decide +kernel
theorem d_Mod_tellContours_100 : decode prog_13_method_21_code 100 = .ok (.ifCond .eq 17, 3) := by decide +kernel
theorem b_Mod_tellContours_103 : tf_dec prog_13_method_21_code 103 [(.aload_n 0, 1)] = true := by decide +kernel
theorem d_Mod_tellContours_104 : decode prog_13_method_21_code 104 = .ok (.getfield 20, 3) := by decide +kernel
theorem b_Mod_tellContours_107 : tf_dec prog_13_method_21_code 107 [(.iload_n 2, 1)] = true := by decide +kernel
theorem d_Mod_tellContours_108 : decode prog_13_method_21_code 108 = .ok (.iaload, 1) := by decide +kernel
theorem b_Mod_tellContours_109 : tf_dec prog_13_method_21_code 109 [(.iconst 1, 1), (.isub, 1), (.iload 5, 2), (.isub, 1)] = true := by decide +kernel
theorem d_Mod_tellContours_114 : decode prog_13_method_21_code 114 = .ok (.goto 5, 3) := by decide +kernel
theorem b_Mod_tellContours_117 : tf_dec prog_13_method_21_code 117 [(.iload 5, 2)] = true := by decide +kernel
theorem b_Mod_tellContours_119 : tf_dec prog_13_method_21_code 119 [(.iadd, 1), (.istore 6, 2), (.aload_n 0, 1)] = true := by decide +kernel
theorem d_Mod_tellContours_123 : decode prog_13_method_21_code 123 = .ok (.getfield 13, 3) := by decide +kernel
theorem b_Mod_tellContours_126 : tf_dec prog_13_method_21_code 126 [(.iload 6, 2)] = true := by decide +kernel
theorem d_Mod_tellContours_128 : decode prog_13_method_21_code 128 = .ok (.baload, 1) := by decide +kernel
theorem b_Mod_tellContours_129 : tf_dec prog_13_method_21_code 129 [(.iconst 1, 1), (.ishr, 1), (.iload 4, 2)] = true := by decide +kernel
theorem d_Mod_tellContours_133 : decode prog_13_method_21_code 133 = .ok (.if_icmp .ne 86, 3) := by decide +kernel
theorem b_Mod_tellContours_136 : tf_dec prog_13_method_21_code 136 [(.aload_n 0, 1), (.iload 6, 2), (.iload_n 1, 1)] = true := by decide +kernel
theorem d_Mod_tellContours_140 : decode prog_13_method_21_code 140 = .ok (.invokevirtual 183, 3) := by decide +kernel
theorem b_Mod_tellContours_143 : tf_dec prog_13_method_21_code 143 [(.aload_n 0, 1)] = true := by decide +kernel
theorem d_Mod_tellContours_144 : decode prog_13_method_21_code 144 = .ok (.getfield 54, 3) := by decide +kernel
theorem b_Mod_tellContours_147 : tf_dec prog_13_method_21_code 147 [(.aload_n 0, 1)] = true := by decide +kernel
theorem d_Mod_tellContours_148 : decode prog_13_method_21_code 148 = .ok (.getfield 187, 3) := by decide +kernel
theorem b_Mod_tellContours_151 : tf_dec prog_13_method_21_code 151 [(.aload_n 0, 1)] = true := by decide +kernel
theorem d_Mod_tellContours_152 : decode prog_13_method_21_code 152 = .ok (.getfield 177, 3) := by decide +kernel
theorem d_Mod_tellContours_155 : decode prog_13_method_21_code 155 = .ok (.iastore, 1) := by decide +kernel
theorem b_Mod_tellContours_156 : tf_dec prog_13_method_21_code 156 [(.aload_n 0, 1)] = true := by decide +kernel
theorem d_Mod_tellContours_157 : decode prog_13_method_21_code 157 = .ok (.getfield 57, 3) := by decide +kernel
theorem b_Mod_tellContours_160 : tf_dec prog_13_method_21_code 160 [(.aload_n 0, 1)] = true := by decide +kernel
theorem d_Mod_tellContours_161 : decode prog_13_method_21_code 161 = .ok (.getfield 187, 3) := by decide +kernel
theorem b_Mod_tellContours_164 : tf_dec prog_13_method_21_code 164 [(.aload_n 0, 1)] = true := by decide +kernel
theorem d_Mod_tellContours_165 : decode prog_13_method_21_code 165 = .ok (.getfield 180, 3) := by decide +kernel
theorem d_Mod_tellContours_168 : decode prog_13_method_21_code 168 = .ok (.iastore, 1) := by decide +kernel
theorem b_Mod_tellContours_169 : tf_dec prog_13_method_21_code 169 [(.aload_n 0, 1)] = true := by decide +kernel
theorem d_Mod_tellContours_170 : decode prog_13_method_21_code 170 = .ok (.getfield 60, 3) := by decide +kernel
theorem b_Mod_tellContours_173 : tf_dec prog_13_method_21_code 173 [(.aload_n 0, 1)] = true := by decide +kernel
theorem d_Mod_tellContours_174 : decode prog_13_method_21_code 174 = .ok (.getfield 187, 3) := by decide +kernel
theorem b_Mod_tellContours_177 : tf_dec prog_13_method_21_code 177 [(.aload_n 0, 1)] = true := by decide +kernel
theorem d_Mod_tellContours_178 : decode prog_13_method_21_code 178 = .ok (.getfield 13, 3) := by decide +kernel
theorem b_Mod_tellContours_181 : tf_dec prog_13_method_21_code 181 [(.iload 6, 2)] = true := by decide +kernel
theorem d_Mod_tellContours_183 : decode prog_13_method_21_code 183 = .ok (.baload, 1) := by decide +kernel
theorem b_Mod_tellContours_184 : tf_dec prog_13_method_21_code 184 [(.iconst 1, 1), (.iand, 1), (.iconst 1, 1)] = true := by decide +kernel
theorem d_Mod_tellContours_187 : decode prog_13_method_21_code 187 = .ok (.if_icmp .ne 7, 3) := by decide +kernel
theorem b_Mod_tellContours_190 : tf_dec prog_13_method_21_code 190 [(.iconst 1, 1)] = true := by decide +kernel
theorem d_Mod_tellContours_191 : decode prog_13_method_21_code 191 = .ok (.goto 4, 3) := by decide +kernel
theorem b_Mod_tellContours_194 : tf_dec prog_13_method_21_code 194 [(.iconst 0, 1)] = true := by decide +kernel
theorem d_Mod_tellContours_195 : decode prog_13_method_21_code 195 = .ok (.bastore, 1) := by decide +kernel
theorem b_Mod_tellContours_196 : tf_dec prog_13_method_21_code 196 [(.aload_n 0, 1)] = true := by decide +kernel
theorem d_Mod_tellContours_197 : decode prog_13_method_21_code 197 = .ok (.getfield 63, 3) := by decide +kernel
theorem b_Mod_tellContours_200 : tf_dec prog_13_method_21_code 200 [(.aload_n 0, 1)] = true := by decide +kernel
theorem d_Mod_tellContours_201 : decode prog_13_method_21_code 201 = .ok (.getfield 187, 3) := by decide +kernel
theorem b_Mod_tellContours_204 : tf_dec prog_13_method_21_code 204 [(.aload_n 0, 1)] = true := by decide +kernel
theorem d_Mod_tellContours_205 : decode prog_13_method_21_code 205 = .ok (.getfield 190, 3) := by decide +kernel
theorem d_Mod_tellContours_208 : decode prog_13_method_21_code 208 = .ok (.iastore, 1) := by decide +kernel
theorem b_Mod_tellContours_209 : tf_dec prog_13_method_21_code 209 [(.aload_n 0, 1), (.dup, 1)] = true := by decide +kernel
theorem d_Mod_tellContours_211 : decode prog_13_method_21_code 211 = .ok (.getfield 187, 3) := by decide +kernel
theorem b_Mod_tellContours_214 : tf_dec prog_13_method_21_code 214 [(.iconst 1, 1), (.iadd, 1)] = true := by decide +kernel
theorem d_Mod_tellContours_216 : decode prog_13_method_21_code 216 = .ok (.putfield 187, 3) := by decide +kernel
theorem b_Mod_tellContours_219 : tf_dec prog_13_method_21_code 219 [(.iinc 5 1, 3)] = true := by decide +kernel
theorem d_Mod_tellContours_222 : decode prog_13_method_21_code 222 = .ok (.goto (-138), 3) := by decide +kernel
theorem b_Mod_tellContours_225 : tf_dec prog_13_method_21_code 225 [(.aload_n 0, 1), (.dup, 1)] = true := by decide +kernel
theorem d_Mod_tellContours_227 : decode prog_13_method_21_code 227 = .ok (.getfield 190, 3) := by decide +kernel
theorem b_Mod_tellContours_230 : tf_dec prog_13_method_21_code 230 [(.iconst 1, 1), (.iadd, 1)] = true := by decide +kernel
theorem d_Mod_tellContours_232 : decode prog_13_method_21_code 232 = .ok (.putfield 190, 3) := by decide +kernel
theorem b_Mod_tellContours_235 : tf_dec prog_13_method_21_code 235 [(.iinc 4 1, 3)] = true := by decide +kernel
theorem d_Mod_tellContours_238 : decode prog_13_method_21_code 238 = .ok (.goto (-168), 3) := by decide +kernel
theorem d_Mod_tellContours_241 : decode prog_13_method_21_code 241 = .ok (.return_, 1) := by decide +kernel
theorem b_Mod_tell_0 : tf_dec prog_13_method_22_code 0 [(.aload_n 0, 1), (.iconst 0, 1)] = true := by decide +kernel
theorem d_Mod_tell_2 : decode prog_13_method_22_code 2 = .ok (.putfield 187, 3) := by decide +kernel
theorem b_Mod_tell_5 : tf_dec prog_13_method_22_code 5 [(.aload_n 0, 1), (.iconst 0, 1)] = true := by decide +kernel
theorem d_Mod_tell_7 : decode prog_13_method_22_code 7 = .ok (.putfield 190, 3) := by decide +kernel
theorem b_Mod_tell_10 : tf_dec prog_13_method_22_code 10 [(.aload_n 0, 1)] = true := by decide +kernel
theorem d_Mod_tell_11 : decode prog_13_method_22_code 11 = .ok (.getfield 66, 3) := by decide +kernel
theorem b_Mod_tell_14 : tf_dec prog_13_method_22_code 14 [(.iconst 0, 1), (.iload_n 1, 1)] = true := by decide +kernel
theorem d_Mod_tell_16 : decode prog_13_method_22_code 16 = .ok (.iastore, 1) := by decide +kernel
theorem b_Mod_tell_17 : tf_dec prog_13_method_22_code 17 [(.aload_n 0, 1)] = true := by decide +kernel
theorem d_Mod_tell_18 : decode prog_13_method_22_code 18 = .ok (.getfield 69, 3) := by decide +kernel
theorem b_Mod_tell_21 : tf_dec prog_13_method_22_code 21 [(.iconst 0, 1), (.iconst 0, 1)] = true := by decide +kernel
theorem d_Mod_tell_23 : decode prog_13_method_22_code 23 = .ok (.iastore, 1) := by decide +kernel
theorem b_Mod_tell_24 : tf_dec prog_13_method_22_code 24 [(.iconst 0, 1), (.istore_n 2, 1), (.aload_n 0, 1), (.iconst 0, 1)] = true := by decide +kernel
theorem d_Mod_tell_28 : decode prog_13_method_22_code 28 = .ok (.invokevirtual 193, 3) := by decide +kernel
theorem b_Mod_tell_31 : tf_dec prog_13_method_22_code 31 [(.iload_n 2, 1)] = true := by decide +kernel
theorem d_Mod_tell_32 : decode prog_13_method_22_code 32 = .ok (.ifCond .lt 82, 3) := by decide +kernel
theorem b_Mod_tell_35 : tf_dec prog_13_method_22_code 35 [(.aload_n 0, 1)] = true := by decide +kernel
theorem d_Mod_tell_36 : decode prog_13_method_22_code 36 = .ok (.getfield 66, 3) := by decide +kernel
theorem b_Mod_tell_39 : tf_dec prog_13_method_22_code 39 [(.iload_n 2, 1)] = true := by decide +kernel
theorem d_Mod_tell_40 : decode prog_13_method_22_code 40 = .ok (.iaload, 1) := by decide +kernel
theorem b_Mod_tell_41 : tf_dec prog_13_method_22_code 41 [(.istore_n 3, 1), (.aload_n 0, 1)] = true := by decide +kernel
theorem d_Mod_tell_43 : decode prog_13_method_22_code 43 = .ok (.getfield 69, 3) := by decide +kernel
theorem b_Mod_tell_46 : tf_dec prog_13_method_22_code 46 [(.iload_n 2, 1)] = true := by decide +kernel
theorem d_Mod_tell_47 : decode prog_13_method_22_code 47 = .ok (.iaload, 1) := by decide +kernel
theorem b_Mod_tell_48 : tf_dec prog_13_method_22_code 48 [(.aload_n 0, 1)] = true := by decide +kernel
theorem d_Mod_tell_49 : decode prog_13_method_22_code 49 = .ok (.getfield 39, 3) := by decide +kernel
theorem b_Mod_tell_52 : tf_dec prog_13_method_22_code 52 [(.iload_n 3, 1)] = true := by decide +kernel
theorem d_Mod_tell_53 : decode prog_13_method_22_code 53 = .ok (.iaload, 1) := by decide +kernel
theorem d_Mod_tell_54 : decode prog_13_method_22_code 54 = .ok (.if_icmp .ne 9, 3) := by decide +kernel
theorem b_Mod_tell_57 : tf_dec prog_13_method_22_code 57 [(.iinc 2 (-1), 3)] = true := by decide +kernel
theorem d_Mod_tell_60 : decode prog_13_method_22_code 60 = .ok (.goto 51, 3) := by decide +kernel
theorem b_Mod_tell_63 : tf_dec prog_13_method_22_code 63 [(.aload_n 0, 1)] = true := by decide +kernel
theorem d_Mod_tell_64 : decode prog_13_method_22_code 64 = .ok (.getfield 66, 3) := by decide +kernel
theorem b_Mod_tell_67 : tf_dec prog_13_method_22_code 67 [(.iload_n 2, 1), (.iconst 1, 1), (.iadd, 1), (.aload_n 0, 1)] = true := by decide +kernel
theorem d_Mod_tell_71 : decode prog_13_method_22_code 71 = .ok (.getfield 42, 3) := by decide +kernel
theorem b_Mod_tell_74 : tf_dec prog_13_method_22_code 74 [(.iconst 4, 1), (.iload_n 3, 1), (.imul, 1), (.aload_n 0, 1)] = true := by decide +kernel
theorem d_Mod_tell_78 : decode prog_13_method_22_code 78 = .ok (.getfield 69, 3) := by decide +kernel
theorem b_Mod_tell_81 : tf_dec prog_13_method_22_code 81 [(.iload_n 2, 1)] = true := by decide +kernel
theorem d_Mod_tell_82 : decode prog_13_method_22_code 82 = .ok (.iaload, 1) := by decide +kernel
theorem b_Mod_tell_83 : tf_dec prog_13_method_22_code 83 [(.iadd, 1)] = true := by decide +kernel
theorem d_Mod_tell_84 : decode prog_13_method_22_code 84 = .ok (.iaload, 1) := by decide +kernel
theorem d_Mod_tell_85 : decode prog_13_method_22_code 85 = .ok (.iastore, 1) := by decide +kernel
theorem b_Mod_tell_86 : tf_dec prog_13_method_22_code 86 [(.aload_n 0, 1)] = true := by decide +kernel
theorem d_Mod_tell_87 : decode prog_13_method_22_code 87 = .ok (.getfield 69, 3) := by decide +kernel
theorem b_Mod_tell_90 : tf_dec prog_13_method_22_code 90 [(.iload_n 2, 1), (.dup2, 1)] = true := by decide +kernel
theorem d_Mod_tell_92 : decode prog_13_method_22_code 92 = .ok (.iaload, 1) := by decide +kernel
theorem b_Mod_tell_93 : tf_dec prog_13_method_22_code 93 [(.iconst 1, 1), (.iadd, 1)] = true := by decide +kernel
theorem d_Mod_tell_95 : decode prog_13_method_22_code 95 = .ok (.iastore, 1) := by decide +kernel
theorem b_Mod_tell_96 : tf_dec prog_13_method_22_code 96 [(.iinc 2 1, 3), (.aload_n 0, 1)] = true := by decide +kernel
theorem d_Mod_tell_100 : decode prog_13_method_22_code 100 = .ok (.getfield 69, 3) := by decide +kernel
theorem b_Mod_tell_103 : tf_dec prog_13_method_22_code 103 [(.iload_n 2, 1), (.iconst 0, 1)] = true := by decide +kernel
theorem d_Mod_tell_105 : decode prog_13_method_22_code 105 = .ok (.iastore, 1) := by decide +kernel
theorem b_Mod_tell_106 : tf_dec prog_13_method_22_code 106 [(.aload_n 0, 1), (.iload_n 2, 1)] = true := by decide +kernel
theorem d_Mod_tell_108 : decode prog_13_method_22_code 108 = .ok (.invokevirtual 193, 3) := by decide +kernel
theorem d_Mod_tell_111 : decode prog_13_method_22_code 111 = .ok (.goto (-80), 3) := by decide +kernel
theorem d_Mod_tell_114 : decode prog_13_method_22_code 114 = .ok (.return_, 1) := by decide +kernel
theorem b_Mod_widthOf_0 : tf_dec prog_13_method_23_code 0 [(.aload_n 0, 1), (.aload_n 0, 1)] = true := by decide +kernel
theorem d_Mod_widthOf_2 : decode prog_13_method_23_code 2 = .ok (.getfield 26, 3) := by decide +kernel
theorem b_Mod_widthOf_5 : tf_dec prog_13_method_23_code 5 [(.iconst 4, 1), (.iload_n 1, 1), (.imul, 1)] = true := by decide +kernel
theorem d_Mod_widthOf_8 : decode prog_13_method_23_code 8 = .ok (.iaload, 1) := by decide +kernel
theorem b_Mod_widthOf_9 : tf_dec prog_13_method_23_code 9 [(.aload_n 0, 1)] = true := by decide +kernel
theorem d_Mod_widthOf_10 : decode prog_13_method_23_code 10 = .ok (.getfield 26, 3) := by decide +kernel
theorem b_Mod_widthOf_13 : tf_dec prog_13_method_23_code 13 [(.iconst 4, 1), (.iload_n 1, 1), (.imul, 1), (.iconst 1, 1), (.iadd, 1)] = true := by decide +kernel
theorem d_Mod_widthOf_18 : decode prog_13_method_23_code 18 = .ok (.iaload, 1) := by decide +kernel
theorem b_Mod_widthOf_19 : tf_dec prog_13_method_23_code 19 [(.aload_n 0, 1)] = true := by decide +kernel
theorem d_Mod_widthOf_20 : decode prog_13_method_23_code 20 = .ok (.getfield 26, 3) := by decide +kernel
theorem b_Mod_widthOf_23 : tf_dec prog_13_method_23_code 23 [(.iconst 4, 1), (.iload_n 1, 1), (.imul, 1), (.iconst 2, 1), (.iadd, 1)] = true := by decide +kernel
theorem d_Mod_widthOf_28 : decode prog_13_method_23_code 28 = .ok (.iaload, 1) := by decide +kernel
theorem b_Mod_widthOf_29 : tf_dec prog_13_method_23_code 29 [(.aload_n 0, 1)] = true := by decide +kernel
theorem d_Mod_widthOf_30 : decode prog_13_method_23_code 30 = .ok (.getfield 26, 3) := by decide +kernel
theorem b_Mod_widthOf_33 : tf_dec prog_13_method_23_code 33 [(.iconst 4, 1), (.iload_n 1, 1), (.imul, 1), (.iconst 3, 1), (.iadd, 1)] = true := by decide +kernel
theorem d_Mod_widthOf_38 : decode prog_13_method_23_code 38 = .ok (.iaload, 1) := by decide +kernel
theorem d_Mod_widthOf_39 : decode prog_13_method_23_code 39 = .ok (.invokevirtual 170, 3) := by decide +kernel
theorem d_Mod_widthOf_42 : decode prog_13_method_23_code 42 = .ok (.ireturn, 1) := by decide +kernel
theorem b_Mod_outline_0 : tf_dec prog_13_method_24_code 0 [(.aload_n 0, 1), (.aload_n 0, 1), (.iload_n 1, 1)] = true := by decide +kernel
theorem d_Mod_outline_3 : decode prog_13_method_24_code 3 = .ok (.invokevirtual 148, 3) := by decide +kernel
theorem d_Mod_outline_6 : decode prog_13_method_24_code 6 = .ok (.ifCond .eq 17, 3) := by decide +kernel
theorem b_Mod_outline_9 : tf_dec prog_13_method_24_code 9 [(.iload_n 3, 1)] = true := by decide +kernel
theorem d_Mod_outline_10 : decode prog_13_method_24_code 10 = .ok (.ifCond .lt 13, 3) := by decide +kernel
theorem b_Mod_outline_13 : tf_dec prog_13_method_24_code 13 [(.iload_n 3, 1), (.iconst 3, 1)] = true := by decide +kernel
theorem d_Mod_outline_15 : decode prog_13_method_24_code 15 = .ok (.if_icmp .gt 8, 3) := by decide +kernel
theorem b_Mod_outline_18 : tf_dec prog_13_method_24_code 18 [(.iload_n 2, 1), (.iconst (-1), 1)] = true := by decide +kernel
theorem d_Mod_outline_20 : decode prog_13_method_24_code 20 = .ok (.if_icmp .ge 7, 3) := by decide +kernel
theorem b_Mod_outline_23 : tf_dec prog_13_method_24_code 23 [(.iconst 1, 1)] = true := by decide +kernel
theorem d_Mod_outline_24 : decode prog_13_method_24_code 24 = .ok (.goto 4, 3) := by decide +kernel
theorem b_Mod_outline_27 : tf_dec prog_13_method_24_code 27 [(.iconst 0, 1)] = true := by decide +kernel
theorem d_Mod_outline_28 : decode prog_13_method_24_code 28 = .ok (.putfield 123, 3) := by decide +kernel
theorem b_Mod_outline_31 : tf_dec prog_13_method_24_code 31 [(.aload_n 0, 1)] = true := by decide +kernel
theorem d_Mod_outline_32 : decode prog_13_method_24_code 32 = .ok (.getfield 123, 3) := by decide +kernel
theorem d_Mod_outline_35 : decode prog_13_method_24_code 35 = .ok (.ifCond .le 5, 3) := by decide +kernel
theorem b_Mod_outline_38 : tf_dec prog_13_method_24_code 38 [(.iconst 0, 1)] = true := by decide +kernel
theorem d_Mod_outline_39 : decode prog_13_method_24_code 39 = .ok (.ireturn, 1) := by decide +kernel
theorem b_Mod_outline_40 : tf_dec prog_13_method_24_code 40 [(.aload_n 0, 1), (.iload_n 1, 1)] = true := by decide +kernel
theorem d_Mod_outline_42 : decode prog_13_method_24_code 42 = .ok (.invokevirtual 197, 3) := by decide +kernel
theorem b_Mod_outline_45 : tf_dec prog_13_method_24_code 45 [(.aload_n 0, 1), (.iload_n 2, 1), (.aload_n 0, 1)] = true := by decide +kernel
theorem d_Mod_outline_48 : decode prog_13_method_24_code 48 = .ok (.getfield 187, 3) := by decide +kernel
theorem d_Mod_outline_51 : decode prog_13_method_24_code 51 = .ok (.if_icmp .lt 7, 3) := by decide +kernel
theorem b_Mod_outline_54 : tf_dec prog_13_method_24_code 54 [(.iconst 1, 1)] = true := by decide +kernel
theorem d_Mod_outline_55 : decode prog_13_method_24_code 55 = .ok (.goto 4, 3) := by decide +kernel
theorem b_Mod_outline_58 : tf_dec prog_13_method_24_code 58 [(.iconst 0, 1)] = true := by decide +kernel
theorem d_Mod_outline_59 : decode prog_13_method_24_code 59 = .ok (.putfield 123, 3) := by decide +kernel
theorem b_Mod_outline_62 : tf_dec prog_13_method_24_code 62 [(.aload_n 0, 1)] = true := by decide +kernel
theorem d_Mod_outline_63 : decode prog_13_method_24_code 63 = .ok (.getfield 123, 3) := by decide +kernel
theorem d_Mod_outline_66 : decode prog_13_method_24_code 66 = .ok (.ifCond .le 5, 3) := by decide +kernel
theorem b_Mod_outline_69 : tf_dec prog_13_method_24_code 69 [(.iconst 0, 1)] = true := by decide +kernel
theorem d_Mod_outline_70 : decode prog_13_method_24_code 70 = .ok (.ireturn, 1) := by decide +kernel
theorem b_Mod_outline_71 : tf_dec prog_13_method_24_code 71 [(.iload_n 2, 1), (.iconst (-1), 1)] = true := by decide +kernel
theorem d_Mod_outline_73 : decode prog_13_method_24_code 73 = .ok (.if_icmp .ne 46, 3) := by decide +kernel
theorem b_Mod_outline_76 : tf_dec prog_13_method_24_code 76 [(.iload_n 3, 1)] = true := by decide +kernel
theorem d_Mod_outline_77 : decode prog_13_method_24_code 77 = .ok (.ifCond .ne 10, 3) := by decide +kernel
theorem b_Mod_outline_80 : tf_dec prog_13_method_24_code 80 [(.aload_n 0, 1)] = true := by decide +kernel
theorem d_Mod_outline_81 : decode prog_13_method_24_code 81 = .ok (.getfield 187, 3) := by decide +kernel
theorem d_Mod_outline_84 : decode prog_13_method_24_code 84 = .ok (.goto 34, 3) := by decide +kernel
theorem b_Mod_outline_87 : tf_dec prog_13_method_24_code 87 [(.iload_n 3, 1), (.iconst 1, 1)] = true := by decide +kernel
theorem d_Mod_outline_89 : decode prog_13_method_24_code 89 = .ok (.if_icmp .ne 10, 3) := by decide +kernel
theorem b_Mod_outline_92 : tf_dec prog_13_method_24_code 92 [(.aload_n 0, 1)] = true := by decide +kernel
theorem d_Mod_outline_93 : decode prog_13_method_24_code 93 = .ok (.getfield 190, 3) := by decide +kernel
theorem d_Mod_outline_96 : decode prog_13_method_24_code 96 = .ok (.goto 22, 3) := by decide +kernel
theorem b_Mod_outline_99 : tf_dec prog_13_method_24_code 99 [(.iload_n 3, 1), (.iconst 2, 1)] = true := by decide +kernel
theorem d_Mod_outline_101 : decode prog_13_method_24_code 101 = .ok (.if_icmp .ne 11, 3) := by decide +kernel
theorem b_Mod_outline_104 : tf_dec prog_13_method_24_code 104 [(.aload_n 0, 1), (.iload_n 1, 1)] = true := by decide +kernel
theorem d_Mod_outline_106 : decode prog_13_method_24_code 106 = .ok (.invokevirtual 200, 3) := by decide +kernel
theorem d_Mod_outline_109 : decode prog_13_method_24_code 109 = .ok (.goto 9, 3) := by decide +kernel
theorem b_Mod_outline_112 : tf_dec prog_13_method_24_code 112 [(.aload_n 0, 1)] = true := by decide +kernel
theorem d_Mod_outline_113 : decode prog_13_method_24_code 113 = .ok (.getfield 33, 3) := by decide +kernel
theorem b_Mod_outline_116 : tf_dec prog_13_method_24_code 116 [(.iload_n 1, 1)] = true := by decide +kernel
theorem d_Mod_outline_117 : decode prog_13_method_24_code 117 = .ok (.iaload, 1) := by decide +kernel
theorem d_Mod_outline_118 : decode prog_13_method_24_code 118 = .ok (.ireturn, 1) := by decide +kernel
theorem b_Mod_outline_119 : tf_dec prog_13_method_24_code 119 [(.iload_n 3, 1)] = true := by decide +kernel
theorem d_Mod_outline_120 : decode prog_13_method_24_code 120 = .ok (.ifCond .ne 12, 3) := by decide +kernel
theorem b_Mod_outline_123 : tf_dec prog_13_method_24_code 123 [(.aload_n 0, 1)] = true := by decide +kernel
theorem d_Mod_outline_124 : decode prog_13_method_24_code 124 = .ok (.getfield 54, 3) := by decide +kernel
theorem b_Mod_outline_127 : tf_dec prog_13_method_24_code 127 [(.iload_n 2, 1)] = true := by decide +kernel
theorem d_Mod_outline_128 : decode prog_13_method_24_code 128 = .ok (.iaload, 1) := by decide +kernel
theorem d_Mod_outline_129 : decode prog_13_method_24_code 129 = .ok (.goto 45, 3) := by decide +kernel
theorem b_Mod_outline_132 : tf_dec prog_13_method_24_code 132 [(.iload_n 3, 1), (.iconst 1, 1)] = true := by decide +kernel
theorem d_Mod_outline_134 : decode prog_13_method_24_code 134 = .ok (.if_icmp .ne 12, 3) := by decide +kernel
theorem b_Mod_outline_137 : tf_dec prog_13_method_24_code 137 [(.aload_n 0, 1)] = true := by decide +kernel
theorem d_Mod_outline_138 : decode prog_13_method_24_code 138 = .ok (.getfield 57, 3) := by decide +kernel
theorem b_Mod_outline_141 : tf_dec prog_13_method_24_code 141 [(.iload_n 2, 1)] = true := by decide +kernel
theorem d_Mod_outline_142 : decode prog_13_method_24_code 142 = .ok (.iaload, 1) := by decide +kernel
theorem d_Mod_outline_143 : decode prog_13_method_24_code 143 = .ok (.goto 31, 3) := by decide +kernel
theorem b_Mod_outline_146 : tf_dec prog_13_method_24_code 146 [(.iload_n 3, 1), (.iconst 2, 1)] = true := by decide +kernel
theorem d_Mod_outline_148 : decode prog_13_method_24_code 148 = .ok (.if_icmp .ne 20, 3) := by decide +kernel
theorem b_Mod_outline_151 : tf_dec prog_13_method_24_code 151 [(.aload_n 0, 1)] = true := by decide +kernel
theorem d_Mod_outline_152 : decode prog_13_method_24_code 152 = .ok (.getfield 60, 3) := by decide +kernel
theorem b_Mod_outline_155 : tf_dec prog_13_method_24_code 155 [(.iload_n 2, 1)] = true := by decide +kernel
theorem d_Mod_outline_156 : decode prog_13_method_24_code 156 = .ok (.baload, 1) := by decide +kernel
theorem d_Mod_outline_157 : decode prog_13_method_24_code 157 = .ok (.ifCond .eq 7, 3) := by decide +kernel
theorem b_Mod_outline_160 : tf_dec prog_13_method_24_code 160 [(.iconst 1, 1)] = true := by decide +kernel
theorem d_Mod_outline_161 : decode prog_13_method_24_code 161 = .ok (.goto 13, 3) := by decide +kernel
theorem b_Mod_outline_164 : tf_dec prog_13_method_24_code 164 [(.iconst 0, 1)] = true := by decide +kernel
theorem d_Mod_outline_165 : decode prog_13_method_24_code 165 = .ok (.goto 9, 3) := by decide +kernel
theorem b_Mod_outline_168 : tf_dec prog_13_method_24_code 168 [(.aload_n 0, 1)] = true := by decide +kernel
theorem d_Mod_outline_169 : decode prog_13_method_24_code 169 = .ok (.getfield 63, 3) := by decide +kernel
theorem b_Mod_outline_172 : tf_dec prog_13_method_24_code 172 [(.iload_n 2, 1)] = true := by decide +kernel
theorem d_Mod_outline_173 : decode prog_13_method_24_code 173 = .ok (.iaload, 1) := by decide +kernel
theorem d_Mod_outline_174 : decode prog_13_method_24_code 174 = .ok (.ireturn, 1) := by decide +kernel
theorem b_Mod_height_0 : tf_dec prog_13_method_25_code 0 [(.aload_n 0, 1), (.iconst 0, 1)] = true := by decide +kernel
theorem d_Mod_height_2 : decode prog_13_method_25_code 2 = .ok (.putfield 123, 3) := by decide +kernel
theorem b_Mod_height_5 : tf_dec prog_13_method_25_code 5 [(.iconst 0, 1), (.istore_n 2, 1), (.iconst 0, 1), (.istore_n 3, 1)] = true := by decide +kernel
theorem b_Mod_height_9 : tf_dec prog_13_method_25_code 9 [(.iload_n 3, 1), (.aload_n 0, 1)] = true := by decide +kernel
theorem d_Mod_height_11 : decode prog_13_method_25_code 11 = .ok (.getfield 203, 3) := by decide +kernel
theorem d_Mod_height_14 : decode prog_13_method_25_code 14 = .ok (.if_icmp .ge 29, 3) := by decide +kernel
theorem b_Mod_height_17 : tf_dec prog_13_method_25_code 17 [(.iload_n 2, 1)] = true := by decide +kernel
theorem d_Mod_height_18 : decode prog_13_method_25_code 18 = .ok (.ifCond .ne 13, 3) := by decide +kernel
theorem b_Mod_height_21 : tf_dec prog_13_method_25_code 21 [(.aload_n 0, 1)] = true := by decide +kernel
theorem d_Mod_height_22 : decode prog_13_method_25_code 22 = .ok (.getfield 72, 3) := by decide +kernel
theorem b_Mod_height_25 : tf_dec prog_13_method_25_code 25 [(.iload_n 3, 1)] = true := by decide +kernel
theorem d_Mod_height_26 : decode prog_13_method_25_code 26 = .ok (.iaload, 1) := by decide +kernel
theorem b_Mod_height_27 : tf_dec prog_13_method_25_code 27 [(.iload_n 1, 1)] = true := by decide +kernel
theorem d_Mod_height_28 : decode prog_13_method_25_code 28 = .ok (.if_icmp .ne 7, 3) := by decide +kernel
theorem b_Mod_height_31 : tf_dec prog_13_method_25_code 31 [(.iconst 1, 1)] = true := by decide +kernel
theorem d_Mod_height_32 : decode prog_13_method_25_code 32 = .ok (.goto 4, 3) := by decide +kernel
theorem b_Mod_height_35 : tf_dec prog_13_method_25_code 35 [(.iconst 0, 1)] = true := by decide +kernel
theorem b_Mod_height_36 : tf_dec prog_13_method_25_code 36 [(.istore_n 2, 1), (.iinc 3 1, 3)] = true := by decide +kernel
theorem d_Mod_height_40 : decode prog_13_method_25_code 40 = .ok (.goto (-31), 3) := by decide +kernel
theorem b_Mod_height_43 : tf_dec prog_13_method_25_code 43 [(.iload_n 1, 1)] = true := by decide +kernel
theorem d_Mod_height_44 : decode prog_13_method_25_code 44 = .ok (.invokestatic 152, 3) := by decide +kernel
theorem d_Mod_height_47 : decode prog_13_method_25_code 47 = .ok (.ifCond .eq 16, 3) := by decide +kernel
theorem b_Mod_height_50 : tf_dec prog_13_method_25_code 50 [(.iload_n 2, 1)] = true := by decide +kernel
theorem d_Mod_height_51 : decode prog_13_method_25_code 51 = .ok (.ifCond .ne 12, 3) := by decide +kernel
theorem b_Mod_height_54 : tf_dec prog_13_method_25_code 54 [(.aload_n 0, 1)] = true := by decide +kernel
theorem d_Mod_height_55 : decode prog_13_method_25_code 55 = .ok (.getfield 203, 3) := by decide +kernel
theorem b_Mod_height_58 : tf_dec prog_13_method_25_code 58 [(.bipush 8, 2)] = true := by decide +kernel
theorem d_Mod_height_60 : decode prog_13_method_25_code 60 = .ok (.if_icmp .ne 5, 3) := by decide +kernel
theorem b_Mod_height_63 : tf_dec prog_13_method_25_code 63 [(.iconst 0, 1)] = true := by decide +kernel
theorem d_Mod_height_64 : decode prog_13_method_25_code 64 = .ok (.ireturn, 1) := by decide +kernel
theorem b_Mod_height_65 : tf_dec prog_13_method_25_code 65 [(.aload_n 0, 1)] = true := by decide +kernel
theorem d_Mod_height_66 : decode prog_13_method_25_code 66 = .ok (.getfield 72, 3) := by decide +kernel
theorem b_Mod_height_69 : tf_dec prog_13_method_25_code 69 [(.aload_n 0, 1)] = true := by decide +kernel
theorem d_Mod_height_70 : decode prog_13_method_25_code 70 = .ok (.getfield 203, 3) := by decide +kernel
theorem b_Mod_height_73 : tf_dec prog_13_method_25_code 73 [(.iload_n 1, 1)] = true := by decide +kernel
theorem d_Mod_height_74 : decode prog_13_method_25_code 74 = .ok (.iastore, 1) := by decide +kernel
theorem b_Mod_height_75 : tf_dec prog_13_method_25_code 75 [(.aload_n 0, 1), (.dup, 1)] = true := by decide +kernel
theorem d_Mod_height_77 : decode prog_13_method_25_code 77 = .ok (.getfield 203, 3) := by decide +kernel
theorem b_Mod_height_80 : tf_dec prog_13_method_25_code 80 [(.iconst 1, 1), (.iadd, 1)] = true := by decide +kernel
theorem d_Mod_height_82 : decode prog_13_method_25_code 82 = .ok (.putfield 203, 3) := by decide +kernel
theorem b_Mod_height_85 : tf_dec prog_13_method_25_code 85 [(.iconst 1, 1)] = true := by decide +kernel
theorem d_Mod_height_86 : decode prog_13_method_25_code 86 = .ok (.ireturn, 1) := by decide +kernel
theorem b_Mod_goal_0 : tf_dec prog_13_method_26_code 0 [(.iload_n 1, 1), (.i2l, 1), (.aload_n 0, 1)] = true := by decide +kernel
theorem d_Mod_goal_3 : decode prog_13_method_26_code 3 = .ok (.getfield 206, 3) := by decide +kernel
theorem b_Mod_goal_6 : tf_dec prog_13_method_26_code 6 [(.i2l, 1)] = true := by decide +kernel
theorem d_Mod_goal_7 : decode prog_13_method_26_code 7 = .ok (.invokestatic 140, 3) := by decide +kernel
theorem b_Mod_goal_10 : tf_dec prog_13_method_26_code 10 [(.l2i, 1), (.aload_n 0, 1)] = true := by decide +kernel
theorem d_Mod_goal_12 : decode prog_13_method_26_code 12 = .ok (.getfield 206, 3) := by decide +kernel
theorem b_Mod_goal_15 : tf_dec prog_13_method_26_code 15 [(.imul, 1)] = true := by decide +kernel
theorem d_Mod_goal_16 : decode prog_13_method_26_code 16 = .ok (.ireturn, 1) := by decide +kernel
theorem b_Mod_fit_0 : tf_dec prog_13_method_27_code 0 [(.aload_n 0, 1)] = true := by decide +kernel
theorem d_Mod_fit_1 : decode prog_13_method_27_code 1 = .ok (.getfield 209, 3) := by decide +kernel
theorem d_Mod_fit_4 : decode prog_13_method_27_code 4 = .ok (.ifCond .eq 10, 3) := by decide +kernel
theorem b_Mod_fit_7 : tf_dec prog_13_method_27_code 7 [(.aload_n 0, 1)] = true := by decide +kernel
theorem d_Mod_fit_8 : decode prog_13_method_27_code 8 = .ok (.getfield 203, 3) := by decide +kernel
theorem d_Mod_fit_11 : decode prog_13_method_27_code 11 = .ok (.ifCond .ne 5, 3) := by decide +kernel
theorem b_Mod_fit_14 : tf_dec prog_13_method_27_code 14 [(.iload_n 1, 1)] = true := by decide +kernel
theorem d_Mod_fit_15 : decode prog_13_method_27_code 15 = .ok (.ireturn, 1) := by decide +kernel
theorem b_Mod_fit_16 : tf_dec prog_13_method_27_code 16 [(.sipush (-9999), 3), (.istore_n 2, 1), (.sipush 9999, 3), (.istore_n 3, 1), (.iconst 0, 1), (.istore 4, 2)] = true := by decide +kernel
theorem b_Mod_fit_27 : tf_dec prog_13_method_27_code 27 [(.iload 4, 2), (.aload_n 0, 1)] = true := by decide +kernel
theorem d_Mod_fit_30 : decode prog_13_method_27_code 30 = .ok (.getfield 203, 3) := by decide +kernel
theorem d_Mod_fit_33 : decode prog_13_method_27_code 33 = .ok (.if_icmp .ge 56, 3) := by decide +kernel
theorem b_Mod_fit_36 : tf_dec prog_13_method_27_code 36 [(.aload_n 0, 1)] = true := by decide +kernel
theorem d_Mod_fit_37 : decode prog_13_method_27_code 37 = .ok (.getfield 72, 3) := by decide +kernel
theorem b_Mod_fit_40 : tf_dec prog_13_method_27_code 40 [(.iload 4, 2)] = true := by decide +kernel
theorem d_Mod_fit_42 : decode prog_13_method_27_code 42 = .ok (.iaload, 1) := by decide +kernel
theorem b_Mod_fit_43 : tf_dec prog_13_method_27_code 43 [(.istore 5, 2), (.iload 5, 2), (.iload_n 1, 1)] = true := by decide +kernel
theorem d_Mod_fit_48 : decode prog_13_method_27_code 48 = .ok (.if_icmp .gt 14, 3) := by decide +kernel
theorem b_Mod_fit_51 : tf_dec prog_13_method_27_code 51 [(.iload 5, 2), (.iload_n 2, 1)] = true := by decide +kernel
theorem d_Mod_fit_54 : decode prog_13_method_27_code 54 = .ok (.if_icmp .le 8, 3) := by decide +kernel
theorem b_Mod_fit_57 : tf_dec prog_13_method_27_code 57 [(.iload 5, 2)] = true := by decide +kernel
theorem d_Mod_fit_59 : decode prog_13_method_27_code 59 = .ok (.goto 4, 3) := by decide +kernel
theorem b_Mod_fit_62 : tf_dec prog_13_method_27_code 62 [(.iload_n 2, 1)] = true := by decide +kernel
theorem b_Mod_fit_63 : tf_dec prog_13_method_27_code 63 [(.istore_n 2, 1), (.iload 5, 2), (.iload_n 1, 1)] = true := by decide +kernel
theorem d_Mod_fit_67 : decode prog_13_method_27_code 67 = .ok (.if_icmp .lt 14, 3) := by decide +kernel
theorem b_Mod_fit_70 : tf_dec prog_13_method_27_code 70 [(.iload 5, 2), (.iload_n 3, 1)] = true := by decide +kernel
theorem d_Mod_fit_73 : decode prog_13_method_27_code 73 = .ok (.if_icmp .ge 8, 3) := by decide +kernel
theorem b_Mod_fit_76 : tf_dec prog_13_method_27_code 76 [(.iload 5, 2)] = true := by decide +kernel
theorem d_Mod_fit_78 : decode prog_13_method_27_code 78 = .ok (.goto 4, 3) := by decide +kernel
theorem b_Mod_fit_81 : tf_dec prog_13_method_27_code 81 [(.iload_n 3, 1)] = true := by decide +kernel
theorem b_Mod_fit_82 : tf_dec prog_13_method_27_code 82 [(.istore_n 3, 1), (.iinc 4 1, 3)] = true := by decide +kernel
theorem d_Mod_fit_86 : decode prog_13_method_27_code 86 = .ok (.goto (-59), 3) := by decide +kernel
theorem b_Mod_fit_89 : tf_dec prog_13_method_27_code 89 [(.iload_n 2, 1), (.sipush (-9999), 3)] = true := by decide +kernel
theorem d_Mod_fit_93 : decode prog_13_method_27_code 93 = .ok (.if_icmp .ne 13, 3) := by decide +kernel
theorem b_Mod_fit_96 : tf_dec prog_13_method_27_code 96 [(.iload_n 1, 1), (.aload_n 0, 1), (.iload_n 3, 1)] = true := by decide +kernel
theorem d_Mod_fit_99 : decode prog_13_method_27_code 99 = .ok (.invokevirtual 213, 3) := by decide +kernel
theorem b_Mod_fit_102 : tf_dec prog_13_method_27_code 102 [(.iadd, 1), (.iload_n 3, 1), (.isub, 1)] = true := by decide +kernel
theorem d_Mod_fit_105 : decode prog_13_method_27_code 105 = .ok (.ireturn, 1) := by decide +kernel
theorem b_Mod_fit_106 : tf_dec prog_13_method_27_code 106 [(.iload_n 3, 1), (.sipush 9999, 3)] = true := by decide +kernel
theorem d_Mod_fit_110 : decode prog_13_method_27_code 110 = .ok (.if_icmp .eq 8, 3) := by decide +kernel
theorem b_Mod_fit_113 : tf_dec prog_13_method_27_code 113 [(.iload_n 3, 1), (.iload_n 2, 1)] = true := by decide +kernel
theorem d_Mod_fit_115 : decode prog_13_method_27_code 115 = .ok (.if_icmp .ne 13, 3) := by decide +kernel
theorem b_Mod_fit_118 : tf_dec prog_13_method_27_code 118 [(.iload_n 1, 1), (.aload_n 0, 1), (.iload_n 2, 1)] = true := by decide +kernel
theorem d_Mod_fit_121 : decode prog_13_method_27_code 121 = .ok (.invokevirtual 213, 3) := by decide +kernel
theorem b_Mod_fit_124 : tf_dec prog_13_method_27_code 124 [(.iadd, 1), (.iload_n 2, 1), (.isub, 1)] = true := by decide +kernel
theorem d_Mod_fit_127 : decode prog_13_method_27_code 127 = .ok (.ireturn, 1) := by decide +kernel
theorem b_Mod_fit_128 : tf_dec prog_13_method_27_code 128 [(.aload_n 0, 1), (.iload_n 2, 1)] = true := by decide +kernel
theorem d_Mod_fit_130 : decode prog_13_method_27_code 130 = .ok (.invokevirtual 213, 3) := by decide +kernel
theorem b_Mod_fit_133 : tf_dec prog_13_method_27_code 133 [(.i2l, 1), (.iload_n 1, 1), (.iload_n 2, 1), (.isub, 1), (.i2l, 1), (.aload_n 0, 1), (.iload_n 3, 1)] = true := by decide +kernel
theorem d_Mod_fit_140 : decode prog_13_method_27_code 140 = .ok (.invokevirtual 213, 3) := by decide +kernel
theorem b_Mod_fit_143 : tf_dec prog_13_method_27_code 143 [(.aload_n 0, 1), (.iload_n 2, 1)] = true := by decide +kernel
theorem d_Mod_fit_145 : decode prog_13_method_27_code 145 = .ok (.invokevirtual 213, 3) := by decide +kernel
theorem b_Mod_fit_148 : tf_dec prog_13_method_27_code 148 [(.isub, 1), (.i2l, 1), (.lmul, 1), (.iload_n 3, 1), (.iload_n 2, 1), (.isub, 1), (.i2l, 1)] = true := by decide +kernel
theorem d_Mod_fit_155 : decode prog_13_method_27_code 155 = .ok (.invokestatic 140, 3) := by decide +kernel
theorem b_Mod_fit_158 : tf_dec prog_13_method_27_code 158 [(.ladd, 1), (.l2i, 1)] = true := by decide +kernel
theorem d_Mod_fit_160 : decode prog_13_method_27_code 160 = .ok (.ireturn, 1) := by decide +kernel
theorem b_Mod_cover_0 : tf_dec prog_13_method_28_code 0 [(.iload 4, 2), (.iload_n 2, 1), (.isub, 1), (.istore 5, 2), (.iload_n 2, 1), (.iload 4, 2)] = true := by decide +kernel
theorem d_Mod_cover_9 : decode prog_13_method_28_code 9 = .ok (.if_icmp .ge 8, 3) := by decide +kernel
theorem b_Mod_cover_12 : tf_dec prog_13_method_28_code 12 [(.iload_n 2, 1), (.i2l, 1)] = true := by decide +kernel
theorem d_Mod_cover_14 : decode prog_13_method_28_code 14 = .ok (.goto 6, 3) := by decide +kernel
theorem b_Mod_cover_17 : tf_dec prog_13_method_28_code 17 [(.iload 4, 2), (.i2l, 1)] = true := by decide +kernel
theorem b_Mod_cover_20 : tf_dec prog_13_method_28_code 20 [(.aload_n 0, 1)] = true := by decide +kernel
theorem d_Mod_cover_21 : decode prog_13_method_28_code 21 = .ok (.getfield 206, 3) := by decide +kernel
theorem b_Mod_cover_24 : tf_dec prog_13_method_28_code 24 [(.i2l, 1)] = true := by decide +kernel
theorem d_Mod_cover_25 : decode prog_13_method_28_code 25 = .ok (.invokestatic 128, 3) := by decide +kernel
theorem b_Mod_cover_28 : tf_dec prog_13_method_28_code 28 [(.l2i, 1), (.istore 6, 2), (.iload 5, 2)] = true := by decide +kernel
theorem d_Mod_cover_33 : decode prog_13_method_28_code 33 = .ok (.ifCond .eq 17, 3) := by decide +kernel
theorem b_Mod_cover_36 : tf_dec prog_13_method_28_code 36 [(.iload 6, 2)] = true := by decide +kernel
theorem d_Mod_cover_38 : decode prog_13_method_28_code 38 = .ok (.ifCond .lt 12, 3) := by decide +kernel
theorem b_Mod_cover_41 : tf_dec prog_13_method_28_code 41 [(.iload 6, 2), (.aload_n 0, 1)] = true := by decide +kernel
theorem d_Mod_cover_44 : decode prog_13_method_28_code 44 = .ok (.getfield 216, 3) := by decide +kernel
theorem d_Mod_cover_47 : decode prog_13_method_28_code 47 = .ok (.if_icmp .lt 4, 3) := by decide +kernel
theorem d_Mod_cover_50 : decode prog_13_method_28_code 50 = .ok (.return_, 1) := by decide +kernel
theorem b_Mod_cover_51 : tf_dec prog_13_method_28_code 51 [(.iload_n 1, 1), (.iload_n 3, 1)] = true := by decide +kernel
theorem d_Mod_cover_53 : decode prog_13_method_28_code 53 = .ok (.if_icmp .ge 8, 3) := by decide +kernel
theorem b_Mod_cover_56 : tf_dec prog_13_method_28_code 56 [(.iload_n 1, 1), (.i2l, 1)] = true := by decide +kernel
theorem d_Mod_cover_58 : decode prog_13_method_28_code 58 = .ok (.goto 5, 3) := by decide +kernel
theorem b_Mod_cover_61 : tf_dec prog_13_method_28_code 61 [(.iload_n 3, 1), (.i2l, 1)] = true := by decide +kernel
theorem b_Mod_cover_63 : tf_dec prog_13_method_28_code 63 [(.aload_n 0, 1)] = true := by decide +kernel
theorem d_Mod_cover_64 : decode prog_13_method_28_code 64 = .ok (.getfield 206, 3) := by decide +kernel
theorem b_Mod_cover_67 : tf_dec prog_13_method_28_code 67 [(.i2l, 1)] = true := by decide +kernel
theorem d_Mod_cover_68 : decode prog_13_method_28_code 68 = .ok (.invokestatic 128, 3) := by decide +kernel
theorem b_Mod_cover_71 : tf_dec prog_13_method_28_code 71 [(.l2i, 1), (.istore 7, 2), (.iconst 0, 1), (.istore 8, 2)] = true := by decide +kernel
theorem b_Mod_cover_77 : tf_dec prog_13_method_28_code 77 [(.iload 8, 2), (.aload_n 0, 1)] = true := by decide +kernel
theorem d_Mod_cover_80 : decode prog_13_method_28_code 80 = .ok (.getfield 216, 3) := by decide +kernel
theorem d_Mod_cover_83 : decode prog_13_method_28_code 83 = .ok (.if_icmp .ge 43, 3) := by decide +kernel
theorem b_Mod_cover_86 : tf_dec prog_13_method_28_code 86 [(.iload 8, 2), (.iload 7, 2)] = true := by decide +kernel
theorem d_Mod_cover_90 : decode prog_13_method_28_code 90 = .ok (.if_icmp .ge 36, 3) := by decide +kernel
theorem b_Mod_cover_93 : tf_dec prog_13_method_28_code 93 [(.aload_n 0, 1)] = true := by decide +kernel
theorem d_Mod_cover_94 : decode prog_13_method_28_code 94 = .ok (.getfield 75, 3) := by decide +kernel
theorem b_Mod_cover_97 : tf_dec prog_13_method_28_code 97 [(.aload_n 0, 1)] = true := by decide +kernel
theorem d_Mod_cover_98 : decode prog_13_method_28_code 98 = .ok (.getfield 216, 3) := by decide +kernel
theorem b_Mod_cover_101 : tf_dec prog_13_method_28_code 101 [(.iload 6, 2), (.imul, 1), (.iload 8, 2), (.iadd, 1), (.dup2, 1)] = true := by decide +kernel
theorem d_Mod_cover_108 : decode prog_13_method_28_code 108 = .ok (.iaload, 1) := by decide +kernel
theorem b_Mod_cover_109 : tf_dec prog_13_method_28_code 109 [(.iload 5, 2), (.iconst 2, 1), (.imul, 1), (.aload_n 0, 1)] = true := by decide +kernel
theorem d_Mod_cover_114 : decode prog_13_method_28_code 114 = .ok (.getfield 206, 3) := by decide +kernel
theorem b_Mod_cover_117 : tf_dec prog_13_method_28_code 117 [(.imul, 1), (.iadd, 1)] = true := by decide +kernel
theorem d_Mod_cover_119 : decode prog_13_method_28_code 119 = .ok (.iastore, 1) := by decide +kernel
theorem b_Mod_cover_120 : tf_dec prog_13_method_28_code 120 [(.iinc 8 1, 3)] = true := by decide +kernel
theorem d_Mod_cover_123 : decode prog_13_method_28_code 123 = .ok (.goto (-46), 3) := by decide +kernel
theorem b_Mod_cover_126 : tf_dec prog_13_method_28_code 126 [(.iload 7, 2)] = true := by decide +kernel
theorem d_Mod_cover_128 : decode prog_13_method_28_code 128 = .ok (.ifCond .lt 46, 3) := by decide +kernel
theorem b_Mod_cover_131 : tf_dec prog_13_method_28_code 131 [(.iload 7, 2), (.aload_n 0, 1)] = true := by decide +kernel
theorem d_Mod_cover_134 : decode prog_13_method_28_code 134 = .ok (.getfield 216, 3) := by decide +kernel
theorem d_Mod_cover_137 : decode prog_13_method_28_code 137 = .ok (.if_icmp .ge 37, 3) := by decide +kernel
theorem b_Mod_cover_140 : tf_dec prog_13_method_28_code 140 [(.aload_n 0, 1)] = true := by decide +kernel
theorem d_Mod_cover_141 : decode prog_13_method_28_code 141 = .ok (.getfield 75, 3) := by decide +kernel
theorem b_Mod_cover_144 : tf_dec prog_13_method_28_code 144 [(.aload_n 0, 1)] = true := by decide +kernel
theorem d_Mod_cover_145 : decode prog_13_method_28_code 145 = .ok (.getfield 216, 3) := by decide +kernel
theorem b_Mod_cover_148 : tf_dec prog_13_method_28_code 148 [(.iload 6, 2), (.imul, 1), (.iload 7, 2), (.iadd, 1), (.dup2, 1)] = true := by decide +kernel
theorem d_Mod_cover_155 : decode prog_13_method_28_code 155 = .ok (.iaload, 1) := by decide +kernel
theorem b_Mod_cover_156 : tf_dec prog_13_method_28_code 156 [(.iload 5, 2), (.iload_n 1, 1), (.iload_n 3, 1), (.iadd, 1), (.iconst 2, 1), (.iload 7, 2), (.imul, 1), (.aload_n 0, 1)] = true := by decide +kernel
theorem d_Mod_cover_166 : decode prog_13_method_28_code 166 = .ok (.getfield 206, 3) := by decide +kernel
theorem b_Mod_cover_169 : tf_dec prog_13_method_28_code 169 [(.imul, 1), (.isub, 1), (.imul, 1), (.iadd, 1)] = true := by decide +kernel
theorem d_Mod_cover_173 : decode prog_13_method_28_code 173 = .ok (.iastore, 1) := by decide +kernel
theorem d_Mod_cover_174 : decode prog_13_method_28_code 174 = .ok (.return_, 1) := by decide +kernel
theorem b_Mod_nextStop_0 : tf_dec prog_13_method_29_code 0 [(.iload_n 1, 1), (.iload_n 2, 1)] = true := by decide +kernel
theorem d_Mod_nextStop_2 : decode prog_13_method_29_code 2 = .ok (.if_icmp .ne 5, 3) := by decide +kernel
theorem b_Mod_nextStop_5 : tf_dec prog_13_method_29_code 5 [(.iload_n 2, 1)] = true := by decide +kernel
theorem d_Mod_nextStop_6 : decode prog_13_method_29_code 6 = .ok (.ireturn, 1) := by decide +kernel
theorem b_Mod_nextStop_7 : tf_dec prog_13_method_29_code 7 [(.iload_n 1, 1), (.iload_n 2, 1)] = true := by decide +kernel
theorem d_Mod_nextStop_9 : decode prog_13_method_29_code 9 = .ok (.if_icmp .ge 24, 3) := by decide +kernel
theorem b_Mod_nextStop_12 : tf_dec prog_13_method_29_code 12 [(.iload_n 1, 1), (.i2l, 1), (.aload_n 0, 1)] = true := by decide +kernel
theorem d_Mod_nextStop_15 : decode prog_13_method_29_code 15 = .ok (.getfield 206, 3) := by decide +kernel
theorem b_Mod_nextStop_18 : tf_dec prog_13_method_29_code 18 [(.i2l, 1)] = true := by decide +kernel
theorem d_Mod_nextStop_19 : decode prog_13_method_29_code 19 = .ok (.invokestatic 128, 3) := by decide +kernel
theorem b_Mod_nextStop_22 : tf_dec prog_13_method_29_code 22 [(.l2i, 1), (.iconst 1, 1), (.iadd, 1), (.aload_n 0, 1)] = true := by decide +kernel
theorem d_Mod_nextStop_26 : decode prog_13_method_29_code 26 = .ok (.getfield 206, 3) := by decide +kernel
theorem b_Mod_nextStop_29 : tf_dec prog_13_method_29_code 29 [(.imul, 1)] = true := by decide +kernel
theorem d_Mod_nextStop_30 : decode prog_13_method_29_code 30 = .ok (.goto 23, 3) := by decide +kernel
theorem b_Mod_nextStop_33 : tf_dec prog_13_method_29_code 33 [(.iload_n 1, 1), (.ineg, 1), (.i2l, 1), (.aload_n 0, 1)] = true := by decide +kernel
theorem d_Mod_nextStop_37 : decode prog_13_method_29_code 37 = .ok (.getfield 206, 3) := by decide +kernel
theorem b_Mod_nextStop_40 : tf_dec prog_13_method_29_code 40 [(.i2l, 1)] = true := by decide +kernel
theorem d_Mod_nextStop_41 : decode prog_13_method_29_code 41 = .ok (.invokestatic 128, 3) := by decide +kernel
theorem b_Mod_nextStop_44 : tf_dec prog_13_method_29_code 44 [(.l2i, 1), (.ineg, 1), (.iconst 1, 1), (.isub, 1), (.aload_n 0, 1)] = true := by decide +kernel
theorem d_Mod_nextStop_49 : decode prog_13_method_29_code 49 = .ok (.getfield 206, 3) := by decide +kernel
theorem b_Mod_nextStop_52 : tf_dec prog_13_method_29_code 52 [(.imul, 1)] = true := by decide +kernel
theorem b_Mod_nextStop_53 : tf_dec prog_13_method_29_code 53 [(.istore_n 3, 1), (.iload_n 1, 1), (.iload_n 2, 1)] = true := by decide +kernel
theorem d_Mod_nextStop_56 : decode prog_13_method_29_code 56 = .ok (.if_icmp .ge 16, 3) := by decide +kernel
theorem b_Mod_nextStop_59 : tf_dec prog_13_method_29_code 59 [(.iload_n 3, 1), (.iload_n 2, 1)] = true := by decide +kernel
theorem d_Mod_nextStop_61 : decode prog_13_method_29_code 61 = .ok (.if_icmp .ge 7, 3) := by decide +kernel
theorem b_Mod_nextStop_64 : tf_dec prog_13_method_29_code 64 [(.iload_n 3, 1)] = true := by decide +kernel
theorem d_Mod_nextStop_65 : decode prog_13_method_29_code 65 = .ok (.goto 17, 3) := by decide +kernel
theorem b_Mod_nextStop_68 : tf_dec prog_13_method_29_code 68 [(.iload_n 2, 1)] = true := by decide +kernel
theorem d_Mod_nextStop_69 : decode prog_13_method_29_code 69 = .ok (.goto 13, 3) := by decide +kernel
theorem b_Mod_nextStop_72 : tf_dec prog_13_method_29_code 72 [(.iload_n 3, 1), (.iload_n 2, 1)] = true := by decide +kernel
theorem d_Mod_nextStop_74 : decode prog_13_method_29_code 74 = .ok (.if_icmp .le 7, 3) := by decide +kernel
theorem b_Mod_nextStop_77 : tf_dec prog_13_method_29_code 77 [(.iload_n 3, 1)] = true := by decide +kernel
theorem d_Mod_nextStop_78 : decode prog_13_method_29_code 78 = .ok (.goto 4, 3) := by decide +kernel
theorem b_Mod_nextStop_81 : tf_dec prog_13_method_29_code 81 [(.iload_n 2, 1)] = true := by decide +kernel
theorem d_Mod_nextStop_82 : decode prog_13_method_29_code 82 = .ok (.ireturn, 1) := by decide +kernel
theorem b_Mod_at_0 : tf_dec prog_13_method_30_code 0 [(.iload_n 1, 1), (.iload_n 0, 1), (.isub, 1), (.i2l, 1), (.iload 4, 2), (.iload_n 2, 1), (.isub, 1), (.i2l, 1), (.lmul, 1), (.lstore 5, 2), (.iload_n 0, 1), (.iload_n 3, 1), (.iload_n 2, 1)] = true := by decide +kernel
theorem d_Mod_at_15 : decode prog_13_method_30_code 15 = .ok (.if_icmp .le 15, 3) := by decide +kernel
theorem b_Mod_at_18 : tf_dec prog_13_method_30_code 18 [(.lload 5, 2), (.iload_n 3, 1), (.iload_n 2, 1), (.isub, 1), (.i2l, 1)] = true := by decide +kernel
theorem d_Mod_at_24 : decode prog_13_method_30_code 24 = .ok (.invokestatic 140, 3) := by decide +kernel
theorem d_Mod_at_27 : decode prog_13_method_30_code 27 = .ok (.goto 13, 3) := by decide +kernel
theorem b_Mod_at_30 : tf_dec prog_13_method_30_code 30 [(.lload 5, 2), (.lneg, 1), (.iload_n 2, 1), (.iload_n 3, 1), (.isub, 1), (.i2l, 1)] = true := by decide +kernel
theorem d_Mod_at_37 : decode prog_13_method_30_code 37 = .ok (.invokestatic 140, 3) := by decide +kernel
theorem b_Mod_at_40 : tf_dec prog_13_method_30_code 40 [(.l2i, 1), (.iadd, 1)] = true := by decide +kernel
theorem d_Mod_at_42 : decode prog_13_method_30_code 42 = .ok (.ireturn, 1) := by decide +kernel
theorem b_Mod_across_0 : tf_dec prog_13_method_31_code 0 [(.iload_n 1, 1), (.istore 5, 2), (.iload_n 2, 1), (.istore 6, 2)] = true := by decide +kernel
theorem b_Mod_across_6 : tf_dec prog_13_method_31_code 6 [(.iload 5, 2), (.iload_n 3, 1)] = true := by decide +kernel
theorem d_Mod_across_9 : decode prog_13_method_31_code 9 = .ok (.if_icmp .eq 58, 3) := by decide +kernel
theorem b_Mod_across_12 : tf_dec prog_13_method_31_code 12 [(.aload_n 0, 1), (.iload 5, 2), (.iload_n 3, 1)] = true := by decide +kernel
theorem d_Mod_across_16 : decode prog_13_method_31_code 16 = .ok (.invokevirtual 219, 3) := by decide +kernel
theorem b_Mod_across_19 : tf_dec prog_13_method_31_code 19 [(.istore 7, 2), (.iload 7, 2), (.iload_n 3, 1)] = true := by decide +kernel
theorem d_Mod_across_24 : decode prog_13_method_31_code 24 = .ok (.if_icmp .ne 8, 3) := by decide +kernel
theorem b_Mod_across_27 : tf_dec prog_13_method_31_code 27 [(.iload 4, 2)] = true := by decide +kernel
theorem d_Mod_across_29 : decode prog_13_method_31_code 29 = .ok (.goto 13, 3) := by decide +kernel
theorem b_Mod_across_32 : tf_dec prog_13_method_31_code 32 [(.iload_n 2, 1), (.iload 4, 2), (.iload_n 1, 1), (.iload_n 3, 1), (.iload 7, 2)] = true := by decide +kernel
theorem d_Mod_across_39 : decode prog_13_method_31_code 39 = .ok (.invokestatic 222, 3) := by decide +kernel
theorem b_Mod_across_42 : tf_dec prog_13_method_31_code 42 [(.istore 8, 2), (.aload_n 0, 1), (.iload 5, 2), (.iload 6, 2), (.iload 7, 2), (.iload 8, 2)] = true := by decide +kernel
theorem d_Mod_across_53 : decode prog_13_method_31_code 53 = .ok (.invokevirtual 226, 3) := by decide +kernel
theorem b_Mod_across_56 : tf_dec prog_13_method_31_code 56 [(.iload 7, 2), (.istore 5, 2), (.iload 8, 2), (.istore 6, 2)] = true := by decide +kernel
theorem d_Mod_across_64 : decode prog_13_method_31_code 64 = .ok (.goto (-58), 3) := by decide +kernel
theorem b_Mod_across_67 : tf_dec prog_13_method_31_code 67 [(.aload_n 0, 1), (.iload 5, 2), (.iload 6, 2), (.iload_n 3, 1), (.iload 4, 2)] = true := by decide +kernel
theorem d_Mod_across_75 : decode prog_13_method_31_code 75 = .ok (.invokevirtual 226, 3) := by decide +kernel
theorem d_Mod_across_78 : decode prog_13_method_31_code 78 = .ok (.return_, 1) := by decide +kernel
theorem b_Mod_line_0 : tf_dec prog_13_method_32_code 0 [(.aload_n 0, 1), (.iload_n 2, 1)] = true := by decide +kernel
theorem d_Mod_line_2 : decode prog_13_method_32_code 2 = .ok (.invokevirtual 230, 3) := by decide +kernel
theorem b_Mod_line_5 : tf_dec prog_13_method_32_code 5 [(.istore 5, 2), (.aload_n 0, 1), (.iload 4, 2)] = true := by decide +kernel
theorem d_Mod_line_10 : decode prog_13_method_32_code 10 = .ok (.invokevirtual 230, 3) := by decide +kernel
theorem b_Mod_line_13 : tf_dec prog_13_method_32_code 13 [(.istore 6, 2), (.iload_n 1, 1), (.istore 7, 2), (.iload 5, 2), (.istore 8, 2)] = true := by decide +kernel
theorem b_Mod_line_22 : tf_dec prog_13_method_32_code 22 [(.iload 8, 2), (.iload 6, 2)] = true := by decide +kernel
theorem d_Mod_line_26 : decode prog_13_method_32_code 26 = .ok (.if_icmp .eq 60, 3) := by decide +kernel
theorem b_Mod_line_29 : tf_dec prog_13_method_32_code 29 [(.aload_n 0, 1), (.iload 8, 2), (.iload 6, 2)] = true := by decide +kernel
theorem d_Mod_line_34 : decode prog_13_method_32_code 34 = .ok (.invokevirtual 219, 3) := by decide +kernel
theorem b_Mod_line_37 : tf_dec prog_13_method_32_code 37 [(.istore 9, 2), (.iload 9, 2), (.iload 6, 2)] = true := by decide +kernel
theorem d_Mod_line_43 : decode prog_13_method_32_code 43 = .ok (.if_icmp .ne 7, 3) := by decide +kernel
theorem b_Mod_line_46 : tf_dec prog_13_method_32_code 46 [(.iload_n 3, 1)] = true := by decide +kernel
theorem d_Mod_line_47 : decode prog_13_method_32_code 47 = .ok (.goto 14, 3) := by decide +kernel
theorem b_Mod_line_50 : tf_dec prog_13_method_32_code 50 [(.iload_n 1, 1), (.iload_n 3, 1), (.iload 5, 2), (.iload 6, 2), (.iload 9, 2)] = true := by decide +kernel
theorem d_Mod_line_58 : decode prog_13_method_32_code 58 = .ok (.invokestatic 222, 3) := by decide +kernel
theorem b_Mod_line_61 : tf_dec prog_13_method_32_code 61 [(.istore 10, 2), (.aload_n 0, 1), (.iload 7, 2), (.iload 8, 2), (.iload 10, 2), (.iload 9, 2)] = true := by decide +kernel
theorem d_Mod_line_72 : decode prog_13_method_32_code 72 = .ok (.invokevirtual 233, 3) := by decide +kernel
theorem b_Mod_line_75 : tf_dec prog_13_method_32_code 75 [(.iload 10, 2), (.istore 7, 2), (.iload 9, 2), (.istore 8, 2)] = true := by decide +kernel
theorem d_Mod_line_83 : decode prog_13_method_32_code 83 = .ok (.goto (-61), 3) := by decide +kernel
theorem d_Mod_line_86 : decode prog_13_method_32_code 86 = .ok (.return_, 1) := by decide +kernel
theorem b_Mod_lineTo_0 : tf_dec prog_13_method_33_code 0 [(.aload_n 0, 1), (.aload_n 0, 1)] = true := by decide +kernel
theorem d_Mod_lineTo_2 : decode prog_13_method_33_code 2 = .ok (.getfield 236, 3) := by decide +kernel
theorem b_Mod_lineTo_5 : tf_dec prog_13_method_33_code 5 [(.aload_n 0, 1)] = true := by decide +kernel
theorem d_Mod_lineTo_6 : decode prog_13_method_33_code 6 = .ok (.getfield 239, 3) := by decide +kernel
theorem b_Mod_lineTo_9 : tf_dec prog_13_method_33_code 9 [(.iload_n 1, 1), (.iload_n 2, 1)] = true := by decide +kernel
theorem d_Mod_lineTo_11 : decode prog_13_method_33_code 11 = .ok (.invokevirtual 242, 3) := by decide +kernel
theorem b_Mod_lineTo_14 : tf_dec prog_13_method_33_code 14 [(.aload_n 0, 1), (.iload_n 1, 1)] = true := by decide +kernel
theorem d_Mod_lineTo_16 : decode prog_13_method_33_code 16 = .ok (.putfield 236, 3) := by decide +kernel
theorem b_Mod_lineTo_19 : tf_dec prog_13_method_33_code 19 [(.aload_n 0, 1), (.iload_n 2, 1)] = true := by decide +kernel
theorem d_Mod_lineTo_21 : decode prog_13_method_33_code 21 = .ok (.putfield 239, 3) := by decide +kernel
theorem d_Mod_lineTo_24 : decode prog_13_method_33_code 24 = .ok (.return_, 1) := by decide +kernel
theorem b_Mod_quadratic_0 : tf_dec prog_13_method_34_code 0 [(.aload_n 0, 1)] = true := by decide +kernel
theorem d_Mod_quadratic_1 : decode prog_13_method_34_code 1 = .ok (.getfield 236, 3) := by decide +kernel
theorem b_Mod_quadratic_4 : tf_dec prog_13_method_34_code 4 [(.istore 5, 2), (.aload_n 0, 1)] = true := by decide +kernel
theorem d_Mod_quadratic_7 : decode prog_13_method_34_code 7 = .ok (.getfield 239, 3) := by decide +kernel
theorem b_Mod_quadratic_10 : tf_dec prog_13_method_34_code 10 [(.istore 6, 2), (.iconst 1, 1), (.istore 7, 2)] = true := by decide +kernel
theorem b_Mod_quadratic_15 : tf_dec prog_13_method_34_code 15 [(.iload 7, 2), (.bipush 8, 2)] = true := by decide +kernel
theorem d_Mod_quadratic_19 : decode prog_13_method_34_code 19 = .ok (.if_icmp .ge 91, 3) := by decide +kernel
theorem b_Mod_quadratic_22 : tf_dec prog_13_method_34_code 22 [(.bipush 8, 2), (.iload 7, 2), (.isub, 1), (.bipush 8, 2), (.iload 7, 2), (.isub, 1), (.imul, 1), (.istore 8, 2), (.iconst 2, 1), (.iload 7, 2), (.imul, 1), (.bipush 8, 2), (.iload 7, 2), (.isub, 1), (.imul, 1), (.istore 9, 2), (.aload_n 0, 1), (.iload 8, 2), (.iload 5, 2), (.imul, 1), (.iload 9, 2), (.iload_n 1, 1), (.imul, 1), (.iadd, 1), (.iload 7, 2), (.iload 7, 2), (.imul, 1), (.iload_n 3, 1), (.imul, 1), (.iadd, 1), (.i2l, 1)] = true := by decide +kernel
theorem d_Mod_quadratic_67 : decode prog_13_method_34_code 67 = .ok (.ldc2_w 245, 3) := by decide +kernel
theorem d_Mod_quadratic_70 : decode prog_13_method_34_code 70 = .ok (.invokestatic 140, 3) := by decide +kernel
theorem b_Mod_quadratic_73 : tf_dec prog_13_method_34_code 73 [(.l2i, 1), (.iload 8, 2), (.iload 6, 2), (.imul, 1), (.iload 9, 2), (.iload_n 2, 1), (.imul, 1), (.iadd, 1), (.iload 7, 2), (.iload 7, 2), (.imul, 1), (.iload 4, 2), (.imul, 1), (.iadd, 1), (.i2l, 1)] = true := by decide +kernel
theorem d_Mod_quadratic_94 : decode prog_13_method_34_code 94 = .ok (.ldc2_w 245, 3) := by decide +kernel
theorem d_Mod_quadratic_97 : decode prog_13_method_34_code 97 = .ok (.invokestatic 140, 3) := by decide +kernel
theorem b_Mod_quadratic_100 : tf_dec prog_13_method_34_code 100 [(.l2i, 1)] = true := by decide +kernel
theorem d_Mod_quadratic_101 : decode prog_13_method_34_code 101 = .ok (.invokevirtual 247, 3) := by decide +kernel
theorem b_Mod_quadratic_104 : tf_dec prog_13_method_34_code 104 [(.iinc 7 1, 3)] = true := by decide +kernel
theorem d_Mod_quadratic_107 : decode prog_13_method_34_code 107 = .ok (.goto (-92), 3) := by decide +kernel
theorem b_Mod_quadratic_110 : tf_dec prog_13_method_34_code 110 [(.aload_n 0, 1), (.iload_n 3, 1), (.iload 4, 2)] = true := by decide +kernel
theorem d_Mod_quadratic_114 : decode prog_13_method_34_code 114 = .ok (.invokevirtual 247, 3) := by decide +kernel
theorem d_Mod_quadratic_117 : decode prog_13_method_34_code 117 = .ok (.return_, 1) := by decide +kernel
theorem b_Mod_middle_0 : tf_dec prog_13_method_35_code 0 [(.iload_n 0, 1), (.iload_n 1, 1), (.iadd, 1), (.i2l, 1)] = true := by decide +kernel
theorem d_Mod_middle_4 : decode prog_13_method_35_code 4 = .ok (.ldc2_w 126, 3) := by decide +kernel
theorem d_Mod_middle_7 : decode prog_13_method_35_code 7 = .ok (.invokestatic 140, 3) := by decide +kernel
theorem b_Mod_middle_10 : tf_dec prog_13_method_35_code 10 [(.l2i, 1)] = true := by decide +kernel
theorem d_Mod_middle_11 : decode prog_13_method_35_code 11 = .ok (.ireturn, 1) := by decide +kernel
theorem b_Mod_contour_0 : tf_dec prog_13_method_36_code 0 [(.iconst 0, 1), (.istore_n 3, 1)] = true := by decide +kernel
theorem b_Mod_contour_2 : tf_dec prog_13_method_36_code 2 [(.iload_n 3, 1), (.iload_n 2, 1)] = true := by decide +kernel
theorem d_Mod_contour_4 : decode prog_13_method_36_code 4 = .ok (.if_icmp .ge 279, 3) := by decide +kernel
theorem b_Mod_contour_7 : tf_dec prog_13_method_36_code 7 [(.iload_n 1, 1), (.iload_n 3, 1), (.iadd, 1), (.istore 4, 2), (.iload_n 1, 1), (.iload_n 3, 1), (.iconst 1, 1), (.iadd, 1), (.iload_n 2, 1)] = true := by decide +kernel
theorem d_Mod_contour_17 : decode prog_13_method_36_code 17 = .ok (.irem, 1) := by decide +kernel
theorem b_Mod_contour_18 : tf_dec prog_13_method_36_code 18 [(.iadd, 1), (.istore 5, 2), (.iload_n 1, 1), (.iload_n 3, 1), (.iload_n 2, 1), (.iadd, 1), (.iconst 1, 1), (.isub, 1), (.iload_n 2, 1)] = true := by decide +kernel
theorem d_Mod_contour_28 : decode prog_13_method_36_code 28 = .ok (.irem, 1) := by decide +kernel
theorem b_Mod_contour_29 : tf_dec prog_13_method_36_code 29 [(.iadd, 1), (.istore 6, 2), (.aload_n 0, 1)] = true := by decide +kernel
theorem d_Mod_contour_33 : decode prog_13_method_36_code 33 = .ok (.getfield 60, 3) := by decide +kernel
theorem b_Mod_contour_36 : tf_dec prog_13_method_36_code 36 [(.iload 4, 2)] = true := by decide +kernel
theorem d_Mod_contour_38 : decode prog_13_method_36_code 38 = .ok (.baload, 1) := by decide +kernel
theorem d_Mod_contour_39 : decode prog_13_method_36_code 39 = .ok (.ifCond .eq 56, 3) := by decide +kernel
theorem b_Mod_contour_42 : tf_dec prog_13_method_36_code 42 [(.aload_n 0, 1), (.aload_n 0, 1)] = true := by decide +kernel
theorem d_Mod_contour_44 : decode prog_13_method_36_code 44 = .ok (.getfield 54, 3) := by decide +kernel
theorem b_Mod_contour_47 : tf_dec prog_13_method_36_code 47 [(.iload 4, 2)] = true := by decide +kernel
theorem d_Mod_contour_49 : decode prog_13_method_36_code 49 = .ok (.iaload, 1) := by decide +kernel
theorem d_Mod_contour_50 : decode prog_13_method_36_code 50 = .ok (.putfield 236, 3) := by decide +kernel
theorem b_Mod_contour_53 : tf_dec prog_13_method_36_code 53 [(.aload_n 0, 1), (.aload_n 0, 1)] = true := by decide +kernel
theorem d_Mod_contour_55 : decode prog_13_method_36_code 55 = .ok (.getfield 57, 3) := by decide +kernel
theorem b_Mod_contour_58 : tf_dec prog_13_method_36_code 58 [(.iload 4, 2)] = true := by decide +kernel
theorem d_Mod_contour_60 : decode prog_13_method_36_code 60 = .ok (.iaload, 1) := by decide +kernel
theorem d_Mod_contour_61 : decode prog_13_method_36_code 61 = .ok (.putfield 239, 3) := by decide +kernel
theorem b_Mod_contour_64 : tf_dec prog_13_method_36_code 64 [(.aload_n 0, 1)] = true := by decide +kernel
theorem d_Mod_contour_65 : decode prog_13_method_36_code 65 = .ok (.getfield 60, 3) := by decide +kernel
theorem b_Mod_contour_68 : tf_dec prog_13_method_36_code 68 [(.iload 5, 2)] = true := by decide +kernel
theorem d_Mod_contour_70 : decode prog_13_method_36_code 70 = .ok (.baload, 1) := by decide +kernel
theorem d_Mod_contour_71 : decode prog_13_method_36_code 71 = .ok (.ifCond .eq 206, 3) := by decide +kernel
theorem b_Mod_contour_74 : tf_dec prog_13_method_36_code 74 [(.aload_n 0, 1), (.aload_n 0, 1)] = true := by decide +kernel
theorem d_Mod_contour_76 : decode prog_13_method_36_code 76 = .ok (.getfield 54, 3) := by decide +kernel
theorem b_Mod_contour_79 : tf_dec prog_13_method_36_code 79 [(.iload 5, 2)] = true := by decide +kernel
theorem d_Mod_contour_81 : decode prog_13_method_36_code 81 = .ok (.iaload, 1) := by decide +kernel
theorem b_Mod_contour_82 : tf_dec prog_13_method_36_code 82 [(.aload_n 0, 1)] = true := by decide +kernel
theorem d_Mod_contour_83 : decode prog_13_method_36_code 83 = .ok (.getfield 57, 3) := by decide +kernel
theorem b_Mod_contour_86 : tf_dec prog_13_method_36_code 86 [(.iload 5, 2)] = true := by decide +kernel
theorem d_Mod_contour_88 : decode prog_13_method_36_code 88 = .ok (.iaload, 1) := by decide +kernel
theorem d_Mod_contour_89 : decode prog_13_method_36_code 89 = .ok (.invokevirtual 247, 3) := by decide +kernel
theorem d_Mod_contour_92 : decode prog_13_method_36_code 92 = .ok (.goto 185, 3) := by decide +kernel
theorem b_Mod_contour_95 : tf_dec prog_13_method_36_code 95 [(.aload_n 0, 1), (.aload_n 0, 1)] = true := by decide +kernel
theorem d_Mod_contour_97 : decode prog_13_method_36_code 97 = .ok (.getfield 60, 3) := by decide +kernel
theorem b_Mod_contour_100 : tf_dec prog_13_method_36_code 100 [(.iload 6, 2)] = true := by decide +kernel
theorem d_Mod_contour_102 : decode prog_13_method_36_code 102 = .ok (.baload, 1) := by decide +kernel
theorem d_Mod_contour_103 : decode prog_13_method_36_code 103 = .ok (.ifCond .eq 13, 3) := by decide +kernel
theorem b_Mod_contour_106 : tf_dec prog_13_method_36_code 106 [(.aload_n 0, 1)] = true := by decide +kernel
theorem d_Mod_contour_107 : decode prog_13_method_36_code 107 = .ok (.getfield 54, 3) := by decide +kernel
theorem b_Mod_contour_110 : tf_dec prog_13_method_36_code 110 [(.iload 6, 2)] = true := by decide +kernel
theorem d_Mod_contour_112 : decode prog_13_method_36_code 112 = .ok (.iaload, 1) := by decide +kernel
theorem d_Mod_contour_113 : decode prog_13_method_36_code 113 = .ok (.goto 20, 3) := by decide +kernel
theorem b_Mod_contour_116 : tf_dec prog_13_method_36_code 116 [(.aload_n 0, 1)] = true := by decide +kernel
theorem d_Mod_contour_117 : decode prog_13_method_36_code 117 = .ok (.getfield 54, 3) := by decide +kernel
theorem b_Mod_contour_120 : tf_dec prog_13_method_36_code 120 [(.iload 6, 2)] = true := by decide +kernel
theorem d_Mod_contour_122 : decode prog_13_method_36_code 122 = .ok (.iaload, 1) := by decide +kernel
theorem b_Mod_contour_123 : tf_dec prog_13_method_36_code 123 [(.aload_n 0, 1)] = true := by decide +kernel
theorem d_Mod_contour_124 : decode prog_13_method_36_code 124 = .ok (.getfield 54, 3) := by decide +kernel
theorem b_Mod_contour_127 : tf_dec prog_13_method_36_code 127 [(.iload 4, 2)] = true := by decide +kernel
theorem d_Mod_contour_129 : decode prog_13_method_36_code 129 = .ok (.iaload, 1) := by decide +kernel
theorem d_Mod_contour_130 : decode prog_13_method_36_code 130 = .ok (.invokestatic 250, 3) := by decide +kernel
theorem d_Mod_contour_133 : decode prog_13_method_36_code 133 = .ok (.putfield 236, 3) := by decide +kernel
theorem b_Mod_contour_136 : tf_dec prog_13_method_36_code 136 [(.aload_n 0, 1), (.aload_n 0, 1)] = true := by decide +kernel
theorem d_Mod_contour_138 : decode prog_13_method_36_code 138 = .ok (.getfield 60, 3) := by decide +kernel
theorem b_Mod_contour_141 : tf_dec prog_13_method_36_code 141 [(.iload 6, 2)] = true := by decide +kernel
theorem d_Mod_contour_143 : decode prog_13_method_36_code 143 = .ok (.baload, 1) := by decide +kernel
theorem d_Mod_contour_144 : decode prog_13_method_36_code 144 = .ok (.ifCond .eq 13, 3) := by decide +kernel
theorem b_Mod_contour_147 : tf_dec prog_13_method_36_code 147 [(.aload_n 0, 1)] = true := by decide +kernel
theorem d_Mod_contour_148 : decode prog_13_method_36_code 148 = .ok (.getfield 57, 3) := by decide +kernel
theorem b_Mod_contour_151 : tf_dec prog_13_method_36_code 151 [(.iload 6, 2)] = true := by decide +kernel
theorem d_Mod_contour_153 : decode prog_13_method_36_code 153 = .ok (.iaload, 1) := by decide +kernel
theorem d_Mod_contour_154 : decode prog_13_method_36_code 154 = .ok (.goto 20, 3) := by decide +kernel
theorem b_Mod_contour_157 : tf_dec prog_13_method_36_code 157 [(.aload_n 0, 1)] = true := by decide +kernel
theorem d_Mod_contour_158 : decode prog_13_method_36_code 158 = .ok (.getfield 57, 3) := by decide +kernel
theorem b_Mod_contour_161 : tf_dec prog_13_method_36_code 161 [(.iload 6, 2)] = true := by decide +kernel
theorem d_Mod_contour_163 : decode prog_13_method_36_code 163 = .ok (.iaload, 1) := by decide +kernel
theorem b_Mod_contour_164 : tf_dec prog_13_method_36_code 164 [(.aload_n 0, 1)] = true := by decide +kernel
theorem d_Mod_contour_165 : decode prog_13_method_36_code 165 = .ok (.getfield 57, 3) := by decide +kernel
theorem b_Mod_contour_168 : tf_dec prog_13_method_36_code 168 [(.iload 4, 2)] = true := by decide +kernel
theorem d_Mod_contour_170 : decode prog_13_method_36_code 170 = .ok (.iaload, 1) := by decide +kernel
theorem d_Mod_contour_171 : decode prog_13_method_36_code 171 = .ok (.invokestatic 250, 3) := by decide +kernel
theorem d_Mod_contour_174 : decode prog_13_method_36_code 174 = .ok (.putfield 239, 3) := by decide +kernel
theorem b_Mod_contour_177 : tf_dec prog_13_method_36_code 177 [(.aload_n 0, 1)] = true := by decide +kernel
theorem d_Mod_contour_178 : decode prog_13_method_36_code 178 = .ok (.getfield 60, 3) := by decide +kernel
theorem b_Mod_contour_181 : tf_dec prog_13_method_36_code 181 [(.iload 5, 2)] = true := by decide +kernel
theorem d_Mod_contour_183 : decode prog_13_method_36_code 183 = .ok (.baload, 1) := by decide +kernel
theorem d_Mod_contour_184 : decode prog_13_method_36_code 184 = .ok (.ifCond .eq 13, 3) := by decide +kernel
theorem b_Mod_contour_187 : tf_dec prog_13_method_36_code 187 [(.aload_n 0, 1)] = true := by decide +kernel
theorem d_Mod_contour_188 : decode prog_13_method_36_code 188 = .ok (.getfield 54, 3) := by decide +kernel
theorem b_Mod_contour_191 : tf_dec prog_13_method_36_code 191 [(.iload 5, 2)] = true := by decide +kernel
theorem d_Mod_contour_193 : decode prog_13_method_36_code 193 = .ok (.iaload, 1) := by decide +kernel
theorem d_Mod_contour_194 : decode prog_13_method_36_code 194 = .ok (.goto 20, 3) := by decide +kernel
theorem b_Mod_contour_197 : tf_dec prog_13_method_36_code 197 [(.aload_n 0, 1)] = true := by decide +kernel
theorem d_Mod_contour_198 : decode prog_13_method_36_code 198 = .ok (.getfield 54, 3) := by decide +kernel
theorem b_Mod_contour_201 : tf_dec prog_13_method_36_code 201 [(.iload 4, 2)] = true := by decide +kernel
theorem d_Mod_contour_203 : decode prog_13_method_36_code 203 = .ok (.iaload, 1) := by decide +kernel
theorem b_Mod_contour_204 : tf_dec prog_13_method_36_code 204 [(.aload_n 0, 1)] = true := by decide +kernel
theorem d_Mod_contour_205 : decode prog_13_method_36_code 205 = .ok (.getfield 54, 3) := by decide +kernel
theorem b_Mod_contour_208 : tf_dec prog_13_method_36_code 208 [(.iload 5, 2)] = true := by decide +kernel
theorem d_Mod_contour_210 : decode prog_13_method_36_code 210 = .ok (.iaload, 1) := by decide +kernel
theorem d_Mod_contour_211 : decode prog_13_method_36_code 211 = .ok (.invokestatic 250, 3) := by decide +kernel
theorem b_Mod_contour_214 : tf_dec prog_13_method_36_code 214 [(.istore 7, 2), (.aload_n 0, 1)] = true := by decide +kernel
theorem d_Mod_contour_217 : decode prog_13_method_36_code 217 = .ok (.getfield 60, 3) := by decide +kernel
theorem b_Mod_contour_220 : tf_dec prog_13_method_36_code 220 [(.iload 5, 2)] = true := by decide +kernel
theorem d_Mod_contour_222 : decode prog_13_method_36_code 222 = .ok (.baload, 1) := by decide +kernel
theorem d_Mod_contour_223 : decode prog_13_method_36_code 223 = .ok (.ifCond .eq 13, 3) := by decide +kernel
theorem b_Mod_contour_226 : tf_dec prog_13_method_36_code 226 [(.aload_n 0, 1)] = true := by decide +kernel
theorem d_Mod_contour_227 : decode prog_13_method_36_code 227 = .ok (.getfield 57, 3) := by decide +kernel
theorem b_Mod_contour_230 : tf_dec prog_13_method_36_code 230 [(.iload 5, 2)] = true := by decide +kernel
theorem d_Mod_contour_232 : decode prog_13_method_36_code 232 = .ok (.iaload, 1) := by decide +kernel
theorem d_Mod_contour_233 : decode prog_13_method_36_code 233 = .ok (.goto 20, 3) := by decide +kernel
theorem b_Mod_contour_236 : tf_dec prog_13_method_36_code 236 [(.aload_n 0, 1)] = true := by decide +kernel
theorem d_Mod_contour_237 : decode prog_13_method_36_code 237 = .ok (.getfield 57, 3) := by decide +kernel
theorem b_Mod_contour_240 : tf_dec prog_13_method_36_code 240 [(.iload 4, 2)] = true := by decide +kernel
theorem d_Mod_contour_242 : decode prog_13_method_36_code 242 = .ok (.iaload, 1) := by decide +kernel
theorem b_Mod_contour_243 : tf_dec prog_13_method_36_code 243 [(.aload_n 0, 1)] = true := by decide +kernel
theorem d_Mod_contour_244 : decode prog_13_method_36_code 244 = .ok (.getfield 57, 3) := by decide +kernel
theorem b_Mod_contour_247 : tf_dec prog_13_method_36_code 247 [(.iload 5, 2)] = true := by decide +kernel
theorem d_Mod_contour_249 : decode prog_13_method_36_code 249 = .ok (.iaload, 1) := by decide +kernel
theorem d_Mod_contour_250 : decode prog_13_method_36_code 250 = .ok (.invokestatic 250, 3) := by decide +kernel
theorem b_Mod_contour_253 : tf_dec prog_13_method_36_code 253 [(.istore 8, 2), (.aload_n 0, 1), (.aload_n 0, 1)] = true := by decide +kernel
theorem d_Mod_contour_257 : decode prog_13_method_36_code 257 = .ok (.getfield 54, 3) := by decide +kernel
theorem b_Mod_contour_260 : tf_dec prog_13_method_36_code 260 [(.iload 4, 2)] = true := by decide +kernel
theorem d_Mod_contour_262 : decode prog_13_method_36_code 262 = .ok (.iaload, 1) := by decide +kernel
theorem b_Mod_contour_263 : tf_dec prog_13_method_36_code 263 [(.aload_n 0, 1)] = true := by decide +kernel
theorem d_Mod_contour_264 : decode prog_13_method_36_code 264 = .ok (.getfield 57, 3) := by decide +kernel
theorem b_Mod_contour_267 : tf_dec prog_13_method_36_code 267 [(.iload 4, 2)] = true := by decide +kernel
theorem d_Mod_contour_269 : decode prog_13_method_36_code 269 = .ok (.iaload, 1) := by decide +kernel
theorem b_Mod_contour_270 : tf_dec prog_13_method_36_code 270 [(.iload 7, 2), (.iload 8, 2)] = true := by decide +kernel
theorem d_Mod_contour_274 : decode prog_13_method_36_code 274 = .ok (.invokevirtual 253, 3) := by decide +kernel
theorem b_Mod_contour_277 : tf_dec prog_13_method_36_code 277 [(.iinc 3 1, 3)] = true := by decide +kernel
theorem d_Mod_contour_280 : decode prog_13_method_36_code 280 = .ok (.goto (-278), 3) := by decide +kernel
theorem d_Mod_contour_283 : decode prog_13_method_36_code 283 = .ok (.return_, 1) := by decide +kernel
theorem b_Mod_draw_0 : tf_dec prog_13_method_37_code 0 [(.aload_n 0, 1), (.aload_n 0, 1), (.iload_n 1, 1)] = true := by decide +kernel
theorem d_Mod_draw_3 : decode prog_13_method_37_code 3 = .ok (.invokevirtual 148, 3) := by decide +kernel
theorem d_Mod_draw_6 : decode prog_13_method_37_code 6 = .ok (.ifCond .eq 29, 3) := by decide +kernel
theorem b_Mod_draw_9 : tf_dec prog_13_method_37_code 9 [(.iload_n 2, 1), (.bipush 32, 2)] = true := by decide +kernel
theorem d_Mod_draw_12 : decode prog_13_method_37_code 12 = .ok (.if_icmp .eq 27, 3) := by decide +kernel
theorem b_Mod_draw_15 : tf_dec prog_13_method_37_code 15 [(.iload_n 2, 1), (.bipush 64, 2)] = true := by decide +kernel
theorem d_Mod_draw_18 : decode prog_13_method_37_code 18 = .ok (.if_icmp .eq 21, 3) := by decide +kernel
theorem b_Mod_draw_21 : tf_dec prog_13_method_37_code 21 [(.iload_n 2, 1), (.sipush 128, 3)] = true := by decide +kernel
theorem d_Mod_draw_25 : decode prog_13_method_37_code 25 = .ok (.if_icmp .eq 14, 3) := by decide +kernel
theorem b_Mod_draw_28 : tf_dec prog_13_method_37_code 28 [(.iload_n 2, 1), (.sipush 256, 3)] = true := by decide +kernel
theorem d_Mod_draw_32 : decode prog_13_method_37_code 32 = .ok (.if_icmp .eq 7, 3) := by decide +kernel
theorem b_Mod_draw_35 : tf_dec prog_13_method_37_code 35 [(.iconst 1, 1)] = true := by decide +kernel
theorem d_Mod_draw_36 : decode prog_13_method_37_code 36 = .ok (.goto 4, 3) := by decide +kernel
theorem b_Mod_draw_39 : tf_dec prog_13_method_37_code 39 [(.iconst 0, 1)] = true := by decide +kernel
theorem d_Mod_draw_40 : decode prog_13_method_37_code 40 = .ok (.putfield 123, 3) := by decide +kernel
theorem b_Mod_draw_43 : tf_dec prog_13_method_37_code 43 [(.aload_n 0, 1)] = true := by decide +kernel
theorem d_Mod_draw_44 : decode prog_13_method_37_code 44 = .ok (.getfield 123, 3) := by decide +kernel
theorem d_Mod_draw_47 : decode prog_13_method_37_code 47 = .ok (.ifCond .le 5, 3) := by decide +kernel
theorem b_Mod_draw_50 : tf_dec prog_13_method_37_code 50 [(.iconst 0, 1)] = true := by decide +kernel
theorem d_Mod_draw_51 : decode prog_13_method_37_code 51 = .ok (.ireturn, 1) := by decide +kernel
theorem b_Mod_draw_52 : tf_dec prog_13_method_37_code 52 [(.aload_n 0, 1), (.iload_n 1, 1)] = true := by decide +kernel
theorem d_Mod_draw_54 : decode prog_13_method_37_code 54 = .ok (.invokevirtual 197, 3) := by decide +kernel
theorem b_Mod_draw_57 : tf_dec prog_13_method_37_code 57 [(.aload_n 0, 1), (.iload_n 2, 1)] = true := by decide +kernel
theorem d_Mod_draw_59 : decode prog_13_method_37_code 59 = .ok (.putfield 206, 3) := by decide +kernel
theorem b_Mod_draw_62 : tf_dec prog_13_method_37_code 62 [(.aload_n 0, 1), (.sipush 2048, 3), (.iload_n 2, 1)] = true := by decide +kernel
theorem d_Mod_draw_67 : decode prog_13_method_37_code 67 = .ok (.idiv, 1) := by decide +kernel
theorem d_Mod_draw_68 : decode prog_13_method_37_code 68 = .ok (.putfield 216, 3) := by decide +kernel
theorem b_Mod_draw_71 : tf_dec prog_13_method_37_code 71 [(.aload_n 0, 1), (.iload_n 3, 1)] = true := by decide +kernel
theorem d_Mod_draw_73 : decode prog_13_method_37_code 73 = .ok (.putfield 209, 3) := by decide +kernel
theorem b_Mod_draw_76 : tf_dec prog_13_method_37_code 76 [(.iconst 0, 1), (.istore 4, 2)] = true := by decide +kernel
theorem b_Mod_draw_79 : tf_dec prog_13_method_37_code 79 [(.iload 4, 2), (.aload_n 0, 1)] = true := by decide +kernel
theorem d_Mod_draw_82 : decode prog_13_method_37_code 82 = .ok (.getfield 216, 3) := by decide +kernel
theorem b_Mod_draw_85 : tf_dec prog_13_method_37_code 85 [(.aload_n 0, 1)] = true := by decide +kernel
theorem d_Mod_draw_86 : decode prog_13_method_37_code 86 = .ok (.getfield 216, 3) := by decide +kernel
theorem b_Mod_draw_89 : tf_dec prog_13_method_37_code 89 [(.imul, 1)] = true := by decide +kernel
theorem d_Mod_draw_90 : decode prog_13_method_37_code 90 = .ok (.if_icmp .ge 17, 3) := by decide +kernel
theorem b_Mod_draw_93 : tf_dec prog_13_method_37_code 93 [(.aload_n 0, 1)] = true := by decide +kernel
theorem d_Mod_draw_94 : decode prog_13_method_37_code 94 = .ok (.getfield 75, 3) := by decide +kernel
theorem b_Mod_draw_97 : tf_dec prog_13_method_37_code 97 [(.iload 4, 2), (.iconst 0, 1)] = true := by decide +kernel
theorem d_Mod_draw_100 : decode prog_13_method_37_code 100 = .ok (.iastore, 1) := by decide +kernel
theorem b_Mod_draw_101 : tf_dec prog_13_method_37_code 101 [(.iinc 4 1, 3)] = true := by decide +kernel
theorem d_Mod_draw_104 : decode prog_13_method_37_code 104 = .ok (.goto (-25), 3) := by decide +kernel
theorem b_Mod_draw_107 : tf_dec prog_13_method_37_code 107 [(.iconst 0, 1), (.istore 4, 2), (.iconst 0, 1), (.istore 5, 2)] = true := by decide +kernel
theorem b_Mod_draw_113 : tf_dec prog_13_method_37_code 113 [(.iload 5, 2), (.aload_n 0, 1)] = true := by decide +kernel
theorem d_Mod_draw_116 : decode prog_13_method_37_code 116 = .ok (.getfield 190, 3) := by decide +kernel
theorem d_Mod_draw_119 : decode prog_13_method_37_code 119 = .ok (.if_icmp .ge 60, 3) := by decide +kernel
theorem b_Mod_draw_122 : tf_dec prog_13_method_37_code 122 [(.iconst 0, 1), (.istore 6, 2)] = true := by decide +kernel
theorem b_Mod_draw_125 : tf_dec prog_13_method_37_code 125 [(.iload 4, 2), (.iload 6, 2), (.iadd, 1), (.aload_n 0, 1)] = true := by decide +kernel
theorem d_Mod_draw_131 : decode prog_13_method_37_code 131 = .ok (.getfield 187, 3) := by decide +kernel
theorem d_Mod_draw_134 : decode prog_13_method_37_code 134 = .ok (.if_icmp .ge 24, 3) := by decide +kernel
theorem b_Mod_draw_137 : tf_dec prog_13_method_37_code 137 [(.aload_n 0, 1)] = true := by decide +kernel
theorem d_Mod_draw_138 : decode prog_13_method_37_code 138 = .ok (.getfield 63, 3) := by decide +kernel
theorem b_Mod_draw_141 : tf_dec prog_13_method_37_code 141 [(.iload 4, 2), (.iload 6, 2), (.iadd, 1)] = true := by decide +kernel
theorem d_Mod_draw_146 : decode prog_13_method_37_code 146 = .ok (.iaload, 1) := by decide +kernel
theorem b_Mod_draw_147 : tf_dec prog_13_method_37_code 147 [(.iload 5, 2)] = true := by decide +kernel
theorem d_Mod_draw_149 : decode prog_13_method_37_code 149 = .ok (.if_icmp .ne 9, 3) := by decide +kernel
theorem b_Mod_draw_152 : tf_dec prog_13_method_37_code 152 [(.iinc 6 1, 3)] = true := by decide +kernel
theorem d_Mod_draw_155 : decode prog_13_method_37_code 155 = .ok (.goto (-30), 3) := by decide +kernel
theorem b_Mod_draw_158 : tf_dec prog_13_method_37_code 158 [(.aload_n 0, 1), (.iload 4, 2), (.iload 6, 2)] = true := by decide +kernel
theorem d_Mod_draw_163 : decode prog_13_method_37_code 163 = .ok (.invokevirtual 256, 3) := by decide +kernel
theorem b_Mod_draw_166 : tf_dec prog_13_method_37_code 166 [(.iload 4, 2), (.iload 6, 2), (.iadd, 1), (.istore 4, 2), (.iinc 5 1, 3)] = true := by decide +kernel
theorem d_Mod_draw_176 : decode prog_13_method_37_code 176 = .ok (.goto (-63), 3) := by decide +kernel
theorem b_Mod_draw_179 : tf_dec prog_13_method_37_code 179 [(.iconst 0, 1), (.istore 5, 2), (.iconst 0, 1), (.istore 6, 2)] = true := by decide +kernel
theorem b_Mod_draw_185 : tf_dec prog_13_method_37_code 185 [(.iload 6, 2), (.aload_n 0, 1)] = true := by decide +kernel
theorem d_Mod_draw_188 : decode prog_13_method_37_code 188 = .ok (.getfield 216, 3) := by decide +kernel
theorem b_Mod_draw_191 : tf_dec prog_13_method_37_code 191 [(.aload_n 0, 1)] = true := by decide +kernel
theorem d_Mod_draw_192 : decode prog_13_method_37_code 192 = .ok (.getfield 216, 3) := by decide +kernel
theorem b_Mod_draw_195 : tf_dec prog_13_method_37_code 195 [(.imul, 1)] = true := by decide +kernel
theorem d_Mod_draw_196 : decode prog_13_method_37_code 196 = .ok (.if_icmp .ge 83, 3) := by decide +kernel
theorem d_Mod_draw_199 : decode prog_13_method_37_code 199 = .ok (.ldc2_w 259, 3) := by decide +kernel
theorem b_Mod_draw_202 : tf_dec prog_13_method_37_code 202 [(.aload_n 0, 1)] = true := by decide +kernel
theorem d_Mod_draw_203 : decode prog_13_method_37_code 203 = .ok (.getfield 75, 3) := by decide +kernel
theorem b_Mod_draw_206 : tf_dec prog_13_method_37_code 206 [(.iload 6, 2)] = true := by decide +kernel
theorem d_Mod_draw_208 : decode prog_13_method_37_code 208 = .ok (.iaload, 1) := by decide +kernel
theorem b_Mod_draw_209 : tf_dec prog_13_method_37_code 209 [(.i2l, 1), (.lmul, 1)] = true := by decide +kernel
theorem d_Mod_draw_211 : decode prog_13_method_37_code 211 = .ok (.ldc2_w 126, 3) := by decide +kernel
theorem b_Mod_draw_214 : tf_dec prog_13_method_37_code 214 [(.iload_n 2, 1), (.i2l, 1), (.lmul, 1), (.iload_n 2, 1), (.i2l, 1), (.lmul, 1)] = true := by decide +kernel
theorem d_Mod_draw_220 : decode prog_13_method_37_code 220 = .ok (.invokestatic 140, 3) := by decide +kernel
theorem b_Mod_draw_223 : tf_dec prog_13_method_37_code 223 [(.lstore 7, 2), (.aload_n 0, 1)] = true := by decide +kernel
theorem d_Mod_draw_226 : decode prog_13_method_37_code 226 = .ok (.getfield 75, 3) := by decide +kernel
theorem b_Mod_draw_229 : tf_dec prog_13_method_37_code 229 [(.iload 6, 2), (.lload 7, 2), (.lconst 0, 1), (.lcmp, 1)] = true := by decide +kernel
theorem d_Mod_draw_235 : decode prog_13_method_37_code 235 = .ok (.ifCond .ge 7, 3) := by decide +kernel
theorem b_Mod_draw_238 : tf_dec prog_13_method_37_code 238 [(.iconst 0, 1)] = true := by decide +kernel
theorem d_Mod_draw_239 : decode prog_13_method_37_code 239 = .ok (.goto 21, 3) := by decide +kernel
theorem b_Mod_draw_242 : tf_dec prog_13_method_37_code 242 [(.lload 7, 2)] = true := by decide +kernel
theorem d_Mod_draw_244 : decode prog_13_method_37_code 244 = .ok (.ldc2_w 259, 3) := by decide +kernel
theorem b_Mod_draw_247 : tf_dec prog_13_method_37_code 247 [(.lcmp, 1)] = true := by decide +kernel
theorem d_Mod_draw_248 : decode prog_13_method_37_code 248 = .ok (.ifCond .le 9, 3) := by decide +kernel
theorem b_Mod_draw_251 : tf_dec prog_13_method_37_code 251 [(.sipush 255, 3)] = true := by decide +kernel
theorem d_Mod_draw_254 : decode prog_13_method_37_code 254 = .ok (.goto 6, 3) := by decide +kernel
theorem b_Mod_draw_257 : tf_dec prog_13_method_37_code 257 [(.lload 7, 2), (.l2i, 1)] = true := by decide +kernel
theorem d_Mod_draw_260 : decode prog_13_method_37_code 260 = .ok (.iastore, 1) := by decide +kernel
theorem b_Mod_draw_261 : tf_dec prog_13_method_37_code 261 [(.iload 5, 2), (.aload_n 0, 1)] = true := by decide +kernel
theorem d_Mod_draw_264 : decode prog_13_method_37_code 264 = .ok (.getfield 75, 3) := by decide +kernel
theorem b_Mod_draw_267 : tf_dec prog_13_method_37_code 267 [(.iload 6, 2)] = true := by decide +kernel
theorem d_Mod_draw_269 : decode prog_13_method_37_code 269 = .ok (.iaload, 1) := by decide +kernel
theorem b_Mod_draw_270 : tf_dec prog_13_method_37_code 270 [(.iadd, 1), (.istore 5, 2), (.iinc 6 1, 3)] = true := by decide +kernel
theorem d_Mod_draw_276 : decode prog_13_method_37_code 276 = .ok (.goto (-91), 3) := by decide +kernel
theorem b_Mod_draw_279 : tf_dec prog_13_method_37_code 279 [(.iload 5, 2)] = true := by decide +kernel
theorem d_Mod_draw_281 : decode prog_13_method_37_code 281 = .ok (.ireturn, 1) := by decide +kernel
theorem b_Mod_pixel_0 : tf_dec prog_13_method_38_code 0 [(.aload_n 0, 1), (.iconst 0, 1)] = true := by decide +kernel
theorem d_Mod_pixel_2 : decode prog_13_method_38_code 2 = .ok (.putfield 123, 3) := by decide +kernel
theorem b_Mod_pixel_5 : tf_dec prog_13_method_38_code 5 [(.iload_n 1, 1)] = true := by decide +kernel
theorem d_Mod_pixel_6 : decode prog_13_method_38_code 6 = .ok (.ifCond .lt 23, 3) := by decide +kernel
theorem b_Mod_pixel_9 : tf_dec prog_13_method_38_code 9 [(.iload_n 2, 1)] = true := by decide +kernel
theorem d_Mod_pixel_10 : decode prog_13_method_38_code 10 = .ok (.ifCond .lt 19, 3) := by decide +kernel
theorem b_Mod_pixel_13 : tf_dec prog_13_method_38_code 13 [(.iload_n 1, 1), (.aload_n 0, 1)] = true := by decide +kernel
theorem d_Mod_pixel_15 : decode prog_13_method_38_code 15 = .ok (.getfield 216, 3) := by decide +kernel
theorem d_Mod_pixel_18 : decode prog_13_method_38_code 18 = .ok (.if_icmp .ge 11, 3) := by decide +kernel
theorem b_Mod_pixel_21 : tf_dec prog_13_method_38_code 21 [(.iload_n 2, 1), (.aload_n 0, 1)] = true := by decide +kernel
theorem d_Mod_pixel_23 : decode prog_13_method_38_code 23 = .ok (.getfield 216, 3) := by decide +kernel
theorem d_Mod_pixel_26 : decode prog_13_method_38_code 26 = .ok (.if_icmp .lt 7, 3) := by decide +kernel
theorem b_Mod_pixel_29 : tf_dec prog_13_method_38_code 29 [(.iconst (-1), 1)] = true := by decide +kernel
theorem d_Mod_pixel_30 : decode prog_13_method_38_code 30 = .ok (.goto 16, 3) := by decide +kernel
theorem b_Mod_pixel_33 : tf_dec prog_13_method_38_code 33 [(.aload_n 0, 1)] = true := by decide +kernel
theorem d_Mod_pixel_34 : decode prog_13_method_38_code 34 = .ok (.getfield 75, 3) := by decide +kernel
theorem b_Mod_pixel_37 : tf_dec prog_13_method_38_code 37 [(.aload_n 0, 1)] = true := by decide +kernel
theorem d_Mod_pixel_38 : decode prog_13_method_38_code 38 = .ok (.getfield 216, 3) := by decide +kernel
theorem b_Mod_pixel_41 : tf_dec prog_13_method_38_code 41 [(.iload_n 2, 1), (.imul, 1), (.iload_n 1, 1), (.iadd, 1)] = true := by decide +kernel
theorem d_Mod_pixel_45 : decode prog_13_method_38_code 45 = .ok (.iaload, 1) := by decide +kernel
theorem d_Mod_pixel_46 : decode prog_13_method_38_code 46 = .ok (.ireturn, 1) := by decide +kernel
theorem b_Mod_sort_0 : tf_dec prog_13_method_39_code 0 [(.aload_n 0, 1), (.iconst 0, 1)] = true := by decide +kernel
theorem d_Mod_sort_2 : decode prog_13_method_39_code 2 = .ok (.putfield 123, 3) := by decide +kernel
theorem b_Mod_sort_5 : tf_dec prog_13_method_39_code 5 [(.iload_n 1, 1)] = true := by decide +kernel
theorem d_Mod_sort_6 : decode prog_13_method_39_code 6 = .ok (.ifCond .lt 26, 3) := by decide +kernel
theorem b_Mod_sort_9 : tf_dec prog_13_method_39_code 9 [(.iload_n 1, 1), (.iconst 1, 1)] = true := by decide +kernel
theorem d_Mod_sort_11 : decode prog_13_method_39_code 11 = .ok (.if_icmp .gt 21, 3) := by decide +kernel
theorem b_Mod_sort_14 : tf_dec prog_13_method_39_code 14 [(.aload_n 0, 1), (.iload_n 2, 1)] = true := by decide +kernel
theorem d_Mod_sort_16 : decode prog_13_method_39_code 16 = .ok (.invokevirtual 148, 3) := by decide +kernel
theorem d_Mod_sort_19 : decode prog_13_method_39_code 19 = .ok (.ifCond .eq 13, 3) := by decide +kernel
theorem b_Mod_sort_22 : tf_dec prog_13_method_39_code 22 [(.iload_n 3, 1)] = true := by decide +kernel
theorem d_Mod_sort_23 : decode prog_13_method_39_code 23 = .ok (.ifCond .lt 9, 3) := by decide +kernel
theorem b_Mod_sort_26 : tf_dec prog_13_method_39_code 26 [(.iload_n 3, 1), (.bipush 15, 2)] = true := by decide +kernel
theorem d_Mod_sort_29 : decode prog_13_method_39_code 29 = .ok (.if_icmp .le 5, 3) := by decide +kernel
theorem b_Mod_sort_32 : tf_dec prog_13_method_39_code 32 [(.iconst 0, 1)] = true := by decide +kernel
theorem d_Mod_sort_33 : decode prog_13_method_39_code 33 = .ok (.ireturn, 1) := by decide +kernel
theorem b_Mod_sort_34 : tf_dec prog_13_method_39_code 34 [(.iload_n 1, 1)] = true := by decide +kernel
theorem d_Mod_sort_35 : decode prog_13_method_39_code 35 = .ok (.ifCond .ne 14, 3) := by decide +kernel
theorem b_Mod_sort_38 : tf_dec prog_13_method_39_code 38 [(.aload_n 0, 1)] = true := by decide +kernel
theorem d_Mod_sort_39 : decode prog_13_method_39_code 39 = .ok (.getfield 78, 3) := by decide +kernel
theorem b_Mod_sort_42 : tf_dec prog_13_method_39_code 42 [(.iload_n 2, 1), (.iload_n 3, 1), (.i2b, 1)] = true := by decide +kernel
theorem d_Mod_sort_45 : decode prog_13_method_39_code 45 = .ok (.bastore, 1) := by decide +kernel
theorem d_Mod_sort_46 : decode prog_13_method_39_code 46 = .ok (.goto 11, 3) := by decide +kernel
theorem b_Mod_sort_49 : tf_dec prog_13_method_39_code 49 [(.aload_n 0, 1)] = true := by decide +kernel
theorem d_Mod_sort_50 : decode prog_13_method_39_code 50 = .ok (.getfield 81, 3) := by decide +kernel
theorem b_Mod_sort_53 : tf_dec prog_13_method_39_code 53 [(.iload_n 2, 1), (.iload_n 3, 1), (.i2b, 1)] = true := by decide +kernel
theorem d_Mod_sort_56 : decode prog_13_method_39_code 56 = .ok (.bastore, 1) := by decide +kernel
theorem b_Mod_sort_57 : tf_dec prog_13_method_39_code 57 [(.iconst 1, 1)] = true := by decide +kernel
theorem d_Mod_sort_58 : decode prog_13_method_39_code 58 = .ok (.ireturn, 1) := by decide +kernel
theorem b_Mod_isKern_0 : tf_dec prog_13_method_40_code 0 [(.iload_n 0, 1), (.sipush (-1000), 3)] = true := by decide +kernel
theorem d_Mod_isKern_4 : decode prog_13_method_40_code 4 = .ok (.if_icmp .lt 14, 3) := by decide +kernel
theorem b_Mod_isKern_7 : tf_dec prog_13_method_40_code 7 [(.iload_n 0, 1), (.sipush 1000, 3)] = true := by decide +kernel
theorem d_Mod_isKern_11 : decode prog_13_method_40_code 11 = .ok (.if_icmp .gt 7, 3) := by decide +kernel
theorem b_Mod_isKern_14 : tf_dec prog_13_method_40_code 14 [(.iconst 1, 1)] = true := by decide +kernel
theorem d_Mod_isKern_15 : decode prog_13_method_40_code 15 = .ok (.goto 4, 3) := by decide +kernel
theorem b_Mod_isKern_18 : tf_dec prog_13_method_40_code 18 [(.iconst 0, 1)] = true := by decide +kernel
theorem d_Mod_isKern_19 : decode prog_13_method_40_code 19 = .ok (.ireturn, 1) := by decide +kernel
theorem b_Mod_kern_0 : tf_dec prog_13_method_41_code 0 [(.aload_n 0, 1), (.iconst 0, 1)] = true := by decide +kernel
theorem d_Mod_kern_2 : decode prog_13_method_41_code 2 = .ok (.putfield 123, 3) := by decide +kernel
theorem b_Mod_kern_5 : tf_dec prog_13_method_41_code 5 [(.iload_n 1, 1), (.iconst 1, 1)] = true := by decide +kernel
theorem d_Mod_kern_7 : decode prog_13_method_41_code 7 = .ok (.if_icmp .lt 27, 3) := by decide +kernel
theorem b_Mod_kern_10 : tf_dec prog_13_method_41_code 10 [(.iload_n 1, 1), (.bipush 15, 2)] = true := by decide +kernel
theorem d_Mod_kern_13 : decode prog_13_method_41_code 13 = .ok (.if_icmp .gt 21, 3) := by decide +kernel
theorem b_Mod_kern_16 : tf_dec prog_13_method_41_code 16 [(.iload_n 2, 1), (.iconst 1, 1)] = true := by decide +kernel
theorem d_Mod_kern_18 : decode prog_13_method_41_code 18 = .ok (.if_icmp .lt 16, 3) := by decide +kernel
theorem b_Mod_kern_21 : tf_dec prog_13_method_41_code 21 [(.iload_n 2, 1), (.bipush 15, 2)] = true := by decide +kernel
theorem d_Mod_kern_24 : decode prog_13_method_41_code 24 = .ok (.if_icmp .gt 10, 3) := by decide +kernel
theorem b_Mod_kern_27 : tf_dec prog_13_method_41_code 27 [(.iload_n 3, 1)] = true := by decide +kernel
theorem d_Mod_kern_28 : decode prog_13_method_41_code 28 = .ok (.invokestatic 261, 3) := by decide +kernel
theorem d_Mod_kern_31 : decode prog_13_method_41_code 31 = .ok (.ifCond .ne 5, 3) := by decide +kernel
theorem b_Mod_kern_34 : tf_dec prog_13_method_41_code 34 [(.iconst 0, 1)] = true := by decide +kernel
theorem d_Mod_kern_35 : decode prog_13_method_41_code 35 = .ok (.ireturn, 1) := by decide +kernel
theorem b_Mod_kern_36 : tf_dec prog_13_method_41_code 36 [(.aload_n 0, 1)] = true := by decide +kernel
theorem d_Mod_kern_37 : decode prog_13_method_41_code 37 = .ok (.getfield 84, 3) := by decide +kernel
theorem b_Mod_kern_40 : tf_dec prog_13_method_41_code 40 [(.bipush 16, 2), (.iload_n 1, 1), (.imul, 1), (.iload_n 2, 1), (.iadd, 1), (.iload_n 3, 1), (.i2s, 1)] = true := by decide +kernel
theorem d_Mod_kern_48 : decode prog_13_method_41_code 48 = .ok (.sastore, 1) := by decide +kernel
theorem b_Mod_kern_49 : tf_dec prog_13_method_41_code 49 [(.aload_n 0, 1)] = true := by decide +kernel
theorem d_Mod_kern_50 : decode prog_13_method_41_code 50 = .ok (.getfield 88, 3) := by decide +kernel
theorem b_Mod_kern_53 : tf_dec prog_13_method_41_code 53 [(.bipush 16, 2), (.iload_n 1, 1), (.imul, 1), (.iload_n 2, 1), (.iadd, 1), (.iconst 1, 1)] = true := by decide +kernel
theorem d_Mod_kern_60 : decode prog_13_method_41_code 60 = .ok (.bastore, 1) := by decide +kernel
theorem b_Mod_kern_61 : tf_dec prog_13_method_41_code 61 [(.iconst 1, 1)] = true := by decide +kernel
theorem d_Mod_kern_62 : decode prog_13_method_41_code 62 = .ok (.ireturn, 1) := by decide +kernel
theorem b_Mod_pairAt_0 : tf_dec prog_13_method_42_code 0 [(.iconst (-1), 1), (.istore_n 3, 1), (.iconst 0, 1), (.istore 4, 2)] = true := by decide +kernel
theorem b_Mod_pairAt_5 : tf_dec prog_13_method_42_code 5 [(.iload 4, 2), (.aload_n 0, 1)] = true := by decide +kernel
theorem d_Mod_pairAt_8 : decode prog_13_method_42_code 8 = .ok (.getfield 264, 3) := by decide +kernel
theorem d_Mod_pairAt_11 : decode prog_13_method_42_code 11 = .ok (.if_icmp .ge 32, 3) := by decide +kernel
theorem b_Mod_pairAt_14 : tf_dec prog_13_method_42_code 14 [(.aload_n 0, 1)] = true := by decide +kernel
theorem d_Mod_pairAt_15 : decode prog_13_method_42_code 15 = .ok (.getfield 91, 3) := by decide +kernel
theorem b_Mod_pairAt_18 : tf_dec prog_13_method_42_code 18 [(.iload 4, 2)] = true := by decide +kernel
theorem d_Mod_pairAt_20 : decode prog_13_method_42_code 20 = .ok (.iaload, 1) := by decide +kernel
theorem b_Mod_pairAt_21 : tf_dec prog_13_method_42_code 21 [(.bipush 64, 2), (.iload_n 1, 1), (.imul, 1), (.iload_n 2, 1), (.iadd, 1)] = true := by decide +kernel
theorem d_Mod_pairAt_27 : decode prog_13_method_42_code 27 = .ok (.if_icmp .ne 8, 3) := by decide +kernel
theorem b_Mod_pairAt_30 : tf_dec prog_13_method_42_code 30 [(.iload 4, 2)] = true := by decide +kernel
theorem d_Mod_pairAt_32 : decode prog_13_method_42_code 32 = .ok (.goto 4, 3) := by decide +kernel
theorem b_Mod_pairAt_35 : tf_dec prog_13_method_42_code 35 [(.iload_n 3, 1)] = true := by decide +kernel
theorem b_Mod_pairAt_36 : tf_dec prog_13_method_42_code 36 [(.istore_n 3, 1), (.iinc 4 1, 3)] = true := by decide +kernel
theorem d_Mod_pairAt_40 : decode prog_13_method_42_code 40 = .ok (.goto (-35), 3) := by decide +kernel
theorem b_Mod_pairAt_43 : tf_dec prog_13_method_42_code 43 [(.iload_n 3, 1)] = true := by decide +kernel
theorem d_Mod_pairAt_44 : decode prog_13_method_42_code 44 = .ok (.ireturn, 1) := by decide +kernel
theorem b_Mod_pair_0 : tf_dec prog_13_method_43_code 0 [(.aload_n 0, 1), (.iconst 0, 1)] = true := by decide +kernel
theorem d_Mod_pair_2 : decode prog_13_method_43_code 2 = .ok (.putfield 123, 3) := by decide +kernel
theorem b_Mod_pair_5 : tf_dec prog_13_method_43_code 5 [(.aload_n 0, 1), (.iload_n 1, 1)] = true := by decide +kernel
theorem d_Mod_pair_7 : decode prog_13_method_43_code 7 = .ok (.invokevirtual 148, 3) := by decide +kernel
theorem d_Mod_pair_10 : decode prog_13_method_43_code 10 = .ok (.ifCond .eq 18, 3) := by decide +kernel
theorem b_Mod_pair_13 : tf_dec prog_13_method_43_code 13 [(.aload_n 0, 1), (.iload_n 2, 1)] = true := by decide +kernel
theorem d_Mod_pair_15 : decode prog_13_method_43_code 15 = .ok (.invokevirtual 148, 3) := by decide +kernel
theorem d_Mod_pair_18 : decode prog_13_method_43_code 18 = .ok (.ifCond .eq 10, 3) := by decide +kernel
theorem b_Mod_pair_21 : tf_dec prog_13_method_43_code 21 [(.iload_n 3, 1)] = true := by decide +kernel
theorem d_Mod_pair_22 : decode prog_13_method_43_code 22 = .ok (.invokestatic 261, 3) := by decide +kernel
theorem d_Mod_pair_25 : decode prog_13_method_43_code 25 = .ok (.ifCond .ne 5, 3) := by decide +kernel
theorem b_Mod_pair_28 : tf_dec prog_13_method_43_code 28 [(.iconst 0, 1)] = true := by decide +kernel
theorem d_Mod_pair_29 : decode prog_13_method_43_code 29 = .ok (.ireturn, 1) := by decide +kernel
theorem b_Mod_pair_30 : tf_dec prog_13_method_43_code 30 [(.aload_n 0, 1), (.iload_n 1, 1), (.iload_n 2, 1)] = true := by decide +kernel
theorem d_Mod_pair_33 : decode prog_13_method_43_code 33 = .ok (.invokevirtual 267, 3) := by decide +kernel
theorem b_Mod_pair_36 : tf_dec prog_13_method_43_code 36 [(.istore 4, 2), (.iload 4, 2)] = true := by decide +kernel
theorem d_Mod_pair_40 : decode prog_13_method_43_code 40 = .ok (.ifCond .ge 14, 3) := by decide +kernel
theorem b_Mod_pair_43 : tf_dec prog_13_method_43_code 43 [(.aload_n 0, 1)] = true := by decide +kernel
theorem d_Mod_pair_44 : decode prog_13_method_43_code 44 = .ok (.getfield 264, 3) := by decide +kernel
theorem b_Mod_pair_47 : tf_dec prog_13_method_43_code 47 [(.bipush 40, 2)] = true := by decide +kernel
theorem d_Mod_pair_49 : decode prog_13_method_43_code 49 = .ok (.if_icmp .ne 5, 3) := by decide +kernel
theorem b_Mod_pair_52 : tf_dec prog_13_method_43_code 52 [(.iconst 0, 1)] = true := by decide +kernel
theorem d_Mod_pair_53 : decode prog_13_method_43_code 53 = .ok (.ireturn, 1) := by decide +kernel
theorem b_Mod_pair_54 : tf_dec prog_13_method_43_code 54 [(.iload 4, 2)] = true := by decide +kernel
theorem d_Mod_pair_56 : decode prog_13_method_43_code 56 = .ok (.ifCond .ge 10, 3) := by decide +kernel
theorem b_Mod_pair_59 : tf_dec prog_13_method_43_code 59 [(.aload_n 0, 1)] = true := by decide +kernel
theorem d_Mod_pair_60 : decode prog_13_method_43_code 60 = .ok (.getfield 264, 3) := by decide +kernel
theorem d_Mod_pair_63 : decode prog_13_method_43_code 63 = .ok (.goto 5, 3) := by decide +kernel
theorem b_Mod_pair_66 : tf_dec prog_13_method_43_code 66 [(.iload 4, 2)] = true := by decide +kernel
theorem b_Mod_pair_68 : tf_dec prog_13_method_43_code 68 [(.istore 4, 2), (.aload_n 0, 1), (.dup, 1)] = true := by decide +kernel
theorem d_Mod_pair_72 : decode prog_13_method_43_code 72 = .ok (.getfield 264, 3) := by decide +kernel
theorem b_Mod_pair_75 : tf_dec prog_13_method_43_code 75 [(.iload 4, 2), (.aload_n 0, 1)] = true := by decide +kernel
theorem d_Mod_pair_78 : decode prog_13_method_43_code 78 = .ok (.getfield 264, 3) := by decide +kernel
theorem d_Mod_pair_81 : decode prog_13_method_43_code 81 = .ok (.if_icmp .ne 7, 3) := by decide +kernel
theorem b_Mod_pair_84 : tf_dec prog_13_method_43_code 84 [(.iconst 1, 1)] = true := by decide +kernel
theorem d_Mod_pair_85 : decode prog_13_method_43_code 85 = .ok (.goto 4, 3) := by decide +kernel
theorem b_Mod_pair_88 : tf_dec prog_13_method_43_code 88 [(.iconst 0, 1)] = true := by decide +kernel
theorem b_Mod_pair_89 : tf_dec prog_13_method_43_code 89 [(.iadd, 1)] = true := by decide +kernel
theorem d_Mod_pair_90 : decode prog_13_method_43_code 90 = .ok (.putfield 264, 3) := by decide +kernel
theorem b_Mod_pair_93 : tf_dec prog_13_method_43_code 93 [(.aload_n 0, 1)] = true := by decide +kernel
theorem d_Mod_pair_94 : decode prog_13_method_43_code 94 = .ok (.getfield 91, 3) := by decide +kernel
theorem b_Mod_pair_97 : tf_dec prog_13_method_43_code 97 [(.iload 4, 2), (.bipush 64, 2), (.iload_n 1, 1), (.imul, 1), (.iload_n 2, 1), (.iadd, 1)] = true := by decide +kernel
theorem d_Mod_pair_105 : decode prog_13_method_43_code 105 = .ok (.iastore, 1) := by decide +kernel
theorem b_Mod_pair_106 : tf_dec prog_13_method_43_code 106 [(.aload_n 0, 1)] = true := by decide +kernel
theorem d_Mod_pair_107 : decode prog_13_method_43_code 107 = .ok (.getfield 94, 3) := by decide +kernel
theorem b_Mod_pair_110 : tf_dec prog_13_method_43_code 110 [(.iload 4, 2), (.iload_n 3, 1)] = true := by decide +kernel
theorem d_Mod_pair_113 : decode prog_13_method_43_code 113 = .ok (.iastore, 1) := by decide +kernel
theorem b_Mod_pair_114 : tf_dec prog_13_method_43_code 114 [(.iconst 1, 1)] = true := by decide +kernel
theorem d_Mod_pair_115 : decode prog_13_method_43_code 115 = .ok (.ireturn, 1) := by decide +kernel
theorem b_Mod_kernOf_0 : tf_dec prog_13_method_44_code 0 [(.aload_n 0, 1), (.iload_n 1, 1), (.iload_n 2, 1)] = true := by decide +kernel
theorem d_Mod_kernOf_3 : decode prog_13_method_44_code 3 = .ok (.invokevirtual 267, 3) := by decide +kernel
theorem b_Mod_kernOf_6 : tf_dec prog_13_method_44_code 6 [(.istore_n 3, 1), (.iload_n 3, 1)] = true := by decide +kernel
theorem d_Mod_kernOf_8 : decode prog_13_method_44_code 8 = .ok (.ifCond .lt 10, 3) := by decide +kernel
theorem b_Mod_kernOf_11 : tf_dec prog_13_method_44_code 11 [(.aload_n 0, 1)] = true := by decide +kernel
theorem d_Mod_kernOf_12 : decode prog_13_method_44_code 12 = .ok (.getfield 94, 3) := by decide +kernel
theorem b_Mod_kernOf_15 : tf_dec prog_13_method_44_code 15 [(.iload_n 3, 1)] = true := by decide +kernel
theorem d_Mod_kernOf_16 : decode prog_13_method_44_code 16 = .ok (.iaload, 1) := by decide +kernel
theorem d_Mod_kernOf_17 : decode prog_13_method_44_code 17 = .ok (.ireturn, 1) := by decide +kernel
theorem b_Mod_kernOf_18 : tf_dec prog_13_method_44_code 18 [(.bipush 16, 2), (.aload_n 0, 1)] = true := by decide +kernel
theorem d_Mod_kernOf_21 : decode prog_13_method_44_code 21 = .ok (.getfield 78, 3) := by decide +kernel
theorem b_Mod_kernOf_24 : tf_dec prog_13_method_44_code 24 [(.iload_n 1, 1)] = true := by decide +kernel
theorem d_Mod_kernOf_25 : decode prog_13_method_44_code 25 = .ok (.baload, 1) := by decide +kernel
theorem b_Mod_kernOf_26 : tf_dec prog_13_method_44_code 26 [(.imul, 1), (.aload_n 0, 1)] = true := by decide +kernel
theorem d_Mod_kernOf_28 : decode prog_13_method_44_code 28 = .ok (.getfield 81, 3) := by decide +kernel
theorem b_Mod_kernOf_31 : tf_dec prog_13_method_44_code 31 [(.iload_n 2, 1)] = true := by decide +kernel
theorem d_Mod_kernOf_32 : decode prog_13_method_44_code 32 = .ok (.baload, 1) := by decide +kernel
theorem b_Mod_kernOf_33 : tf_dec prog_13_method_44_code 33 [(.iadd, 1), (.istore 4, 2), (.aload_n 0, 1)] = true := by decide +kernel
theorem d_Mod_kernOf_37 : decode prog_13_method_44_code 37 = .ok (.getfield 78, 3) := by decide +kernel
theorem b_Mod_kernOf_40 : tf_dec prog_13_method_44_code 40 [(.iload_n 1, 1)] = true := by decide +kernel
theorem d_Mod_kernOf_41 : decode prog_13_method_44_code 41 = .ok (.baload, 1) := by decide +kernel
theorem d_Mod_kernOf_42 : decode prog_13_method_44_code 42 = .ok (.ifCond .le 32, 3) := by decide +kernel
theorem b_Mod_kernOf_45 : tf_dec prog_13_method_44_code 45 [(.aload_n 0, 1)] = true := by decide +kernel
theorem d_Mod_kernOf_46 : decode prog_13_method_44_code 46 = .ok (.getfield 81, 3) := by decide +kernel
theorem b_Mod_kernOf_49 : tf_dec prog_13_method_44_code 49 [(.iload_n 2, 1)] = true := by decide +kernel
theorem d_Mod_kernOf_50 : decode prog_13_method_44_code 50 = .ok (.baload, 1) := by decide +kernel
theorem d_Mod_kernOf_51 : decode prog_13_method_44_code 51 = .ok (.ifCond .le 23, 3) := by decide +kernel
theorem b_Mod_kernOf_54 : tf_dec prog_13_method_44_code 54 [(.aload_n 0, 1)] = true := by decide +kernel
theorem d_Mod_kernOf_55 : decode prog_13_method_44_code 55 = .ok (.getfield 88, 3) := by decide +kernel
theorem b_Mod_kernOf_58 : tf_dec prog_13_method_44_code 58 [(.iload 4, 2)] = true := by decide +kernel
theorem d_Mod_kernOf_60 : decode prog_13_method_44_code 60 = .ok (.baload, 1) := by decide +kernel
theorem d_Mod_kernOf_61 : decode prog_13_method_44_code 61 = .ok (.ifCond .eq 13, 3) := by decide +kernel
theorem b_Mod_kernOf_64 : tf_dec prog_13_method_44_code 64 [(.aload_n 0, 1)] = true := by decide +kernel
theorem d_Mod_kernOf_65 : decode prog_13_method_44_code 65 = .ok (.getfield 84, 3) := by decide +kernel
theorem b_Mod_kernOf_68 : tf_dec prog_13_method_44_code 68 [(.iload 4, 2)] = true := by decide +kernel
theorem d_Mod_kernOf_70 : decode prog_13_method_44_code 70 = .ok (.saload, 1) := by decide +kernel
theorem d_Mod_kernOf_71 : decode prog_13_method_44_code 71 = .ok (.goto 4, 3) := by decide +kernel
theorem b_Mod_kernOf_74 : tf_dec prog_13_method_44_code 74 [(.iconst 0, 1)] = true := by decide +kernel
theorem d_Mod_kernOf_75 : decode prog_13_method_44_code 75 = .ok (.ireturn, 1) := by decide +kernel
theorem b_Mod_glyphOf_0 : tf_dec prog_13_method_45_code 0 [(.iconst 0, 1), (.istore 4, 2)] = true := by decide +kernel
theorem b_Mod_glyphOf_3 : tf_dec prog_13_method_45_code 3 [(.iload 4, 2), (.iload_n 2, 1)] = true := by decide +kernel
theorem d_Mod_glyphOf_6 : decode prog_13_method_45_code 6 = .ok (.if_icmp .ge 27, 3) := by decide +kernel
theorem b_Mod_glyphOf_9 : tf_dec prog_13_method_45_code 9 [(.lload_n 0, 1), (.bipush 8, 2), (.iload 4, 2), (.imul, 1), (.lshr, 1)] = true := by decide +kernel
theorem d_Mod_glyphOf_16 : decode prog_13_method_45_code 16 = .ok (.ldc2_w 259, 3) := by decide +kernel
theorem b_Mod_glyphOf_19 : tf_dec prog_13_method_45_code 19 [(.land, 1), (.lconst 0, 1), (.lcmp, 1)] = true := by decide +kernel
theorem d_Mod_glyphOf_22 : decode prog_13_method_45_code 22 = .ok (.ifCond .ne 5, 3) := by decide +kernel
theorem b_Mod_glyphOf_25 : tf_dec prog_13_method_45_code 25 [(.iconst (-1), 1)] = true := by decide +kernel
theorem d_Mod_glyphOf_26 : decode prog_13_method_45_code 26 = .ok (.ireturn, 1) := by decide +kernel
theorem b_Mod_glyphOf_27 : tf_dec prog_13_method_45_code 27 [(.iinc 4 1, 3)] = true := by decide +kernel
theorem d_Mod_glyphOf_30 : decode prog_13_method_45_code 30 = .ok (.goto (-27), 3) := by decide +kernel
theorem b_Mod_glyphOf_33 : tf_dec prog_13_method_45_code 33 [(.iload_n 2, 1), (.iload_n 3, 1)] = true := by decide +kernel
theorem d_Mod_glyphOf_35 : decode prog_13_method_45_code 35 = .ok (.if_icmp .lt 7, 3) := by decide +kernel
theorem b_Mod_glyphOf_38 : tf_dec prog_13_method_45_code 38 [(.iconst (-1), 1)] = true := by decide +kernel
theorem d_Mod_glyphOf_39 : decode prog_13_method_45_code 39 = .ok (.goto 16, 3) := by decide +kernel
theorem b_Mod_glyphOf_42 : tf_dec prog_13_method_45_code 42 [(.lload_n 0, 1), (.bipush 8, 2), (.iload_n 2, 1), (.imul, 1), (.lshr, 1)] = true := by decide +kernel
theorem d_Mod_glyphOf_48 : decode prog_13_method_45_code 48 = .ok (.ldc2_w 259, 3) := by decide +kernel
theorem b_Mod_glyphOf_51 : tf_dec prog_13_method_45_code 51 [(.land, 1), (.l2i, 1), (.iconst 1, 1), (.isub, 1)] = true := by decide +kernel
theorem d_Mod_glyphOf_55 : decode prog_13_method_45_code 55 = .ok (.ireturn, 1) := by decide +kernel
theorem b_Mod_lengthOf_0 : tf_dec prog_13_method_46_code 0 [(.iconst 0, 1), (.istore_n 3, 1)] = true := by decide +kernel
theorem b_Mod_lengthOf_2 : tf_dec prog_13_method_46_code 2 [(.lload_n 0, 1), (.iload_n 3, 1), (.iload_n 2, 1)] = true := by decide +kernel
theorem d_Mod_lengthOf_5 : decode prog_13_method_46_code 5 = .ok (.invokestatic 270, 3) := by decide +kernel
theorem d_Mod_lengthOf_8 : decode prog_13_method_46_code 8 = .ok (.ifCond .lt 9, 3) := by decide +kernel
theorem b_Mod_lengthOf_11 : tf_dec prog_13_method_46_code 11 [(.iinc 3 1, 3)] = true := by decide +kernel
theorem d_Mod_lengthOf_14 : decode prog_13_method_46_code 14 = .ok (.goto (-12), 3) := by decide +kernel
theorem b_Mod_lengthOf_17 : tf_dec prog_13_method_46_code 17 [(.iload_n 3, 1)] = true := by decide +kernel
theorem d_Mod_lengthOf_18 : decode prog_13_method_46_code 18 = .ok (.ireturn, 1) := by decide +kernel
theorem b_Mod_isRow_0 : tf_dec prog_13_method_47_code 0 [(.iconst 1, 1), (.istore 4, 2), (.iconst 0, 1), (.istore 5, 2)] = true := by decide +kernel
theorem b_Mod_isRow_6 : tf_dec prog_13_method_47_code 6 [(.iload 5, 2), (.lload_n 1, 1), (.iload_n 3, 1)] = true := by decide +kernel
theorem d_Mod_isRow_10 : decode prog_13_method_47_code 10 = .ok (.invokestatic 274, 3) := by decide +kernel
theorem d_Mod_isRow_13 : decode prog_13_method_47_code 13 = .ok (.if_icmp .ge 35, 3) := by decide +kernel
theorem b_Mod_isRow_16 : tf_dec prog_13_method_47_code 16 [(.iload 4, 2)] = true := by decide +kernel
theorem d_Mod_isRow_18 : decode prog_13_method_47_code 18 = .ok (.ifCond .eq 21, 3) := by decide +kernel
theorem b_Mod_isRow_21 : tf_dec prog_13_method_47_code 21 [(.aload_n 0, 1), (.lload_n 1, 1), (.iload 5, 2), (.iload_n 3, 1)] = true := by decide +kernel
theorem d_Mod_isRow_26 : decode prog_13_method_47_code 26 = .ok (.invokestatic 270, 3) := by decide +kernel
theorem d_Mod_isRow_29 : decode prog_13_method_47_code 29 = .ok (.invokevirtual 148, 3) := by decide +kernel
theorem d_Mod_isRow_32 : decode prog_13_method_47_code 32 = .ok (.ifCond .eq 7, 3) := by decide +kernel
theorem b_Mod_isRow_35 : tf_dec prog_13_method_47_code 35 [(.iconst 1, 1)] = true := by decide +kernel
theorem d_Mod_isRow_36 : decode prog_13_method_47_code 36 = .ok (.goto 4, 3) := by decide +kernel
theorem b_Mod_isRow_39 : tf_dec prog_13_method_47_code 39 [(.iconst 0, 1)] = true := by decide +kernel
theorem b_Mod_isRow_40 : tf_dec prog_13_method_47_code 40 [(.istore 4, 2), (.iinc 5 1, 3)] = true := by decide +kernel
theorem d_Mod_isRow_45 : decode prog_13_method_47_code 45 = .ok (.goto (-39), 3) := by decide +kernel
theorem b_Mod_isRow_48 : tf_dec prog_13_method_47_code 48 [(.iload 4, 2)] = true := by decide +kernel
theorem d_Mod_isRow_50 : decode prog_13_method_47_code 50 = .ok (.ireturn, 1) := by decide +kernel
theorem b_Mod_rule_0 : tf_dec prog_13_method_48_code 0 [(.iload_n 1, 1)] = true := by decide +kernel
theorem d_Mod_rule_1 : decode prog_13_method_48_code 1 = .ok (.ifCond .lt 60, 3) := by decide +kernel
theorem b_Mod_rule_4 : tf_dec prog_13_method_48_code 4 [(.iload_n 1, 1), (.bipush 8, 2)] = true := by decide +kernel
theorem d_Mod_rule_7 : decode prog_13_method_48_code 7 = .ok (.if_icmp .ge 54, 3) := by decide +kernel
theorem b_Mod_rule_10 : tf_dec prog_13_method_48_code 10 [(.lload 4, 2), (.iconst 4, 1)] = true := by decide +kernel
theorem d_Mod_rule_13 : decode prog_13_method_48_code 13 = .ok (.invokestatic 274, 3) := by decide +kernel
theorem d_Mod_rule_16 : decode prog_13_method_48_code 16 = .ok (.ifCond .le 45, 3) := by decide +kernel
theorem b_Mod_rule_19 : tf_dec prog_13_method_48_code 19 [(.aload_n 0, 1), (.lload_n 2, 1), (.iconst 2, 1)] = true := by decide +kernel
theorem d_Mod_rule_22 : decode prog_13_method_48_code 22 = .ok (.invokevirtual 278, 3) := by decide +kernel
theorem d_Mod_rule_25 : decode prog_13_method_48_code 25 = .ok (.ifCond .eq 36, 3) := by decide +kernel
theorem b_Mod_rule_28 : tf_dec prog_13_method_48_code 28 [(.aload_n 0, 1), (.lload 4, 2), (.iconst 4, 1)] = true := by decide +kernel
theorem d_Mod_rule_32 : decode prog_13_method_48_code 32 = .ok (.invokevirtual 278, 3) := by decide +kernel
theorem d_Mod_rule_35 : decode prog_13_method_48_code 35 = .ok (.ifCond .eq 26, 3) := by decide +kernel
theorem b_Mod_rule_38 : tf_dec prog_13_method_48_code 38 [(.aload_n 0, 1), (.lload 6, 2), (.iconst 2, 1)] = true := by decide +kernel
theorem d_Mod_rule_42 : decode prog_13_method_48_code 42 = .ok (.invokevirtual 278, 3) := by decide +kernel
theorem d_Mod_rule_45 : decode prog_13_method_48_code 45 = .ok (.ifCond .eq 16, 3) := by decide +kernel
theorem b_Mod_rule_48 : tf_dec prog_13_method_48_code 48 [(.aload_n 0, 1), (.iload 8, 2)] = true := by decide +kernel
theorem d_Mod_rule_51 : decode prog_13_method_48_code 51 = .ok (.invokevirtual 148, 3) := by decide +kernel
theorem d_Mod_rule_54 : decode prog_13_method_48_code 54 = .ok (.ifCond .eq 7, 3) := by decide +kernel
theorem b_Mod_rule_57 : tf_dec prog_13_method_48_code 57 [(.iconst 1, 1)] = true := by decide +kernel
theorem d_Mod_rule_58 : decode prog_13_method_48_code 58 = .ok (.goto 4, 3) := by decide +kernel
theorem b_Mod_rule_61 : tf_dec prog_13_method_48_code 61 [(.iconst 0, 1)] = true := by decide +kernel
theorem b_Mod_rule_62 : tf_dec prog_13_method_48_code 62 [(.istore 9, 2), (.aload_n 0, 1), (.iload 9, 2)] = true := by decide +kernel
theorem d_Mod_rule_67 : decode prog_13_method_48_code 67 = .ok (.ifCond .ne 7, 3) := by decide +kernel
theorem b_Mod_rule_70 : tf_dec prog_13_method_48_code 70 [(.iconst 1, 1)] = true := by decide +kernel
theorem d_Mod_rule_71 : decode prog_13_method_48_code 71 = .ok (.goto 17, 3) := by decide +kernel
theorem b_Mod_rule_74 : tf_dec prog_13_method_48_code 74 [(.aload_n 0, 1)] = true := by decide +kernel
theorem d_Mod_rule_75 : decode prog_13_method_48_code 75 = .ok (.getfield 282, 3) := by decide +kernel
theorem b_Mod_rule_78 : tf_dec prog_13_method_48_code 78 [(.bipush 40, 2)] = true := by decide +kernel
theorem d_Mod_rule_80 : decode prog_13_method_48_code 80 = .ok (.if_icmp .ne 7, 3) := by decide +kernel
theorem b_Mod_rule_83 : tf_dec prog_13_method_48_code 83 [(.iconst 2, 1)] = true := by decide +kernel
theorem d_Mod_rule_84 : decode prog_13_method_48_code 84 = .ok (.goto 4, 3) := by decide +kernel
theorem b_Mod_rule_87 : tf_dec prog_13_method_48_code 87 [(.iconst 0, 1)] = true := by decide +kernel
theorem d_Mod_rule_88 : decode prog_13_method_48_code 88 = .ok (.putfield 123, 3) := by decide +kernel
theorem b_Mod_rule_91 : tf_dec prog_13_method_48_code 91 [(.aload_n 0, 1)] = true := by decide +kernel
theorem d_Mod_rule_92 : decode prog_13_method_48_code 92 = .ok (.getfield 123, 3) := by decide +kernel
theorem d_Mod_rule_95 : decode prog_13_method_48_code 95 = .ok (.ifCond .le 5, 3) := by decide +kernel
theorem b_Mod_rule_98 : tf_dec prog_13_method_48_code 98 [(.iconst 0, 1)] = true := by decide +kernel
theorem d_Mod_rule_99 : decode prog_13_method_48_code 99 = .ok (.ireturn, 1) := by decide +kernel
theorem b_Mod_rule_100 : tf_dec prog_13_method_48_code 100 [(.aload_n 0, 1)] = true := by decide +kernel
theorem d_Mod_rule_101 : decode prog_13_method_48_code 101 = .ok (.getfield 97, 3) := by decide +kernel
theorem b_Mod_rule_104 : tf_dec prog_13_method_48_code 104 [(.aload_n 0, 1)] = true := by decide +kernel
theorem d_Mod_rule_105 : decode prog_13_method_48_code 105 = .ok (.getfield 282, 3) := by decide +kernel
theorem b_Mod_rule_108 : tf_dec prog_13_method_48_code 108 [(.iload_n 1, 1)] = true := by decide +kernel
theorem d_Mod_rule_109 : decode prog_13_method_48_code 109 = .ok (.iastore, 1) := by decide +kernel
theorem b_Mod_rule_110 : tf_dec prog_13_method_48_code 110 [(.aload_n 0, 1)] = true := by decide +kernel
theorem d_Mod_rule_111 : decode prog_13_method_48_code 111 = .ok (.getfield 100, 3) := by decide +kernel
theorem b_Mod_rule_114 : tf_dec prog_13_method_48_code 114 [(.aload_n 0, 1)] = true := by decide +kernel
theorem d_Mod_rule_115 : decode prog_13_method_48_code 115 = .ok (.getfield 282, 3) := by decide +kernel
theorem b_Mod_rule_118 : tf_dec prog_13_method_48_code 118 [(.iload 8, 2)] = true := by decide +kernel
theorem d_Mod_rule_120 : decode prog_13_method_48_code 120 = .ok (.iastore, 1) := by decide +kernel
theorem b_Mod_rule_121 : tf_dec prog_13_method_48_code 121 [(.aload_n 0, 1)] = true := by decide +kernel
theorem d_Mod_rule_122 : decode prog_13_method_48_code 122 = .ok (.getfield 103, 3) := by decide +kernel
theorem b_Mod_rule_125 : tf_dec prog_13_method_48_code 125 [(.aload_n 0, 1)] = true := by decide +kernel
theorem d_Mod_rule_126 : decode prog_13_method_48_code 126 = .ok (.getfield 282, 3) := by decide +kernel
theorem b_Mod_rule_129 : tf_dec prog_13_method_48_code 129 [(.lload_n 2, 1)] = true := by decide +kernel
theorem d_Mod_rule_130 : decode prog_13_method_48_code 130 = .ok (.ldc2_w 285, 3) := by decide +kernel
theorem b_Mod_rule_133 : tf_dec prog_13_method_48_code 133 [(.land, 1), (.l2i, 1)] = true := by decide +kernel
theorem d_Mod_rule_135 : decode prog_13_method_48_code 135 = .ok (.iastore, 1) := by decide +kernel
theorem b_Mod_rule_136 : tf_dec prog_13_method_48_code 136 [(.aload_n 0, 1)] = true := by decide +kernel
theorem d_Mod_rule_137 : decode prog_13_method_48_code 137 = .ok (.getfield 106, 3) := by decide +kernel
theorem b_Mod_rule_140 : tf_dec prog_13_method_48_code 140 [(.aload_n 0, 1)] = true := by decide +kernel
theorem d_Mod_rule_141 : decode prog_13_method_48_code 141 = .ok (.getfield 282, 3) := by decide +kernel
theorem b_Mod_rule_144 : tf_dec prog_13_method_48_code 144 [(.lload 4, 2)] = true := by decide +kernel
theorem d_Mod_rule_146 : decode prog_13_method_48_code 146 = .ok (.ldc2_w 287, 3) := by decide +kernel
theorem b_Mod_rule_149 : tf_dec prog_13_method_48_code 149 [(.land, 1)] = true := by decide +kernel
theorem d_Mod_rule_150 : decode prog_13_method_48_code 150 = .ok (.lastore, 1) := by decide +kernel
theorem b_Mod_rule_151 : tf_dec prog_13_method_48_code 151 [(.aload_n 0, 1)] = true := by decide +kernel
theorem d_Mod_rule_152 : decode prog_13_method_48_code 152 = .ok (.getfield 110, 3) := by decide +kernel
theorem b_Mod_rule_155 : tf_dec prog_13_method_48_code 155 [(.aload_n 0, 1)] = true := by decide +kernel
theorem d_Mod_rule_156 : decode prog_13_method_48_code 156 = .ok (.getfield 282, 3) := by decide +kernel
theorem b_Mod_rule_159 : tf_dec prog_13_method_48_code 159 [(.lload 6, 2)] = true := by decide +kernel
theorem d_Mod_rule_161 : decode prog_13_method_48_code 161 = .ok (.ldc2_w 285, 3) := by decide +kernel
theorem b_Mod_rule_164 : tf_dec prog_13_method_48_code 164 [(.land, 1), (.l2i, 1)] = true := by decide +kernel
theorem d_Mod_rule_166 : decode prog_13_method_48_code 166 = .ok (.iastore, 1) := by decide +kernel
theorem b_Mod_rule_167 : tf_dec prog_13_method_48_code 167 [(.aload_n 0, 1), (.dup, 1)] = true := by decide +kernel
theorem d_Mod_rule_169 : decode prog_13_method_48_code 169 = .ok (.getfield 282, 3) := by decide +kernel
theorem b_Mod_rule_172 : tf_dec prog_13_method_48_code 172 [(.iconst 1, 1), (.iadd, 1)] = true := by decide +kernel
theorem d_Mod_rule_174 : decode prog_13_method_48_code 174 = .ok (.putfield 282, 3) := by decide +kernel
theorem b_Mod_rule_177 : tf_dec prog_13_method_48_code 177 [(.aload_n 0, 1)] = true := by decide +kernel
theorem d_Mod_rule_178 : decode prog_13_method_48_code 178 = .ok (.getfield 282, 3) := by decide +kernel
theorem b_Mod_rule_181 : tf_dec prog_13_method_48_code 181 [(.iconst 1, 1), (.isub, 1)] = true := by decide +kernel
theorem d_Mod_rule_183 : decode prog_13_method_48_code 183 = .ok (.ireturn, 1) := by decide +kernel
theorem b_Mod_type_0 : tf_dec prog_13_method_49_code 0 [(.aload_n 0, 1), (.iconst 0, 1)] = true := by decide +kernel
theorem d_Mod_type_2 : decode prog_13_method_49_code 2 = .ok (.putfield 123, 3) := by decide +kernel
theorem b_Mod_type_5 : tf_dec prog_13_method_49_code 5 [(.aload_n 0, 1), (.iload_n 1, 1)] = true := by decide +kernel
theorem d_Mod_type_7 : decode prog_13_method_49_code 7 = .ok (.invokevirtual 148, 3) := by decide +kernel
theorem d_Mod_type_10 : decode prog_13_method_49_code 10 = .ok (.ifCond .eq 12, 3) := by decide +kernel
theorem b_Mod_type_13 : tf_dec prog_13_method_49_code 13 [(.aload_n 0, 1)] = true := by decide +kernel
theorem d_Mod_type_14 : decode prog_13_method_49_code 14 = .ok (.getfield 289, 3) := by decide +kernel
theorem b_Mod_type_17 : tf_dec prog_13_method_49_code 17 [(.bipush 60, 2)] = true := by decide +kernel
theorem d_Mod_type_19 : decode prog_13_method_49_code 19 = .ok (.if_icmp .ne 5, 3) := by decide +kernel
theorem b_Mod_type_22 : tf_dec prog_13_method_49_code 22 [(.iconst 0, 1)] = true := by decide +kernel
theorem d_Mod_type_23 : decode prog_13_method_49_code 23 = .ok (.ireturn, 1) := by decide +kernel
theorem b_Mod_type_24 : tf_dec prog_13_method_49_code 24 [(.aload_n 0, 1)] = true := by decide +kernel
theorem d_Mod_type_25 : decode prog_13_method_49_code 25 = .ok (.getfield 113, 3) := by decide +kernel
theorem b_Mod_type_28 : tf_dec prog_13_method_49_code 28 [(.aload_n 0, 1)] = true := by decide +kernel
theorem d_Mod_type_29 : decode prog_13_method_49_code 29 = .ok (.getfield 289, 3) := by decide +kernel
theorem b_Mod_type_32 : tf_dec prog_13_method_49_code 32 [(.iload_n 1, 1)] = true := by decide +kernel
theorem d_Mod_type_33 : decode prog_13_method_49_code 33 = .ok (.iastore, 1) := by decide +kernel
theorem b_Mod_type_34 : tf_dec prog_13_method_49_code 34 [(.aload_n 0, 1), (.dup, 1)] = true := by decide +kernel
theorem d_Mod_type_36 : decode prog_13_method_49_code 36 = .ok (.getfield 289, 3) := by decide +kernel
theorem b_Mod_type_39 : tf_dec prog_13_method_49_code 39 [(.iconst 1, 1), (.iadd, 1)] = true := by decide +kernel
theorem d_Mod_type_41 : decode prog_13_method_49_code 41 = .ok (.putfield 289, 3) := by decide +kernel
theorem b_Mod_type_44 : tf_dec prog_13_method_49_code 44 [(.iconst 1, 1)] = true := by decide +kernel
theorem d_Mod_type_45 : decode prog_13_method_49_code 45 = .ok (.ireturn, 1) := by decide +kernel
theorem b_Mod_stands_0 : tf_dec prog_13_method_50_code 0 [(.lload_n 1, 1), (.iload_n 3, 1)] = true := by decide +kernel
theorem d_Mod_stands_2 : decode prog_13_method_50_code 2 = .ok (.invokestatic 274, 3) := by decide +kernel
theorem b_Mod_stands_5 : tf_dec prog_13_method_50_code 5 [(.istore 5, 2), (.iload 4, 2)] = true := by decide +kernel
theorem d_Mod_stands_9 : decode prog_13_method_50_code 9 = .ok (.ifCond .lt 19, 3) := by decide +kernel
theorem b_Mod_stands_12 : tf_dec prog_13_method_50_code 12 [(.iload 4, 2), (.iload 5, 2), (.iadd, 1), (.aload_n 0, 1)] = true := by decide +kernel
theorem d_Mod_stands_18 : decode prog_13_method_50_code 18 = .ok (.getfield 292, 3) := by decide +kernel
theorem d_Mod_stands_21 : decode prog_13_method_50_code 21 = .ok (.if_icmp .gt 7, 3) := by decide +kernel
theorem b_Mod_stands_24 : tf_dec prog_13_method_50_code 24 [(.iconst 1, 1)] = true := by decide +kernel
theorem d_Mod_stands_25 : decode prog_13_method_50_code 25 = .ok (.goto 4, 3) := by decide +kernel
theorem b_Mod_stands_28 : tf_dec prog_13_method_50_code 28 [(.iconst 0, 1)] = true := by decide +kernel
theorem b_Mod_stands_29 : tf_dec prog_13_method_50_code 29 [(.istore 6, 2), (.iconst 0, 1), (.istore 7, 2)] = true := by decide +kernel
theorem b_Mod_stands_34 : tf_dec prog_13_method_50_code 34 [(.iload 7, 2), (.iload 5, 2)] = true := by decide +kernel
theorem d_Mod_stands_38 : decode prog_13_method_50_code 38 = .ok (.if_icmp .ge 41, 3) := by decide +kernel
theorem b_Mod_stands_41 : tf_dec prog_13_method_50_code 41 [(.iload 6, 2)] = true := by decide +kernel
theorem d_Mod_stands_43 : decode prog_13_method_50_code 43 = .ok (.ifCond .eq 36, 3) := by decide +kernel
theorem b_Mod_stands_46 : tf_dec prog_13_method_50_code 46 [(.aload_n 0, 1)] = true := by decide +kernel
theorem d_Mod_stands_47 : decode prog_13_method_50_code 47 = .ok (.getfield 116, 3) := by decide +kernel
theorem b_Mod_stands_50 : tf_dec prog_13_method_50_code 50 [(.iload 4, 2), (.iload 7, 2), (.iadd, 1)] = true := by decide +kernel
theorem d_Mod_stands_55 : decode prog_13_method_50_code 55 = .ok (.iaload, 1) := by decide +kernel
theorem b_Mod_stands_56 : tf_dec prog_13_method_50_code 56 [(.lload_n 1, 1), (.iload 7, 2), (.iload_n 3, 1)] = true := by decide +kernel
theorem d_Mod_stands_60 : decode prog_13_method_50_code 60 = .ok (.invokestatic 270, 3) := by decide +kernel
theorem d_Mod_stands_63 : decode prog_13_method_50_code 63 = .ok (.if_icmp .ne 7, 3) := by decide +kernel
theorem b_Mod_stands_66 : tf_dec prog_13_method_50_code 66 [(.iconst 1, 1)] = true := by decide +kernel
theorem d_Mod_stands_67 : decode prog_13_method_50_code 67 = .ok (.goto 4, 3) := by decide +kernel
theorem b_Mod_stands_70 : tf_dec prog_13_method_50_code 70 [(.iconst 0, 1)] = true := by decide +kernel
theorem b_Mod_stands_71 : tf_dec prog_13_method_50_code 71 [(.istore 6, 2), (.iinc 7 1, 3)] = true := by decide +kernel
theorem d_Mod_stands_76 : decode prog_13_method_50_code 76 = .ok (.goto (-42), 3) := by decide +kernel
theorem b_Mod_stands_79 : tf_dec prog_13_method_50_code 79 [(.iload 6, 2)] = true := by decide +kernel
theorem d_Mod_stands_81 : decode prog_13_method_50_code 81 = .ok (.ireturn, 1) := by decide +kernel
theorem b_Mod_fitsAt_0 : tf_dec prog_13_method_51_code 0 [(.aload_n 0, 1)] = true := by decide +kernel
theorem d_Mod_fitsAt_1 : decode prog_13_method_51_code 1 = .ok (.getfield 106, 3) := by decide +kernel
theorem b_Mod_fitsAt_4 : tf_dec prog_13_method_51_code 4 [(.iload_n 1, 1)] = true := by decide +kernel
theorem d_Mod_fitsAt_5 : decode prog_13_method_51_code 5 = .ok (.laload, 1) := by decide +kernel
theorem b_Mod_fitsAt_6 : tf_dec prog_13_method_51_code 6 [(.iconst 4, 1)] = true := by decide +kernel
theorem d_Mod_fitsAt_7 : decode prog_13_method_51_code 7 = .ok (.invokestatic 274, 3) := by decide +kernel
theorem b_Mod_fitsAt_10 : tf_dec prog_13_method_51_code 10 [(.istore_n 3, 1), (.aload_n 0, 1), (.aload_n 0, 1)] = true := by decide +kernel
theorem d_Mod_fitsAt_13 : decode prog_13_method_51_code 13 = .ok (.getfield 106, 3) := by decide +kernel
theorem b_Mod_fitsAt_16 : tf_dec prog_13_method_51_code 16 [(.iload_n 1, 1)] = true := by decide +kernel
theorem d_Mod_fitsAt_17 : decode prog_13_method_51_code 17 = .ok (.laload, 1) := by decide +kernel
theorem b_Mod_fitsAt_18 : tf_dec prog_13_method_51_code 18 [(.iconst 4, 1), (.iload_n 2, 1)] = true := by decide +kernel
theorem d_Mod_fitsAt_20 : decode prog_13_method_51_code 20 = .ok (.invokevirtual 295, 3) := by decide +kernel
theorem d_Mod_fitsAt_23 : decode prog_13_method_51_code 23 = .ok (.ifCond .eq 53, 3) := by decide +kernel
theorem b_Mod_fitsAt_26 : tf_dec prog_13_method_51_code 26 [(.aload_n 0, 1), (.aload_n 0, 1)] = true := by decide +kernel
theorem d_Mod_fitsAt_28 : decode prog_13_method_51_code 28 = .ok (.getfield 103, 3) := by decide +kernel
theorem b_Mod_fitsAt_31 : tf_dec prog_13_method_51_code 31 [(.iload_n 1, 1)] = true := by decide +kernel
theorem d_Mod_fitsAt_32 : decode prog_13_method_51_code 32 = .ok (.iaload, 1) := by decide +kernel
theorem b_Mod_fitsAt_33 : tf_dec prog_13_method_51_code 33 [(.i2l, 1), (.iconst 2, 1), (.iload_n 2, 1), (.aload_n 0, 1)] = true := by decide +kernel
theorem d_Mod_fitsAt_37 : decode prog_13_method_51_code 37 = .ok (.getfield 103, 3) := by decide +kernel
theorem b_Mod_fitsAt_40 : tf_dec prog_13_method_51_code 40 [(.iload_n 1, 1)] = true := by decide +kernel
theorem d_Mod_fitsAt_41 : decode prog_13_method_51_code 41 = .ok (.iaload, 1) := by decide +kernel
theorem b_Mod_fitsAt_42 : tf_dec prog_13_method_51_code 42 [(.i2l, 1), (.iconst 2, 1)] = true := by decide +kernel
theorem d_Mod_fitsAt_44 : decode prog_13_method_51_code 44 = .ok (.invokestatic 274, 3) := by decide +kernel
theorem b_Mod_fitsAt_47 : tf_dec prog_13_method_51_code 47 [(.isub, 1)] = true := by decide +kernel
theorem d_Mod_fitsAt_48 : decode prog_13_method_51_code 48 = .ok (.invokevirtual 295, 3) := by decide +kernel
theorem d_Mod_fitsAt_51 : decode prog_13_method_51_code 51 = .ok (.ifCond .eq 25, 3) := by decide +kernel
theorem b_Mod_fitsAt_54 : tf_dec prog_13_method_51_code 54 [(.aload_n 0, 1), (.aload_n 0, 1)] = true := by decide +kernel
theorem d_Mod_fitsAt_56 : decode prog_13_method_51_code 56 = .ok (.getfield 110, 3) := by decide +kernel
theorem b_Mod_fitsAt_59 : tf_dec prog_13_method_51_code 59 [(.iload_n 1, 1)] = true := by decide +kernel
theorem d_Mod_fitsAt_60 : decode prog_13_method_51_code 60 = .ok (.iaload, 1) := by decide +kernel
theorem b_Mod_fitsAt_61 : tf_dec prog_13_method_51_code 61 [(.i2l, 1), (.iconst 2, 1), (.iload_n 2, 1), (.iload_n 3, 1), (.iadd, 1)] = true := by decide +kernel
theorem d_Mod_fitsAt_66 : decode prog_13_method_51_code 66 = .ok (.invokevirtual 295, 3) := by decide +kernel
theorem d_Mod_fitsAt_69 : decode prog_13_method_51_code 69 = .ok (.ifCond .eq 7, 3) := by decide +kernel
theorem b_Mod_fitsAt_72 : tf_dec prog_13_method_51_code 72 [(.iconst 1, 1)] = true := by decide +kernel
theorem d_Mod_fitsAt_73 : decode prog_13_method_51_code 73 = .ok (.goto 4, 3) := by decide +kernel
theorem b_Mod_fitsAt_76 : tf_dec prog_13_method_51_code 76 [(.iconst 0, 1)] = true := by decide +kernel
theorem d_Mod_fitsAt_77 : decode prog_13_method_51_code 77 = .ok (.ireturn, 1) := by decide +kernel
theorem b_Mod_bestRule_0 : tf_dec prog_13_method_52_code 0 [(.iconst (-1), 1), (.istore_n 3, 1), (.iconst 0, 1), (.istore 4, 2), (.iconst 0, 1), (.istore 5, 2)] = true := by decide +kernel
theorem b_Mod_bestRule_8 : tf_dec prog_13_method_52_code 8 [(.iload 5, 2), (.aload_n 0, 1)] = true := by decide +kernel
theorem d_Mod_bestRule_11 : decode prog_13_method_52_code 11 = .ok (.getfield 282, 3) := by decide +kernel
theorem d_Mod_bestRule_14 : decode prog_13_method_52_code 14 = .ok (.if_icmp .ge 57, 3) := by decide +kernel
theorem b_Mod_bestRule_17 : tf_dec prog_13_method_52_code 17 [(.aload_n 0, 1)] = true := by decide +kernel
theorem d_Mod_bestRule_18 : decode prog_13_method_52_code 18 = .ok (.getfield 106, 3) := by decide +kernel
theorem b_Mod_bestRule_21 : tf_dec prog_13_method_52_code 21 [(.iload 5, 2)] = true := by decide +kernel
theorem d_Mod_bestRule_23 : decode prog_13_method_52_code 23 = .ok (.laload, 1) := by decide +kernel
theorem b_Mod_bestRule_24 : tf_dec prog_13_method_52_code 24 [(.iconst 4, 1)] = true := by decide +kernel
theorem d_Mod_bestRule_25 : decode prog_13_method_52_code 25 = .ok (.invokestatic 274, 3) := by decide +kernel
theorem b_Mod_bestRule_28 : tf_dec prog_13_method_52_code 28 [(.istore 6, 2), (.aload_n 0, 1)] = true := by decide +kernel
theorem d_Mod_bestRule_31 : decode prog_13_method_52_code 31 = .ok (.getfield 97, 3) := by decide +kernel
theorem b_Mod_bestRule_34 : tf_dec prog_13_method_52_code 34 [(.iload 5, 2)] = true := by decide +kernel
theorem d_Mod_bestRule_36 : decode prog_13_method_52_code 36 = .ok (.iaload, 1) := by decide +kernel
theorem b_Mod_bestRule_37 : tf_dec prog_13_method_52_code 37 [(.iload_n 1, 1)] = true := by decide +kernel
theorem d_Mod_bestRule_38 : decode prog_13_method_52_code 38 = .ok (.if_icmp .ne 27, 3) := by decide +kernel
theorem b_Mod_bestRule_41 : tf_dec prog_13_method_52_code 41 [(.iload 6, 2), (.iload 4, 2)] = true := by decide +kernel
theorem d_Mod_bestRule_45 : decode prog_13_method_52_code 45 = .ok (.if_icmp .le 20, 3) := by decide +kernel
theorem b_Mod_bestRule_48 : tf_dec prog_13_method_52_code 48 [(.aload_n 0, 1), (.iload 5, 2), (.iload_n 2, 1)] = true := by decide +kernel
theorem d_Mod_bestRule_52 : decode prog_13_method_52_code 52 = .ok (.invokevirtual 299, 3) := by decide +kernel
theorem d_Mod_bestRule_55 : decode prog_13_method_52_code 55 = .ok (.ifCond .eq 10, 3) := by decide +kernel
theorem b_Mod_bestRule_58 : tf_dec prog_13_method_52_code 58 [(.iload 5, 2), (.istore_n 3, 1), (.iload 6, 2), (.istore 4, 2)] = true := by decide +kernel
theorem b_Mod_bestRule_65 : tf_dec prog_13_method_52_code 65 [(.iinc 5 1, 3)] = true := by decide +kernel
theorem d_Mod_bestRule_68 : decode prog_13_method_52_code 68 = .ok (.goto (-60), 3) := by decide +kernel
theorem b_Mod_bestRule_71 : tf_dec prog_13_method_52_code 71 [(.iload_n 3, 1)] = true := by decide +kernel
theorem d_Mod_bestRule_72 : decode prog_13_method_52_code 72 = .ok (.ireturn, 1) := by decide +kernel
theorem b_Mod_change_0 : tf_dec prog_13_method_53_code 0 [(.aload_n 0, 1)] = true := by decide +kernel
theorem d_Mod_change_1 : decode prog_13_method_53_code 1 = .ok (.getfield 106, 3) := by decide +kernel
theorem b_Mod_change_4 : tf_dec prog_13_method_53_code 4 [(.iload_n 1, 1)] = true := by decide +kernel
theorem d_Mod_change_5 : decode prog_13_method_53_code 5 = .ok (.laload, 1) := by decide +kernel
theorem b_Mod_change_6 : tf_dec prog_13_method_53_code 6 [(.iconst 4, 1)] = true := by decide +kernel
theorem d_Mod_change_7 : decode prog_13_method_53_code 7 = .ok (.invokestatic 274, 3) := by decide +kernel
theorem b_Mod_change_10 : tf_dec prog_13_method_53_code 10 [(.istore_n 3, 1), (.aload_n 0, 1)] = true := by decide +kernel
theorem d_Mod_change_12 : decode prog_13_method_53_code 12 = .ok (.getfield 116, 3) := by decide +kernel
theorem b_Mod_change_15 : tf_dec prog_13_method_53_code 15 [(.iload_n 2, 1), (.aload_n 0, 1)] = true := by decide +kernel
theorem d_Mod_change_17 : decode prog_13_method_53_code 17 = .ok (.getfield 100, 3) := by decide +kernel
theorem b_Mod_change_20 : tf_dec prog_13_method_53_code 20 [(.iload_n 1, 1)] = true := by decide +kernel
theorem d_Mod_change_21 : decode prog_13_method_53_code 21 = .ok (.iaload, 1) := by decide +kernel
theorem d_Mod_change_22 : decode prog_13_method_53_code 22 = .ok (.iastore, 1) := by decide +kernel
theorem b_Mod_change_23 : tf_dec prog_13_method_53_code 23 [(.iload_n 2, 1), (.iload_n 3, 1), (.iadd, 1), (.istore 4, 2)] = true := by decide +kernel
theorem b_Mod_change_28 : tf_dec prog_13_method_53_code 28 [(.iload 4, 2), (.aload_n 0, 1)] = true := by decide +kernel
theorem d_Mod_change_31 : decode prog_13_method_53_code 31 = .ok (.getfield 292, 3) := by decide +kernel
theorem d_Mod_change_34 : decode prog_13_method_53_code 34 = .ok (.if_icmp .ge 27, 3) := by decide +kernel
theorem b_Mod_change_37 : tf_dec prog_13_method_53_code 37 [(.aload_n 0, 1)] = true := by decide +kernel
theorem d_Mod_change_38 : decode prog_13_method_53_code 38 = .ok (.getfield 116, 3) := by decide +kernel
theorem b_Mod_change_41 : tf_dec prog_13_method_53_code 41 [(.iload 4, 2), (.iload_n 3, 1), (.isub, 1), (.iconst 1, 1), (.iadd, 1), (.aload_n 0, 1)] = true := by decide +kernel
theorem d_Mod_change_48 : decode prog_13_method_53_code 48 = .ok (.getfield 116, 3) := by decide +kernel
theorem b_Mod_change_51 : tf_dec prog_13_method_53_code 51 [(.iload 4, 2)] = true := by decide +kernel
theorem d_Mod_change_53 : decode prog_13_method_53_code 53 = .ok (.iaload, 1) := by decide +kernel
theorem d_Mod_change_54 : decode prog_13_method_53_code 54 = .ok (.iastore, 1) := by decide +kernel
theorem b_Mod_change_55 : tf_dec prog_13_method_53_code 55 [(.iinc 4 1, 3)] = true := by decide +kernel
theorem d_Mod_change_58 : decode prog_13_method_53_code 58 = .ok (.goto (-30), 3) := by decide +kernel
theorem b_Mod_change_61 : tf_dec prog_13_method_53_code 61 [(.aload_n 0, 1), (.dup, 1)] = true := by decide +kernel
theorem d_Mod_change_63 : decode prog_13_method_53_code 63 = .ok (.getfield 292, 3) := by decide +kernel
theorem b_Mod_change_66 : tf_dec prog_13_method_53_code 66 [(.iload_n 3, 1), (.iconst 1, 1), (.isub, 1), (.isub, 1)] = true := by decide +kernel
theorem d_Mod_change_70 : decode prog_13_method_53_code 70 = .ok (.putfield 292, 3) := by decide +kernel
theorem b_Mod_change_73 : tf_dec prog_13_method_53_code 73 [(.aload_n 0, 1), (.dup, 1)] = true := by decide +kernel
theorem d_Mod_change_75 : decode prog_13_method_53_code 75 = .ok (.getfield 303, 3) := by decide +kernel
theorem b_Mod_change_78 : tf_dec prog_13_method_53_code 78 [(.iconst 1, 1), (.iadd, 1)] = true := by decide +kernel
theorem d_Mod_change_80 : decode prog_13_method_53_code 80 = .ok (.putfield 303, 3) := by decide +kernel
theorem d_Mod_change_83 : decode prog_13_method_53_code 83 = .ok (.return_, 1) := by decide +kernel
theorem b_Mod_shape_0 : tf_dec prog_13_method_54_code 0 [(.aload_n 0, 1), (.iconst 0, 1)] = true := by decide +kernel
theorem d_Mod_shape_2 : decode prog_13_method_54_code 2 = .ok (.putfield 123, 3) := by decide +kernel
theorem b_Mod_shape_5 : tf_dec prog_13_method_54_code 5 [(.aload_n 0, 1), (.aload_n 0, 1)] = true := by decide +kernel
theorem d_Mod_shape_7 : decode prog_13_method_54_code 7 = .ok (.getfield 289, 3) := by decide +kernel
theorem d_Mod_shape_10 : decode prog_13_method_54_code 10 = .ok (.putfield 292, 3) := by decide +kernel
theorem b_Mod_shape_13 : tf_dec prog_13_method_54_code 13 [(.iconst 0, 1), (.istore_n 1, 1)] = true := by decide +kernel
theorem b_Mod_shape_15 : tf_dec prog_13_method_54_code 15 [(.iload_n 1, 1), (.aload_n 0, 1)] = true := by decide +kernel
theorem d_Mod_shape_17 : decode prog_13_method_54_code 17 = .ok (.getfield 289, 3) := by decide +kernel
theorem d_Mod_shape_20 : decode prog_13_method_54_code 20 = .ok (.if_icmp .ge 21, 3) := by decide +kernel
theorem b_Mod_shape_23 : tf_dec prog_13_method_54_code 23 [(.aload_n 0, 1)] = true := by decide +kernel
theorem d_Mod_shape_24 : decode prog_13_method_54_code 24 = .ok (.getfield 116, 3) := by decide +kernel
theorem b_Mod_shape_27 : tf_dec prog_13_method_54_code 27 [(.iload_n 1, 1), (.aload_n 0, 1)] = true := by decide +kernel
theorem d_Mod_shape_29 : decode prog_13_method_54_code 29 = .ok (.getfield 113, 3) := by decide +kernel
theorem b_Mod_shape_32 : tf_dec prog_13_method_54_code 32 [(.iload_n 1, 1)] = true := by decide +kernel
theorem d_Mod_shape_33 : decode prog_13_method_54_code 33 = .ok (.iaload, 1) := by decide +kernel
theorem d_Mod_shape_34 : decode prog_13_method_54_code 34 = .ok (.iastore, 1) := by decide +kernel
theorem b_Mod_shape_35 : tf_dec prog_13_method_54_code 35 [(.iinc 1 1, 3)] = true := by decide +kernel
theorem d_Mod_shape_38 : decode prog_13_method_54_code 38 = .ok (.goto (-23), 3) := by decide +kernel
theorem b_Mod_shape_41 : tf_dec prog_13_method_54_code 41 [(.aload_n 0, 1), (.iconst 0, 1)] = true := by decide +kernel
theorem d_Mod_shape_43 : decode prog_13_method_54_code 43 = .ok (.putfield 289, 3) := by decide +kernel
theorem b_Mod_shape_46 : tf_dec prog_13_method_54_code 46 [(.aload_n 0, 1), (.iconst 0, 1)] = true := by decide +kernel
theorem d_Mod_shape_48 : decode prog_13_method_54_code 48 = .ok (.putfield 303, 3) := by decide +kernel
theorem b_Mod_shape_51 : tf_dec prog_13_method_54_code 51 [(.iconst 0, 1), (.istore_n 1, 1)] = true := by decide +kernel
theorem b_Mod_shape_53 : tf_dec prog_13_method_54_code 53 [(.iload_n 1, 1), (.bipush 8, 2)] = true := by decide +kernel
theorem d_Mod_shape_56 : decode prog_13_method_54_code 56 = .ok (.if_icmp .ge 42, 3) := by decide +kernel
theorem b_Mod_shape_59 : tf_dec prog_13_method_54_code 59 [(.iconst 0, 1), (.istore_n 2, 1)] = true := by decide +kernel
theorem b_Mod_shape_61 : tf_dec prog_13_method_54_code 61 [(.iload_n 2, 1), (.aload_n 0, 1)] = true := by decide +kernel
theorem d_Mod_shape_63 : decode prog_13_method_54_code 63 = .ok (.getfield 292, 3) := by decide +kernel
theorem d_Mod_shape_66 : decode prog_13_method_54_code 66 = .ok (.if_icmp .ge 26, 3) := by decide +kernel
theorem b_Mod_shape_69 : tf_dec prog_13_method_54_code 69 [(.aload_n 0, 1), (.iload_n 1, 1), (.iload_n 2, 1)] = true := by decide +kernel
theorem d_Mod_shape_72 : decode prog_13_method_54_code 72 = .ok (.invokevirtual 306, 3) := by decide +kernel
theorem b_Mod_shape_75 : tf_dec prog_13_method_54_code 75 [(.istore_n 3, 1), (.iload_n 3, 1)] = true := by decide +kernel
theorem d_Mod_shape_77 : decode prog_13_method_54_code 77 = .ok (.ifCond .lt 9, 3) := by decide +kernel
theorem b_Mod_shape_80 : tf_dec prog_13_method_54_code 80 [(.aload_n 0, 1), (.iload_n 3, 1), (.iload_n 2, 1)] = true := by decide +kernel
theorem d_Mod_shape_83 : decode prog_13_method_54_code 83 = .ok (.invokevirtual 309, 3) := by decide +kernel
theorem b_Mod_shape_86 : tf_dec prog_13_method_54_code 86 [(.iinc 2 1, 3)] = true := by decide +kernel
theorem d_Mod_shape_89 : decode prog_13_method_54_code 89 = .ok (.goto (-28), 3) := by decide +kernel
theorem b_Mod_shape_92 : tf_dec prog_13_method_54_code 92 [(.iinc 1 1, 3)] = true := by decide +kernel
theorem d_Mod_shape_95 : decode prog_13_method_54_code 95 = .ok (.goto (-42), 3) := by decide +kernel
theorem b_Mod_shape_98 : tf_dec prog_13_method_54_code 98 [(.aload_n 0, 1)] = true := by decide +kernel
theorem d_Mod_shape_99 : decode prog_13_method_54_code 99 = .ok (.getfield 292, 3) := by decide +kernel
theorem d_Mod_shape_102 : decode prog_13_method_54_code 102 = .ok (.ireturn, 1) := by decide +kernel
theorem b_Mod_shaped_0 : tf_dec prog_13_method_55_code 0 [(.iload_n 1, 1)] = true := by decide +kernel
theorem d_Mod_shaped_1 : decode prog_13_method_55_code 1 = .ok (.ifCond .lt 32, 3) := by decide +kernel
theorem b_Mod_shaped_4 : tf_dec prog_13_method_55_code 4 [(.iload_n 2, 1)] = true := by decide +kernel
theorem d_Mod_shaped_5 : decode prog_13_method_55_code 5 = .ok (.ifCond .ne 11, 3) := by decide +kernel
theorem b_Mod_shaped_8 : tf_dec prog_13_method_55_code 8 [(.iload_n 1, 1), (.aload_n 0, 1)] = true := by decide +kernel
theorem d_Mod_shaped_10 : decode prog_13_method_55_code 10 = .ok (.getfield 292, 3) := by decide +kernel
theorem d_Mod_shaped_13 : decode prog_13_method_55_code 13 = .ok (.if_icmp .lt 16, 3) := by decide +kernel
theorem b_Mod_shaped_16 : tf_dec prog_13_method_55_code 16 [(.iload_n 2, 1), (.iconst 1, 1)] = true := by decide +kernel
theorem d_Mod_shaped_18 : decode prog_13_method_55_code 18 = .ok (.if_icmp .ne 15, 3) := by decide +kernel
theorem b_Mod_shaped_21 : tf_dec prog_13_method_55_code 21 [(.iload_n 1, 1), (.aload_n 0, 1)] = true := by decide +kernel
theorem d_Mod_shaped_23 : decode prog_13_method_55_code 23 = .ok (.getfield 292, 3) := by decide +kernel
theorem d_Mod_shaped_26 : decode prog_13_method_55_code 26 = .ok (.if_icmp .gt 7, 3) := by decide +kernel
theorem b_Mod_shaped_29 : tf_dec prog_13_method_55_code 29 [(.iconst 1, 1)] = true := by decide +kernel
theorem d_Mod_shaped_30 : decode prog_13_method_55_code 30 = .ok (.goto 4, 3) := by decide +kernel
theorem b_Mod_shaped_33 : tf_dec prog_13_method_55_code 33 [(.iconst 0, 1)] = true := by decide +kernel
theorem b_Mod_shaped_34 : tf_dec prog_13_method_55_code 34 [(.istore_n 3, 1), (.aload_n 0, 1), (.iload_n 3, 1)] = true := by decide +kernel
theorem d_Mod_shaped_37 : decode prog_13_method_55_code 37 = .ok (.ifCond .eq 7, 3) := by decide +kernel
theorem b_Mod_shaped_40 : tf_dec prog_13_method_55_code 40 [(.iconst 0, 1)] = true := by decide +kernel
theorem d_Mod_shaped_41 : decode prog_13_method_55_code 41 = .ok (.goto 4, 3) := by decide +kernel
theorem b_Mod_shaped_44 : tf_dec prog_13_method_55_code 44 [(.iconst 1, 1)] = true := by decide +kernel
theorem d_Mod_shaped_45 : decode prog_13_method_55_code 45 = .ok (.putfield 123, 3) := by decide +kernel
theorem b_Mod_shaped_48 : tf_dec prog_13_method_55_code 48 [(.iload_n 3, 1)] = true := by decide +kernel
theorem d_Mod_shaped_49 : decode prog_13_method_55_code 49 = .ok (.ifCond .ne 5, 3) := by decide +kernel
theorem b_Mod_shaped_52 : tf_dec prog_13_method_55_code 52 [(.iconst 0, 1)] = true := by decide +kernel
theorem d_Mod_shaped_53 : decode prog_13_method_55_code 53 = .ok (.ireturn, 1) := by decide +kernel
theorem b_Mod_shaped_54 : tf_dec prog_13_method_55_code 54 [(.iload_n 2, 1)] = true := by decide +kernel
theorem d_Mod_shaped_55 : decode prog_13_method_55_code 55 = .ok (.ifCond .ne 10, 3) := by decide +kernel
theorem b_Mod_shaped_58 : tf_dec prog_13_method_55_code 58 [(.aload_n 0, 1)] = true := by decide +kernel
theorem d_Mod_shaped_59 : decode prog_13_method_55_code 59 = .ok (.getfield 116, 3) := by decide +kernel
theorem b_Mod_shaped_62 : tf_dec prog_13_method_55_code 62 [(.iload_n 1, 1)] = true := by decide +kernel
theorem d_Mod_shaped_63 : decode prog_13_method_55_code 63 = .ok (.iaload, 1) := by decide +kernel
theorem d_Mod_shaped_64 : decode prog_13_method_55_code 64 = .ok (.ireturn, 1) := by decide +kernel
theorem b_Mod_shaped_65 : tf_dec prog_13_method_55_code 65 [(.iconst 0, 1), (.istore 4, 2), (.iconst 0, 1), (.istore 5, 2)] = true := by decide +kernel
theorem b_Mod_shaped_71 : tf_dec prog_13_method_55_code 71 [(.iload 5, 2), (.iload_n 1, 1)] = true := by decide +kernel
theorem d_Mod_shaped_74 : decode prog_13_method_55_code 74 = .ok (.if_icmp .ge 61, 3) := by decide +kernel
theorem b_Mod_shaped_77 : tf_dec prog_13_method_55_code 77 [(.iload 4, 2), (.aload_n 0, 1), (.aload_n 0, 1)] = true := by decide +kernel
theorem d_Mod_shaped_81 : decode prog_13_method_55_code 81 = .ok (.getfield 116, 3) := by decide +kernel
theorem b_Mod_shaped_84 : tf_dec prog_13_method_55_code 84 [(.iload 5, 2)] = true := by decide +kernel
theorem d_Mod_shaped_86 : decode prog_13_method_55_code 86 = .ok (.iaload, 1) := by decide +kernel
theorem d_Mod_shaped_87 : decode prog_13_method_55_code 87 = .ok (.invokevirtual 200, 3) := by decide +kernel
theorem b_Mod_shaped_90 : tf_dec prog_13_method_55_code 90 [(.iload 5, 2), (.iconst 1, 1), (.iadd, 1), (.aload_n 0, 1)] = true := by decide +kernel
theorem d_Mod_shaped_95 : decode prog_13_method_55_code 95 = .ok (.getfield 292, 3) := by decide +kernel
theorem d_Mod_shaped_98 : decode prog_13_method_55_code 98 = .ok (.if_icmp .ge 26, 3) := by decide +kernel
theorem b_Mod_shaped_101 : tf_dec prog_13_method_55_code 101 [(.aload_n 0, 1), (.aload_n 0, 1)] = true := by decide +kernel
theorem d_Mod_shaped_103 : decode prog_13_method_55_code 103 = .ok (.getfield 116, 3) := by decide +kernel
theorem b_Mod_shaped_106 : tf_dec prog_13_method_55_code 106 [(.iload 5, 2)] = true := by decide +kernel
theorem d_Mod_shaped_108 : decode prog_13_method_55_code 108 = .ok (.iaload, 1) := by decide +kernel
theorem b_Mod_shaped_109 : tf_dec prog_13_method_55_code 109 [(.aload_n 0, 1)] = true := by decide +kernel
theorem d_Mod_shaped_110 : decode prog_13_method_55_code 110 = .ok (.getfield 116, 3) := by decide +kernel
theorem b_Mod_shaped_113 : tf_dec prog_13_method_55_code 113 [(.iload 5, 2), (.iconst 1, 1), (.iadd, 1)] = true := by decide +kernel
theorem d_Mod_shaped_117 : decode prog_13_method_55_code 117 = .ok (.iaload, 1) := by decide +kernel
theorem d_Mod_shaped_118 : decode prog_13_method_55_code 118 = .ok (.invokevirtual 312, 3) := by decide +kernel
theorem d_Mod_shaped_121 : decode prog_13_method_55_code 121 = .ok (.goto 4, 3) := by decide +kernel
theorem b_Mod_shaped_124 : tf_dec prog_13_method_55_code 124 [(.iconst 0, 1)] = true := by decide +kernel
theorem b_Mod_shaped_125 : tf_dec prog_13_method_55_code 125 [(.iadd, 1), (.iadd, 1), (.istore 4, 2), (.iinc 5 1, 3)] = true := by decide +kernel
theorem d_Mod_shaped_132 : decode prog_13_method_55_code 132 = .ok (.goto (-61), 3) := by decide +kernel
theorem b_Mod_shaped_135 : tf_dec prog_13_method_55_code 135 [(.iload 4, 2)] = true := by decide +kernel
theorem d_Mod_shaped_137 : decode prog_13_method_55_code 137 = .ok (.ireturn, 1) := by decide +kernel
theorem b_Mod_count_0 : tf_dec prog_13_method_56_code 0 [(.aload_n 0, 1), (.iconst 0, 1)] = true := by decide +kernel
theorem d_Mod_count_2 : decode prog_13_method_56_code 2 = .ok (.putfield 123, 3) := by decide +kernel
theorem b_Mod_count_5 : tf_dec prog_13_method_56_code 5 [(.iload_n 1, 1)] = true := by decide +kernel
theorem d_Mod_count_6 : decode prog_13_method_56_code 6 = .ok (.tableswitch 77 0 6 #[42, 47, 52, 57, 62, 67, 72], 42) := by decide +kernel
theorem b_Mod_count_48 : tf_dec prog_13_method_56_code 48 [(.aload_n 0, 1)] = true := by decide +kernel
theorem d_Mod_count_49 : decode prog_13_method_56_code 49 = .ok (.getfield 145, 3) := by decide +kernel
theorem d_Mod_count_52 : decode prog_13_method_56_code 52 = .ok (.ireturn, 1) := by decide +kernel
theorem b_Mod_count_53 : tf_dec prog_13_method_56_code 53 [(.aload_n 0, 1)] = true := by decide +kernel
theorem d_Mod_count_54 : decode prog_13_method_56_code 54 = .ok (.getfield 282, 3) := by decide +kernel
theorem d_Mod_count_57 : decode prog_13_method_56_code 57 = .ok (.ireturn, 1) := by decide +kernel
theorem b_Mod_count_58 : tf_dec prog_13_method_56_code 58 [(.aload_n 0, 1)] = true := by decide +kernel
theorem d_Mod_count_59 : decode prog_13_method_56_code 59 = .ok (.getfield 203, 3) := by decide +kernel
theorem d_Mod_count_62 : decode prog_13_method_56_code 62 = .ok (.ireturn, 1) := by decide +kernel
theorem b_Mod_count_63 : tf_dec prog_13_method_56_code 63 [(.aload_n 0, 1)] = true := by decide +kernel
theorem d_Mod_count_64 : decode prog_13_method_56_code 64 = .ok (.getfield 289, 3) := by decide +kernel
theorem d_Mod_count_67 : decode prog_13_method_56_code 67 = .ok (.ireturn, 1) := by decide +kernel
theorem b_Mod_count_68 : tf_dec prog_13_method_56_code 68 [(.aload_n 0, 1)] = true := by decide +kernel
theorem d_Mod_count_69 : decode prog_13_method_56_code 69 = .ok (.getfield 292, 3) := by decide +kernel
theorem d_Mod_count_72 : decode prog_13_method_56_code 72 = .ok (.ireturn, 1) := by decide +kernel
theorem b_Mod_count_73 : tf_dec prog_13_method_56_code 73 [(.aload_n 0, 1)] = true := by decide +kernel
theorem d_Mod_count_74 : decode prog_13_method_56_code 74 = .ok (.getfield 264, 3) := by decide +kernel
theorem d_Mod_count_77 : decode prog_13_method_56_code 77 = .ok (.ireturn, 1) := by decide +kernel
theorem b_Mod_count_78 : tf_dec prog_13_method_56_code 78 [(.aload_n 0, 1)] = true := by decide +kernel
theorem d_Mod_count_79 : decode prog_13_method_56_code 79 = .ok (.getfield 303, 3) := by decide +kernel
theorem d_Mod_count_82 : decode prog_13_method_56_code 82 = .ok (.ireturn, 1) := by decide +kernel
theorem b_Mod_count_83 : tf_dec prog_13_method_56_code 83 [(.iconst (-1), 1)] = true := by decide +kernel
theorem d_Mod_count_84 : decode prog_13_method_56_code 84 = .ok (.ireturn, 1) := by decide +kernel
end
section
theorem b_Law_cell_0 : tf_dec method_2_code 0 [(.iload_n 1, 1), (.aload_n 0, 1)] = true := by decide +kernel
theorem d_Law_cell_2 : decode method_2_code 2 = .ok (.arraylength, 1) := by decide +kernel
theorem d_Law_cell_3 : decode method_2_code 3 = .ok (.if_icmp .ge 9, 3) := by decide +kernel
theorem b_Law_cell_6 : tf_dec method_2_code 6 [(.aload_n 0, 1), (.iload_n 1, 1)] = true := by decide +kernel
theorem d_Law_cell_8 : decode method_2_code 8 = .ok (.iaload, 1) := by decide +kernel
theorem d_Law_cell_9 : decode method_2_code 9 = .ok (.goto 4, 3) := by decide +kernel
theorem b_Law_cell_12 : tf_dec method_2_code 12 [(.iconst 0, 1)] = true := by decide +kernel
theorem d_Law_cell_13 : decode method_2_code 13 = .ok (.ireturn, 1) := by decide +kernel
theorem b_Law_glyph_0 : tf_dec method_3_code 0 [(.aload_n 1, 1), (.iconst 0, 1), (.aload_n 0, 1)] = true := by decide +kernel
theorem d_Law_glyph_3 : decode method_3_code 3 = .ok (.invokevirtual 7, 3) := by decide +kernel
theorem b_Law_glyph_6 : tf_dec method_3_code 6 [(.i2l, 1)] = true := by decide +kernel
theorem d_Law_glyph_7 : decode method_3_code 7 = .ok (.lastore, 1) := by decide +kernel
theorem d_Law_glyph_8 : decode method_3_code 8 = .ok (.goto 6, 3) := by decide +kernel
theorem b_Law_glyph_11 : tf_dec method_3_code 11 [(.astore_n 2, 1), (.iconst 1, 1)] = true := by decide +kernel
theorem d_Law_glyph_13 : decode method_3_code 13 = .ok (.ireturn, 1) := by decide +kernel
theorem b_Law_glyph_14 : tf_dec method_3_code 14 [(.iconst 0, 1)] = true := by decide +kernel
theorem d_Law_glyph_15 : decode method_3_code 15 = .ok (.ireturn, 1) := by decide +kernel
theorem b_Law_point_0 : tf_dec method_4_code 0 [(.aload 5, 2), (.iconst 0, 1), (.aload_n 0, 1), (.iload_n 1, 1), (.iload_n 2, 1), (.iload_n 3, 1), (.iload 4, 2)] = true := by decide +kernel
theorem d_Law_point_9 : decode method_4_code 9 = .ok (.invokevirtual 15, 3) := by decide +kernel
theorem b_Law_point_12 : tf_dec method_4_code 12 [(.i2l, 1)] = true := by decide +kernel
theorem d_Law_point_13 : decode method_4_code 13 = .ok (.lastore, 1) := by decide +kernel
theorem d_Law_point_14 : decode method_4_code 14 = .ok (.goto 11, 3) := by decide +kernel
theorem b_Law_point_17 : tf_dec method_4_code 17 [(.astore 6, 2), (.iconst 1, 1)] = true := by decide +kernel
theorem d_Law_point_20 : decode method_4_code 20 = .ok (.ireturn, 1) := by decide +kernel
theorem b_Law_point_21 : tf_dec method_4_code 21 [(.astore 6, 2), (.iconst 2, 1)] = true := by decide +kernel
theorem d_Law_point_24 : decode method_4_code 24 = .ok (.ireturn, 1) := by decide +kernel
theorem b_Law_point_25 : tf_dec method_4_code 25 [(.iconst 0, 1)] = true := by decide +kernel
theorem d_Law_point_26 : decode method_4_code 26 = .ok (.ireturn, 1) := by decide +kernel
theorem b_Law_place_0 : tf_dec method_5_code 0 [(.aload_n 0, 1), (.iload_n 1, 1), (.iload_n 2, 1), (.iload_n 3, 1), (.iload 4, 2), (.iload 5, 2)] = true := by decide +kernel
theorem d_Law_place_8 : decode method_5_code 8 = .ok (.invokevirtual 21, 3) := by decide +kernel
theorem d_Law_place_11 : decode method_5_code 11 = .ok (.goto 11, 3) := by decide +kernel
theorem b_Law_place_14 : tf_dec method_5_code 14 [(.astore 6, 2), (.iconst 1, 1)] = true := by decide +kernel
theorem d_Law_place_17 : decode method_5_code 17 = .ok (.ireturn, 1) := by decide +kernel
theorem b_Law_place_18 : tf_dec method_5_code 18 [(.astore 6, 2), (.iconst 2, 1)] = true := by decide +kernel
theorem d_Law_place_21 : decode method_5_code 21 = .ok (.ireturn, 1) := by decide +kernel
theorem b_Law_place_22 : tf_dec method_5_code 22 [(.iconst 0, 1)] = true := by decide +kernel
theorem d_Law_place_23 : decode method_5_code 23 = .ok (.ireturn, 1) := by decide +kernel
theorem b_Law_component_0 : tf_dec method_6_code 0 [(.aload_n 0, 1), (.iload_n 1, 1), (.iload_n 2, 1), (.iload_n 3, 1), (.iload 4, 2), (.iload 5, 2)] = true := by decide +kernel
theorem d_Law_component_8 : decode method_6_code 8 = .ok (.invokevirtual 27, 3) := by decide +kernel
theorem d_Law_component_11 : decode method_6_code 11 = .ok (.goto 11, 3) := by decide +kernel
theorem b_Law_component_14 : tf_dec method_6_code 14 [(.astore 6, 2), (.iconst 1, 1)] = true := by decide +kernel
theorem d_Law_component_17 : decode method_6_code 17 = .ok (.ireturn, 1) := by decide +kernel
theorem b_Law_component_18 : tf_dec method_6_code 18 [(.astore 6, 2), (.iconst 2, 1)] = true := by decide +kernel
theorem d_Law_component_21 : decode method_6_code 21 = .ok (.ireturn, 1) := by decide +kernel
theorem b_Law_component_22 : tf_dec method_6_code 22 [(.iconst 0, 1)] = true := by decide +kernel
theorem d_Law_component_23 : decode method_6_code 23 = .ok (.ireturn, 1) := by decide +kernel
theorem b_Law_outline_0 : tf_dec method_7_code 0 [(.aload 4, 2), (.iconst 0, 1), (.aload_n 0, 1), (.iload_n 1, 1), (.iload_n 2, 1), (.iload_n 3, 1)] = true := by decide +kernel
theorem d_Law_outline_7 : decode method_7_code 7 = .ok (.invokevirtual 30, 3) := by decide +kernel
theorem b_Law_outline_10 : tf_dec method_7_code 10 [(.i2l, 1)] = true := by decide +kernel
theorem d_Law_outline_11 : decode method_7_code 11 = .ok (.lastore, 1) := by decide +kernel
theorem d_Law_outline_12 : decode method_7_code 12 = .ok (.goto 7, 3) := by decide +kernel
theorem b_Law_outline_15 : tf_dec method_7_code 15 [(.astore 5, 2), (.iconst 1, 1)] = true := by decide +kernel
theorem d_Law_outline_18 : decode method_7_code 18 = .ok (.ireturn, 1) := by decide +kernel
theorem b_Law_outline_19 : tf_dec method_7_code 19 [(.iconst 0, 1)] = true := by decide +kernel
theorem d_Law_outline_20 : decode method_7_code 20 = .ok (.ireturn, 1) := by decide +kernel
theorem b_Law_draw_0 : tf_dec method_8_code 0 [(.aload 4, 2), (.iconst 0, 1), (.aload_n 0, 1), (.iload_n 1, 1), (.iload_n 2, 1), (.iload_n 3, 1)] = true := by decide +kernel
theorem d_Law_draw_7 : decode method_8_code 7 = .ok (.invokevirtual 34, 3) := by decide +kernel
theorem b_Law_draw_10 : tf_dec method_8_code 10 [(.i2l, 1)] = true := by decide +kernel
theorem d_Law_draw_11 : decode method_8_code 11 = .ok (.lastore, 1) := by decide +kernel
theorem d_Law_draw_12 : decode method_8_code 12 = .ok (.goto 7, 3) := by decide +kernel
theorem b_Law_draw_15 : tf_dec method_8_code 15 [(.astore 5, 2), (.iconst 1, 1)] = true := by decide +kernel
theorem d_Law_draw_18 : decode method_8_code 18 = .ok (.ireturn, 1) := by decide +kernel
theorem b_Law_draw_19 : tf_dec method_8_code 19 [(.iconst 0, 1)] = true := by decide +kernel
theorem d_Law_draw_20 : decode method_8_code 20 = .ok (.ireturn, 1) := by decide +kernel
theorem b_Law_rule_0 : tf_dec method_9_code 0 [(.aload 9, 2), (.iconst 0, 1), (.aload_n 0, 1), (.iload_n 1, 1), (.lload_n 2, 1), (.lload 4, 2), (.lload 6, 2), (.iload 8, 2)] = true := by decide +kernel
theorem d_Law_rule_12 : decode method_9_code 12 = .ok (.invokevirtual 38, 3) := by decide +kernel
theorem b_Law_rule_15 : tf_dec method_9_code 15 [(.i2l, 1)] = true := by decide +kernel
theorem d_Law_rule_16 : decode method_9_code 16 = .ok (.lastore, 1) := by decide +kernel
theorem d_Law_rule_17 : decode method_9_code 17 = .ok (.goto 11, 3) := by decide +kernel
theorem b_Law_rule_20 : tf_dec method_9_code 20 [(.astore 10, 2), (.iconst 1, 1)] = true := by decide +kernel
theorem d_Law_rule_23 : decode method_9_code 23 = .ok (.ireturn, 1) := by decide +kernel
theorem b_Law_rule_24 : tf_dec method_9_code 24 [(.astore 10, 2), (.iconst 2, 1)] = true := by decide +kernel
theorem d_Law_rule_27 : decode method_9_code 27 = .ok (.ireturn, 1) := by decide +kernel
theorem b_Law_rule_28 : tf_dec method_9_code 28 [(.iconst 0, 1)] = true := by decide +kernel
theorem d_Law_rule_29 : decode method_9_code 29 = .ok (.ireturn, 1) := by decide +kernel
theorem b_Law_shaped_0 : tf_dec method_10_code 0 [(.aload_n 3, 1), (.iconst 0, 1), (.aload_n 0, 1), (.iload_n 1, 1), (.iload_n 2, 1)] = true := by decide +kernel
theorem d_Law_shaped_5 : decode method_10_code 5 = .ok (.invokevirtual 42, 3) := by decide +kernel
theorem b_Law_shaped_8 : tf_dec method_10_code 8 [(.i2l, 1)] = true := by decide +kernel
theorem d_Law_shaped_9 : decode method_10_code 9 = .ok (.lastore, 1) := by decide +kernel
theorem d_Law_shaped_10 : decode method_10_code 10 = .ok (.goto 7, 3) := by decide +kernel
theorem b_Law_shaped_13 : tf_dec method_10_code 13 [(.astore 4, 2), (.iconst 1, 1)] = true := by decide +kernel
theorem d_Law_shaped_16 : decode method_10_code 16 = .ok (.ireturn, 1) := by decide +kernel
theorem b_Law_shaped_17 : tf_dec method_10_code 17 [(.iconst 0, 1)] = true := by decide +kernel
theorem d_Law_shaped_18 : decode method_10_code 18 = .ok (.ireturn, 1) := by decide +kernel
theorem d_Law_law_0 : decode code 0 = .ok (.new 8, 3) := by decide +kernel
theorem b_Law_law_3 : tf_dec code 3 [(.dup, 1), (.aload_n 0, 1), (.iconst 0, 1)] = true := by decide +kernel
theorem d_Law_law_6 : decode code 6 = .ok (.invokestatic 46, 3) := by decide +kernel
theorem d_Law_law_9 : decode code 9 = .ok (.invokespecial 52, 3) := by decide +kernel
theorem b_Law_law_12 : tf_dec code 12 [(.astore_n 1, 1)] = true := by decide +kernel
theorem d_Law_law_13 : decode code 13 = .ok (.new 55, 3) := by decide +kernel
theorem b_Law_law_16 : tf_dec code 16 [(.dup, 1), (.aload_n 0, 1), (.iconst 0, 1)] = true := by decide +kernel
theorem d_Law_law_19 : decode code 19 = .ok (.invokestatic 46, 3) := by decide +kernel
theorem d_Law_law_22 : decode code 22 = .ok (.invokespecial 57, 3) := by decide +kernel
theorem b_Law_law_25 : tf_dec code 25 [(.astore_n 2, 1), (.iconst 1, 1)] = true := by decide +kernel
theorem d_Law_law_27 : decode code 27 = .ok (.newarray .long, 2) := by decide +kernel
theorem b_Law_law_29 : tf_dec code 29 [(.astore_n 3, 1), (.iconst 1, 1), (.istore 4, 2)] = true := by decide +kernel
theorem b_Law_law_33 : tf_dec code 33 [(.iload 4, 2), (.aload_n 0, 1)] = true := by decide +kernel
theorem d_Law_law_36 : decode code 36 = .ok (.arraylength, 1) := by decide +kernel
theorem b_Law_law_37 : tf_dec code 37 [(.bipush 9, 2), (.isub, 1)] = true := by decide +kernel
theorem d_Law_law_40 : decode code 40 = .ok (.if_icmp .gt 1259, 3) := by decide +kernel
theorem b_Law_law_43 : tf_dec code 43 [(.aload_n 0, 1), (.iload 4, 2)] = true := by decide +kernel
theorem d_Law_law_46 : decode code 46 = .ok (.iaload, 1) := by decide +kernel
theorem b_Law_law_47 : tf_dec code 47 [(.bipush 31, 2), (.iand, 1)] = true := by decide +kernel
theorem d_Law_law_50 : decode code 50 = .ok (.tableswitch 1243 0 18 #[90, 134, 242, 267, 351, 435, 484, 521, 601, 626, 722, 759, 808, 857, 906, 1112, 1137, 1150, 1218], 90) := by decide +kernel
theorem b_Law_law_140 : tf_dec code 140 [(.aload_n 1, 1), (.aload_n 3, 1)] = true := by decide +kernel
theorem d_Law_law_142 : decode code 142 = .ok (.invokestatic 58, 3) := by decide +kernel
theorem b_Law_law_145 : tf_dec code 145 [(.istore 5, 2), (.aload_n 2, 1)] = true := by decide +kernel
theorem d_Law_law_148 : decode code 148 = .ok (.invokevirtual 61, 3) := by decide +kernel
theorem b_Law_law_151 : tf_dec code 151 [(.istore 6, 2), (.aload_n 2, 1)] = true := by decide +kernel
theorem d_Law_law_154 : decode code 154 = .ok (.invokevirtual 62, 3) := by decide +kernel
theorem b_Law_law_157 : tf_dec code 157 [(.iload 5, 2)] = true := by decide +kernel
theorem d_Law_law_159 : decode code 159 = .ok (.if_icmp .eq 5, 3) := by decide +kernel
theorem b_Law_law_162 : tf_dec code 162 [(.iconst 0, 1)] = true := by decide +kernel
theorem d_Law_law_163 : decode code 163 = .ok (.ireturn, 1) := by decide +kernel
theorem b_Law_law_164 : tf_dec code 164 [(.iload 5, 2)] = true := by decide +kernel
theorem d_Law_law_166 : decode code 166 = .ok (.ifCond .ne 15, 3) := by decide +kernel
theorem b_Law_law_169 : tf_dec code 169 [(.aload_n 3, 1), (.iconst 0, 1)] = true := by decide +kernel
theorem d_Law_law_171 : decode code 171 = .ok (.laload, 1) := by decide +kernel
theorem b_Law_law_172 : tf_dec code 172 [(.iload 6, 2), (.i2l, 1), (.lcmp, 1)] = true := by decide +kernel
theorem d_Law_law_176 : decode code 176 = .ok (.ifCond .eq 5, 3) := by decide +kernel
theorem b_Law_law_179 : tf_dec code 179 [(.iconst 0, 1)] = true := by decide +kernel
theorem d_Law_law_180 : decode code 180 = .ok (.ireturn, 1) := by decide +kernel
theorem d_Law_law_181 : decode code 181 = .ok (.goto 1112, 3) := by decide +kernel
theorem b_Law_law_184 : tf_dec code 184 [(.aload_n 1, 1), (.aload_n 0, 1), (.iload 4, 2), (.iconst 1, 1), (.iadd, 1)] = true := by decide +kernel
theorem d_Law_law_190 : decode code 190 = .ok (.iaload, 1) := by decide +kernel
theorem b_Law_law_191 : tf_dec code 191 [(.aload_n 0, 1), (.iload 4, 2), (.iconst 2, 1), (.iadd, 1)] = true := by decide +kernel
theorem d_Law_law_196 : decode code 196 = .ok (.iaload, 1) := by decide +kernel
theorem b_Law_law_197 : tf_dec code 197 [(.aload_n 0, 1), (.iload 4, 2), (.iconst 3, 1), (.iadd, 1)] = true := by decide +kernel
theorem d_Law_law_202 : decode code 202 = .ok (.iaload, 1) := by decide +kernel
theorem b_Law_law_203 : tf_dec code 203 [(.aload_n 0, 1), (.iload 4, 2), (.iconst 4, 1), (.iadd, 1)] = true := by decide +kernel
theorem d_Law_law_208 : decode code 208 = .ok (.iaload, 1) := by decide +kernel
theorem d_Law_law_209 : decode code 209 = .ok (.ifCond .eq 7, 3) := by decide +kernel
theorem b_Law_law_212 : tf_dec code 212 [(.iconst 1, 1)] = true := by decide +kernel
theorem d_Law_law_213 : decode code 213 = .ok (.goto 4, 3) := by decide +kernel
theorem b_Law_law_216 : tf_dec code 216 [(.iconst 0, 1)] = true := by decide +kernel
theorem b_Law_law_217 : tf_dec code 217 [(.aload_n 3, 1)] = true := by decide +kernel
theorem d_Law_law_218 : decode code 218 = .ok (.invokestatic 65, 3) := by decide +kernel
theorem b_Law_law_221 : tf_dec code 221 [(.istore 5, 2), (.aload_n 2, 1), (.aload_n 0, 1), (.iload 4, 2), (.iconst 1, 1), (.iadd, 1)] = true := by decide +kernel
theorem d_Law_law_229 : decode code 229 = .ok (.iaload, 1) := by decide +kernel
theorem b_Law_law_230 : tf_dec code 230 [(.aload_n 0, 1), (.iload 4, 2), (.iconst 2, 1), (.iadd, 1)] = true := by decide +kernel
theorem d_Law_law_235 : decode code 235 = .ok (.iaload, 1) := by decide +kernel
theorem b_Law_law_236 : tf_dec code 236 [(.aload_n 0, 1), (.iload 4, 2), (.iconst 3, 1), (.iadd, 1)] = true := by decide +kernel
theorem d_Law_law_241 : decode code 241 = .ok (.iaload, 1) := by decide +kernel
theorem b_Law_law_242 : tf_dec code 242 [(.aload_n 0, 1), (.iload 4, 2), (.iconst 4, 1), (.iadd, 1)] = true := by decide +kernel
theorem d_Law_law_247 : decode code 247 = .ok (.iaload, 1) := by decide +kernel
theorem d_Law_law_248 : decode code 248 = .ok (.ifCond .eq 7, 3) := by decide +kernel
theorem b_Law_law_251 : tf_dec code 251 [(.iconst 1, 1)] = true := by decide +kernel
theorem d_Law_law_252 : decode code 252 = .ok (.goto 4, 3) := by decide +kernel
theorem b_Law_law_255 : tf_dec code 255 [(.iconst 0, 1)] = true := by decide +kernel
theorem d_Law_law_256 : decode code 256 = .ok (.invokevirtual 68, 3) := by decide +kernel
theorem b_Law_law_259 : tf_dec code 259 [(.istore 6, 2), (.aload_n 2, 1)] = true := by decide +kernel
theorem d_Law_law_262 : decode code 262 = .ok (.invokevirtual 62, 3) := by decide +kernel
theorem b_Law_law_265 : tf_dec code 265 [(.iload 5, 2)] = true := by decide +kernel
theorem d_Law_law_267 : decode code 267 = .ok (.if_icmp .eq 5, 3) := by decide +kernel
theorem b_Law_law_270 : tf_dec code 270 [(.iconst 0, 1)] = true := by decide +kernel
theorem d_Law_law_271 : decode code 271 = .ok (.ireturn, 1) := by decide +kernel
theorem b_Law_law_272 : tf_dec code 272 [(.iload 5, 2)] = true := by decide +kernel
theorem d_Law_law_274 : decode code 274 = .ok (.ifCond .ne 15, 3) := by decide +kernel
theorem b_Law_law_277 : tf_dec code 277 [(.aload_n 3, 1), (.iconst 0, 1)] = true := by decide +kernel
theorem d_Law_law_279 : decode code 279 = .ok (.laload, 1) := by decide +kernel
theorem b_Law_law_280 : tf_dec code 280 [(.iload 6, 2), (.i2l, 1), (.lcmp, 1)] = true := by decide +kernel
theorem d_Law_law_284 : decode code 284 = .ok (.ifCond .eq 5, 3) := by decide +kernel
theorem b_Law_law_287 : tf_dec code 287 [(.iconst 0, 1)] = true := by decide +kernel
theorem d_Law_law_288 : decode code 288 = .ok (.ireturn, 1) := by decide +kernel
theorem d_Law_law_289 : decode code 289 = .ok (.goto 1004, 3) := by decide +kernel
theorem b_Law_law_292 : tf_dec code 292 [(.aload_n 1, 1), (.aload_n 0, 1), (.iload 4, 2), (.iconst 1, 1), (.iadd, 1)] = true := by decide +kernel
theorem d_Law_law_298 : decode code 298 = .ok (.iaload, 1) := by decide +kernel
theorem d_Law_law_299 : decode code 299 = .ok (.invokevirtual 69, 3) := by decide +kernel
theorem b_Law_law_302 : tf_dec code 302 [(.aload_n 2, 1), (.aload_n 0, 1), (.iload 4, 2), (.iconst 1, 1), (.iadd, 1)] = true := by decide +kernel
theorem d_Law_law_308 : decode code 308 = .ok (.iaload, 1) := by decide +kernel
theorem d_Law_law_309 : decode code 309 = .ok (.invokevirtual 73, 3) := by decide +kernel
theorem d_Law_law_312 : decode code 312 = .ok (.if_icmp .eq 981, 3) := by decide +kernel
theorem b_Law_law_315 : tf_dec code 315 [(.iconst 0, 1)] = true := by decide +kernel
theorem d_Law_law_316 : decode code 316 = .ok (.ireturn, 1) := by decide +kernel
theorem b_Law_law_317 : tf_dec code 317 [(.aload_n 1, 1), (.aload_n 0, 1), (.iload 4, 2), (.iconst 1, 1), (.iadd, 1)] = true := by decide +kernel
theorem d_Law_law_323 : decode code 323 = .ok (.iaload, 1) := by decide +kernel
theorem b_Law_law_324 : tf_dec code 324 [(.aload_n 0, 1), (.iload 4, 2), (.iconst 2, 1), (.iadd, 1)] = true := by decide +kernel
theorem d_Law_law_329 : decode code 329 = .ok (.iaload, 1) := by decide +kernel
theorem b_Law_law_330 : tf_dec code 330 [(.aload_n 0, 1), (.iload 4, 2), (.iconst 3, 1), (.iadd, 1)] = true := by decide +kernel
theorem d_Law_law_335 : decode code 335 = .ok (.iaload, 1) := by decide +kernel
theorem b_Law_law_336 : tf_dec code 336 [(.aload_n 0, 1), (.iload 4, 2), (.iconst 4, 1), (.iadd, 1)] = true := by decide +kernel
theorem d_Law_law_341 : decode code 341 = .ok (.iaload, 1) := by decide +kernel
theorem b_Law_law_342 : tf_dec code 342 [(.aload_n 0, 1), (.iload 4, 2), (.iconst 5, 1), (.iadd, 1)] = true := by decide +kernel
theorem d_Law_law_347 : decode code 347 = .ok (.iaload, 1) := by decide +kernel
theorem d_Law_law_348 : decode code 348 = .ok (.invokestatic 74, 3) := by decide +kernel
theorem b_Law_law_351 : tf_dec code 351 [(.istore 5, 2), (.aload_n 2, 1), (.aload_n 0, 1), (.iload 4, 2), (.iconst 1, 1), (.iadd, 1)] = true := by decide +kernel
theorem d_Law_law_359 : decode code 359 = .ok (.iaload, 1) := by decide +kernel
theorem b_Law_law_360 : tf_dec code 360 [(.aload_n 0, 1), (.iload 4, 2), (.iconst 2, 1), (.iadd, 1)] = true := by decide +kernel
theorem d_Law_law_365 : decode code 365 = .ok (.iaload, 1) := by decide +kernel
theorem b_Law_law_366 : tf_dec code 366 [(.aload_n 0, 1), (.iload 4, 2), (.iconst 3, 1), (.iadd, 1)] = true := by decide +kernel
theorem d_Law_law_371 : decode code 371 = .ok (.iaload, 1) := by decide +kernel
theorem b_Law_law_372 : tf_dec code 372 [(.aload_n 0, 1), (.iload 4, 2), (.iconst 4, 1), (.iadd, 1)] = true := by decide +kernel
theorem d_Law_law_377 : decode code 377 = .ok (.iaload, 1) := by decide +kernel
theorem b_Law_law_378 : tf_dec code 378 [(.aload_n 0, 1), (.iload 4, 2), (.iconst 5, 1), (.iadd, 1)] = true := by decide +kernel
theorem d_Law_law_383 : decode code 383 = .ok (.iaload, 1) := by decide +kernel
theorem d_Law_law_384 : decode code 384 = .ok (.invokevirtual 77, 3) := by decide +kernel
theorem b_Law_law_387 : tf_dec code 387 [(.aload_n 2, 1)] = true := by decide +kernel
theorem d_Law_law_388 : decode code 388 = .ok (.invokevirtual 62, 3) := by decide +kernel
theorem b_Law_law_391 : tf_dec code 391 [(.iload 5, 2)] = true := by decide +kernel
theorem d_Law_law_393 : decode code 393 = .ok (.if_icmp .eq 5, 3) := by decide +kernel
theorem b_Law_law_396 : tf_dec code 396 [(.iconst 0, 1)] = true := by decide +kernel
theorem d_Law_law_397 : decode code 397 = .ok (.ireturn, 1) := by decide +kernel
theorem d_Law_law_398 : decode code 398 = .ok (.goto 895, 3) := by decide +kernel
theorem b_Law_law_401 : tf_dec code 401 [(.aload_n 1, 1), (.aload_n 0, 1), (.iload 4, 2), (.iconst 1, 1), (.iadd, 1)] = true := by decide +kernel
theorem d_Law_law_407 : decode code 407 = .ok (.iaload, 1) := by decide +kernel
theorem b_Law_law_408 : tf_dec code 408 [(.aload_n 0, 1), (.iload 4, 2), (.iconst 2, 1), (.iadd, 1)] = true := by decide +kernel
theorem d_Law_law_413 : decode code 413 = .ok (.iaload, 1) := by decide +kernel
theorem b_Law_law_414 : tf_dec code 414 [(.aload_n 0, 1), (.iload 4, 2), (.iconst 3, 1), (.iadd, 1)] = true := by decide +kernel
theorem d_Law_law_419 : decode code 419 = .ok (.iaload, 1) := by decide +kernel
theorem b_Law_law_420 : tf_dec code 420 [(.aload_n 0, 1), (.iload 4, 2), (.iconst 4, 1), (.iadd, 1)] = true := by decide +kernel
theorem d_Law_law_425 : decode code 425 = .ok (.iaload, 1) := by decide +kernel
theorem b_Law_law_426 : tf_dec code 426 [(.aload_n 0, 1), (.iload 4, 2), (.iconst 5, 1), (.iadd, 1)] = true := by decide +kernel
theorem d_Law_law_431 : decode code 431 = .ok (.iaload, 1) := by decide +kernel
theorem d_Law_law_432 : decode code 432 = .ok (.invokestatic 78, 3) := by decide +kernel
theorem b_Law_law_435 : tf_dec code 435 [(.istore 5, 2), (.aload_n 2, 1), (.aload_n 0, 1), (.iload 4, 2), (.iconst 1, 1), (.iadd, 1)] = true := by decide +kernel
theorem d_Law_law_443 : decode code 443 = .ok (.iaload, 1) := by decide +kernel
theorem b_Law_law_444 : tf_dec code 444 [(.aload_n 0, 1), (.iload 4, 2), (.iconst 2, 1), (.iadd, 1)] = true := by decide +kernel
theorem d_Law_law_449 : decode code 449 = .ok (.iaload, 1) := by decide +kernel
theorem b_Law_law_450 : tf_dec code 450 [(.aload_n 0, 1), (.iload 4, 2), (.iconst 3, 1), (.iadd, 1)] = true := by decide +kernel
theorem d_Law_law_455 : decode code 455 = .ok (.iaload, 1) := by decide +kernel
theorem b_Law_law_456 : tf_dec code 456 [(.aload_n 0, 1), (.iload 4, 2), (.iconst 4, 1), (.iadd, 1)] = true := by decide +kernel
theorem d_Law_law_461 : decode code 461 = .ok (.iaload, 1) := by decide +kernel
theorem b_Law_law_462 : tf_dec code 462 [(.aload_n 0, 1), (.iload 4, 2), (.iconst 5, 1), (.iadd, 1)] = true := by decide +kernel
theorem d_Law_law_467 : decode code 467 = .ok (.iaload, 1) := by decide +kernel
theorem d_Law_law_468 : decode code 468 = .ok (.invokevirtual 80, 3) := by decide +kernel
theorem b_Law_law_471 : tf_dec code 471 [(.aload_n 2, 1)] = true := by decide +kernel
theorem d_Law_law_472 : decode code 472 = .ok (.invokevirtual 62, 3) := by decide +kernel
theorem b_Law_law_475 : tf_dec code 475 [(.iload 5, 2)] = true := by decide +kernel
theorem d_Law_law_477 : decode code 477 = .ok (.if_icmp .eq 5, 3) := by decide +kernel
theorem b_Law_law_480 : tf_dec code 480 [(.iconst 0, 1)] = true := by decide +kernel
theorem d_Law_law_481 : decode code 481 = .ok (.ireturn, 1) := by decide +kernel
theorem d_Law_law_482 : decode code 482 = .ok (.goto 811, 3) := by decide +kernel
theorem b_Law_law_485 : tf_dec code 485 [(.aload_n 1, 1), (.aload_n 0, 1), (.iload 4, 2), (.iconst 1, 1), (.iadd, 1)] = true := by decide +kernel
theorem d_Law_law_491 : decode code 491 = .ok (.iaload, 1) := by decide +kernel
theorem b_Law_law_492 : tf_dec code 492 [(.aload_n 0, 1), (.iload 4, 2), (.iconst 2, 1), (.iadd, 1)] = true := by decide +kernel
theorem d_Law_law_497 : decode code 497 = .ok (.iaload, 1) := by decide +kernel
theorem b_Law_law_498 : tf_dec code 498 [(.aload_n 0, 1), (.iload 4, 2), (.iconst 3, 1), (.iadd, 1)] = true := by decide +kernel
theorem d_Law_law_503 : decode code 503 = .ok (.iaload, 1) := by decide +kernel
theorem d_Law_law_504 : decode code 504 = .ok (.invokevirtual 81, 3) := by decide +kernel
theorem b_Law_law_507 : tf_dec code 507 [(.aload_n 2, 1), (.aload_n 0, 1), (.iload 4, 2), (.iconst 1, 1), (.iadd, 1)] = true := by decide +kernel
theorem d_Law_law_513 : decode code 513 = .ok (.iaload, 1) := by decide +kernel
theorem b_Law_law_514 : tf_dec code 514 [(.aload_n 0, 1), (.iload 4, 2), (.iconst 2, 1), (.iadd, 1)] = true := by decide +kernel
theorem d_Law_law_519 : decode code 519 = .ok (.iaload, 1) := by decide +kernel
theorem b_Law_law_520 : tf_dec code 520 [(.aload_n 0, 1), (.iload 4, 2), (.iconst 3, 1), (.iadd, 1)] = true := by decide +kernel
theorem d_Law_law_525 : decode code 525 = .ok (.iaload, 1) := by decide +kernel
theorem d_Law_law_526 : decode code 526 = .ok (.invokevirtual 85, 3) := by decide +kernel
theorem d_Law_law_529 : decode code 529 = .ok (.if_icmp .eq 764, 3) := by decide +kernel
theorem b_Law_law_532 : tf_dec code 532 [(.iconst 0, 1)] = true := by decide +kernel
theorem d_Law_law_533 : decode code 533 = .ok (.ireturn, 1) := by decide +kernel
theorem b_Law_law_534 : tf_dec code 534 [(.aload_n 1, 1), (.aload_n 0, 1), (.iload 4, 2), (.iconst 1, 1), (.iadd, 1)] = true := by decide +kernel
theorem d_Law_law_540 : decode code 540 = .ok (.iaload, 1) := by decide +kernel
theorem b_Law_law_541 : tf_dec code 541 [(.aload_n 0, 1), (.iload 4, 2), (.iconst 2, 1), (.iadd, 1)] = true := by decide +kernel
theorem d_Law_law_546 : decode code 546 = .ok (.iaload, 1) := by decide +kernel
theorem d_Law_law_547 : decode code 547 = .ok (.invokevirtual 86, 3) := by decide +kernel
theorem b_Law_law_550 : tf_dec code 550 [(.aload_n 2, 1), (.aload_n 0, 1), (.iload 4, 2), (.iconst 1, 1), (.iadd, 1)] = true := by decide +kernel
theorem d_Law_law_556 : decode code 556 = .ok (.iaload, 1) := by decide +kernel
theorem b_Law_law_557 : tf_dec code 557 [(.aload_n 0, 1), (.iload 4, 2), (.iconst 2, 1), (.iadd, 1)] = true := by decide +kernel
theorem d_Law_law_562 : decode code 562 = .ok (.iaload, 1) := by decide +kernel
theorem d_Law_law_563 : decode code 563 = .ok (.invokevirtual 90, 3) := by decide +kernel
theorem d_Law_law_566 : decode code 566 = .ok (.if_icmp .eq 727, 3) := by decide +kernel
theorem b_Law_law_569 : tf_dec code 569 [(.iconst 0, 1)] = true := by decide +kernel
theorem d_Law_law_570 : decode code 570 = .ok (.ireturn, 1) := by decide +kernel
theorem b_Law_law_571 : tf_dec code 571 [(.aload_n 1, 1), (.aload_n 0, 1), (.iload 4, 2), (.iconst 1, 1), (.iadd, 1)] = true := by decide +kernel
theorem d_Law_law_577 : decode code 577 = .ok (.iaload, 1) := by decide +kernel
theorem b_Law_law_578 : tf_dec code 578 [(.aload_n 0, 1), (.iload 4, 2), (.iconst 2, 1), (.iadd, 1)] = true := by decide +kernel
theorem d_Law_law_583 : decode code 583 = .ok (.iaload, 1) := by decide +kernel
theorem b_Law_law_584 : tf_dec code 584 [(.aload_n 0, 1), (.iload 4, 2), (.iconst 3, 1), (.iadd, 1)] = true := by decide +kernel
theorem d_Law_law_589 : decode code 589 = .ok (.iaload, 1) := by decide +kernel
theorem b_Law_law_590 : tf_dec code 590 [(.aload_n 3, 1)] = true := by decide +kernel
theorem d_Law_law_591 : decode code 591 = .ok (.invokestatic 91, 3) := by decide +kernel
theorem b_Law_law_594 : tf_dec code 594 [(.istore 5, 2), (.aload_n 2, 1), (.aload_n 0, 1), (.iload 4, 2), (.iconst 1, 1), (.iadd, 1)] = true := by decide +kernel
theorem d_Law_law_602 : decode code 602 = .ok (.iaload, 1) := by decide +kernel
theorem b_Law_law_603 : tf_dec code 603 [(.aload_n 0, 1), (.iload 4, 2), (.iconst 2, 1), (.iadd, 1)] = true := by decide +kernel
theorem d_Law_law_608 : decode code 608 = .ok (.iaload, 1) := by decide +kernel
theorem b_Law_law_609 : tf_dec code 609 [(.aload_n 0, 1), (.iload 4, 2), (.iconst 3, 1), (.iadd, 1)] = true := by decide +kernel
theorem d_Law_law_614 : decode code 614 = .ok (.iaload, 1) := by decide +kernel
theorem d_Law_law_615 : decode code 615 = .ok (.invokevirtual 94, 3) := by decide +kernel
theorem b_Law_law_618 : tf_dec code 618 [(.istore 6, 2), (.aload_n 2, 1)] = true := by decide +kernel
theorem d_Law_law_621 : decode code 621 = .ok (.invokevirtual 62, 3) := by decide +kernel
theorem b_Law_law_624 : tf_dec code 624 [(.iload 5, 2)] = true := by decide +kernel
theorem d_Law_law_626 : decode code 626 = .ok (.if_icmp .eq 5, 3) := by decide +kernel
theorem b_Law_law_629 : tf_dec code 629 [(.iconst 0, 1)] = true := by decide +kernel
theorem d_Law_law_630 : decode code 630 = .ok (.ireturn, 1) := by decide +kernel
theorem b_Law_law_631 : tf_dec code 631 [(.iload 5, 2)] = true := by decide +kernel
theorem d_Law_law_633 : decode code 633 = .ok (.ifCond .ne 15, 3) := by decide +kernel
theorem b_Law_law_636 : tf_dec code 636 [(.aload_n 3, 1), (.iconst 0, 1)] = true := by decide +kernel
theorem d_Law_law_638 : decode code 638 = .ok (.laload, 1) := by decide +kernel
theorem b_Law_law_639 : tf_dec code 639 [(.iload 6, 2), (.i2l, 1), (.lcmp, 1)] = true := by decide +kernel
theorem d_Law_law_643 : decode code 643 = .ok (.ifCond .eq 5, 3) := by decide +kernel
theorem b_Law_law_646 : tf_dec code 646 [(.iconst 0, 1)] = true := by decide +kernel
theorem d_Law_law_647 : decode code 647 = .ok (.ireturn, 1) := by decide +kernel
theorem d_Law_law_648 : decode code 648 = .ok (.goto 645, 3) := by decide +kernel
theorem b_Law_law_651 : tf_dec code 651 [(.aload_n 1, 1), (.aload_n 0, 1), (.iload 4, 2), (.iconst 1, 1), (.iadd, 1)] = true := by decide +kernel
theorem d_Law_law_657 : decode code 657 = .ok (.iaload, 1) := by decide +kernel
theorem d_Law_law_658 : decode code 658 = .ok (.invokevirtual 95, 3) := by decide +kernel
theorem b_Law_law_661 : tf_dec code 661 [(.aload_n 2, 1), (.aload_n 0, 1), (.iload 4, 2), (.iconst 1, 1), (.iadd, 1)] = true := by decide +kernel
theorem d_Law_law_667 : decode code 667 = .ok (.iaload, 1) := by decide +kernel
theorem d_Law_law_668 : decode code 668 = .ok (.invokevirtual 98, 3) := by decide +kernel
theorem d_Law_law_671 : decode code 671 = .ok (.if_icmp .eq 622, 3) := by decide +kernel
theorem b_Law_law_674 : tf_dec code 674 [(.iconst 0, 1)] = true := by decide +kernel
theorem d_Law_law_675 : decode code 675 = .ok (.ireturn, 1) := by decide +kernel
theorem b_Law_law_676 : tf_dec code 676 [(.aload_n 1, 1), (.aload_n 0, 1), (.iload 4, 2), (.iconst 1, 1), (.iadd, 1)] = true := by decide +kernel
theorem d_Law_law_682 : decode code 682 = .ok (.iaload, 1) := by decide +kernel
theorem b_Law_law_683 : tf_dec code 683 [(.aload_n 0, 1), (.iload 4, 2), (.iconst 2, 1), (.iadd, 1)] = true := by decide +kernel
theorem d_Law_law_688 : decode code 688 = .ok (.iaload, 1) := by decide +kernel
theorem b_Law_law_689 : tf_dec code 689 [(.aload_n 0, 1), (.iload 4, 2), (.iconst 3, 1), (.iadd, 1)] = true := by decide +kernel
theorem d_Law_law_694 : decode code 694 = .ok (.iaload, 1) := by decide +kernel
theorem d_Law_law_695 : decode code 695 = .ok (.ifCond .eq 7, 3) := by decide +kernel
theorem b_Law_law_698 : tf_dec code 698 [(.iconst 1, 1)] = true := by decide +kernel
theorem d_Law_law_699 : decode code 699 = .ok (.goto 4, 3) := by decide +kernel
theorem b_Law_law_702 : tf_dec code 702 [(.iconst 0, 1)] = true := by decide +kernel
theorem b_Law_law_703 : tf_dec code 703 [(.aload_n 3, 1)] = true := by decide +kernel
theorem d_Law_law_704 : decode code 704 = .ok (.invokestatic 99, 3) := by decide +kernel
theorem b_Law_law_707 : tf_dec code 707 [(.istore 5, 2), (.aload_n 2, 1), (.aload_n 0, 1), (.iload 4, 2), (.iconst 1, 1), (.iadd, 1)] = true := by decide +kernel
theorem d_Law_law_715 : decode code 715 = .ok (.iaload, 1) := by decide +kernel
theorem b_Law_law_716 : tf_dec code 716 [(.aload_n 0, 1), (.iload 4, 2), (.iconst 2, 1), (.iadd, 1)] = true := by decide +kernel
theorem d_Law_law_721 : decode code 721 = .ok (.iaload, 1) := by decide +kernel
theorem b_Law_law_722 : tf_dec code 722 [(.aload_n 0, 1), (.iload 4, 2), (.iconst 3, 1), (.iadd, 1)] = true := by decide +kernel
theorem d_Law_law_727 : decode code 727 = .ok (.iaload, 1) := by decide +kernel
theorem d_Law_law_728 : decode code 728 = .ok (.ifCond .eq 7, 3) := by decide +kernel
theorem b_Law_law_731 : tf_dec code 731 [(.iconst 1, 1)] = true := by decide +kernel
theorem d_Law_law_732 : decode code 732 = .ok (.goto 4, 3) := by decide +kernel
theorem b_Law_law_735 : tf_dec code 735 [(.iconst 0, 1)] = true := by decide +kernel
theorem d_Law_law_736 : decode code 736 = .ok (.invokevirtual 102, 3) := by decide +kernel
theorem b_Law_law_739 : tf_dec code 739 [(.istore 6, 2), (.aload_n 2, 1)] = true := by decide +kernel
theorem d_Law_law_742 : decode code 742 = .ok (.invokevirtual 62, 3) := by decide +kernel
theorem b_Law_law_745 : tf_dec code 745 [(.iload 5, 2)] = true := by decide +kernel
theorem d_Law_law_747 : decode code 747 = .ok (.if_icmp .eq 5, 3) := by decide +kernel
theorem b_Law_law_750 : tf_dec code 750 [(.iconst 0, 1)] = true := by decide +kernel
theorem d_Law_law_751 : decode code 751 = .ok (.ireturn, 1) := by decide +kernel
theorem b_Law_law_752 : tf_dec code 752 [(.iload 5, 2)] = true := by decide +kernel
theorem d_Law_law_754 : decode code 754 = .ok (.ifCond .ne 15, 3) := by decide +kernel
theorem b_Law_law_757 : tf_dec code 757 [(.aload_n 3, 1), (.iconst 0, 1)] = true := by decide +kernel
theorem d_Law_law_759 : decode code 759 = .ok (.laload, 1) := by decide +kernel
theorem b_Law_law_760 : tf_dec code 760 [(.iload 6, 2), (.i2l, 1), (.lcmp, 1)] = true := by decide +kernel
theorem d_Law_law_764 : decode code 764 = .ok (.ifCond .eq 5, 3) := by decide +kernel
theorem b_Law_law_767 : tf_dec code 767 [(.iconst 0, 1)] = true := by decide +kernel
theorem d_Law_law_768 : decode code 768 = .ok (.ireturn, 1) := by decide +kernel
theorem d_Law_law_769 : decode code 769 = .ok (.goto 524, 3) := by decide +kernel
theorem b_Law_law_772 : tf_dec code 772 [(.aload_n 1, 1), (.aload_n 0, 1), (.iload 4, 2), (.iconst 1, 1), (.iadd, 1)] = true := by decide +kernel
theorem d_Law_law_778 : decode code 778 = .ok (.iaload, 1) := by decide +kernel
theorem b_Law_law_779 : tf_dec code 779 [(.aload_n 0, 1), (.iload 4, 2), (.iconst 2, 1), (.iadd, 1)] = true := by decide +kernel
theorem d_Law_law_784 : decode code 784 = .ok (.iaload, 1) := by decide +kernel
theorem d_Law_law_785 : decode code 785 = .ok (.invokevirtual 103, 3) := by decide +kernel
theorem b_Law_law_788 : tf_dec code 788 [(.aload_n 2, 1), (.aload_n 0, 1), (.iload 4, 2), (.iconst 1, 1), (.iadd, 1)] = true := by decide +kernel
theorem d_Law_law_794 : decode code 794 = .ok (.iaload, 1) := by decide +kernel
theorem b_Law_law_795 : tf_dec code 795 [(.aload_n 0, 1), (.iload 4, 2), (.iconst 2, 1), (.iadd, 1)] = true := by decide +kernel
theorem d_Law_law_800 : decode code 800 = .ok (.iaload, 1) := by decide +kernel
theorem d_Law_law_801 : decode code 801 = .ok (.invokevirtual 106, 3) := by decide +kernel
theorem d_Law_law_804 : decode code 804 = .ok (.if_icmp .eq 489, 3) := by decide +kernel
theorem b_Law_law_807 : tf_dec code 807 [(.iconst 0, 1)] = true := by decide +kernel
theorem d_Law_law_808 : decode code 808 = .ok (.ireturn, 1) := by decide +kernel
theorem b_Law_law_809 : tf_dec code 809 [(.aload_n 1, 1), (.aload_n 0, 1), (.iload 4, 2), (.iconst 1, 1), (.iadd, 1)] = true := by decide +kernel
theorem d_Law_law_815 : decode code 815 = .ok (.iaload, 1) := by decide +kernel
theorem b_Law_law_816 : tf_dec code 816 [(.aload_n 0, 1), (.iload 4, 2), (.iconst 2, 1), (.iadd, 1)] = true := by decide +kernel
theorem d_Law_law_821 : decode code 821 = .ok (.iaload, 1) := by decide +kernel
theorem b_Law_law_822 : tf_dec code 822 [(.aload_n 0, 1), (.iload 4, 2), (.iconst 3, 1), (.iadd, 1)] = true := by decide +kernel
theorem d_Law_law_827 : decode code 827 = .ok (.iaload, 1) := by decide +kernel
theorem d_Law_law_828 : decode code 828 = .ok (.invokevirtual 107, 3) := by decide +kernel
theorem b_Law_law_831 : tf_dec code 831 [(.aload_n 2, 1), (.aload_n 0, 1), (.iload 4, 2), (.iconst 1, 1), (.iadd, 1)] = true := by decide +kernel
theorem d_Law_law_837 : decode code 837 = .ok (.iaload, 1) := by decide +kernel
theorem b_Law_law_838 : tf_dec code 838 [(.aload_n 0, 1), (.iload 4, 2), (.iconst 2, 1), (.iadd, 1)] = true := by decide +kernel
theorem d_Law_law_843 : decode code 843 = .ok (.iaload, 1) := by decide +kernel
theorem b_Law_law_844 : tf_dec code 844 [(.aload_n 0, 1), (.iload 4, 2), (.iconst 3, 1), (.iadd, 1)] = true := by decide +kernel
theorem d_Law_law_849 : decode code 849 = .ok (.iaload, 1) := by decide +kernel
theorem d_Law_law_850 : decode code 850 = .ok (.invokevirtual 110, 3) := by decide +kernel
theorem d_Law_law_853 : decode code 853 = .ok (.if_icmp .eq 440, 3) := by decide +kernel
theorem b_Law_law_856 : tf_dec code 856 [(.iconst 0, 1)] = true := by decide +kernel
theorem d_Law_law_857 : decode code 857 = .ok (.ireturn, 1) := by decide +kernel
theorem b_Law_law_858 : tf_dec code 858 [(.aload_n 1, 1), (.aload_n 0, 1), (.iload 4, 2), (.iconst 1, 1), (.iadd, 1)] = true := by decide +kernel
theorem d_Law_law_864 : decode code 864 = .ok (.iaload, 1) := by decide +kernel
theorem b_Law_law_865 : tf_dec code 865 [(.aload_n 0, 1), (.iload 4, 2), (.iconst 2, 1), (.iadd, 1)] = true := by decide +kernel
theorem d_Law_law_870 : decode code 870 = .ok (.iaload, 1) := by decide +kernel
theorem b_Law_law_871 : tf_dec code 871 [(.aload_n 0, 1), (.iload 4, 2), (.iconst 3, 1), (.iadd, 1)] = true := by decide +kernel
theorem d_Law_law_876 : decode code 876 = .ok (.iaload, 1) := by decide +kernel
theorem d_Law_law_877 : decode code 877 = .ok (.invokevirtual 111, 3) := by decide +kernel
theorem b_Law_law_880 : tf_dec code 880 [(.aload_n 2, 1), (.aload_n 0, 1), (.iload 4, 2), (.iconst 1, 1), (.iadd, 1)] = true := by decide +kernel
theorem d_Law_law_886 : decode code 886 = .ok (.iaload, 1) := by decide +kernel
theorem b_Law_law_887 : tf_dec code 887 [(.aload_n 0, 1), (.iload 4, 2), (.iconst 2, 1), (.iadd, 1)] = true := by decide +kernel
theorem d_Law_law_892 : decode code 892 = .ok (.iaload, 1) := by decide +kernel
theorem b_Law_law_893 : tf_dec code 893 [(.aload_n 0, 1), (.iload 4, 2), (.iconst 3, 1), (.iadd, 1)] = true := by decide +kernel
theorem d_Law_law_898 : decode code 898 = .ok (.iaload, 1) := by decide +kernel
theorem d_Law_law_899 : decode code 899 = .ok (.invokevirtual 114, 3) := by decide +kernel
theorem d_Law_law_902 : decode code 902 = .ok (.if_icmp .eq 391, 3) := by decide +kernel
theorem b_Law_law_905 : tf_dec code 905 [(.iconst 0, 1)] = true := by decide +kernel
theorem d_Law_law_906 : decode code 906 = .ok (.ireturn, 1) := by decide +kernel
theorem b_Law_law_907 : tf_dec code 907 [(.aload_n 1, 1), (.aload_n 0, 1), (.iload 4, 2), (.iconst 1, 1), (.iadd, 1)] = true := by decide +kernel
theorem d_Law_law_913 : decode code 913 = .ok (.iaload, 1) := by decide +kernel
theorem b_Law_law_914 : tf_dec code 914 [(.aload_n 0, 1), (.iload 4, 2), (.iconst 2, 1), (.iadd, 1)] = true := by decide +kernel
theorem d_Law_law_919 : decode code 919 = .ok (.iaload, 1) := by decide +kernel
theorem b_Law_law_920 : tf_dec code 920 [(.aload_n 0, 1), (.iload 4, 2), (.iconst 3, 1), (.iadd, 1)] = true := by decide +kernel
theorem d_Law_law_925 : decode code 925 = .ok (.iaload, 1) := by decide +kernel
theorem d_Law_law_926 : decode code 926 = .ok (.invokevirtual 115, 3) := by decide +kernel
theorem b_Law_law_929 : tf_dec code 929 [(.aload_n 2, 1), (.aload_n 0, 1), (.iload 4, 2), (.iconst 1, 1), (.iadd, 1)] = true := by decide +kernel
theorem d_Law_law_935 : decode code 935 = .ok (.iaload, 1) := by decide +kernel
theorem b_Law_law_936 : tf_dec code 936 [(.aload_n 0, 1), (.iload 4, 2), (.iconst 2, 1), (.iadd, 1)] = true := by decide +kernel
theorem d_Law_law_941 : decode code 941 = .ok (.iaload, 1) := by decide +kernel
theorem b_Law_law_942 : tf_dec code 942 [(.aload_n 0, 1), (.iload 4, 2), (.iconst 3, 1), (.iadd, 1)] = true := by decide +kernel
theorem d_Law_law_947 : decode code 947 = .ok (.iaload, 1) := by decide +kernel
theorem d_Law_law_948 : decode code 948 = .ok (.invokevirtual 118, 3) := by decide +kernel
theorem d_Law_law_951 : decode code 951 = .ok (.if_icmp .eq 342, 3) := by decide +kernel
theorem b_Law_law_954 : tf_dec code 954 [(.iconst 0, 1)] = true := by decide +kernel
theorem d_Law_law_955 : decode code 955 = .ok (.ireturn, 1) := by decide +kernel
theorem b_Law_law_956 : tf_dec code 956 [(.aload_n 1, 1), (.aload_n 0, 1), (.iload 4, 2), (.iconst 1, 1), (.iadd, 1)] = true := by decide +kernel
theorem d_Law_law_962 : decode code 962 = .ok (.iaload, 1) := by decide +kernel
theorem b_Law_law_963 : tf_dec code 963 [(.aload_n 0, 1), (.iload 4, 2), (.iconst 2, 1), (.iadd, 1)] = true := by decide +kernel
theorem d_Law_law_968 : decode code 968 = .ok (.iaload, 1) := by decide +kernel
theorem b_Law_law_969 : tf_dec code 969 [(.i2l, 1), (.bipush 32, 2), (.lshl, 1), (.aload_n 0, 1), (.iload 4, 2), (.iconst 3, 1), (.iadd, 1)] = true := by decide +kernel
theorem d_Law_law_978 : decode code 978 = .ok (.iaload, 1) := by decide +kernel
theorem b_Law_law_979 : tf_dec code 979 [(.i2l, 1)] = true := by decide +kernel
theorem d_Law_law_980 : decode code 980 = .ok (.ldc2_w 119, 3) := by decide +kernel
theorem b_Law_law_983 : tf_dec code 983 [(.land, 1), (.lor, 1), (.aload_n 0, 1), (.iload 4, 2), (.iconst 4, 1), (.iadd, 1)] = true := by decide +kernel
theorem d_Law_law_990 : decode code 990 = .ok (.iaload, 1) := by decide +kernel
theorem b_Law_law_991 : tf_dec code 991 [(.i2l, 1), (.bipush 32, 2), (.lshl, 1), (.aload_n 0, 1), (.iload 4, 2), (.iconst 5, 1), (.iadd, 1)] = true := by decide +kernel
theorem d_Law_law_1000 : decode code 1000 = .ok (.iaload, 1) := by decide +kernel
theorem b_Law_law_1001 : tf_dec code 1001 [(.i2l, 1)] = true := by decide +kernel
theorem d_Law_law_1002 : decode code 1002 = .ok (.ldc2_w 119, 3) := by decide +kernel
theorem b_Law_law_1005 : tf_dec code 1005 [(.land, 1), (.lor, 1), (.aload_n 0, 1), (.iload 4, 2), (.bipush 6, 2), (.iadd, 1)] = true := by decide +kernel
theorem d_Law_law_1013 : decode code 1013 = .ok (.iaload, 1) := by decide +kernel
theorem b_Law_law_1014 : tf_dec code 1014 [(.i2l, 1), (.bipush 32, 2), (.lshl, 1), (.aload_n 0, 1), (.iload 4, 2), (.bipush 7, 2), (.iadd, 1)] = true := by decide +kernel
theorem d_Law_law_1024 : decode code 1024 = .ok (.iaload, 1) := by decide +kernel
theorem b_Law_law_1025 : tf_dec code 1025 [(.i2l, 1)] = true := by decide +kernel
theorem d_Law_law_1026 : decode code 1026 = .ok (.ldc2_w 119, 3) := by decide +kernel
theorem b_Law_law_1029 : tf_dec code 1029 [(.land, 1), (.lor, 1), (.aload_n 0, 1), (.iload 4, 2), (.bipush 8, 2), (.iadd, 1)] = true := by decide +kernel
theorem d_Law_law_1037 : decode code 1037 = .ok (.iaload, 1) := by decide +kernel
theorem b_Law_law_1038 : tf_dec code 1038 [(.aload_n 3, 1)] = true := by decide +kernel
theorem d_Law_law_1039 : decode code 1039 = .ok (.invokestatic 121, 3) := by decide +kernel
theorem b_Law_law_1042 : tf_dec code 1042 [(.istore 5, 2), (.aload_n 2, 1), (.aload_n 0, 1), (.iload 4, 2), (.iconst 1, 1), (.iadd, 1)] = true := by decide +kernel
theorem d_Law_law_1050 : decode code 1050 = .ok (.iaload, 1) := by decide +kernel
theorem b_Law_law_1051 : tf_dec code 1051 [(.aload_n 0, 1), (.iload 4, 2), (.iconst 2, 1), (.iadd, 1)] = true := by decide +kernel
theorem d_Law_law_1056 : decode code 1056 = .ok (.iaload, 1) := by decide +kernel
theorem b_Law_law_1057 : tf_dec code 1057 [(.i2l, 1), (.bipush 32, 2), (.lshl, 1), (.aload_n 0, 1), (.iload 4, 2), (.iconst 3, 1), (.iadd, 1)] = true := by decide +kernel
theorem d_Law_law_1066 : decode code 1066 = .ok (.iaload, 1) := by decide +kernel
theorem b_Law_law_1067 : tf_dec code 1067 [(.i2l, 1)] = true := by decide +kernel
theorem d_Law_law_1068 : decode code 1068 = .ok (.ldc2_w 119, 3) := by decide +kernel
theorem b_Law_law_1071 : tf_dec code 1071 [(.land, 1), (.lor, 1), (.aload_n 0, 1), (.iload 4, 2), (.iconst 4, 1), (.iadd, 1)] = true := by decide +kernel
theorem d_Law_law_1078 : decode code 1078 = .ok (.iaload, 1) := by decide +kernel
theorem b_Law_law_1079 : tf_dec code 1079 [(.i2l, 1), (.bipush 32, 2), (.lshl, 1), (.aload_n 0, 1), (.iload 4, 2), (.iconst 5, 1), (.iadd, 1)] = true := by decide +kernel
theorem d_Law_law_1088 : decode code 1088 = .ok (.iaload, 1) := by decide +kernel
theorem b_Law_law_1089 : tf_dec code 1089 [(.i2l, 1)] = true := by decide +kernel
theorem d_Law_law_1090 : decode code 1090 = .ok (.ldc2_w 119, 3) := by decide +kernel
theorem b_Law_law_1093 : tf_dec code 1093 [(.land, 1), (.lor, 1), (.aload_n 0, 1), (.iload 4, 2), (.bipush 6, 2), (.iadd, 1)] = true := by decide +kernel
theorem d_Law_law_1101 : decode code 1101 = .ok (.iaload, 1) := by decide +kernel
theorem b_Law_law_1102 : tf_dec code 1102 [(.i2l, 1), (.bipush 32, 2), (.lshl, 1), (.aload_n 0, 1), (.iload 4, 2), (.bipush 7, 2), (.iadd, 1)] = true := by decide +kernel
theorem d_Law_law_1112 : decode code 1112 = .ok (.iaload, 1) := by decide +kernel
theorem b_Law_law_1113 : tf_dec code 1113 [(.i2l, 1)] = true := by decide +kernel
theorem d_Law_law_1114 : decode code 1114 = .ok (.ldc2_w 119, 3) := by decide +kernel
theorem b_Law_law_1117 : tf_dec code 1117 [(.land, 1), (.lor, 1), (.aload_n 0, 1), (.iload 4, 2), (.bipush 8, 2), (.iadd, 1)] = true := by decide +kernel
theorem d_Law_law_1125 : decode code 1125 = .ok (.iaload, 1) := by decide +kernel
theorem d_Law_law_1126 : decode code 1126 = .ok (.invokevirtual 124, 3) := by decide +kernel
theorem b_Law_law_1129 : tf_dec code 1129 [(.istore 6, 2), (.aload_n 2, 1)] = true := by decide +kernel
theorem d_Law_law_1132 : decode code 1132 = .ok (.invokevirtual 62, 3) := by decide +kernel
theorem b_Law_law_1135 : tf_dec code 1135 [(.iload 5, 2)] = true := by decide +kernel
theorem d_Law_law_1137 : decode code 1137 = .ok (.if_icmp .eq 5, 3) := by decide +kernel
theorem b_Law_law_1140 : tf_dec code 1140 [(.iconst 0, 1)] = true := by decide +kernel
theorem d_Law_law_1141 : decode code 1141 = .ok (.ireturn, 1) := by decide +kernel
theorem b_Law_law_1142 : tf_dec code 1142 [(.iload 5, 2)] = true := by decide +kernel
theorem d_Law_law_1144 : decode code 1144 = .ok (.ifCond .ne 15, 3) := by decide +kernel
theorem b_Law_law_1147 : tf_dec code 1147 [(.aload_n 3, 1), (.iconst 0, 1)] = true := by decide +kernel
theorem d_Law_law_1149 : decode code 1149 = .ok (.laload, 1) := by decide +kernel
theorem b_Law_law_1150 : tf_dec code 1150 [(.iload 6, 2), (.i2l, 1), (.lcmp, 1)] = true := by decide +kernel
theorem d_Law_law_1154 : decode code 1154 = .ok (.ifCond .eq 5, 3) := by decide +kernel
theorem b_Law_law_1157 : tf_dec code 1157 [(.iconst 0, 1)] = true := by decide +kernel
theorem d_Law_law_1158 : decode code 1158 = .ok (.ireturn, 1) := by decide +kernel
theorem d_Law_law_1159 : decode code 1159 = .ok (.goto 134, 3) := by decide +kernel
theorem b_Law_law_1162 : tf_dec code 1162 [(.aload_n 1, 1), (.aload_n 0, 1), (.iload 4, 2), (.iconst 1, 1), (.iadd, 1)] = true := by decide +kernel
theorem d_Law_law_1168 : decode code 1168 = .ok (.iaload, 1) := by decide +kernel
theorem d_Law_law_1169 : decode code 1169 = .ok (.invokevirtual 125, 3) := by decide +kernel
theorem b_Law_law_1172 : tf_dec code 1172 [(.aload_n 2, 1), (.aload_n 0, 1), (.iload 4, 2), (.iconst 1, 1), (.iadd, 1)] = true := by decide +kernel
theorem d_Law_law_1178 : decode code 1178 = .ok (.iaload, 1) := by decide +kernel
theorem d_Law_law_1179 : decode code 1179 = .ok (.invokevirtual 128, 3) := by decide +kernel
theorem d_Law_law_1182 : decode code 1182 = .ok (.if_icmp .eq 111, 3) := by decide +kernel
theorem b_Law_law_1185 : tf_dec code 1185 [(.iconst 0, 1)] = true := by decide +kernel
theorem d_Law_law_1186 : decode code 1186 = .ok (.ireturn, 1) := by decide +kernel
theorem b_Law_law_1187 : tf_dec code 1187 [(.aload_n 1, 1)] = true := by decide +kernel
theorem d_Law_law_1188 : decode code 1188 = .ok (.invokevirtual 129, 3) := by decide +kernel
theorem b_Law_law_1191 : tf_dec code 1191 [(.aload_n 2, 1)] = true := by decide +kernel
theorem d_Law_law_1192 : decode code 1192 = .ok (.invokevirtual 132, 3) := by decide +kernel
theorem d_Law_law_1195 : decode code 1195 = .ok (.if_icmp .eq 98, 3) := by decide +kernel
theorem b_Law_law_1198 : tf_dec code 1198 [(.iconst 0, 1)] = true := by decide +kernel
theorem d_Law_law_1199 : decode code 1199 = .ok (.ireturn, 1) := by decide +kernel
theorem b_Law_law_1200 : tf_dec code 1200 [(.aload_n 1, 1), (.aload_n 0, 1), (.iload 4, 2), (.iconst 1, 1), (.iadd, 1)] = true := by decide +kernel
theorem d_Law_law_1206 : decode code 1206 = .ok (.iaload, 1) := by decide +kernel
theorem b_Law_law_1207 : tf_dec code 1207 [(.aload_n 0, 1), (.iload 4, 2), (.iconst 2, 1), (.iadd, 1)] = true := by decide +kernel
theorem d_Law_law_1212 : decode code 1212 = .ok (.iaload, 1) := by decide +kernel
theorem b_Law_law_1213 : tf_dec code 1213 [(.aload_n 3, 1)] = true := by decide +kernel
theorem d_Law_law_1214 : decode code 1214 = .ok (.invokestatic 133, 3) := by decide +kernel
theorem b_Law_law_1217 : tf_dec code 1217 [(.istore 5, 2), (.aload_n 2, 1), (.aload_n 0, 1), (.iload 4, 2), (.iconst 1, 1), (.iadd, 1)] = true := by decide +kernel
theorem d_Law_law_1225 : decode code 1225 = .ok (.iaload, 1) := by decide +kernel
theorem b_Law_law_1226 : tf_dec code 1226 [(.aload_n 0, 1), (.iload 4, 2), (.iconst 2, 1), (.iadd, 1)] = true := by decide +kernel
theorem d_Law_law_1231 : decode code 1231 = .ok (.iaload, 1) := by decide +kernel
theorem d_Law_law_1232 : decode code 1232 = .ok (.invokevirtual 136, 3) := by decide +kernel
theorem b_Law_law_1235 : tf_dec code 1235 [(.istore 6, 2), (.aload_n 2, 1)] = true := by decide +kernel
theorem d_Law_law_1238 : decode code 1238 = .ok (.invokevirtual 62, 3) := by decide +kernel
theorem b_Law_law_1241 : tf_dec code 1241 [(.iload 5, 2)] = true := by decide +kernel
theorem d_Law_law_1243 : decode code 1243 = .ok (.if_icmp .eq 5, 3) := by decide +kernel
theorem b_Law_law_1246 : tf_dec code 1246 [(.iconst 0, 1)] = true := by decide +kernel
theorem d_Law_law_1247 : decode code 1247 = .ok (.ireturn, 1) := by decide +kernel
theorem b_Law_law_1248 : tf_dec code 1248 [(.iload 5, 2)] = true := by decide +kernel
theorem d_Law_law_1250 : decode code 1250 = .ok (.ifCond .ne 15, 3) := by decide +kernel
theorem b_Law_law_1253 : tf_dec code 1253 [(.aload_n 3, 1), (.iconst 0, 1)] = true := by decide +kernel
theorem d_Law_law_1255 : decode code 1255 = .ok (.laload, 1) := by decide +kernel
theorem b_Law_law_1256 : tf_dec code 1256 [(.iload 6, 2), (.i2l, 1), (.lcmp, 1)] = true := by decide +kernel
theorem d_Law_law_1260 : decode code 1260 = .ok (.ifCond .eq 5, 3) := by decide +kernel
theorem b_Law_law_1263 : tf_dec code 1263 [(.iconst 0, 1)] = true := by decide +kernel
theorem d_Law_law_1264 : decode code 1264 = .ok (.ireturn, 1) := by decide +kernel
theorem d_Law_law_1265 : decode code 1265 = .ok (.goto 28, 3) := by decide +kernel
theorem b_Law_law_1268 : tf_dec code 1268 [(.aload_n 1, 1), (.aload_n 0, 1), (.iload 4, 2), (.iconst 1, 1), (.iadd, 1)] = true := by decide +kernel
theorem d_Law_law_1274 : decode code 1274 = .ok (.iaload, 1) := by decide +kernel
theorem d_Law_law_1275 : decode code 1275 = .ok (.invokevirtual 137, 3) := by decide +kernel
theorem b_Law_law_1278 : tf_dec code 1278 [(.aload_n 2, 1), (.aload_n 0, 1), (.iload 4, 2), (.iconst 1, 1), (.iadd, 1)] = true := by decide +kernel
theorem d_Law_law_1284 : decode code 1284 = .ok (.iaload, 1) := by decide +kernel
theorem d_Law_law_1285 : decode code 1285 = .ok (.invokevirtual 141, 3) := by decide +kernel
theorem d_Law_law_1288 : decode code 1288 = .ok (.if_icmp .eq 5, 3) := by decide +kernel
theorem b_Law_law_1291 : tf_dec code 1291 [(.iconst 0, 1)] = true := by decide +kernel
theorem d_Law_law_1292 : decode code 1292 = .ok (.ireturn, 1) := by decide +kernel
theorem b_Law_law_1293 : tf_dec code 1293 [(.iinc 4 9, 3)] = true := by decide +kernel
theorem d_Law_law_1296 : decode code 1296 = .ok (.goto (-1263), 3) := by decide +kernel
theorem b_Law_law_1299 : tf_dec code 1299 [(.iconst 1, 1)] = true := by decide +kernel
theorem d_Law_law_1300 : decode code 1300 = .ok (.ireturn, 1) := by decide +kernel
end
section
theorem b_Math_floorDiv_I_0 : tf_dec prog_22_method_47_code 0 [(.iload_n 0, 1), (.iload_n 1, 1)] = true := by decide +kernel
theorem d_Math_floorDiv_I_2 : decode prog_22_method_47_code 2 = .ok (.idiv, 1) := by decide +kernel
theorem b_Math_floorDiv_I_3 : tf_dec prog_22_method_47_code 3 [(.istore_n 2, 1), (.iload_n 0, 1), (.iload_n 1, 1), (.ixor, 1)] = true := by decide +kernel
theorem d_Math_floorDiv_I_7 : decode prog_22_method_47_code 7 = .ok (.ifCond .ge 14, 3) := by decide +kernel
theorem b_Math_floorDiv_I_10 : tf_dec prog_22_method_47_code 10 [(.iload_n 2, 1), (.iload_n 1, 1), (.imul, 1), (.iload_n 0, 1)] = true := by decide +kernel
theorem d_Math_floorDiv_I_14 : decode prog_22_method_47_code 14 = .ok (.if_icmp .eq 7, 3) := by decide +kernel
theorem b_Math_floorDiv_I_17 : tf_dec prog_22_method_47_code 17 [(.iload_n 2, 1), (.iconst 1, 1), (.isub, 1)] = true := by decide +kernel
theorem d_Math_floorDiv_I_20 : decode prog_22_method_47_code 20 = .ok (.ireturn, 1) := by decide +kernel
theorem b_Math_floorDiv_I_21 : tf_dec prog_22_method_47_code 21 [(.iload_n 2, 1)] = true := by decide +kernel
theorem d_Math_floorDiv_I_22 : decode prog_22_method_47_code 22 = .ok (.ireturn, 1) := by decide +kernel
theorem b_Math_floorDiv_J_0 : tf_dec prog_22_method_49_code 0 [(.lload_n 0, 1), (.lload_n 2, 1)] = true := by decide +kernel
theorem d_Math_floorDiv_J_2 : decode prog_22_method_49_code 2 = .ok (.ldiv, 1) := by decide +kernel
theorem b_Math_floorDiv_J_3 : tf_dec prog_22_method_49_code 3 [(.lstore 4, 2), (.lload_n 0, 1), (.lload_n 2, 1), (.lxor, 1), (.lconst 0, 1), (.lcmp, 1)] = true := by decide +kernel
theorem d_Math_floorDiv_J_10 : decode prog_22_method_49_code 10 = .ok (.ifCond .ge 17, 3) := by decide +kernel
theorem b_Math_floorDiv_J_13 : tf_dec prog_22_method_49_code 13 [(.lload 4, 2), (.lload_n 2, 1), (.lmul, 1), (.lload_n 0, 1), (.lcmp, 1)] = true := by decide +kernel
theorem d_Math_floorDiv_J_19 : decode prog_22_method_49_code 19 = .ok (.ifCond .eq 8, 3) := by decide +kernel
theorem b_Math_floorDiv_J_22 : tf_dec prog_22_method_49_code 22 [(.lload 4, 2), (.lconst 1, 1), (.lsub, 1)] = true := by decide +kernel
theorem d_Math_floorDiv_J_26 : decode prog_22_method_49_code 26 = .ok (.lreturn, 1) := by decide +kernel
theorem b_Math_floorDiv_J_27 : tf_dec prog_22_method_49_code 27 [(.lload 4, 2)] = true := by decide +kernel
theorem d_Math_floorDiv_J_29 : decode prog_22_method_49_code 29 = .ok (.lreturn, 1) := by decide +kernel
theorem b_Arrays_fill_0 : tf_dec prog_30_method_104_code 0 [(.aload_n 0, 1)] = true := by decide +kernel
theorem d_Arrays_fill_1 : decode prog_30_method_104_code 1 = .ok (.arraylength, 1) := by decide +kernel
theorem b_Arrays_fill_2 : tf_dec prog_30_method_104_code 2 [(.iload_n 1, 1), (.iload_n 2, 1)] = true := by decide +kernel
theorem d_Arrays_fill_4 : decode prog_30_method_104_code 4 = .ok (.invokestatic 13, 3) := by decide +kernel
theorem b_Arrays_fill_7 : tf_dec prog_30_method_104_code 7 [(.iload_n 1, 1), (.istore 4, 2)] = true := by decide +kernel
theorem b_Arrays_fill_10 : tf_dec prog_30_method_104_code 10 [(.iload 4, 2), (.iload_n 2, 1)] = true := by decide +kernel
theorem d_Arrays_fill_13 : decode prog_30_method_104_code 13 = .ok (.if_icmp .ge 14, 3) := by decide +kernel
theorem b_Arrays_fill_16 : tf_dec prog_30_method_104_code 16 [(.aload_n 0, 1), (.iload 4, 2), (.iload_n 3, 1)] = true := by decide +kernel
theorem d_Arrays_fill_20 : decode prog_30_method_104_code 20 = .ok (.iastore, 1) := by decide +kernel
theorem b_Arrays_fill_21 : tf_dec prog_30_method_104_code 21 [(.iinc 4 1, 3)] = true := by decide +kernel
theorem d_Arrays_fill_24 : decode prog_30_method_104_code 24 = .ok (.goto (-14), 3) := by decide +kernel
theorem d_Arrays_fill_27 : decode prog_30_method_104_code 27 = .ok (.return_, 1) := by decide +kernel
theorem b_Arrays_rangeCheck_0 : tf_dec prog_30_method_30_code 0 [(.iload_n 1, 1), (.iload_n 2, 1)] = true := by decide +kernel
theorem d_Arrays_rangeCheck_2 : decode prog_30_method_30_code 2 = .ok (.if_icmp .le 44, 3) := by decide +kernel
theorem b_Arrays_rangeCheck_46 : tf_dec prog_30_method_30_code 46 [(.iload_n 1, 1)] = true := by decide +kernel
theorem d_Arrays_rangeCheck_47 : decode prog_30_method_30_code 47 = .ok (.ifCond .ge 12, 3) := by decide +kernel
theorem b_Arrays_rangeCheck_59 : tf_dec prog_30_method_30_code 59 [(.iload_n 2, 1), (.iload_n 0, 1)] = true := by decide +kernel
theorem d_Arrays_rangeCheck_61 : decode prog_30_method_30_code 61 = .ok (.if_icmp .le 12, 3) := by decide +kernel
theorem d_Arrays_rangeCheck_73 : decode prog_30_method_30_code 73 = .ok (.return_, 1) := by decide +kernel
end
section
/-! A layer over the kit's rows: a method's walk over ONE world, a pool of all cells (the list of their addresses, what each holds). -/
abbrev tf_I : Type := MethodName × ByteArray × Nat × Option FieldType
abbrev tf_V : Type := List (Nat × Value)
abbrev tf_F : Type := Nat → va_E
abbrev tf_B : Type := List Frame → Array Value → State → Nat → Nat → (Nat → Prop) → State → Prop
/-- what the tables and the class list are: fixed for a whole claim -/
abbrev tf_G : Type := va_G × List vw_C × List (ClassId × FieldType) × List Cond × List Cond
def tf_M (G : tf_G) (i : tf_I) (p : Program) (s : State) (m : MethodId) (args : Array Value) (meth : Method) (c : Code) : Prop :=
  p.tables.exec = Jvm.exec ∧ c.code = i.2.1 ∧ c.maxLocals = i.2.2.1 ∧ s.vm.findClass i.1.cls = some m.cls ∧ (∀ w ∈ G.2.2.2.1, w.before args s = true) ∧ meth.sig.returnType = i.2.2.2 ∧ meth.locks = false ∧ (∀ w ∈ G.2.2.2.2, va_Nw w s) ∧ meth.name = i.1.name ∧ va_K G.1 G.2.1 G.2.2.1 s
/-- the world: the pool in the heap, apart, inside A; nothing outside A has changed; what is new is in A -/
def tf_P (G : tf_G) (L : List Nat) (f : tf_F) (A : Nat → Prop) (s : State) (H : Heap) (locs : List Loc) : Prop :=
  va_P G.1 G.2.1 (va_pl L f) H ∧ va_D A (va_pl L f) ∧ va_S A s.heap H locs ∧ ∀ q, s.heap.size ≤ q → A q
def tf_R (d kc ks mc ms cells slots : Nat) (R : Room) : Prop := d ≤ R.frames ∧ 64 * d ≤ R.locals ∧ cells + kc ≤ mc ∧ slots + ks ≤ ms ∧ mc ≤ R.cells ∧ ms ≤ R.slots
/-- the machine, at pc with these locals and this stack over this world, comes to an end with QB; kc cells of ks slots may still be made, d frames entered -/
def tf_W (l : Launch) (G : tf_G) (EX : State → (Nat → Prop) → Prop) (QB : tf_B) (d : Nat) (i : tf_I) (pc : Nat) (lv : tf_V) (st : List Value) (L : List Nat) (f : tf_F) (kc ks : Nat) : Prop :=
  ∀ (p : Program) (e : Env) (R : Room) (s : State) (m : MethodId) (args : Array Value) (below : List Frame) (meth : Method) (c : Code) (H : Heap) (locs : List Loc) (cells slots : Nat) (ls : Array Slot) (A : Nat → Prop) (mc ms : Nat),
    tf_M G i p s m args meth c → EX s A → tf_R d kc ks mc ms cells slots R → lv_has ls i.2.2.1 lv → tf_P G L f A s H locs →
    W p l e R s m args below meth c H locs cells slots (QB below args s mc ms A) (F0 m pc ls st)
def tf_lk : tf_V → Nat → Option Value
  | [], _ => none
  | q :: r, i => if q.1 == i then some q.2 else tf_lk r i
theorem tf_lk_mem {lv : tf_V} {i : Nat} {v : Value} (h : tf_lk lv i = some v) : (i, v) ∈ lv := by
  induction lv with
  | nil => cases h
  | cons q r ih =>
    unfold tf_lk at h
    split at h
    · rename_i hq
      have : q.1 = i := by simpa using hq
      cases h
      subst this
      exact List.mem_cons_self
    · exact List.mem_cons_of_mem _ (ih h)
theorem tf_at {ls : Array Slot} {nL : Nat} {lv : tf_V} (h : lv_has ls nL lv) {i : Nat} {v : Value} (hk : tf_lk lv i = some v) : ls[i]? = some (.val v) := h.2.2 (i, v) (tf_lk_mem hk)
/-- the list of locals stays in the order of their numbers -/
def tf_in : tf_V → Nat → Value → tf_V
  | [], i, v => [(i, v)]
  | q :: r, i, v => if Nat.blt i q.1 then (i, v) :: q :: r else q :: tf_in r i v
theorem tf_in_mem {lv : tf_V} {i : Nat} {v : Value} {x : Nat × Value} (h : x ∈ tf_in lv i v) : x = (i, v) ∨ x ∈ lv := by
  induction lv with
  | nil => exact Or.inl (List.mem_singleton.mp h)
  | cons q r ih =>
    unfold tf_in at h
    split at h
    · rcases List.mem_cons.mp h with h | h
      · exact Or.inl h
      · exact Or.inr h
    · rcases List.mem_cons.mp h with h | h
      · exact Or.inr (h ▸ List.mem_cons_self)
      · exact (ih h).imp id (List.mem_cons_of_mem _)
def tf_s1 (lv : tf_V) (i : Nat) (v : Value) : tf_V := tf_in (lv.filter (fun q => !(q.1 == i) && !(q.1 + 1 == i && q.2.category == 2))) i v
def tf_s2 (lv : tf_V) (i : Nat) (v : Value) : tf_V := tf_in (lv.filter (fun q => !(q.1 == i) && (!(q.1 == i + 1) && !(q.1 + 1 == i && q.2.category == 2)))) i v
theorem tf_has {ls : Array Slot} {nL i : Nat} {lw : tf_V} {v : Value} (h : lv_has ls nL ((i, v) :: lw)) : lv_has ls nL (tf_in lw i v) :=
  ⟨h.1, h.2.1, fun q hq => h.2.2 q ((tf_in_mem hq).elim (fun e => e ▸ List.mem_cons_self) (List.mem_cons_of_mem _))⟩
def tf_keep (ks : List Nat) (lv : tf_V) : tf_V := lv.filter (fun q => ks.contains q.1)
theorem tf_keep_has {ls : Array Slot} {nL : Nat} {lv : tf_V} (ks : List Nat) (h : lv_has ls nL lv) : lv_has ls nL (tf_keep ks lv) :=
  ⟨h.1, h.2.1, fun q hq => h.2.2 q (List.mem_filter.mp hq).1⟩
end
section
def tf_sm (b : Nat) : Int → Bool
  | .ofNat n => Nat.blt n b
  | .negSucc n => Nat.blt n b
theorem tf_sm_ok {b : Nat} {a : Int} (h : tf_sm b a = true) : -(b : Int) ≤ a ∧ a < b := by
  cases a with
  | ofNat n =>
    have : n < b := by simpa [tf_sm] using h
    simp only [Int.ofNat_eq_natCast]
    omega
  | negSucc n =>
    have : n < b := by simpa [tf_sm] using h
    omega
theorem tf_k8 {a : Int} (h : tf_sm 128 a = true) : (Int8.ofInt a).toInt32 = Int32.ofInt a := by
  have := tf_sm_ok h
  apply Int32.toInt_inj.mp
  rw [Int8.toInt_toInt32, Int8.toInt_ofInt, Int32.toInt_ofInt]
  simp only [Int.bmod, Int8.size, Int16.size, Int32.size]
  omega
theorem tf_k16 {a : Int} (h : tf_sm 32768 a = true) : (Int16.ofInt a).toInt32 = Int32.ofInt a := by
  have := tf_sm_ok h
  apply Int32.toInt_inj.mp
  rw [Int16.toInt_toInt32, Int16.toInt_ofInt, Int32.toInt_ofInt]
  simp only [Int.bmod, Int8.size, Int16.size, Int32.size]
  omega
/-- what an instruction that asks nothing of the heap does to locals and stack -/
def tf_op (nL : Nat) (ins : Instr) (n : Nat) (lv : tf_V) (st : List Value) : Option (tf_V × List Value) :=
  match ins, n, st with
  | .iconst a, 1, st => some (lv, .int (Int32.ofInt a) :: st)
  | .bipush a, 2, st => match tf_sm 128 a with | true => some (lv, .int (Int32.ofInt a) :: st) | false => none
  | .sipush a, 3, st => match tf_sm 32768 a with | true => some (lv, .int (Int32.ofInt a) :: st) | false => none
  | .lconst a, 1, st => some (lv, .long (Int64.ofNat a.val) :: st)
  | .aconst_null, 1, st => some (lv, .null :: st)
  | .iadd, 1, .int y :: .int x :: st => some (lv, .int (x + y) :: st)
  | .isub, 1, .int y :: .int x :: st => some (lv, .int (x - y) :: st)
  | .imul, 1, .int y :: .int x :: st => some (lv, .int (x * y) :: st)
  | .iand, 1, .int y :: .int x :: st => some (lv, .int (x &&& y) :: st)
  | .ior, 1, .int y :: .int x :: st => some (lv, .int (x ||| y) :: st)
  | .ixor, 1, .int y :: .int x :: st => some (lv, .int (x ^^^ y) :: st)
  | .ineg, 1, .int x :: st => some (lv, .int (-x) :: st)
  | .ladd, 1, .long y :: .long x :: st => some (lv, .long (x + y) :: st)
  | .lsub, 1, .long y :: .long x :: st => some (lv, .long (x - y) :: st)
  | .lmul, 1, .long y :: .long x :: st => some (lv, .long (x * y) :: st)
  | .land, 1, .long y :: .long x :: st => some (lv, .long (x &&& y) :: st)
  | .lor, 1, .long y :: .long x :: st => some (lv, .long (x ||| y) :: st)
  | .lxor, 1, .long y :: .long x :: st => some (lv, .long (x ^^^ y) :: st)
  | .lneg, 1, .long x :: st => some (lv, .long (-x) :: st)
  | .ishl, 1, .int y :: .int x :: st => some (lv, .int (x <<< (y &&& 31)) :: st)
  | .ishr, 1, .int y :: .int x :: st => some (lv, .int (x >>> (y &&& 31)) :: st)
  | .iushr, 1, .int y :: .int x :: st => some (lv, .int (x.toUInt32 >>> (y.toUInt32 &&& Int32.toUInt32 31)).toInt32 :: st)
  | .lshl, 1, .int y :: .long x :: st => some (lv, .long (x <<< (y.toInt64 &&& 63)) :: st)
  | .lshr, 1, .int y :: .long x :: st => some (lv, .long (x >>> (y.toInt64 &&& 63)) :: st)
  | .lushr, 1, .int y :: .long x :: st => some (lv, .long (x.toUInt64 >>> (y.toInt64.toUInt64 &&& Int64.toUInt64 63)).toInt64 :: st)
  | .i2l, 1, .int x :: st => some (lv, .long x.toInt64 :: st)
  | .l2i, 1, .long x :: st => some (lv, .int x.toInt32 :: st)
  | .lcmp, 1, .long y :: .long x :: st => some (lv, .int (lg_cmp x y) :: st)
  | .i2b, 1, .int x :: st => some (lv, .int x.toInt8.toInt32 :: st)
  | .i2s, 1, .int x :: st => some (lv, .int x.toInt16.toInt32 :: st)
  | .dup, 1, .int x :: st => some (lv, .int x :: .int x :: st)
  | .pop, 1, .int x :: st => some (lv, st)
  | .dup, 1, .ref x :: st => some (lv, .ref x :: .ref x :: st)
  | .pop, 1, .ref x :: st => some (lv, st)
  | .dup, 1, .null :: st => some (lv, .null :: .null :: st)
  | .pop, 1, .null :: st => some (lv, st)
  | .dup_x1, 1, .int x :: .int y :: st => some (lv, .int x :: .int y :: .int x :: st)
  | .dup2, 1, .int x :: .int y :: st => some (lv, .int x :: .int y :: .int x :: .int y :: st)
  | .dup_x1, 1, .int x :: .ref y :: st => some (lv, .int x :: .ref y :: .int x :: st)
  | .dup2, 1, .int x :: .ref y :: st => some (lv, .int x :: .ref y :: .int x :: .ref y :: st)
  | .dup_x1, 1, .ref x :: .int y :: st => some (lv, .ref x :: .int y :: .ref x :: st)
  | .dup2, 1, .ref x :: .int y :: st => some (lv, .ref x :: .int y :: .ref x :: .int y :: st)
  | .dup_x1, 1, .ref x :: .ref y :: st => some (lv, .ref x :: .ref y :: .ref x :: st)
  | .dup2, 1, .ref x :: .ref y :: st => some (lv, .ref x :: .ref y :: .ref x :: .ref y :: st)
  | .dup2, 1, .long x :: st => some (lv, .long x :: .long x :: st)
  | .dup_x2, 1, .int x :: .int y :: .ref z :: st => some (lv, .int x :: .int y :: .ref z :: .int x :: st)
  | .istore a, 2, .int x :: st => if a < nL then some (tf_s1 lv a (.int x), st) else none
  | .istore_n a, 1, .int x :: st => if a.val < nL then some (tf_s1 lv a.val (.int x), st) else none
  | .lstore a, 2, .long x :: st => if a + 1 < nL then some (tf_s2 lv a (.long x), st) else none
  | .lstore_n a, 1, .long x :: st => if a.val + 1 < nL then some (tf_s2 lv a.val (.long x), st) else none
  | .astore a, 2, .ref x :: st => if a < nL then some (tf_s1 lv a (.ref x), st) else none
  | .astore_n a, 1, .ref x :: st => if a.val < nL then some (tf_s1 lv a.val (.ref x), st) else none
  | .astore a, 2, .null :: st => if a < nL then some (tf_s1 lv a (.null), st) else none
  | .astore_n a, 1, .null :: st => if a.val < nL then some (tf_s1 lv a.val (.null), st) else none
  | .iload a, 2, st => match tf_lk lv a with | some (.int x) => some (lv, .int x :: st) | _ => none
  | .iload_n a, 1, st => match tf_lk lv a.val with | some (.int x) => some (lv, .int x :: st) | _ => none
  | .lload a, 2, st => match tf_lk lv a with | some (.long x) => some (lv, .long x :: st) | _ => none
  | .lload_n a, 1, st => match tf_lk lv a.val with | some (.long x) => some (lv, .long x :: st) | _ => none
  | .aload a, 2, st => match tf_lk lv a with | some (.ref x) => some (lv, .ref x :: st) | some .null => some (lv, .null :: st) | _ => none
  | .aload_n a, 1, st => match tf_lk lv a.val with | some (.ref x) => some (lv, .ref x :: st) | some .null => some (lv, .null :: st) | _ => none
  | .iinc a b, 3, st => match tf_lk lv a with | some (.int x) => if a < nL then some (tf_s1 lv a (.int (x + Int32.ofInt b)), st) else none | _ => none
  | _, _, _ => none
set_option maxHeartbeats 4000000 in
theorem tf_op_ok {p : Program} {l : Launch} {e : Env} {R : Room} {s : State} {m : MethodId} {args : Array Value} {below : List Frame} {meth : Method} {c : Code} {H : Heap} {locs : List Loc} {cells slots : Nat} {Q : State → Prop} {cc : ByteArray} {pc nL n : Nat} {ls : Array Slot} {ins : Instr} {lv lv2 : tf_V} {st st2 : List Value}
    (hx : p.tables.exec = Jvm.exec) (hb : c.code = cc) (hd : decode cc pc = .ok (ins, n)) (hl : lv_has ls nL lv) (h : tf_op nL ins n lv st = some (lv2, st2))
    (k : ∀ ls2 : Array Slot, lv_has ls2 nL lv2 → W p l e R s m args below meth c H locs cells slots Q (F0 m (pc + n) ls2 st2)) : W p l e R s m args below meth c H locs cells slots Q (F0 m pc ls st) := by
  unfold tf_op at h
  split at h
  · cases h; exact lv_iconst hx hb hd rfl (k ls hl)
  · split at h
    · rename_i hs; cases h; exact lv_bipush hx hb hd (tf_k8 hs) (k ls hl)
    · cases h
  · split at h
    · rename_i hs; cases h; exact lv_sipush hx hb hd (tf_k16 hs) (k ls hl)
    · cases h
  · cases h; exact lv_lconst hx hb hd rfl (k ls hl)
  · cases h; exact lv_null hx hb hd (k ls hl)
  · cases h; exact lv_iadd hx hb hd (k ls hl)
  · cases h; exact lv_isub hx hb hd (k ls hl)
  · cases h; exact lv_imul hx hb hd (k ls hl)
  · cases h; exact lv_iand hx hb hd (k ls hl)
  · cases h; exact lv_ior hx hb hd (k ls hl)
  · cases h; exact lv_ixor hx hb hd (k ls hl)
  · cases h; exact lv_ineg hx hb hd (k ls hl)
  · cases h; exact lv_ladd hx hb hd (k ls hl)
  · cases h; exact lv_lsub hx hb hd (k ls hl)
  · cases h; exact lv_lmul hx hb hd (k ls hl)
  · cases h; exact lv_land hx hb hd (k ls hl)
  · cases h; exact lv_lor hx hb hd (k ls hl)
  · cases h; exact lv_lxor hx hb hd (k ls hl)
  · cases h; exact lv_lneg hx hb hd (k ls hl)
  · cases h; exact lv_ishl hx hb hd (k ls hl)
  · cases h; exact lv_ishr hx hb hd (k ls hl)
  · cases h; exact lv_iushr hx hb hd rfl (k ls hl)
  · cases h; exact lv_lshl hx hb hd rfl (k ls hl)
  · cases h; exact lv_lshr hx hb hd rfl (k ls hl)
  · cases h; exact lv_lushr hx hb hd rfl (k ls hl)
  · cases h; exact lv_i2l hx hb hd rfl (k ls hl)
  · cases h; exact lv_l2i hx hb hd rfl (k ls hl)
  · cases h; exact W.lcmp hx hb hd (k ls hl)
  · cases h; exact lv_i2b hx hb hd rfl (k ls hl)
  · cases h; exact lv_i2s hx hb hd rfl (k ls hl)
  · cases h; exact lv_dup hx hb hd rfl (k ls hl)
  · cases h; exact lv_pop hx hb hd rfl (k ls hl)
  · cases h; exact lv_dup hx hb hd rfl (k ls hl)
  · cases h; exact lv_pop hx hb hd rfl (k ls hl)
  · cases h; exact lv_dup hx hb hd rfl (k ls hl)
  · cases h; exact lv_pop hx hb hd rfl (k ls hl)
  · cases h; exact lv_dup_x1 hx hb hd rfl rfl (k ls hl)
  · cases h; exact lv_dup2_11 hx hb hd rfl rfl (k ls hl)
  · cases h; exact lv_dup_x1 hx hb hd rfl rfl (k ls hl)
  · cases h; exact lv_dup2_11 hx hb hd rfl rfl (k ls hl)
  · cases h; exact lv_dup_x1 hx hb hd rfl rfl (k ls hl)
  · cases h; exact lv_dup2_11 hx hb hd rfl rfl (k ls hl)
  · cases h; exact lv_dup_x1 hx hb hd rfl rfl (k ls hl)
  · cases h; exact lv_dup2_11 hx hb hd rfl rfl (k ls hl)
  · cases h; exact lv_dup2_2 hx hb hd rfl (k ls hl)
  · cases h; exact lv_dup_x2 hx hb hd rfl rfl rfl (k ls hl)
  · split at h
    · rename_i hn; cases h; exact lv_istore hx hb hd hl hn rfl (fun ls2 h2 => k ls2 (tf_has h2))
    · cases h
  · split at h
    · rename_i hn; cases h; exact lv_istore_n hx hb hd rfl hl hn rfl (fun ls2 h2 => k ls2 (tf_has h2))
    · cases h
  · split at h
    · rename_i hn; cases h; exact lv_lstore hx hb hd hl hn rfl (fun ls2 h2 => k ls2 (tf_has h2))
    · cases h
  · split at h
    · rename_i hn; cases h; exact lv_lstore_n hx hb hd rfl hl hn rfl (fun ls2 h2 => k ls2 (tf_has h2))
    · cases h
  · split at h
    · rename_i hn; cases h; exact lv_astore hx hb hd hl hn rfl (fun ls2 h2 => k ls2 (tf_has h2))
    · cases h
  · split at h
    · rename_i hn; cases h; exact lv_astore_n hx hb hd rfl hl hn rfl (fun ls2 h2 => k ls2 (tf_has h2))
    · cases h
  · split at h
    · rename_i hn; cases h; exact lv_astoreN hx hb hd hl hn rfl (fun ls2 h2 => k ls2 (tf_has h2))
    · cases h
  · split at h
    · rename_i hn; cases h; exact lv_astore_nN hx hb hd rfl hl hn rfl (fun ls2 h2 => k ls2 (tf_has h2))
    · cases h
  · split at h
    · rename_i hk; cases h; exact lv_iload hx hb hd (tf_at hl hk) (k ls hl)
    · cases h
  · split at h
    · rename_i hk; cases h; exact lv_iload_n hx hb hd rfl (tf_at hl hk) (k ls hl)
    · cases h
  · split at h
    · rename_i hk; cases h; exact lv_lload hx hb hd (tf_at hl hk) (k ls hl)
    · cases h
  · split at h
    · rename_i hk; cases h; exact lv_lload_n hx hb hd rfl (tf_at hl hk) (k ls hl)
    · cases h
  · split at h
    · rename_i hk; cases h; exact lv_aload hx hb hd (tf_at hl hk) (k ls hl)
    · rename_i hk; cases h; exact lv_aloadN hx hb hd (tf_at hl hk) (k ls hl)
    · cases h
  · split at h
    · rename_i hk; cases h; exact lv_aload_n hx hb hd rfl (tf_at hl hk) (k ls hl)
    · rename_i hk; cases h; exact lv_aload_nN hx hb hd rfl (tf_at hl hk) (k ls hl)
    · cases h
  · split at h
    · rename_i hk; split at h
      · rename_i hn; cases h
        obtain ⟨j, hj⟩ := List.getElem?_of_mem (tf_lk_mem hk)
        exact lv_iinc hx hb hd hl hj rfl hn rfl (fun ls2 h2 => k ls2 (tf_has h2))
      · cases h
    · cases h
  · cases h
end
section
section
variable {l : Launch} {G : tf_G} {EX : State → (Nat → Prop) → Prop} {QB : tf_B} {d : Nat} {i : tf_I} {pc : Nat} {lv lv2 : tf_V} {st st2 : List Value} {L : List Nat} {f : tf_F} {kc ks : Nat}
def tf_ops (nL : Nat) : List (Instr × Nat) → Nat → tf_V → List Value → Option (Nat × tf_V × List Value)
  | [], pc, lv, st => some (pc, lv, st)
  | (a, b) :: r, pc, lv, st => match tf_op nL a b lv st with
    | some (lv2, st2) => tf_ops nL r (pc + b) lv2 st2
    | none => none
/-- a stretch of instructions that ask nothing of the heap -/
theorem tf_blk {q : Nat} (bs : List (Instr × Nat)) (hdec : tf_dec i.2.1 pc bs = true) (h : tf_ops i.2.2.1 bs pc lv st = some (q, lv2, st2)) (k : tf_W l G EX QB d i q lv2 st2 L f kc ks) : tf_W l G EX QB d i pc lv st L f kc ks := by
  induction bs generalizing pc lv st with
  | nil =>
    unfold tf_ops at h
    cases h
    exact k
  | cons b r ih =>
    obtain ⟨ia, ib⟩ := b
    unfold tf_ops at h
    unfold tf_dec at hdec
    rw [Bool.and_eq_true] at hdec
    obtain ⟨h1, h2⟩ := hdec
    split at h1
    · rename_i z hz
      have hzb : z = (ia, ib) := of_decide_eq_true h1
      subst hzb
      split at h
      · rename_i w1 w2 hw
        have k2 := ih h2 h
        intro p e R s m args below meth c H locs cells slots ls A mc ms hM hE hR hl hP
        exact tf_op_ok (n := ib) (ins := ia) (lv2 := w1) (st2 := w2) hM.1 hM.2.1 hz hl hw (fun ls2 h2 => k2 p e R s m args below meth c H locs cells slots ls2 A mc ms hM hE hR h2 hP)
      · cases h
    · cases h1
theorem tf_drop (ks0 : List Nat) (h : tf_keep ks0 lv = lv2) (k : tf_W l G EX QB d i pc lv2 st L f kc ks) : tf_W l G EX QB d i pc lv st L f kc ks := by
  subst h
  exact fun p e R s m args below meth c H locs cells slots ls A mc ms hM hE hR hl hP => k p e R s m args below meth c H locs cells slots ls A mc ms hM hE hR (tf_keep_has ks0 hl) hP
theorem tf_less {kc2 ks2 : Nat} (h1 : kc2 ≤ kc) (h2 : ks2 ≤ ks) (k : tf_W l G EX QB d i pc lv st L f kc2 ks2) : tf_W l G EX QB d i pc lv st L f kc ks :=
  fun p e R s m args below meth c H locs cells slots ls A mc ms hM hE hR hl hP => k p e R s m args below meth c H locs cells slots ls A mc ms hM hE ⟨hR.1, hR.2.1, Nat.le_trans (Nat.add_le_add_left h1 _) hR.2.2.1, Nat.le_trans (Nat.add_le_add_left h2 _) hR.2.2.2.1, hR.2.2.2.2⟩ hl hP
theorem tf_goto {off : Int} (tgt : Nat) (hd : decode i.2.1 pc = .ok (.goto off, 3)) (ht : (pc : Int) + off = (tgt : Int)) (k : tf_W l G EX QB d i tgt lv st L f kc ks) : tf_W l G EX QB d i pc lv st L f kc ks :=
  fun p e R s m args below meth c H locs cells slots ls A mc ms hM hE hR hl hP => lv_goto hM.1 hM.2.1 hd ht (k p e R s m args below meth c H locs cells slots ls A mc ms hM hE hR hl hP)
theorem tf_if_eq {x : Int32} {off : Int} (tgt nxt : Nat) (hd : decode i.2.1 pc = .ok (.ifCond .eq off, 3)) (ht : (pc : Int) + off = (tgt : Int)) (hn : pc + 3 = nxt) (kt : x = 0 → tf_W l G EX QB d i tgt lv st L f kc ks) (kf : ¬ x = 0 → tf_W l G EX QB d i nxt lv st L f kc ks) : tf_W l G EX QB d i pc lv (.int x :: st) L f kc ks := by
  subst hn
  exact fun p e R s m args below meth c H locs cells slots ls A mc ms hM hE hR hl hP => lv_if_eq hM.1 hM.2.1 hd ht (fun h => kt h p e R s m args below meth c H locs cells slots ls A mc ms hM hE hR hl hP) (fun h => kf h p e R s m args below meth c H locs cells slots ls A mc ms hM hE hR hl hP)
theorem tf_ic_eq {x y : Int32} {off : Int} (tgt nxt : Nat) (hd : decode i.2.1 pc = .ok (.if_icmp .eq off, 3)) (ht : (pc : Int) + off = (tgt : Int)) (hn : pc + 3 = nxt) (kt : x = y → tf_W l G EX QB d i tgt lv st L f kc ks) (kf : ¬ x = y → tf_W l G EX QB d i nxt lv st L f kc ks) : tf_W l G EX QB d i pc lv (.int y :: .int x :: st) L f kc ks := by
  subst hn
  exact fun p e R s m args below meth c H locs cells slots ls A mc ms hM hE hR hl hP => lv_icmp_eq hM.1 hM.2.1 hd ht (fun h => kt h p e R s m args below meth c H locs cells slots ls A mc ms hM hE hR hl hP) (fun h => kf h p e R s m args below meth c H locs cells slots ls A mc ms hM hE hR hl hP)
theorem tf_if_ne {x : Int32} {off : Int} (tgt nxt : Nat) (hd : decode i.2.1 pc = .ok (.ifCond .ne off, 3)) (ht : (pc : Int) + off = (tgt : Int)) (hn : pc + 3 = nxt) (kt : ¬ x = 0 → tf_W l G EX QB d i tgt lv st L f kc ks) (kf : x = 0 → tf_W l G EX QB d i nxt lv st L f kc ks) : tf_W l G EX QB d i pc lv (.int x :: st) L f kc ks := by
  subst hn
  exact fun p e R s m args below meth c H locs cells slots ls A mc ms hM hE hR hl hP => lv_if_ne hM.1 hM.2.1 hd ht (fun h => kt h p e R s m args below meth c H locs cells slots ls A mc ms hM hE hR hl hP) (fun h => kf h p e R s m args below meth c H locs cells slots ls A mc ms hM hE hR hl hP)
theorem tf_ic_ne {x y : Int32} {off : Int} (tgt nxt : Nat) (hd : decode i.2.1 pc = .ok (.if_icmp .ne off, 3)) (ht : (pc : Int) + off = (tgt : Int)) (hn : pc + 3 = nxt) (kt : ¬ x = y → tf_W l G EX QB d i tgt lv st L f kc ks) (kf : x = y → tf_W l G EX QB d i nxt lv st L f kc ks) : tf_W l G EX QB d i pc lv (.int y :: .int x :: st) L f kc ks := by
  subst hn
  exact fun p e R s m args below meth c H locs cells slots ls A mc ms hM hE hR hl hP => lv_icmp_ne hM.1 hM.2.1 hd ht (fun h => kt h p e R s m args below meth c H locs cells slots ls A mc ms hM hE hR hl hP) (fun h => kf h p e R s m args below meth c H locs cells slots ls A mc ms hM hE hR hl hP)
theorem tf_if_lt {x : Int32} {off : Int} (tgt nxt : Nat) (hd : decode i.2.1 pc = .ok (.ifCond .lt off, 3)) (ht : (pc : Int) + off = (tgt : Int)) (hn : pc + 3 = nxt) (kt : x < 0 → tf_W l G EX QB d i tgt lv st L f kc ks) (kf : ¬ x < 0 → tf_W l G EX QB d i nxt lv st L f kc ks) : tf_W l G EX QB d i pc lv (.int x :: st) L f kc ks := by
  subst hn
  exact fun p e R s m args below meth c H locs cells slots ls A mc ms hM hE hR hl hP => lv_if_lt hM.1 hM.2.1 hd ht (fun h => kt h p e R s m args below meth c H locs cells slots ls A mc ms hM hE hR hl hP) (fun h => kf h p e R s m args below meth c H locs cells slots ls A mc ms hM hE hR hl hP)
theorem tf_ic_lt {x y : Int32} {off : Int} (tgt nxt : Nat) (hd : decode i.2.1 pc = .ok (.if_icmp .lt off, 3)) (ht : (pc : Int) + off = (tgt : Int)) (hn : pc + 3 = nxt) (kt : x < y → tf_W l G EX QB d i tgt lv st L f kc ks) (kf : ¬ x < y → tf_W l G EX QB d i nxt lv st L f kc ks) : tf_W l G EX QB d i pc lv (.int y :: .int x :: st) L f kc ks := by
  subst hn
  exact fun p e R s m args below meth c H locs cells slots ls A mc ms hM hE hR hl hP => lv_icmp_lt hM.1 hM.2.1 hd ht (fun h => kt h p e R s m args below meth c H locs cells slots ls A mc ms hM hE hR hl hP) (fun h => kf h p e R s m args below meth c H locs cells slots ls A mc ms hM hE hR hl hP)
theorem tf_if_ge {x : Int32} {off : Int} (tgt nxt : Nat) (hd : decode i.2.1 pc = .ok (.ifCond .ge off, 3)) (ht : (pc : Int) + off = (tgt : Int)) (hn : pc + 3 = nxt) (kt : 0 ≤ x → tf_W l G EX QB d i tgt lv st L f kc ks) (kf : ¬ 0 ≤ x → tf_W l G EX QB d i nxt lv st L f kc ks) : tf_W l G EX QB d i pc lv (.int x :: st) L f kc ks := by
  subst hn
  exact fun p e R s m args below meth c H locs cells slots ls A mc ms hM hE hR hl hP => lv_if_ge hM.1 hM.2.1 hd ht (fun h => kt h p e R s m args below meth c H locs cells slots ls A mc ms hM hE hR hl hP) (fun h => kf h p e R s m args below meth c H locs cells slots ls A mc ms hM hE hR hl hP)
theorem tf_ic_ge {x y : Int32} {off : Int} (tgt nxt : Nat) (hd : decode i.2.1 pc = .ok (.if_icmp .ge off, 3)) (ht : (pc : Int) + off = (tgt : Int)) (hn : pc + 3 = nxt) (kt : y ≤ x → tf_W l G EX QB d i tgt lv st L f kc ks) (kf : ¬ y ≤ x → tf_W l G EX QB d i nxt lv st L f kc ks) : tf_W l G EX QB d i pc lv (.int y :: .int x :: st) L f kc ks := by
  subst hn
  exact fun p e R s m args below meth c H locs cells slots ls A mc ms hM hE hR hl hP => lv_icmp_ge hM.1 hM.2.1 hd ht (fun h => kt h p e R s m args below meth c H locs cells slots ls A mc ms hM hE hR hl hP) (fun h => kf h p e R s m args below meth c H locs cells slots ls A mc ms hM hE hR hl hP)
theorem tf_if_gt {x : Int32} {off : Int} (tgt nxt : Nat) (hd : decode i.2.1 pc = .ok (.ifCond .gt off, 3)) (ht : (pc : Int) + off = (tgt : Int)) (hn : pc + 3 = nxt) (kt : 0 < x → tf_W l G EX QB d i tgt lv st L f kc ks) (kf : ¬ 0 < x → tf_W l G EX QB d i nxt lv st L f kc ks) : tf_W l G EX QB d i pc lv (.int x :: st) L f kc ks := by
  subst hn
  exact fun p e R s m args below meth c H locs cells slots ls A mc ms hM hE hR hl hP => lv_if_gt hM.1 hM.2.1 hd ht (fun h => kt h p e R s m args below meth c H locs cells slots ls A mc ms hM hE hR hl hP) (fun h => kf h p e R s m args below meth c H locs cells slots ls A mc ms hM hE hR hl hP)
theorem tf_ic_gt {x y : Int32} {off : Int} (tgt nxt : Nat) (hd : decode i.2.1 pc = .ok (.if_icmp .gt off, 3)) (ht : (pc : Int) + off = (tgt : Int)) (hn : pc + 3 = nxt) (kt : y < x → tf_W l G EX QB d i tgt lv st L f kc ks) (kf : ¬ y < x → tf_W l G EX QB d i nxt lv st L f kc ks) : tf_W l G EX QB d i pc lv (.int y :: .int x :: st) L f kc ks := by
  subst hn
  exact fun p e R s m args below meth c H locs cells slots ls A mc ms hM hE hR hl hP => lv_icmp_gt hM.1 hM.2.1 hd ht (fun h => kt h p e R s m args below meth c H locs cells slots ls A mc ms hM hE hR hl hP) (fun h => kf h p e R s m args below meth c H locs cells slots ls A mc ms hM hE hR hl hP)
theorem tf_if_le {x : Int32} {off : Int} (tgt nxt : Nat) (hd : decode i.2.1 pc = .ok (.ifCond .le off, 3)) (ht : (pc : Int) + off = (tgt : Int)) (hn : pc + 3 = nxt) (kt : x ≤ 0 → tf_W l G EX QB d i tgt lv st L f kc ks) (kf : ¬ x ≤ 0 → tf_W l G EX QB d i nxt lv st L f kc ks) : tf_W l G EX QB d i pc lv (.int x :: st) L f kc ks := by
  subst hn
  exact fun p e R s m args below meth c H locs cells slots ls A mc ms hM hE hR hl hP => lv_if_le hM.1 hM.2.1 hd ht (fun h => kt h p e R s m args below meth c H locs cells slots ls A mc ms hM hE hR hl hP) (fun h => kf h p e R s m args below meth c H locs cells slots ls A mc ms hM hE hR hl hP)
theorem tf_ic_le {x y : Int32} {off : Int} (tgt nxt : Nat) (hd : decode i.2.1 pc = .ok (.if_icmp .le off, 3)) (ht : (pc : Int) + off = (tgt : Int)) (hn : pc + 3 = nxt) (kt : x ≤ y → tf_W l G EX QB d i tgt lv st L f kc ks) (kf : ¬ x ≤ y → tf_W l G EX QB d i nxt lv st L f kc ks) : tf_W l G EX QB d i pc lv (.int y :: .int x :: st) L f kc ks := by
  subst hn
  exact fun p e R s m args below meth c H locs cells slots ls A mc ms hM hE hR hl hP => lv_icmp_le hM.1 hM.2.1 hd ht (fun h => kt h p e R s m args below meth c H locs cells slots ls A mc ms hM hE hR hl hP) (fun h => kf h p e R s m args below meth c H locs cells slots ls A mc ms hM hE hR hl hP)
theorem tf_ifnull_r {x : Nat} {off : Int} (nxt : Nat) (hd : decode i.2.1 pc = .ok (.ifnull off, 3)) (hn : pc + 3 = nxt) (k : tf_W l G EX QB d i nxt lv st L f kc ks) : tf_W l G EX QB d i pc lv (.ref x :: st) L f kc ks := by
  subst hn
  exact fun p e R s m args below meth c H locs cells slots ls A mc ms hM hE hR hl hP => lv_ifnull hM.1 hM.2.1 hd (k p e R s m args below meth c H locs cells slots ls A mc ms hM hE hR hl hP)
theorem tf_ifnull_n  {off : Int} (tgt : Nat) (hd : decode i.2.1 pc = .ok (.ifnull off, 3)) (ht : (pc : Int) + off = (tgt : Int)) (k : tf_W l G EX QB d i tgt lv st L f kc ks) : tf_W l G EX QB d i pc lv (.null :: st) L f kc ks :=
  fun p e R s m args below meth c H locs cells slots ls A mc ms hM hE hR hl hP => lv_ifnullN hM.1 hM.2.1 hd ht (k p e R s m args below meth c H locs cells slots ls A mc ms hM hE hR hl hP)
theorem tf_ifnonnull_r {x : Nat} {off : Int} (tgt : Nat) (hd : decode i.2.1 pc = .ok (.ifnonnull off, 3)) (ht : (pc : Int) + off = (tgt : Int)) (k : tf_W l G EX QB d i tgt lv st L f kc ks) : tf_W l G EX QB d i pc lv (.ref x :: st) L f kc ks :=
  fun p e R s m args below meth c H locs cells slots ls A mc ms hM hE hR hl hP => lv_ifnonnull hM.1 hM.2.1 hd ht (k p e R s m args below meth c H locs cells slots ls A mc ms hM hE hR hl hP)
theorem tf_ifnonnull_n  {off : Int} (nxt : Nat) (hd : decode i.2.1 pc = .ok (.ifnonnull off, 3)) (hn : pc + 3 = nxt) (k : tf_W l G EX QB d i nxt lv st L f kc ks) : tf_W l G EX QB d i pc lv (.null :: st) L f kc ks := by
  subst hn
  exact fun p e R s m args below meth c H locs cells slots ls A mc ms hM hE hR hl hP => lv_ifnonnullN hM.1 hM.2.1 hd (k p e R s m args below meth c H locs cells slots ls A mc ms hM hE hR hl hP)
theorem tf_idiv {x y : Int32} (nxt : Nat) (hd : decode i.2.1 pc = .ok (.idiv, 1)) (hn : pc + 1 = nxt) (hy : ¬ y = 0) (k : tf_W l G EX QB d i nxt lv (.int (x / y) :: st) L f kc ks) : tf_W l G EX QB d i pc lv (.int y :: .int x :: st) L f kc ks := by
  subst hn
  exact fun p e R s m args below meth c H locs cells slots ls A mc ms hM hE hR hl hP => lv_idiv hM.1 hM.2.1 hd hy (k p e R s m args below meth c H locs cells slots ls A mc ms hM hE hR hl hP)
theorem tf_irem {x y : Int32} (nxt : Nat) (hd : decode i.2.1 pc = .ok (.irem, 1)) (hn : pc + 1 = nxt) (hy : ¬ y = 0) (k : tf_W l G EX QB d i nxt lv (.int (x - x / y * y) :: st) L f kc ks) : tf_W l G EX QB d i pc lv (.int y :: .int x :: st) L f kc ks := by
  subst hn
  exact fun p e R s m args below meth c H locs cells slots ls A mc ms hM hE hR hl hP => lv_irem hM.1 hM.2.1 hd hy (k p e R s m args below meth c H locs cells slots ls A mc ms hM hE hR hl hP)
theorem tf_ldiv {x y : Int64} (nxt : Nat) (hd : decode i.2.1 pc = .ok (.ldiv, 1)) (hn : pc + 1 = nxt) (hy : ¬ y = 0) (k : tf_W l G EX QB d i nxt lv (.long (x / y) :: st) L f kc ks) : tf_W l G EX QB d i pc lv (.long y :: .long x :: st) L f kc ks := by
  subst hn
  exact fun p e R s m args below meth c H locs cells slots ls A mc ms hM hE hR hl hP => lv_ldiv hM.1 hM.2.1 hd hy (k p e R s m args below meth c H locs cells slots ls A mc ms hM hE hR hl hP)
theorem tf_lrem {x y : Int64} (nxt : Nat) (hd : decode i.2.1 pc = .ok (.lrem, 1)) (hn : pc + 1 = nxt) (hy : ¬ y = 0) (k : tf_W l G EX QB d i nxt lv (.long (x - x / y * y) :: st) L f kc ks) : tf_W l G EX QB d i pc lv (.long y :: .long x :: st) L f kc ks := by
  subst hn
  exact fun p e R s m args below meth c H locs cells slots ls A mc ms hM hE hR hl hP => lv_lrem hM.1 hM.2.1 hd hy (k p e R s m args below meth c H locs cells slots ls A mc ms hM hE hR hl hP)
theorem tf_tabOut {dflt lo hi : Int} {offs : Array Int} {len : Nat} {x : Int32} (tgt : Nat) (hd : decode i.2.1 pc = .ok (.tableswitch dflt lo hi offs, len)) (h : x.toInt < lo ∨ hi < x.toInt) (ht : (pc : Int) + dflt = (tgt : Int)) (k : tf_W l G EX QB d i tgt lv st L f kc ks) : tf_W l G EX QB d i pc lv (.int x :: st) L f kc ks :=
  fun p e R s m args below meth c H locs cells slots ls A mc ms hM hE hR hl hP => lv_tableOut hM.1 hM.2.1 hd h ht (k p e R s m args below meth c H locs cells slots ls A mc ms hM hE hR hl hP)
theorem tf_tabIn {dflt lo hi : Int} {offs : Array Int} {len : Nat} {x : Int32} {off : Int} (tgt : Nat) (hd : decode i.2.1 pc = .ok (.tableswitch dflt lo hi offs, len)) (h1 : ¬ x.toInt < lo) (h2 : ¬ hi < x.toInt) (ho : offs[(x.toInt - lo).toNat]? = some off) (ht : (pc : Int) + off = (tgt : Int)) (k : tf_W l G EX QB d i tgt lv st L f kc ks) : tf_W l G EX QB d i pc lv (.int x :: st) L f kc ks :=
  fun p e R s m args below meth c H locs cells slots ls A mc ms hM hE hR hl hP => lv_tableIn hM.1 hM.2.1 hd h1 h2 ho ht (k p e R s m args below meth c H locs cells slots ls A mc ms hM hE hR hl hP)
theorem tf_look {dflt : Int} {ps : Array (Int × Int)} {len : Nat} {x : Int32} {off : Int} (tgt : Nat) (hd : decode i.2.1 pc = .ok (.lookupswitch dflt ps, len)) (hp : (ps.toList.zip (ps.toList.drop 1)).all (fun (a, next) => a.1 < next.1) = true) (ho : Op.lookupswitch.offset ps.toList dflt x.toInt = off) (ht : (pc : Int) + off = (tgt : Int)) (k : tf_W l G EX QB d i tgt lv st L f kc ks) : tf_W l G EX QB d i pc lv (.int x :: st) L f kc ks :=
  fun p e R s m args below meth c H locs cells slots ls A mc ms hM hE hR hl hP => lv_lookup hM.1 hM.2.1 hd hp ho ht (k p e R s m args below meth c H locs cells slots ls A mc ms hM hE hR hl hP)
theorem tf_ldc {ix : Nat} {v : Int32} (nxt : Nat) (hd : decode i.2.1 pc = .ok (.ldc ix, 2)) (hn : pc + 2 = nxt) (hc : Jvm.Cond.constant i.1.cls ix v ∈ G.2.2.2.1) (k : tf_W l G EX QB d i nxt lv (.int v :: st) L f kc ks) : tf_W l G EX QB d i pc lv st L f kc ks := by
  subst hn
  exact fun p e R s m args below meth c H locs cells slots ls A mc ms hM hE hR hl hP => lv_ldc hM.1 hM.2.1 hM.2.2.2.1 (hM.2.2.2.2.1 _ hc) hd (k p e R s m args below meth c H locs cells slots ls A mc ms hM hE hR hl hP)
theorem tf_ldcw {ix : Nat} {v : Int32} (nxt : Nat) (hd : decode i.2.1 pc = .ok (.ldc_w ix, 3)) (hn : pc + 3 = nxt) (hc : Jvm.Cond.constant i.1.cls ix v ∈ G.2.2.2.1) (k : tf_W l G EX QB d i nxt lv (.int v :: st) L f kc ks) : tf_W l G EX QB d i pc lv st L f kc ks := by
  subst hn
  exact fun p e R s m args below meth c H locs cells slots ls A mc ms hM hE hR hl hP => lv_ldcw hM.1 hM.2.1 hM.2.2.2.1 (hM.2.2.2.2.1 _ hc) hd (k p e R s m args below meth c H locs cells slots ls A mc ms hM hE hR hl hP)
theorem tf_ldc2 {ix : Nat} {v : Int64} (nxt : Nat) (hd : decode i.2.1 pc = .ok (.ldc2_w ix, 3)) (hn : pc + 3 = nxt) (hc : Jvm.Cond.constantLong i.1.cls ix v ∈ G.2.2.2.1) (k : tf_W l G EX QB d i nxt lv (.long v :: st) L f kc ks) : tf_W l G EX QB d i pc lv st L f kc ks := by
  subst hn
  exact fun p e R s m args below meth c H locs cells slots ls A mc ms hM hE hR hl hP => lv_ldc2 hM.1 hM.2.1 hM.2.2.2.1 (hM.2.2.2.2.1 _ hc) hd (k p e R s m args below meth c H locs cells slots ls A mc ms hM hE hR hl hP)
end
end
section
section
variable {l : Launch} {G : tf_G} {EX : State → (Nat → Prop) → Prop} {QB : tf_B} {d : Nat} {i : tf_I} {pc : Nat} {lv lv2 : tf_V} {st st2 : List Value} {L : List Nat} {f : tf_F} {kc ks : Nat}
theorem tf_pl {a : Nat} (h : a ∈ L) : ∃ k : Nat, (va_pl L f)[k]? = some (a, f a) := va_pl_get (X := []) h
theorem tf_set {A : Nat → Prop} {a k : Nat} {e : va_E} (hD : va_D A (va_pl L f)) (h : a ∈ L) (hk : (va_pl L f)[k]? = some (a, f a)) : (va_pl L f).set k (a, e) = va_pl L (va_up f a e) := va_pl_set (X := []) hD h hk
/-- the link of a field: the class by its place in the list of classes, the field by its slot -/
def tf_fl (G : tf_G) (own : String) (ix ci k : Nat) : Prop := ∃ (C : String) (T : u_T) (N : Nat), G.2.1[ci]? = some (C, T, N) ∧ k < N ∧ (∀ w ∈ u_ws C T N, w ∈ G.2.2.2.1) ∧ (T k).1 = C ∧
  (Cond.fieldLink own ix C (T k).2.1 (T k).2.2.1 ∈ G.2.2.2.1 ∨ ∃ host, Cond.fieldLinkNest own ix C (T k).2.1 (T k).2.2.1 host ∈ G.2.2.2.2)
def tf_fw (G : tf_G) (own : String) (ix ci k : Nat) (ty : FieldType) : Prop := ∃ (C : String) (T : u_T) (N : Nat), G.2.1[ci]? = some (C, T, N) ∧ k < N ∧ (∀ w ∈ u_ws C T N, w ∈ G.2.2.2.1) ∧ (T k).1 = C ∧
  (Cond.fieldLink own ix C (T k).2.1 (T k).2.2.1 ∈ G.2.2.2.1 ∨ ∃ host, Cond.fieldLinkNest own ix C (T k).2.1 (T k).2.2.1 host ∈ G.2.2.2.2) ∧
  (∃ ty0 : Nat → FieldType, ∀ k, k < N → parseFieldDescriptor (T k).2.2.1 = some (ty0 k)) ∧ (∀ a, a < N → ∀ b, b < N → a ≠ b → (T a).2.1 ≠ (T b).2.1) ∧ parseFieldDescriptor (T k).2.2.1 = some ty ∧ (T k).2.2.2 = false
/-- .. a final one, in its own class's constructor -/
def tf_ff (G : tf_G) (own : String) (ix ci k : Nat) (ty : FieldType) : Prop := ∃ (T : u_T) (N : Nat), G.2.1[ci]? = some (own, T, N) ∧ k < N ∧ (∀ w ∈ u_ws own T N, w ∈ G.2.2.2.1) ∧ (T k).1 = own ∧
  Cond.fieldLink own ix own (T k).2.1 (T k).2.2.1 ∈ G.2.2.2.1 ∧
  (∃ ty0 : Nat → FieldType, ∀ k, k < N → parseFieldDescriptor (T k).2.2.1 = some (ty0 k)) ∧ (∀ a, a < N → ∀ b, b < N → a ≠ b → (T a).2.1 ≠ (T b).2.1) ∧ parseFieldDescriptor (T k).2.2.1 = some ty ∧ (T k).2.2.2 = true
def tf_nl (G : tf_G) (own : String) (ix ci N : Nat) (fs : List Value) : Prop := ∃ (C : String) (T : u_T) (ty : Nat → FieldType), G.2.1[ci]? = some (C, T, N) ∧ (∀ w ∈ u_ws C T N, w ∈ G.2.2.2.1) ∧ (∀ k, k < N → parseFieldDescriptor (T k).2.2.1 = some (ty k)) ∧
  Cond.classLink own ix C ∈ G.2.2.2.1 ∧ Cond.instantiable C N ∈ G.2.2.2.1 ∧ Cond.initialized C ∈ G.2.2.2.1 ∧ ∀ j, j < N → defaultValue (ty j) = vp_V fs j
theorem tf_get {ix ci k a : Nat} {fs : List Value} {v : Value} (nxt : Nat) (hd : decode i.2.1 pc = .ok (.getfield ix, 3)) (hn : pc + 3 = nxt) (hF : tf_fl G i.1.cls ix ci k) (ha : a ∈ L) (hf : f a = .inr (ci, fs)) (hv : fs[k]? = some v) (kk : tf_W l G EX QB d i nxt lv (v :: st) L f kc ks) : tf_W l G EX QB d i pc lv (.ref a :: st) L f kc ks := by
  subst hn
  intro p e R s m args below meth c H locs cells slots ls A mc ms hM hE hR hl hP
  obtain ⟨hx, hb, hml, hown, hts, hret, hlk, hnw, hnm, hK⟩ := id hM
  obtain ⟨hPP, hD, hS, hA⟩ := id hP
  obtain ⟨C, T, N, hc, hk, hin, hT, hlk2⟩ := hF
  obtain ⟨q0, hq0⟩ := tf_pl (f := f) ha
  rw [hf] at hq0
  have hsame : ∀ x, s.fieldFound? (T k).1 (T k).2.1 (T k).2.2.1 = some x → s.fieldFound? C (T k).2.1 (T k).2.2.1 = some x := fun x h => by rw [hT] at h; exact h
  rcases hlk2 with h | ⟨host, h⟩
  · exact va_get hx hb hts hin hown hK hPP q0 hq0 hc k hk (hts _ h) hsame hv hd (kk p e R s m args below meth c H locs cells slots ls A mc ms hM hE hR hl hP)
  · exact va_getN hx hb hts hin hown hK hPP q0 hq0 hc k hk (va_Nw.use rfl (hnw _ h)) hsame hv hd (kk p e R s m args below meth c H locs cells slots ls A mc ms hM hE hR hl hP)
theorem tf_put {ix ci k a : Nat} {fs : List Value} {v : Value} {ty : FieldType} (nxt : Nat) (hd : decode i.2.1 pc = .ok (.putfield ix, 3)) (hn : pc + 3 = nxt) (hF : tf_fw G i.1.cls ix ci k ty) (ha : a ∈ L) (hf : f a = .inr (ci, fs)) (hl0 : k < fs.length) (hna : narrow ty v = v) (hfi : fits ty v = true) (kk : tf_W l G EX QB d i nxt lv st L (va_up f a (.inr (ci, fs.set k v))) kc ks) : tf_W l G EX QB d i pc lv (v :: .ref a :: st) L f kc ks := by
  subst hn
  intro p e R s m args below meth c H locs cells slots ls A mc ms hM hE hR hl hP
  obtain ⟨hx, hb, hml, hown, hts, hret, hlk, hnw, hnm, hK⟩ := id hM
  obtain ⟨hPP, hD, hS, hA⟩ := id hP
  obtain ⟨C, T, N, hc, hk, hin, hT, hlk2, ⟨ty0, hty⟩, hnm2, hpd, hfin⟩ := hF
  obtain ⟨q0, hq1⟩ := tf_pl (f := f) ha
  have hq0 := hq1
  rw [hf] at hq0
  have hsame : ∀ x, s.fieldFound? (T k).1 (T k).2.1 (T k).2.2.1 = some x → s.fieldFound? C (T k).2.1 (T k).2.2.1 = some x := fun x h => by rw [hT] at h; exact h
  have hset := tf_set (e := .inr (ci, fs.set k v)) hD ha hq1
  rcases hlk2 with h | ⟨host, h⟩
  · refine va_put hx hb hts hin ty0 hty hnm2 hown hK hPP hD hS q0 hq0 hc k hk (hts _ h) hsame hfin hpd hna hfi hl0 hd (fun H1 locs1 p1 d1 s1 => ?_)
    rw [hset] at p1 d1
    exact kk p e R s m args below meth c H1 locs1 cells slots ls A mc ms hM hE hR hl ⟨p1, d1, s1, hA⟩
  · refine va_putN hx hb hts hin ty0 hty hnm2 hown hK hPP hD hS q0 hq0 hc k hk (va_Nw.use rfl (hnw _ h)) hsame hfin hpd hna hfi hl0 hd (fun H1 locs1 p1 d1 s1 => ?_)
    rw [hset] at p1 d1
    exact kk p e R s m args below meth c H1 locs1 cells slots ls A mc ms hM hE hR hl ⟨p1, d1, s1, hA⟩
theorem tf_putF {ix ci k a : Nat} {fs : List Value} {v : Value} {ty : FieldType} (nxt : Nat) (hd : decode i.2.1 pc = .ok (.putfield ix, 3)) (hn : pc + 3 = nxt) (hF : tf_ff G i.1.cls ix ci k ty) (hini : i.1.name = "<init>") (ha : a ∈ L) (hf : f a = .inr (ci, fs)) (hl0 : k < fs.length) (hna : narrow ty v = v) (hfi : fits ty v = true) (kk : tf_W l G EX QB d i nxt lv st L (va_up f a (.inr (ci, fs.set k v))) kc ks) : tf_W l G EX QB d i pc lv (v :: .ref a :: st) L f kc ks := by
  subst hn
  intro p e R s m args below meth c H locs cells slots ls A mc ms hM hE hR hl hP
  obtain ⟨hx, hb, hml, hown, hts, hret, hlk, hnw, hnm, hK⟩ := id hM
  obtain ⟨hPP, hD, hS, hA⟩ := id hP
  obtain ⟨T, N, hc, hk, hin, hT, h, ⟨ty0, hty⟩, hnm2, hpd, hfin⟩ := hF
  obtain ⟨q0, hq1⟩ := tf_pl (f := f) ha
  have hq0 := hq1
  rw [hf] at hq0
  have hsame : ∀ x, s.fieldFound? (T k).1 (T k).2.1 (T k).2.2.1 = some x → s.fieldFound? i.1.cls (T k).2.1 (T k).2.2.1 = some x := fun x h => by rw [hT] at h; exact h
  have hset := tf_set (e := .inr (ci, fs.set k v)) hD ha hq1
  refine va_putF hx hb hts hin ty0 hty hnm2 hown hK hPP hD hS q0 hq0 hc k hk (hts _ h) hsame hfin (hnm.trans hini) hT hpd hna hfi hl0 hd (fun H1 locs1 p1 d1 s1 => ?_)
  rw [hset] at p1 d1
  exact kk p e R s m args below meth c H1 locs1 cells slots ls A mc ms hM hE hR hl ⟨p1, d1, s1, hA⟩
theorem tf_iald {a n : Nat} {cA : ClassId} {g : Nat → Int32} {x : Int32} (nxt t0 : Nat) (hd : decode i.2.1 pc = .ok (.iaload, 1)) (hn : pc + 1 = nxt) (ht : G.2.2.1[t0]? = some (cA, .int)) (ha : a ∈ L) (hf : f a = .inl (cA, n, (.inl g))) (hin : vp_in x n) (kk : tf_W l G EX QB d i nxt lv (.int (g x.toNatClampNeg) :: st) L f kc ks) : tf_W l G EX QB d i pc lv (.int x :: .ref a :: st) L f kc ks := by
  subst hn
  intro p e R s m args below meth c H locs cells slots ls A mc ms hM hE hR hl hP
  obtain ⟨hx, hb, hml, hown, hts, hret, hlk, hnw, hnm, hK⟩ := id hM
  obtain ⟨hPP, hD, hS, hA⟩ := id hP
  obtain ⟨q0, hq0⟩ := tf_pl (f := f) ha
  rw [hf] at hq0
  exact va_iald hx hb hK hPP q0 t0 hq0 ht hin hd (kk p e R s m args below meth c H locs cells slots ls A mc ms hM hE hR hl hP)
theorem tf_zald {a n : Nat} {cA : ClassId} {g : Nat → Int32} {x : Int32} (nxt t0 : Nat) (hd : decode i.2.1 pc = .ok (.baload, 1)) (hn : pc + 1 = nxt) (ht : G.2.2.1[t0]? = some (cA, .boolean)) (ha : a ∈ L) (hf : f a = .inl (cA, n, (.inl g))) (hin : vp_in x n) (kk : tf_W l G EX QB d i nxt lv (.int (g x.toNatClampNeg) :: st) L f kc ks) : tf_W l G EX QB d i pc lv (.int x :: .ref a :: st) L f kc ks := by
  subst hn
  intro p e R s m args below meth c H locs cells slots ls A mc ms hM hE hR hl hP
  obtain ⟨hx, hb, hml, hown, hts, hret, hlk, hnw, hnm, hK⟩ := id hM
  obtain ⟨hPP, hD, hS, hA⟩ := id hP
  obtain ⟨q0, hq0⟩ := tf_pl (f := f) ha
  rw [hf] at hq0
  exact va_zald hx hb hK hPP q0 t0 hq0 ht hin hd (kk p e R s m args below meth c H locs cells slots ls A mc ms hM hE hR hl hP)
theorem tf_bald {a n : Nat} {cA : ClassId} {g : Nat → Int32} {x : Int32} (nxt t0 : Nat) (hd : decode i.2.1 pc = .ok (.baload, 1)) (hn : pc + 1 = nxt) (ht : G.2.2.1[t0]? = some (cA, .byte)) (ha : a ∈ L) (hf : f a = .inl (cA, n, (.inl g))) (hin : vp_in x n) (kk : tf_W l G EX QB d i nxt lv (.int (g x.toNatClampNeg) :: st) L f kc ks) : tf_W l G EX QB d i pc lv (.int x :: .ref a :: st) L f kc ks := by
  subst hn
  intro p e R s m args below meth c H locs cells slots ls A mc ms hM hE hR hl hP
  obtain ⟨hx, hb, hml, hown, hts, hret, hlk, hnw, hnm, hK⟩ := id hM
  obtain ⟨hPP, hD, hS, hA⟩ := id hP
  obtain ⟨q0, hq0⟩ := tf_pl (f := f) ha
  rw [hf] at hq0
  exact va_bald hx hb hK hPP q0 t0 hq0 ht hin hd (kk p e R s m args below meth c H locs cells slots ls A mc ms hM hE hR hl hP)
theorem tf_sald {a n : Nat} {cA : ClassId} {g : Nat → Int32} {x : Int32} (nxt t0 : Nat) (hd : decode i.2.1 pc = .ok (.saload, 1)) (hn : pc + 1 = nxt) (ht : G.2.2.1[t0]? = some (cA, .short)) (ha : a ∈ L) (hf : f a = .inl (cA, n, (.inl g))) (hin : vp_in x n) (kk : tf_W l G EX QB d i nxt lv (.int (g x.toNatClampNeg) :: st) L f kc ks) : tf_W l G EX QB d i pc lv (.int x :: .ref a :: st) L f kc ks := by
  subst hn
  intro p e R s m args below meth c H locs cells slots ls A mc ms hM hE hR hl hP
  obtain ⟨hx, hb, hml, hown, hts, hret, hlk, hnw, hnm, hK⟩ := id hM
  obtain ⟨hPP, hD, hS, hA⟩ := id hP
  obtain ⟨q0, hq0⟩ := tf_pl (f := f) ha
  rw [hf] at hq0
  exact va_sald hx hb hK hPP q0 t0 hq0 ht hin hd (kk p e R s m args below meth c H locs cells slots ls A mc ms hM hE hR hl hP)
theorem tf_lald {a n : Nat} {cA : ClassId} {g : Nat → Int64} {x : Int32} (nxt t0 : Nat) (hd : decode i.2.1 pc = .ok (.laload, 1)) (hn : pc + 1 = nxt) (ht : G.2.2.1[t0]? = some (cA, .long)) (ha : a ∈ L) (hf : f a = .inl (cA, n, (.inr (.inl g)))) (hin : vp_in x n) (kk : tf_W l G EX QB d i nxt lv (.long (g x.toNatClampNeg) :: st) L f kc ks) : tf_W l G EX QB d i pc lv (.int x :: .ref a :: st) L f kc ks := by
  subst hn
  intro p e R s m args below meth c H locs cells slots ls A mc ms hM hE hR hl hP
  obtain ⟨hx, hb, hml, hown, hts, hret, hlk, hnw, hnm, hK⟩ := id hM
  obtain ⟨hPP, hD, hS, hA⟩ := id hP
  obtain ⟨q0, hq0⟩ := tf_pl (f := f) ha
  rw [hf] at hq0
  exact va_lald hx hb hK hPP q0 t0 hq0 ht hin hd (kk p e R s m args below meth c H locs cells slots ls A mc ms hM hE hR hl hP)
theorem tf_aald {a n : Nat} {cA : ClassId} {C : String} {g : Nat → Option Nat} {x : Int32} (nxt t0 : Nat) (hd : decode i.2.1 pc = .ok (.aaload, 1)) (hn : pc + 1 = nxt) (ht : G.2.2.1[t0]? = some (cA, .object C)) (ha : a ∈ L) (hf : f a = .inl (cA, n, .inr (.inr (.inr (.inr g))))) (hin : vp_in x n) (kk : tf_W l G EX QB d i nxt lv (va_rf (g x.toNatClampNeg) :: st) L f kc ks) : tf_W l G EX QB d i pc lv (.int x :: .ref a :: st) L f kc ks := by
  subst hn
  intro p e R s m args below meth c H locs cells slots ls A mc ms hM hE hR hl hP
  obtain ⟨hx, hb, hml, hown, hts, hret, hlk, hnw, hnm, hK⟩ := id hM
  obtain ⟨hPP, hD, hS, hA⟩ := id hP
  obtain ⟨q0, hq0⟩ := tf_pl (f := f) ha
  rw [hf] at hq0
  exact va_aldq hx hb hK hPP q0 t0 hq0 ht hin hd (kk p e R s m args below meth c H locs cells slots ls A mc ms hM hE hR hl hP)
theorem tf_iast {a n : Nat} {cA : ClassId} {g : Nat → Int32} {x : Int32} {v : Int32} (nxt t0 : Nat) (hd : decode i.2.1 pc = .ok (.iastore, 1)) (hn : pc + 1 = nxt) (ht : G.2.2.1[t0]? = some (cA, .int)) (ha : a ∈ L) (hf : f a = .inl (cA, n, (.inl g))) (hin : vp_in x n) (kk : tf_W l G EX QB d i nxt lv st L (va_up f a (.inl (cA, n, (.inl (upd g x.toNatClampNeg v))))) kc ks) : tf_W l G EX QB d i pc lv (.int v :: .int x :: .ref a :: st) L f kc ks := by
  subst hn
  intro p e R s m args below meth c H locs cells slots ls A mc ms hM hE hR hl hP
  obtain ⟨hx, hb, hml, hown, hts, hret, hlk, hnw, hnm, hK⟩ := id hM
  obtain ⟨hPP, hD, hS, hA⟩ := id hP
  obtain ⟨q0, hq1⟩ := tf_pl (f := f) ha
  have hq0 := hq1
  rw [hf] at hq0
  have hset := tf_set (e := .inl (cA, n, (.inl (upd g x.toNatClampNeg v)))) hD ha hq1
  refine va_iast hx hb hK hPP hD hS q0 t0 hq0 ht hin hd (fun H1 locs1 p1 d1 s1 => ?_)
  rw [hset] at p1 d1
  exact kk p e R s m args below meth c H1 locs1 cells slots ls A mc ms hM hE hR hl ⟨p1, d1, s1, hA⟩
theorem tf_zast {a n : Nat} {cA : ClassId} {g : Nat → Int32} {x : Int32} {v : Int32} (nxt t0 : Nat) (hd : decode i.2.1 pc = .ok (.bastore, 1)) (hn : pc + 1 = nxt) (ht : G.2.2.1[t0]? = some (cA, .boolean)) (ha : a ∈ L) (hf : f a = .inl (cA, n, (.inl g))) (hin : vp_in x n) (kk : tf_W l G EX QB d i nxt lv st L (va_up f a (.inl (cA, n, (.inl (upd g x.toNatClampNeg (vp_nar .boolean v)))))) kc ks) : tf_W l G EX QB d i pc lv (.int v :: .int x :: .ref a :: st) L f kc ks := by
  subst hn
  intro p e R s m args below meth c H locs cells slots ls A mc ms hM hE hR hl hP
  obtain ⟨hx, hb, hml, hown, hts, hret, hlk, hnw, hnm, hK⟩ := id hM
  obtain ⟨hPP, hD, hS, hA⟩ := id hP
  obtain ⟨q0, hq1⟩ := tf_pl (f := f) ha
  have hq0 := hq1
  rw [hf] at hq0
  have hset := tf_set (e := .inl (cA, n, (.inl (upd g x.toNatClampNeg (vp_nar .boolean v))))) hD ha hq1
  refine va_zast hx hb hK hPP hD hS q0 t0 hq0 ht hin hd (fun H1 locs1 p1 d1 s1 => ?_)
  rw [hset] at p1 d1
  exact kk p e R s m args below meth c H1 locs1 cells slots ls A mc ms hM hE hR hl ⟨p1, d1, s1, hA⟩
theorem tf_bast {a n : Nat} {cA : ClassId} {g : Nat → Int32} {x : Int32} {v : Int32} (nxt t0 : Nat) (hd : decode i.2.1 pc = .ok (.bastore, 1)) (hn : pc + 1 = nxt) (ht : G.2.2.1[t0]? = some (cA, .byte)) (ha : a ∈ L) (hf : f a = .inl (cA, n, (.inl g))) (hin : vp_in x n) (kk : tf_W l G EX QB d i nxt lv st L (va_up f a (.inl (cA, n, (.inl (upd g x.toNatClampNeg (vp_nar .byte v)))))) kc ks) : tf_W l G EX QB d i pc lv (.int v :: .int x :: .ref a :: st) L f kc ks := by
  subst hn
  intro p e R s m args below meth c H locs cells slots ls A mc ms hM hE hR hl hP
  obtain ⟨hx, hb, hml, hown, hts, hret, hlk, hnw, hnm, hK⟩ := id hM
  obtain ⟨hPP, hD, hS, hA⟩ := id hP
  obtain ⟨q0, hq1⟩ := tf_pl (f := f) ha
  have hq0 := hq1
  rw [hf] at hq0
  have hset := tf_set (e := .inl (cA, n, (.inl (upd g x.toNatClampNeg (vp_nar .byte v))))) hD ha hq1
  refine va_bast hx hb hK hPP hD hS q0 t0 hq0 ht hin hd (fun H1 locs1 p1 d1 s1 => ?_)
  rw [hset] at p1 d1
  exact kk p e R s m args below meth c H1 locs1 cells slots ls A mc ms hM hE hR hl ⟨p1, d1, s1, hA⟩
theorem tf_sast {a n : Nat} {cA : ClassId} {g : Nat → Int32} {x : Int32} {v : Int32} (nxt t0 : Nat) (hd : decode i.2.1 pc = .ok (.sastore, 1)) (hn : pc + 1 = nxt) (ht : G.2.2.1[t0]? = some (cA, .short)) (ha : a ∈ L) (hf : f a = .inl (cA, n, (.inl g))) (hin : vp_in x n) (kk : tf_W l G EX QB d i nxt lv st L (va_up f a (.inl (cA, n, (.inl (upd g x.toNatClampNeg (vp_nar .short v)))))) kc ks) : tf_W l G EX QB d i pc lv (.int v :: .int x :: .ref a :: st) L f kc ks := by
  subst hn
  intro p e R s m args below meth c H locs cells slots ls A mc ms hM hE hR hl hP
  obtain ⟨hx, hb, hml, hown, hts, hret, hlk, hnw, hnm, hK⟩ := id hM
  obtain ⟨hPP, hD, hS, hA⟩ := id hP
  obtain ⟨q0, hq1⟩ := tf_pl (f := f) ha
  have hq0 := hq1
  rw [hf] at hq0
  have hset := tf_set (e := .inl (cA, n, (.inl (upd g x.toNatClampNeg (vp_nar .short v))))) hD ha hq1
  refine va_sast hx hb hK hPP hD hS q0 t0 hq0 ht hin hd (fun H1 locs1 p1 d1 s1 => ?_)
  rw [hset] at p1 d1
  exact kk p e R s m args below meth c H1 locs1 cells slots ls A mc ms hM hE hR hl ⟨p1, d1, s1, hA⟩
theorem tf_last {a n : Nat} {cA : ClassId} {g : Nat → Int64} {x : Int32} {v : Int64} (nxt t0 : Nat) (hd : decode i.2.1 pc = .ok (.lastore, 1)) (hn : pc + 1 = nxt) (ht : G.2.2.1[t0]? = some (cA, .long)) (ha : a ∈ L) (hf : f a = .inl (cA, n, (.inr (.inl g)))) (hin : vp_in x n) (kk : tf_W l G EX QB d i nxt lv st L (va_up f a (.inl (cA, n, (.inr (.inl (vp_updL g x.toNatClampNeg v)))))) kc ks) : tf_W l G EX QB d i pc lv (.long v :: .int x :: .ref a :: st) L f kc ks := by
  subst hn
  intro p e R s m args below meth c H locs cells slots ls A mc ms hM hE hR hl hP
  obtain ⟨hx, hb, hml, hown, hts, hret, hlk, hnw, hnm, hK⟩ := id hM
  obtain ⟨hPP, hD, hS, hA⟩ := id hP
  obtain ⟨q0, hq1⟩ := tf_pl (f := f) ha
  have hq0 := hq1
  rw [hf] at hq0
  have hset := tf_set (e := .inl (cA, n, (.inr (.inl (vp_updL g x.toNatClampNeg v))))) hD ha hq1
  refine va_last hx hb hK hPP hD hS q0 t0 hq0 ht hin hd (fun H1 locs1 p1 d1 s1 => ?_)
  rw [hset] at p1 d1
  exact kk p e R s m args below meth c H1 locs1 cells slots ls A mc ms hM hE hR hl ⟨p1, d1, s1, hA⟩
theorem tf_aast {a n v ci : Nat} {cA : ClassId} {r : vw_C} {vs : List Value} {g : Nat → Option Nat} {x : Int32} (nxt t0 : Nat) (hd : decode i.2.1 pc = .ok (.aastore, 1)) (hn : pc + 1 = nxt) (ht : G.2.2.1[t0]? = some (cA, .object r.1)) (ha : a ∈ L) (hf : f a = .inl (cA, n, .inr (.inr (.inr (.inr g))))) (hv : v ∈ L) (hfv : f v = .inr (ci, vs)) (hc : G.2.1[ci]? = some r) (hin : vp_in x n) (kk : tf_W l G EX QB d i nxt lv st L (va_up f a (.inl (cA, n, .inr (.inr (.inr (.inr (va_up g x.toNatClampNeg (some v)))))))) kc ks) : tf_W l G EX QB d i pc lv (.ref v :: .int x :: .ref a :: st) L f kc ks := by
  subst hn
  intro p e R s m args below meth c H locs cells slots ls A mc ms hM hE hR hl hP
  obtain ⟨hx, hb, hml, hown, hts, hret, hlk, hnw, hnm, hK⟩ := id hM
  obtain ⟨hPP, hD, hS, hA⟩ := id hP
  obtain ⟨q0, hq1⟩ := tf_pl (f := f) ha
  have hq0 := hq1
  rw [hf] at hq0
  obtain ⟨qk, hqk⟩ := tf_pl (f := f) hv
  rw [hfv] at hqk
  have hset := tf_set (e := .inl (cA, n, .inr (.inr (.inr (.inr (va_up g x.toNatClampNeg (some v))))))) hD ha hq1
  refine va_astq hx hb hK hPP hD hS q0 t0 qk ci hq0 ht hqk hc hin hd (fun H1 locs1 p1 d1 s1 => ?_)
  rw [hset] at p1 d1
  exact kk p e R s m args below meth c H1 locs1 cells slots ls A mc ms hM hE hR hl ⟨p1, d1, s1, hA⟩
theorem tf_alen {a : Nat} {cA : ClassId} {w : vp_A} {ty : FieldType} (nxt t0 : Nat) (hd : decode i.2.1 pc = .ok (.arraylength, 1)) (hn : pc + 1 = nxt) (ht : G.2.2.1[t0]? = some (cA, ty)) (ha : a ∈ L) (hf : f a = .inl (cA, w)) (kk : tf_W l G EX QB d i nxt lv (.int (nI w.1) :: st) L f kc ks) : tf_W l G EX QB d i pc lv (.ref a :: st) L f kc ks := by
  subst hn
  intro p e R s m args below meth c H locs cells slots ls A mc ms hM hE hR hl hP
  obtain ⟨hx, hb, hml, hown, hts, hret, hlk, hnw, hnm, hK⟩ := id hM
  obtain ⟨hPP, hD, hS, hA⟩ := id hP
  obtain ⟨q0, hq0⟩ := tf_pl (f := f) ha
  rw [hf] at hq0
  exact va_alen hx hb hK hPP q0 t0 hq0 ht rfl hd (kk p e R s m args below meth c H locs cells slots ls A mc ms hM hE hR hl hP)
theorem tf_room1 {d kc ks n mc ms cells slots : Nat} {R : Room} (h : tf_R d (kc + 1) (ks + n) mc ms cells slots R) : cells + 1 ≤ R.cells ∧ slots + n ≤ R.slots ∧ tf_R d kc ks mc ms (cells + 1) (slots + n) R := by
  obtain ⟨h1, h2, h3, h4, h5, h6⟩ := h
  exact ⟨by omega, by omega, h1, h2, by omega, by omega, h5, h6⟩
theorem tf_new {ix ci N : Nat} {fs : List Value} (nxt : Nat) (hd : decode i.2.1 pc = .ok (.new ix, 3)) (hn : pc + 3 = nxt) (hF : tf_nl G i.1.cls ix ci N fs) (kk : ∀ q, q ∉ L → tf_W l G EX QB d i nxt lv (.ref q :: st) (L ++ [q]) (va_up f q (.inr (ci, fs))) kc ks) : tf_W l G EX QB d i pc lv st L f (kc + 1) (ks + N) := by
  subst hn
  intro p e R s m args below meth c H locs cells slots ls A mc ms hM hE hR hl hP
  obtain ⟨hx, hb, hml, hown, hts, hret, hlk, hnw, hnm, hK⟩ := id hM
  obtain ⟨hPP, hD, hS, hA⟩ := id hP
  obtain ⟨C, T, ty, hc, hin, hty, h1, h2, h3, hfs⟩ := hF
  obtain ⟨r1, r2, r3⟩ := tf_room1 hR
  refine va_new hx hb hts hin ty hty hown (hts _ h1) (hts _ h2) (hts _ h3) hK hPP hD hS hA hc hfs r1 r2 hd (fun q H1 p1 d1 s1 => ?_)
  have hq : q ∉ L := va_pl_fresh2 (X := []) d1
  rw [va_pl_push hq] at p1 d1
  exact kk q hq p e R s m args below meth c H1 locs (cells + 1) (slots + N) ls A mc ms hM hE r3 hl ⟨p1, d1, s1, hA⟩
theorem tf_RA {s : State} {c1 c2 : ClassId} {ty : FieldType} (h1 : va_RA s c1 ty) (h2 : va_RA s c2 ty) : c1 = c2 := by
  cases ty <;> simp only [va_RA] at h1 h2
  all_goals first
    | exact Option.some.inj (h1.symm.trans h2)
    | (obtain ⟨_, _, _, _, _, h1⟩ := h1
       obtain ⟨_, _, _, _, _, h2⟩ := h2
       exact Option.some.inj (h1.symm.trans h2))
theorem tf_lastT {tys : List (ClassId × FieldType)} {D : va_G} {cl : List vw_C} {s : State} {cA cB : ClassId} {ty : FieldType} {t0 : Nat} (h : va_K D cl tys s) (ht : tys[t0]? = some (cA, ty)) (h2 : va_K D cl (tys ++ [(cB, ty)]) s) : cB = cA := by
  have a1 := (h.2 t0 _ ht).2
  have a2 := (h2.2 tys.length (cB, ty) (by simp)).2
  exact tf_RA a2 a1
theorem tf_newa {n : Int32} {N : Nat} {atype : ArrayType} {ty : FieldType} {cA : ClassId} {a0 : vp_A} (nxt t0 : Nat) (hd : decode i.2.1 pc = .ok (.newarray atype, 2)) (hn : pc + 2 = nxt) (hty : newarray.typeOf atype = ty) (hw : Cond.arrayClass (newarray.typeOf atype) ∈ G.2.2.2.1) (ht : G.2.2.1[t0]? = some (cA, ty)) (h0 : ¬ n < 0) (hN : n.toNatClampNeg = N) (hby : N * componentBytes ty ≤ 536870912) (ha : ∀ cA : ClassId, vp_cell cA a0 = arrV cA N (fun _ => defaultValue ty)) (kk : ∀ q, q ∉ L → tf_W l G EX QB d i nxt lv (.ref q :: st) (L ++ [q]) (va_up f q (.inl (cA, a0))) kc ks) : tf_W l G EX QB d i pc lv (.int n :: st) L f (kc + 1) (ks + N) := by
  subst hn
  intro p e R s m args below meth c H locs cells slots ls A mc ms hM hE hR hl hP
  obtain ⟨hx, hb, hml, hown, hts, hret, hlk, hnw, hnm, hK⟩ := id hM
  obtain ⟨hPP, hD, hS, hA⟩ := id hP
  obtain ⟨r1, r2, r3⟩ := tf_room1 hR
  refine va_newa hx hb (hts _ hw) hty hK hPP hD hS hA ha h0 hN hby r1 r2 hd (fun q cB H1 k1 p1 d1 s1 => ?_)
  have hc := tf_lastT hK ht k1
  subst hc
  have hq : q ∉ L := va_pl_fresh2 (X := []) d1
  rw [va_pl_push hq] at p1 d1
  exact kk q hq p e R s m args below meth c H1 locs (cells + 1) (slots + N) ls A mc ms hM hE r3 hl ⟨p1, d1, s1, hA⟩
theorem tf_newq {n : Int32} {N ix : Nat} {C : String} {cA : ClassId} (nxt t0 : Nat) (hd : decode i.2.1 pc = .ok (.anewarray ix, 3)) (hn : pc + 3 = nxt) (hw : Cond.classLink i.1.cls ix C ∈ G.2.2.2.1) (hao : Cond.arrayOver (.object C) ∈ G.2.2.2.2) (ht : G.2.2.1[t0]? = some (cA, .object C)) (h0 : ¬ n < 0) (hN : n.toNatClampNeg = N) (hby : N * 4 ≤ 536870912) (kk : ∀ q, q ∉ L → tf_W l G EX QB d i nxt lv (.ref q :: st) (L ++ [q]) (va_up f q (.inl (cA, N, .inr (.inr (.inr (.inr (fun _ => none))))))) kc ks) : tf_W l G EX QB d i pc lv (.int n :: st) L f (kc + 1) (ks + N) := by
  subst hn
  intro p e R s m args below meth c H locs cells slots ls A mc ms hM hE hR hl hP
  obtain ⟨hx, hb, hml, hown, hts, hret, hlk, hnw, hnm, hK⟩ := id hM
  obtain ⟨hPP, hD, hS, hA⟩ := id hP
  obtain ⟨r1, r2, r3⟩ := tf_room1 hR
  refine va_newq hx hb hown (hts _ hw) (hnw _ hao) hK hPP hD hS hA h0 hN hby r1 r2 hd (fun q cB H1 k1 p1 d1 s1 => ?_)
  have hc := tf_lastT hK ht k1
  subst hc
  have hq : q ∉ L := va_pl_fresh2 (X := []) d1
  rw [va_pl_push hq] at p1 d1
  exact kk q hq p e R s m args below meth c H1 locs (cells + 1) (slots + N) ls A mc ms hM hE r3 hl ⟨p1, d1, s1, hA⟩
end
end
section
abbrev tf_O : Type := Option Value → List Nat → tf_F → Prop
theorem tf_nk_moved {w : Cond} (h : tf_nk w = true) {s U : State} (hW : s.WarmedH U.vm) (hw : va_Nw w s) : va_Nw w U := by
  unfold tf_nk at h
  split at h
  · exact va_Nw.warmF hW hw
  · exact va_Nw.warmM hW hw
  · exact va_AO.moved hW.alike hw
  · cases h
theorem tf_nk_same {w : Cond} (h : tf_nk w = true) {s U : State} (hv : s.vm = U.vm) (hw : va_Nw w s) : va_Nw w U := by
  unfold tf_nk at h
  split at h
  · exact va_Nw.same rfl hv hw
  · exact va_Nw.same rfl hv hw
  · exact va_AO.moved (by rw [hv]; exact Vm.Alike.refl _) hw
  · cases h
/-- the words of a claim are good ones -/
def tf_ok (G : tf_G) : Prop := (∀ w ∈ G.2.2.2.1, goodWord w = true) ∧ ∀ w ∈ G.2.2.2.2, tf_nk w = true
def tf_A (L : List Nat) (sz : Nat) : Nat → Prop := fun q => q ∈ L ∨ sz ≤ q
def tf_Q (G : tf_G) (Φ : tf_O) (A : Nat → Prop) : Array Value → State → Outcome → State → Prop := fun _ st oc t =>
  ∃ (v : Option Value) (L : List Nat) (f : tf_F), oc = .returned v ∧ Φ v L f ∧ va_P G.1 G.2.1 (va_pl L f) t.heap ∧ va_D A (va_pl L f) ∧ va_F A st t
def tf_QM (G : tf_G) (Φ : tf_O) : tf_B := fun below args s mc ms A => MQ below (tf_Q G Φ A) args s mc ms A
abbrev tf_T (s : State) (A : Nat → Prop) : Prop := True
/-- a method's start: the pool, the tables -/
def tf_S (G : tf_G) (L : List Nat) (f : tf_F) (sz : Nat) (U : State) : Prop := U.heap.size = sz ∧ va_P G.1 G.2.1 (va_pl L f) U.heap ∧ va_K G.1 G.2.1 G.2.2.1 U ∧ va_D (fun _ => True) (va_pl L f) ∧ ∀ w ∈ G.2.2.2.2, va_Nw w U
abbrev tf_ws (G : tf_G) (i : tf_I) : List Cond := .code i.1 i.2.1 i.2.2.1 i.2.2.2 :: G.2.2.2.1
abbrev tf_rm (d mc ms : Nat) : Room := { frames := d, cells := mc, slots := ms, locals := 64 * d }
/-- A METHOD'S CONTRACT over the pool: from the arguments av and the pool (L, f) it returns with Φ; at most mc cells of ms slots are made, d frames entered -/
def tf_C (l : Launch) (G : tf_G) (d : Nat) (i : tf_I) (av : List Value) (L : List Nat) (f : tf_F) (mc ms : Nat) (Φ : tf_O) : Prop :=
  ∀ sz : Nat, Met l i.1 (tf_ws G i) (tf_rm d mc ms) (va_Pc av (tf_S G L f sz)) (tf_Q G Φ (tf_A L sz)) mc ms (tf_A L sz)
section
variable {l : Launch} {G : tf_G} {EX : State → (Nat → Prop) → Prop} {QB : tf_B} {d : Nat} {i : tf_I} {pc : Nat} {lv lv2 : tf_V} {st st2 : List Value} {L : List Nat} {f : tf_F} {kc ks : Nat} {Φ : tf_O}
theorem tf_D_A {A : Nat → Prop} (h : va_D A (va_pl L f)) {q : Nat} (hq : q ∈ L) : A q := by
  obtain ⟨k, hk⟩ := tf_pl (f := f) hq
  exact h.2 k _ hk
theorem tf_D_self {A : Nat → Prop} {sz : Nat} (h : va_D A (va_pl L f)) : va_D (tf_A L sz) (va_pl L f) := by
  refine ⟨h.1, fun k q hk => Or.inl ?_⟩
  have := List.mem_of_getElem? hk
  obtain ⟨a, ha, e⟩ := List.mem_map.mp this
  rw [← e]
  exact ha
theorem tf_C.of (hG : tf_ok G) {av : List Value} {mc ms : Nat} (hy : plainName i.1.cls = true) (hc : Cond.code i.1 i.2.1 i.2.2.1 i.2.2.2 ∈ G.2.2.2.1) (hs : (lg_sl av).length ≤ i.2.2.1) (h : tf_W l G tf_T (tf_QM G Φ) d i 0 (lv_args 0 av) [] L f mc ms) : tf_C l G d i av L f mc ms Φ := by
  intro sz
  refine Met.ofW (cc := i.2.1) (maxL := i.2.2.1) (ret := i.2.2.2) hy rfl ?_
  intro p e s m args below meth c s₁ B hml hv
  obtain ⟨rfl, hsz, hP, hK, hD, hnw⟩ := hv
  have hts : ∀ w ∈ G.2.2.2.1, w.before av.toArray s = true := fun w hw => atoms_spec (ws := tf_ws G i) B.pre w (List.mem_cons_of_mem _ hw)
  have hnm : meth.name = i.1.name := (name_of_methodNamed B.named B.method).1
  subst hsz
  have hl := lv_entry av (n := i.2.2.1) hs
  rw [lg_entry_eq]
  exact h p e _ s m av.toArray below meth c s.heap [] 0 0 _ (tf_A L s.heap.size) mc ms ⟨B.exec, B.bytes, hml, findClass_of_methodNamed B.named, hts, B.returns, B.notSynchronized, hnw, hnm, hK⟩ trivial
    ⟨Nat.le_refl _, Nat.le_refl _, by omega, by omega, Nat.le_refl _, Nat.le_refl _⟩ hl ⟨hP, tf_D_self hD, va_S.rf, fun q h => Or.inr h⟩
/-- ends -/
theorem tf_iret {x : Int32} (hd : decode i.2.1 pc = .ok (.ireturn, 1)) (hr : i.2.2.2 = some .int) (h : Φ (some (.int x)) L f) : tf_W l G EX (tf_QM G Φ) d i pc lv [.int x] L f kc ks := by
  intro p e R s m args below meth c H locs cells slots ls A mc ms hM hE hR hl hP
  obtain ⟨hx, hb, hml, hown, hts, hret, hlk, hnw, hnm, hK⟩ := id hM
  obtain ⟨hPP, hD, hS, hA⟩ := id hP
  have r1 := hR.2.2.1
  have r2 := hR.2.2.2.1
  refine W.widen (k := mc) (n := ms) (by omega) (by omega) ?_
  exact W.iret hx hb (hret.trans hr) (fun t ht hW => ⟨_, L, f, rfl, h, by rw [ht]; exact hPP, hD, hS.F ht⟩) hS.2.2 hd hlk
theorem tf_zret {x : Int32} {ty : FieldType} (hd : decode i.2.1 pc = .ok (.ireturn, 1)) (hr : i.2.2.2 = some ty) (hz : narrow ty (.int x) = .int x) (h : Φ (some (.int x)) L f) : tf_W l G EX (tf_QM G Φ) d i pc lv [.int x] L f kc ks := by
  intro p e R s m args below meth c H locs cells slots ls A mc ms hM hE hR hl hP
  obtain ⟨hx, hb, hml, hown, hts, hret, hlk, hnw, hnm, hK⟩ := id hM
  obtain ⟨hPP, hD, hS, hA⟩ := id hP
  have r1 := hR.2.2.1
  have r2 := hR.2.2.2.1
  refine W.widen (k := mc) (n := ms) (by omega) (by omega) ?_
  exact W.zret hx hb (hret.trans hr) hz (fun t ht hW => ⟨_, L, f, rfl, h, by rw [ht]; exact hPP, hD, hS.F ht⟩) hS.2.2 hd hlk
theorem tf_lret {x : Int64} (hd : decode i.2.1 pc = .ok (.lreturn, 1)) (hr : i.2.2.2 = some .long) (h : Φ (some (.long x)) L f) : tf_W l G EX (tf_QM G Φ) d i pc lv [.long x] L f kc ks := by
  intro p e R s m args below meth c H locs cells slots ls A mc ms hM hE hR hl hP
  obtain ⟨hx, hb, hml, hown, hts, hret, hlk, hnw, hnm, hK⟩ := id hM
  obtain ⟨hPP, hD, hS, hA⟩ := id hP
  have r1 := hR.2.2.1
  have r2 := hR.2.2.2.1
  refine W.widen (k := mc) (n := ms) (by omega) (by omega) ?_
  exact W.lret hx hb (hret.trans hr) (fun t ht hW => ⟨_, L, f, rfl, h, by rw [ht]; exact hPP, hD, hS.F ht⟩) hS.2.2 hd hlk
theorem tf_vret (hd : decode i.2.1 pc = .ok (.return_, 1)) (hr : i.2.2.2 = none) (h : Φ none L f) : tf_W l G EX (tf_QM G Φ) d i pc lv [] L f kc ks := by
  intro p e R s m args below meth c H locs cells slots ls A mc ms hM hE hR hl hP
  obtain ⟨hx, hb, hml, hown, hts, hret, hlk, hnw, hnm, hK⟩ := id hM
  obtain ⟨hPP, hD, hS, hA⟩ := id hP
  have r1 := hR.2.2.1
  have r2 := hR.2.2.2.1
  refine W.widen (k := mc) (n := ms) (by omega) (by omega) ?_
  exact W.vret hx hb (hret.trans hr) (fun t ht hW => ⟨_, L, f, rfl, h, by rw [ht]; exact hPP, hD, hS.F ht⟩) hS.2.2 hd hlk
theorem tf_aret {v : Value} {rt : FieldType} (hd : decode i.2.1 pc = .ok (.areturn, 1)) (hr : i.2.2.2 = some rt) (hrt : (∃ n, rt = .object n) ∨ ∃ t, rt = .array t) (hv : v = .null ∨ ∃ a, v = .ref a) (h : Φ (some v) L f) : tf_W l G EX (tf_QM G Φ) d i pc lv [v] L f kc ks := by
  intro p e R s m args below meth c H locs cells slots ls A mc ms hM hE hR hl hP
  obtain ⟨hx, hb, hml, hown, hts, hret, hlk, hnw, hnm, hK⟩ := id hM
  obtain ⟨hPP, hD, hS, hA⟩ := id hP
  have r1 := hR.2.2.1
  have r2 := hR.2.2.2.1
  refine W.widen (k := mc) (n := ms) (by omega) (by omega) ?_
  exact W.aret hx hb (hret.trans hr) hrt hv (fun t ht hW => ⟨_, L, f, rfl, h, by rw [ht]; exact hPP, hD, hS.F ht⟩) hS.2.2 hd hlk
/-- Object's constructor -/
theorem tf_obj {ix a : Nat} (nxt : Nat) (hd : decode i.2.1 pc = .ok (.invokespecial ix, 3)) (hn : pc + 3 = nxt) (h1 : Cond.methodLink i.1.cls ix Lib.objectInit ∈ G.2.2.2.1) (h2 : Cond.instanceMethod Lib.objectInit ∈ G.2.2.2.1) (h3 : Cond.code Lib.objectInit ⟨#[0xb1]⟩ 1 none ∈ G.2.2.2.1) (hd0 : 1 ≤ d) (hst : (st.map fun v => v.category).sum ≤ 8) (kk : tf_W l G EX QB d i nxt lv st L f kc ks) : tf_W l G EX QB d i pc lv (.ref a :: st) L f kc ks := by
  subst hn
  intro p e R s m args below meth c H locs cells slots ls A mc ms hM hE hR hl hP
  obtain ⟨hx, hb, hml, hown, hts, hret, hlk, hnw, hnm, hK⟩ := id hM
  obtain ⟨hPP, hD, hS, hA⟩ := id hP
  have r1 := hR.1
  have r2 := hR.2.1
  exact W.objInit hx hb hown (hts _ h1) (hts _ h2) (hts _ h3) rfl (by rw [hml]; exact hl.1) rfl hd (by omega) (by have := lv_room (m := m) (pc := pc) (ls := ls) (rest := .ref a :: st) hst; omega) (kk p e R s m args below meth c H locs cells slots ls A mc ms hM hE hR hl hP)
/-- behind a call -/
theorem tf_goes {p : Program} {e : Env} {R : Room} {s : State} {m : MethodId} {args : Array Value} {below : List Frame} {meth : Method} {c : Code} {H : Heap} {locs : List Loc} {cells slots mc ms : Nat} {Q : State → Prop} {ls : Array Slot} {A : Nat → Prop} {st0 rest : List Value} {a : Array Value}
    (hr : va_Run p l e R s m args below meth c H locs cells slots mc ms (F0 m pc ls st0) rest (tf_Q G Φ (tf_A L H.size) a) (tf_A L H.size)) (hP : tf_P G L f A s H locs)
    (kk : ∀ (v : Option Value) (L2 : List Nat) (f2 : tf_F) (H1 : Heap) (locs1 : List Loc), Φ v L2 f2 → tf_P G L2 f2 A s H1 locs1 → W p l e R s m args below meth c H1 locs1 (cells + mc) (slots + ms) Q (F0 m (pc + 3) ls (v.toList ++ rest))) :
    W p l e R s m args below meth c H locs cells slots Q (F0 m pc ls st0) := by
  intro T hT X
  obtain ⟨hPP, hD, hS, hA⟩ := hP
  have hsub : ∀ q, tf_A L H.size q → A q := fun q h => h.elim (fun h => tf_D_A hD h) (fun h => hA q (Nat.le_trans hS.1 h))
  obtain ⟨v, st₀, t, T', Ls, h0, X', hL, e1, e2, ⟨v2, L2, f2, hv, hΦ, hP1, hD1, hF⟩, st⟩ := hr T hT X
  cases hv
  obtain ⟨hz, hk⟩ := hF
  rw [h0] at hz hk
  obtain ⟨t2, a1, b1⟩ := kk v L2 f2 T'.heap (locs ++ Ls) hΦ ⟨by rw [e1]; exact hP1, ⟨hD1.1, fun k q hkq => hsub _ (hD1.2 k q hkq)⟩,
    ⟨Nat.le_trans hS.1 (by rw [e1]; exact hz), fun q h1 h2 => by rw [e1, hk q (Nat.lt_of_lt_of_le h1 hS.1) (fun z => h2 (hsub q z))]; exact hS.2.1 q h1 h2, fun q hq => by
      rcases List.mem_append.mp hq with h | h
      · exact hS.2.2 q h
      · exact hsub _ (hL q h)⟩, hA⟩ T' rfl X'
  exact ⟨t2, st t2 a1, b1⟩
theorem tf_ws_ok (hG : tf_ok G) {s : State} {args : Array Value} {j : tf_I} (hts : ∀ w ∈ G.2.2.2.1, w.before args s = true) (hc : Cond.code j.1 j.2.1 j.2.2.1 j.2.2.2 ∈ G.2.2.2.1) : ∀ w ∈ tf_ws G j, ∀ (a' : Array Value) (U : State), s.WarmedH U.vm → w.before a' U = true := by
  intro w hw a' U hW
  have hm : w ∈ G.2.2.2.1 := by
    rcases List.mem_cons.mp hw with h | h
    · rw [h]; exact hc
    · exact h
  exact word_at hW (good_of_word (hG.1 w hm)) (hts w hm)
theorem tf_pre (hG : tf_ok G) {s : State} {H : Heap} {A : Nat → Prop} {av : List Value} (hK : va_K G.1 G.2.1 G.2.2.1 s) (hnw : ∀ w ∈ G.2.2.2.2, va_Nw w s) (hP : va_P G.1 G.2.1 (va_pl L f) H) (hD : va_D A (va_pl L f)) : PreS s H (va_Pc av (tf_S G L f H.size)) av :=
  ⟨fun a U g mk q => by
    obtain ⟨q0, q1, q2, q3, q4, q5⟩ := q
    exact ⟨q0, q1, q2, va_K.moved (u := U) (U := U.calling g mk a) (Vm.Alike.refl U.vm) q3, q4, fun w hw => tf_nk_same (s := U) (U := U.calling g mk a) (hG.2 w hw) rfl (q5 w hw)⟩,
   fun U hU hW => ⟨rfl, by rw [hU], by rw [hU]; exact hP, va_K.moved hW.alike hK, ⟨hD.1, fun _ _ _ => trivial⟩, fun w hw => tf_nk_moved (hG.2 w hw) hW (hnw w hw)⟩⟩
/-- a callee's words at a call -/
def tf_cw (G : tf_G) (j : tf_I) (n : Nat) : Prop := Cond.code j.1 j.2.1 j.2.2.1 j.2.2.2 ∈ G.2.2.2.1 ∧ Cond.initialized j.1.cls ∈ G.2.2.2.1 ∧ (j.1.cls ≠ "java/lang/invoke/MethodHandle" ∧ j.1.cls ≠ "java/lang/invoke/VarHandle") ∧ (parseMethodDescriptor j.1.desc).map (fun d => d.parameters.length) = some n ∧ j.2.2.1 ≤ 45
def tf_lkM (G : tf_G) (own : String) (ix : Nat) (y : MethodName) : Prop := Cond.methodLink own ix y ∈ G.2.2.2.1
def tf_lkN (G : tf_G) (own : String) (ix : Nat) (y : MethodName) : Prop := ∃ host, Cond.methodLinkNest own ix y host ∈ G.2.2.2.2
theorem tf_callB (hG : tf_ok G) {R : Room} {s : State} {args : Array Value} {own : String} {ix d2 mc ms n kc ks mc0 ms0 cells slots : Nat} {j : tf_I} (hj : tf_cw G j n) (hd2 : d2 + 1 ≤ d) (hR : tf_R d kc ks mc0 ms0 cells slots R) (hts : ∀ w ∈ G.2.2.2.1, w.before args s = true) (hl : (Cond.methodLink own ix j.1).before args s = true) : CallB R s args own ix j.1 j.2.1 j.2.2.1 j.2.2.2 (tf_ws G j) (tf_rm d2 mc ms) mc ms n := by
  obtain ⟨hc, hi, hy, hp, hm⟩ := hj
  have r1 := hR.1
  have r2 := hR.2.1
  refine ⟨rfl, rfl, ?_, ?_, tf_ws_ok hG hts hc, List.mem_cons_self, hts _ hc, hts _ hi, hy, fun sig h => ?_, hl⟩
  · show d2 + 1 ≤ R.frames
    omega
  · show 8 + (j.2.2.1 + 11) + 64 * d2 ≤ R.locals
    omega
  · rw [h] at hp
    exact (Option.some.inj hp).symm
theorem tf_callN (hG : tf_ok G) {R : Room} {s : State} {args : Array Value} {own host : String} {ix d2 mc ms n kc ks mc0 ms0 cells slots : Nat} {j : tf_I} (hj : tf_cw G j n) (hd2 : d2 + 1 ≤ d) (hR : tf_R d kc ks mc0 ms0 cells slots R) (hts : ∀ w ∈ G.2.2.2.1, w.before args s = true) (hl : (Cond.methodLinkNest own ix j.1 host).before args s = true) : va_CN R s args own ix j.1 host j.2.1 j.2.2.1 j.2.2.2 (tf_ws G j) (tf_rm d2 mc ms) mc ms n := by
  obtain ⟨hc, hi, hy, hp, hm⟩ := hj
  have r1 := hR.1
  have r2 := hR.2.1
  refine ⟨⟨rfl, rfl, ?_, ?_, tf_ws_ok hG hts hc, List.mem_cons_self⟩, hts _ hc, hts _ hi, hy, fun sig h => ?_, hl⟩
  · show d2 + 1 ≤ R.frames
    omega
  · show 8 + (j.2.2.1 + 11) + 64 * d2 ≤ R.locals
    omega
  · rw [h] at hp
    exact (Option.some.inj hp).symm
theorem tf_room2 {d kc ks k2 s2 mc ms cells slots : Nat} {R : Room} (h : tf_R d (kc + k2) (ks + s2) mc ms cells slots R) : (cells + k2 ≤ R.cells ∧ slots + s2 ≤ R.slots) ∧ tf_R d kc ks mc ms (cells + k2) (slots + s2) R := by
  obtain ⟨h1, h2, h3, h4, h5, h6⟩ := h
  exact ⟨⟨by omega, by omega⟩, h1, h2, by omega, by omega, h5, h6⟩
theorem tf_callS (hG : tf_ok G) {ix d2 n k2 s2 : Nat} {j : tf_I} {As : List Value} {Ψ : tf_O} (nxt : Nat) (hd : decode i.2.1 pc = .ok (.invokestatic ix, 3)) (hn : pc + 3 = nxt) (hlk0 : tf_lkM G i.1.cls ix j.1) (hj : tf_cw G j n) (hAs : As.length = n) (hsta : Cond.static j.1 ∈ G.2.2.2.1) (hd2 : d2 + 1 ≤ d) (hst : (st.map fun v => v.category).sum ≤ 8) (hsk : st2 = As.reverse ++ st) (hC : tf_C l G d2 j As L f k2 s2 Ψ)
    (kk : ∀ (v : Option Value) (L2 : List Nat) (f2 : tf_F), Ψ v L2 f2 → tf_W l G EX QB d i nxt lv (v.toList ++ st) L2 f2 kc ks) : tf_W l G EX QB d i pc lv st2 L f (kc + k2) (ks + s2) := by
  subst hn
  subst hsk
  intro p e R s m args below meth c H locs cells slots ls A mc ms hM hE hR hl hP
  obtain ⟨hx, hb, hml, hown, hts, hret, hlk, hnw, hnm, hK⟩ := id hM
  obtain ⟨hPP, hD, hS, hA⟩ := id hP
  obtain ⟨r1, r2⟩ := tf_room2 hR
  refine tf_goes (Φ := Ψ) (a := As.toArray) (va_runS ⟨hx, hb, hml, hown, hts⟩ (hC H.size) ⟨tf_callB hG hj hd2 hR hts (hts _ hlk0), hts _ hsta⟩ (tf_pre hG hK hnw hPP hD) rfl hAs hl.1 rfl (lv_room hst) hd r1) hP (fun v L2 f2 H1 locs1 hΦ hP1 => ?_)
  exact kk v L2 f2 hΦ p e R s m args below meth c H1 locs1 (cells + k2) (slots + s2) ls A mc ms hM hE r2 hl hP1
theorem tf_callSN (hG : tf_ok G) {ix d2 n k2 s2 : Nat} {j : tf_I} {As : List Value} {Ψ : tf_O} (nxt : Nat) (hd : decode i.2.1 pc = .ok (.invokestatic ix, 3)) (hn : pc + 3 = nxt) (hlk0 : tf_lkN G i.1.cls ix j.1) (hj : tf_cw G j n) (hAs : As.length = n) (hsta : Cond.static j.1 ∈ G.2.2.2.1) (hd2 : d2 + 1 ≤ d) (hst : (st.map fun v => v.category).sum ≤ 8) (hsk : st2 = As.reverse ++ st) (hC : tf_C l G d2 j As L f k2 s2 Ψ)
    (kk : ∀ (v : Option Value) (L2 : List Nat) (f2 : tf_F), Ψ v L2 f2 → tf_W l G EX QB d i nxt lv (v.toList ++ st) L2 f2 kc ks) : tf_W l G EX QB d i pc lv st2 L f (kc + k2) (ks + s2) := by
  subst hn
  subst hsk
  intro p e R s m args below meth c H locs cells slots ls A mc ms hM hE hR hl hP
  obtain ⟨hx, hb, hml, hown, hts, hret, hlk, hnw, hnm, hK⟩ := id hM
  obtain ⟨hPP, hD, hS, hA⟩ := id hP
  obtain ⟨r1, r2⟩ := tf_room2 hR
  obtain ⟨host, hlk1⟩ := hlk0
  refine tf_goes (Φ := Ψ) (a := As.toArray) (va_runSN ⟨hx, hb, hml, hown, hts⟩ (hC H.size) ⟨tf_callN hG hj hd2 hR hts (va_Nw.use rfl (hnw _ hlk1)), hts _ hsta, trivial⟩ (tf_pre hG hK hnw hPP hD) rfl hAs hl.1 rfl (lv_room hst) hd r1) hP (fun v L2 f2 H1 locs1 hΦ hP1 => ?_)
  exact kk v L2 f2 hΦ p e R s m args below meth c H1 locs1 (cells + k2) (slots + s2) ls A mc ms hM hE r2 hl hP1
theorem tf_callI (hG : tf_ok G) {ix d2 n k2 s2 a : Nat} {y : MethodName} {cc0 : ByteArray} {nL0 : Nat} {As : List Value} {Ψ : tf_O} (nxt : Nat) (hd : decode i.2.1 pc = .ok (.invokespecial ix, 3)) (hn : pc + 3 = nxt) (hlk0 : tf_lkM G i.1.cls ix y) (hj : tf_cw G (y, cc0, nL0, none) n) (hAs : As.length = n) (hin : Cond.instanceMethod y ∈ G.2.2.2.1) (hini : y.name = "<init>") (hd2 : d2 + 1 ≤ d) (hst : (st.map fun v => v.category).sum ≤ 8) (hsk : st2 = As.reverse ++ .ref a :: st) (hC : tf_C l G d2 (y, cc0, nL0, none) (.ref a :: As) L f k2 s2 Ψ)
    (kk : ∀ (v : Option Value) (L2 : List Nat) (f2 : tf_F), Ψ v L2 f2 → tf_W l G EX QB d i nxt lv (v.toList ++ st) L2 f2 kc ks) : tf_W l G EX QB d i pc lv st2 L f (kc + k2) (ks + s2) := by
  subst hn
  subst hsk
  intro p e R s m args below meth c H locs cells slots ls A mc ms hM hE hR hl hP
  obtain ⟨hx, hb, hml, hown, hts, hret, hlk, hnw, hnm, hK⟩ := id hM
  obtain ⟨hPP, hD, hS, hA⟩ := id hP
  obtain ⟨r1, r2⟩ := tf_room2 hR
  refine tf_goes (Φ := Ψ) (a := (Value.ref a :: As).toArray) (va_runI ⟨hx, hb, hml, hown, hts⟩ (hC H.size) ⟨tf_callB hG hj hd2 hR hts (hts _ hlk0), hini, hts _ hin⟩ (tf_pre hG hK hnw hPP hD) rfl hAs hl.1 rfl (lv_room hst) hd r1) hP (fun v L2 f2 H1 locs1 hΦ hP1 => ?_)
  exact kk v L2 f2 hΦ p e R s m args below meth c H1 locs1 (cells + k2) (slots + s2) ls A mc ms hM hE r2 hl hP1
theorem tf_callIN (hG : tf_ok G) {ix d2 n k2 s2 a : Nat} {y : MethodName} {cc0 : ByteArray} {nL0 : Nat} {As : List Value} {Ψ : tf_O} (nxt : Nat) (hd : decode i.2.1 pc = .ok (.invokespecial ix, 3)) (hn : pc + 3 = nxt) (hlk0 : tf_lkN G i.1.cls ix y) (hj : tf_cw G (y, cc0, nL0, none) n) (hAs : As.length = n) (hin : Cond.instanceMethod y ∈ G.2.2.2.1) (hini : y.name = "<init>") (hd2 : d2 + 1 ≤ d) (hst : (st.map fun v => v.category).sum ≤ 8) (hsk : st2 = As.reverse ++ .ref a :: st) (hC : tf_C l G d2 (y, cc0, nL0, none) (.ref a :: As) L f k2 s2 Ψ)
    (kk : ∀ (v : Option Value) (L2 : List Nat) (f2 : tf_F), Ψ v L2 f2 → tf_W l G EX QB d i nxt lv (v.toList ++ st) L2 f2 kc ks) : tf_W l G EX QB d i pc lv st2 L f (kc + k2) (ks + s2) := by
  subst hn
  subst hsk
  intro p e R s m args below meth c H locs cells slots ls A mc ms hM hE hR hl hP
  obtain ⟨hx, hb, hml, hown, hts, hret, hlk, hnw, hnm, hK⟩ := id hM
  obtain ⟨hPP, hD, hS, hA⟩ := id hP
  obtain ⟨r1, r2⟩ := tf_room2 hR
  obtain ⟨host, hlk1⟩ := hlk0
  refine tf_goes (Φ := Ψ) (a := (Value.ref a :: As).toArray) (va_runIN ⟨hx, hb, hml, hown, hts⟩ (hC H.size) ⟨tf_callN hG hj hd2 hR hts (va_Nw.use rfl (hnw _ hlk1)), hini, hts _ hin⟩ (tf_pre hG hK hnw hPP hD) rfl hAs hl.1 rfl (lv_room hst) hd r1) hP (fun v L2 f2 H1 locs1 hΦ hP1 => ?_)
  exact kk v L2 f2 hΦ p e R s m args below meth c H1 locs1 (cells + k2) (slots + s2) ls A mc ms hM hE r2 hl hP1
theorem tf_callV (hG : tf_ok G) {ix d2 n k2 s2 a : Nat} {j : tf_I} {As : List Value} {Ψ : tf_O} (nxt : Nat) (hd : decode i.2.1 pc = .ok (.invokevirtual ix, 3)) (hn : pc + 3 = nxt) (hlk0 : tf_lkM G i.1.cls ix j.1) (hj : tf_cw G j n) (hAs : As.length = n) (hin : Cond.instanceMethod j.1 ∈ G.2.2.2.1) (hse : Cond.selects j.1.cls j.1 j.1 ∈ G.2.2.2.1) {ci : Nat} {r : vw_C} {fs : List Value} (ha : a ∈ L) (hf : f a = .inr (ci, fs)) (hci : G.2.1[ci]? = some r) (hcl : r.1 = j.1.cls) (hd2 : d2 + 1 ≤ d) (hst : (st.map fun v => v.category).sum ≤ 8) (hsk : st2 = As.reverse ++ .ref a :: st) (hC : tf_C l G d2 j (.ref a :: As) L f k2 s2 Ψ)
    (kk : ∀ (v : Option Value) (L2 : List Nat) (f2 : tf_F), Ψ v L2 f2 → tf_W l G EX QB d i nxt lv (v.toList ++ st) L2 f2 kc ks) : tf_W l G EX QB d i pc lv st2 L f (kc + k2) (ks + s2) := by
  subst hn
  subst hsk
  intro p e R s m args below meth c H locs cells slots ls A mc ms hM hE hR hl hP
  obtain ⟨hx, hb, hml, hown, hts, hret, hlk, hnw, hnm, hK⟩ := id hM
  obtain ⟨hPP, hD, hS, hA⟩ := id hP
  obtain ⟨r1, r2⟩ := tf_room2 hR
  obtain ⟨q0, hq0⟩ := tf_pl (f := f) ha
  rw [hf] at hq0
  have hrc := va_recv hK hPP hci hq0
  rw [hcl] at hrc
  refine tf_goes (Φ := Ψ) (a := (Value.ref a :: As).toArray) (va_runV ⟨hx, hb, hml, hown, hts⟩ (hC H.size) ⟨tf_callB hG hj hd2 hR hts (hts _ hlk0), hts _ hin, hts _ hse⟩ ⟨(tf_pre (av := .ref a :: As) hG hK hnw hPP hD).1, hrc, (tf_pre (av := .ref a :: As) hG hK hnw hPP hD).2⟩ rfl hAs hl.1 rfl (lv_room hst) hd r1) hP (fun v L2 f2 H1 locs1 hΦ hP1 => ?_)
  exact kk v L2 f2 hΦ p e R s m args below meth c H1 locs1 (cells + k2) (slots + s2) ls A mc ms hM hE r2 hl hP1
theorem tf_callVN (hG : tf_ok G) {ix d2 n k2 s2 a : Nat} {j : tf_I} {As : List Value} {Ψ : tf_O} (nxt : Nat) (hd : decode i.2.1 pc = .ok (.invokevirtual ix, 3)) (hn : pc + 3 = nxt) (hlk0 : tf_lkN G i.1.cls ix j.1) (hj : tf_cw G j n) (hAs : As.length = n) (hin : Cond.instanceMethod j.1 ∈ G.2.2.2.1) (hse : Cond.selects j.1.cls j.1 j.1 ∈ G.2.2.2.1) {ci : Nat} {r : vw_C} {fs : List Value} (ha : a ∈ L) (hf : f a = .inr (ci, fs)) (hci : G.2.1[ci]? = some r) (hcl : r.1 = j.1.cls) (hd2 : d2 + 1 ≤ d) (hst : (st.map fun v => v.category).sum ≤ 8) (hsk : st2 = As.reverse ++ .ref a :: st) (hC : tf_C l G d2 j (.ref a :: As) L f k2 s2 Ψ)
    (kk : ∀ (v : Option Value) (L2 : List Nat) (f2 : tf_F), Ψ v L2 f2 → tf_W l G EX QB d i nxt lv (v.toList ++ st) L2 f2 kc ks) : tf_W l G EX QB d i pc lv st2 L f (kc + k2) (ks + s2) := by
  subst hn
  subst hsk
  intro p e R s m args below meth c H locs cells slots ls A mc ms hM hE hR hl hP
  obtain ⟨hx, hb, hml, hown, hts, hret, hlk, hnw, hnm, hK⟩ := id hM
  obtain ⟨hPP, hD, hS, hA⟩ := id hP
  obtain ⟨r1, r2⟩ := tf_room2 hR
  obtain ⟨q0, hq0⟩ := tf_pl (f := f) ha
  rw [hf] at hq0
  have hrc := va_recv hK hPP hci hq0
  rw [hcl] at hrc
  obtain ⟨host, hlk1⟩ := hlk0
  refine tf_goes (Φ := Ψ) (a := (Value.ref a :: As).toArray) (va_runVN ⟨hx, hb, hml, hown, hts⟩ (hC H.size) ⟨tf_callN hG hj hd2 hR hts (va_Nw.use rfl (hnw _ hlk1)), hts _ hin, hts _ hse⟩ ⟨(tf_pre (av := .ref a :: As) hG hK hnw hPP hD).1, hrc, (tf_pre (av := .ref a :: As) hG hK hnw hPP hD).2⟩ rfl hAs hl.1 rfl (lv_room hst) hd r1) hP (fun v L2 f2 H1 locs1 hΦ hP1 => ?_)
  exact kk v L2 f2 hΦ p e R s m args below meth c H1 locs1 (cells + k2) (slots + s2) ls A mc ms hM hE r2 hl hP1
end
end
section
/-! Names of the program, by program (wip/whole/gen.py): classes, fields, words -/
def T_0 : u_T := fun k => match k with
  | 0 => ("TypeFoundry", "blend", "LTypeFoundry$Blend;", true)
  | 1 => ("TypeFoundry", "glyphs", "[LTypeFoundry$Glyph;", true)
  | 2 => ("TypeFoundry", "gathered", "LTypeFoundry$Outline;", true)
  | 3 => ("TypeFoundry", "path", "LTypeFoundry$Path;", true)
  | 4 => ("TypeFoundry", "heights", "LTypeFoundry$Heights;", true)
  | 5 => ("TypeFoundry", "canvas", "LTypeFoundry$Canvas;", true)
  | 6 => ("TypeFoundry", "kerning", "LTypeFoundry$Kerning;", true)
  | 7 => ("TypeFoundry", "setter", "LTypeFoundry$Setter;", true)
  | _ => ("TypeFoundry", "glyphCount", "I", false)
def y_0 : Nat → FieldType := fun k => match k with
  | 0 => .object "TypeFoundry$Blend"
  | 1 => .array (.object "TypeFoundry$Glyph")
  | 2 => .object "TypeFoundry$Outline"
  | 3 => .object "TypeFoundry$Path"
  | 4 => .object "TypeFoundry$Heights"
  | 5 => .object "TypeFoundry$Canvas"
  | 6 => .object "TypeFoundry$Kerning"
  | 7 => .object "TypeFoundry$Setter"
  | _ => .int
theorem nm_0 : ∀ a, a < 9 → ∀ b, b < 9 → a ≠ b → (T_0 a).2.1 ≠ (T_0 b).2.1 := by decide +kernel
theorem yk_0 : ∀ k, k < 9 → parseFieldDescriptor (T_0 k).2.2.1 = some (y_0 k) := by decide +kernel
theorem uw_0 : ∀ w ∈ u_ws "TypeFoundry" T_0 9, w ∈ tf_Ts := tf_memL [215, 217, 219, 221, 223, 225, 227, 229, 231] (by decide +kernel) (by decide +kernel)
def T_1 : u_T := fun k => match k with
  | 0 => ("TypeFoundry$Blend", "masters", "I", true)
  | 1 => ("TypeFoundry$Blend", "u", "I", false)
  | _ => ("TypeFoundry$Blend", "v", "I", false)
def y_1 : Nat → FieldType := fun k => match k with
  | 0 => .int
  | 1 => .int
  | _ => .int
theorem nm_1 : ∀ a, a < 3 → ∀ b, b < 3 → a ≠ b → (T_1 a).2.1 ≠ (T_1 b).2.1 := by decide +kernel
theorem yk_1 : ∀ k, k < 3 → parseFieldDescriptor (T_1 k).2.2.1 = some (y_1 k) := by decide +kernel
theorem uw_1 : ∀ w ∈ u_ws "TypeFoundry$Blend" T_1 3, w ∈ tf_Ts := tf_memL [49, 51, 53] (by decide +kernel) (by decide +kernel)
def T_2 : u_T := fun k => match k with
  | 0 => ("TypeFoundry$Canvas", "cells", "[I", true)
  | 1 => ("TypeFoundry$Canvas", "side", "I", false)
  | _ => ("TypeFoundry$Canvas", "across", "I", false)
def y_2 : Nat → FieldType := fun k => match k with
  | 0 => .array .int
  | 1 => .int
  | _ => .int
theorem nm_2 : ∀ a, a < 3 → ∀ b, b < 3 → a ≠ b → (T_2 a).2.1 ≠ (T_2 b).2.1 := by decide +kernel
theorem yk_2 : ∀ k, k < 3 → parseFieldDescriptor (T_2 k).2.2.1 = some (y_2 k) := by decide +kernel
theorem uw_2 : ∀ w ∈ u_ws "TypeFoundry$Canvas" T_2 3, w ∈ tf_Ts := tf_memL [135, 137, 139] (by decide +kernel) (by decide +kernel)
def T_3 : u_T := fun k => match k with
  | 0 => ("TypeFoundry$Glyph", "xs", "[I", true)
  | 1 => ("TypeFoundry$Glyph", "ys", "[I", true)
  | 2 => ("TypeFoundry$Glyph", "widths", "[I", true)
  | 3 => ("TypeFoundry$Glyph", "on", "[Z", true)
  | 4 => ("TypeFoundry$Glyph", "ends", "[I", true)
  | 5 => ("TypeFoundry$Glyph", "parts", "[LTypeFoundry$Part;", true)
  | 6 => ("TypeFoundry$Glyph", "points", "I", false)
  | 7 => ("TypeFoundry$Glyph", "contours", "I", false)
  | 8 => ("TypeFoundry$Glyph", "depth", "I", false)
  | 9 => ("TypeFoundry$Glyph", "locked", "Z", false)
  | 10 => ("TypeFoundry$Glyph", "masters", "I", true)
  | 11 => ("TypeFoundry$Glyph", "closedPoints", "I", false)
  | 12 => ("TypeFoundry$Glyph", "partCount", "I", false)
  | 13 => ("TypeFoundry$Glyph", "partPoints", "I", false)
  | _ => ("TypeFoundry$Glyph", "partContours", "I", false)
def y_3 : Nat → FieldType := fun k => match k with
  | 0 => .array .int
  | 1 => .array .int
  | 2 => .array .int
  | 3 => .array .boolean
  | 4 => .array .int
  | 5 => .array (.object "TypeFoundry$Part")
  | 6 => .int
  | 7 => .int
  | 8 => .int
  | 9 => .boolean
  | 10 => .int
  | 11 => .int
  | 12 => .int
  | 13 => .int
  | _ => .int
theorem nm_3 : ∀ a, a < 15 → ∀ b, b < 15 → a ≠ b → (T_3 a).2.1 ≠ (T_3 b).2.1 := by decide +kernel
theorem yk_3 : ∀ k, k < 15 → parseFieldDescriptor (T_3 k).2.2.1 = some (y_3 k) := by decide +kernel
theorem uw_3 : ∀ w ∈ u_ws "TypeFoundry$Glyph" T_3 15, w ∈ tf_Ts := tf_memL [479, 481, 483, 485, 487, 489, 491, 493, 495, 497, 499, 501, 503, 505, 507] (by decide +kernel) (by decide +kernel)
def T_4 : u_T := fun k => match k with
  | 0 => ("TypeFoundry$Heights", "size", "I", false)
  | _ => ("TypeFoundry$Heights", "ys", "[I", true)
def y_4 : Nat → FieldType := fun k => match k with
  | 0 => .int
  | _ => .array .int
theorem nm_4 : ∀ a, a < 2 → ∀ b, b < 2 → a ≠ b → (T_4 a).2.1 ≠ (T_4 b).2.1 := by decide +kernel
theorem yk_4 : ∀ k, k < 2 → parseFieldDescriptor (T_4 k).2.2.1 = some (y_4 k) := by decide +kernel
theorem uw_4 : ∀ w ∈ u_ws "TypeFoundry$Heights" T_4 2, w ∈ tf_Ts := tf_memL [121, 123] (by decide +kernel) (by decide +kernel)
def T_5 : u_T := fun k => match k with
  | 0 => ("TypeFoundry$Kerning", "pairs", "I", false)
  | 1 => ("TypeFoundry$Kerning", "leftClasses", "[I", true)
  | 2 => ("TypeFoundry$Kerning", "rightClasses", "[I", true)
  | 3 => ("TypeFoundry$Kerning", "ofClasses", "[I", true)
  | 4 => ("TypeFoundry$Kerning", "lefts", "[I", true)
  | 5 => ("TypeFoundry$Kerning", "rights", "[I", true)
  | _ => ("TypeFoundry$Kerning", "ofPairs", "[I", true)
def y_5 : Nat → FieldType := fun k => match k with
  | 0 => .int
  | 1 => .array .int
  | 2 => .array .int
  | 3 => .array .int
  | 4 => .array .int
  | 5 => .array .int
  | _ => .array .int
theorem nm_5 : ∀ a, a < 7 → ∀ b, b < 7 → a ≠ b → (T_5 a).2.1 ≠ (T_5 b).2.1 := by decide +kernel
theorem yk_5 : ∀ k, k < 7 → parseFieldDescriptor (T_5 k).2.2.1 = some (y_5 k) := by decide +kernel
theorem uw_5 : ∀ w ∈ u_ws "TypeFoundry$Kerning" T_5 7, w ∈ tf_Ts := tf_memL [156, 158, 160, 162, 164, 166, 168] (by decide +kernel) (by decide +kernel)
def T_6 : u_T := fun k => match k with
  | 0 => ("TypeFoundry$Outline", "xs", "[I", true)
  | 1 => ("TypeFoundry$Outline", "ys", "[I", true)
  | 2 => ("TypeFoundry$Outline", "on", "[Z", true)
  | 3 => ("TypeFoundry$Outline", "starts", "[I", true)
  | 4 => ("TypeFoundry$Outline", "contours", "I", false)
  | 5 => ("TypeFoundry$Outline", "contourOf", "[I", true)
  | _ => ("TypeFoundry$Outline", "points", "I", false)
def y_6 : Nat → FieldType := fun k => match k with
  | 0 => .array .int
  | 1 => .array .int
  | 2 => .array .boolean
  | 3 => .array .int
  | 4 => .int
  | 5 => .array .int
  | _ => .int
theorem nm_6 : ∀ a, a < 7 → ∀ b, b < 7 → a ≠ b → (T_6 a).2.1 ≠ (T_6 b).2.1 := by decide +kernel
theorem yk_6 : ∀ k, k < 7 → parseFieldDescriptor (T_6 k).2.2.1 = some (y_6 k) := by decide +kernel
theorem uw_6 : ∀ w ∈ u_ws "TypeFoundry$Outline" T_6 7, w ∈ tf_Ts := tf_memL [76, 78, 80, 82, 84, 86, 88] (by decide +kernel) (by decide +kernel)
def T_7 : u_T := fun k => match k with
  | 0 => ("TypeFoundry$Part", "source", "LTypeFoundry$Glyph;", true)
  | 1 => ("TypeFoundry$Part", "dx", "I", true)
  | 2 => ("TypeFoundry$Part", "dy", "I", true)
  | _ => ("TypeFoundry$Part", "turn", "I", true)
def y_7 : Nat → FieldType := fun k => match k with
  | 0 => .object "TypeFoundry$Glyph"
  | 1 => .int
  | 2 => .int
  | _ => .int
theorem nm_7 : ∀ a, a < 4 → ∀ b, b < 4 → a ≠ b → (T_7 a).2.1 ≠ (T_7 b).2.1 := by decide +kernel
theorem yk_7 : ∀ k, k < 4 → parseFieldDescriptor (T_7 k).2.2.1 = some (y_7 k) := by decide +kernel
theorem uw_7 : ∀ w ∈ u_ws "TypeFoundry$Part" T_7 4, w ∈ tf_Ts := tf_memL [607, 609, 611, 613] (by decide +kernel) (by decide +kernel)
def T_8 : u_T := fun k => match k with
  | 0 => ("TypeFoundry$Path", "xs", "[I", true)
  | 1 => ("TypeFoundry$Path", "ys", "[I", true)
  | _ => ("TypeFoundry$Path", "size", "I", false)
def y_8 : Nat → FieldType := fun k => match k with
  | 0 => .array .int
  | 1 => .array .int
  | _ => .int
theorem nm_8 : ∀ a, a < 3 → ∀ b, b < 3 → a ≠ b → (T_8 a).2.1 ≠ (T_8 b).2.1 := by decide +kernel
theorem yk_8 : ∀ k, k < 3 → parseFieldDescriptor (T_8 k).2.2.1 = some (y_8 k) := by decide +kernel
theorem uw_8 : ∀ w ∈ u_ws "TypeFoundry$Path" T_8 3, w ∈ tf_Ts := tf_memL [105, 107, 109] (by decide +kernel) (by decide +kernel)
def T_9 : u_T := fun k => match k with
  | 0 => ("TypeFoundry$Rule", "lookup", "I", true)
  | 1 => ("TypeFoundry$Rule", "inputLength", "I", true)
  | 2 => ("TypeFoundry$Rule", "output", "I", true)
  | 3 => ("TypeFoundry$Rule", "before", "J", true)
  | 4 => ("TypeFoundry$Rule", "input", "J", true)
  | 5 => ("TypeFoundry$Rule", "after", "J", true)
  | 6 => ("TypeFoundry$Rule", "beforeLength", "I", true)
  | _ => ("TypeFoundry$Rule", "afterLength", "I", true)
def y_9 : Nat → FieldType := fun k => match k with
  | 0 => .int
  | 1 => .int
  | 2 => .int
  | 3 => .long
  | 4 => .long
  | 5 => .long
  | 6 => .int
  | _ => .int
theorem nm_9 : ∀ a, a < 8 → ∀ b, b < 8 → a ≠ b → (T_9 a).2.1 ≠ (T_9 b).2.1 := by decide +kernel
theorem yk_9 : ∀ k, k < 8 → parseFieldDescriptor (T_9 k).2.2.1 = some (y_9 k) := by decide +kernel
theorem uw_9 : ∀ w ∈ u_ws "TypeFoundry$Rule" T_9 8, w ∈ tf_Ts := tf_memL [1070, 1072, 1074, 1076, 1078, 1080, 1082, 1084] (by decide +kernel) (by decide +kernel)
def T_10 : u_T := fun k => match k with
  | 0 => ("TypeFoundry$Setter", "row", "[I", true)
  | 1 => ("TypeFoundry$Setter", "rowSize", "I", false)
  | 2 => ("TypeFoundry$Setter", "textSize", "I", false)
  | 3 => ("TypeFoundry$Setter", "ruleCount", "I", false)
  | 4 => ("TypeFoundry$Setter", "puts", "I", false)
  | 5 => ("TypeFoundry$Setter", "text", "[I", true)
  | _ => ("TypeFoundry$Setter", "rules", "[LTypeFoundry$Rule;", true)
def y_10 : Nat → FieldType := fun k => match k with
  | 0 => .array .int
  | 1 => .int
  | 2 => .int
  | 3 => .int
  | 4 => .int
  | 5 => .array .int
  | _ => .array (.object "TypeFoundry$Rule")
theorem nm_10 : ∀ a, a < 7 → ∀ b, b < 7 → a ≠ b → (T_10 a).2.1 ≠ (T_10 b).2.1 := by decide +kernel
theorem yk_10 : ∀ k, k < 7 → parseFieldDescriptor (T_10 k).2.2.1 = some (y_10 k) := by decide +kernel
theorem uw_10 : ∀ w ∈ u_ws "TypeFoundry$Setter" T_10 7, w ∈ tf_Ts := tf_memL [191, 193, 195, 197, 199, 201, 203] (by decide +kernel) (by decide +kernel)
def T_11 : u_T := fun k => match k with
  | 0 => ("TypeFoundryModel", "thrown", "I", false)
  | 1 => ("TypeFoundryModel", "masters", "I", true)
  | 2 => ("TypeFoundryModel", "glyphs", "I", false)
  | 3 => ("TypeFoundryModel", "places", "[I", true)
  | 4 => ("TypeFoundryModel", "marks", "[B", true)
  | 5 => ("TypeFoundryModel", "points", "[I", true)
  | 6 => ("TypeFoundryModel", "closed", "[I", true)
  | 7 => ("TypeFoundryModel", "contours", "[I", true)
  | 8 => ("TypeFoundryModel", "widths", "[I", true)
  | 9 => ("TypeFoundryModel", "locked", "[Z", true)
  | 10 => ("TypeFoundryModel", "depths", "[I", true)
  | 11 => ("TypeFoundryModel", "sizes", "[I", true)
  | 12 => ("TypeFoundryModel", "parts", "[I", true)
  | 13 => ("TypeFoundryModel", "part", "[I", true)
  | 14 => ("TypeFoundryModel", "partX", "[I", true)
  | 15 => ("TypeFoundryModel", "partY", "[I", true)
  | 16 => ("TypeFoundryModel", "partTurn", "[I", true)
  | 17 => ("TypeFoundryModel", "u", "I", false)
  | 18 => ("TypeFoundryModel", "v", "I", false)
  | 19 => ("TypeFoundryModel", "outX", "[I", true)
  | 20 => ("TypeFoundryModel", "outY", "[I", true)
  | 21 => ("TypeFoundryModel", "outOn", "[Z", true)
  | 22 => ("TypeFoundryModel", "outContour", "[I", true)
  | 23 => ("TypeFoundryModel", "outSize", "I", false)
  | 24 => ("TypeFoundryModel", "outContours", "I", false)
  | 25 => ("TypeFoundryModel", "pile", "[I", true)
  | 26 => ("TypeFoundryModel", "nextPart", "[I", true)
  | 27 => ("TypeFoundryModel", "turnedX", "I", false)
  | 28 => ("TypeFoundryModel", "turnedY", "I", false)
  | 29 => ("TypeFoundryModel", "heights", "[I", true)
  | 30 => ("TypeFoundryModel", "heightCount", "I", false)
  | 31 => ("TypeFoundryModel", "grid", "[I", true)
  | 32 => ("TypeFoundryModel", "along", "I", false)
  | 33 => ("TypeFoundryModel", "side", "I", false)
  | 34 => ("TypeFoundryModel", "fitted", "Z", false)
  | 35 => ("TypeFoundryModel", "leftClass", "[B", true)
  | 36 => ("TypeFoundryModel", "rightClass", "[B", true)
  | 37 => ("TypeFoundryModel", "classKern", "[S", true)
  | 38 => ("TypeFoundryModel", "classTold", "[Z", true)
  | 39 => ("TypeFoundryModel", "pairOf", "[I", true)
  | 40 => ("TypeFoundryModel", "pairBy", "[I", true)
  | 41 => ("TypeFoundryModel", "pairs", "I", false)
  | 42 => ("TypeFoundryModel", "ruleLookup", "[I", true)
  | 43 => ("TypeFoundryModel", "ruleOutput", "[I", true)
  | 44 => ("TypeFoundryModel", "ruleBefore", "[I", true)
  | 45 => ("TypeFoundryModel", "ruleInput", "[J", true)
  | 46 => ("TypeFoundryModel", "ruleAfter", "[I", true)
  | 47 => ("TypeFoundryModel", "rules", "I", false)
  | 48 => ("TypeFoundryModel", "put", "I", false)
  | 49 => ("TypeFoundryModel", "text", "[I", true)
  | 50 => ("TypeFoundryModel", "typed", "I", false)
  | 51 => ("TypeFoundryModel", "row", "[I", true)
  | 52 => ("TypeFoundryModel", "rowSize", "I", false)
  | 53 => ("TypeFoundryModel", "startX", "I", false)
  | _ => ("TypeFoundryModel", "startY", "I", false)
def y_11 : Nat → FieldType := fun k => match k with
  | 0 => .int
  | 1 => .int
  | 2 => .int
  | 3 => .array .int
  | 4 => .array .byte
  | 5 => .array .int
  | 6 => .array .int
  | 7 => .array .int
  | 8 => .array .int
  | 9 => .array .boolean
  | 10 => .array .int
  | 11 => .array .int
  | 12 => .array .int
  | 13 => .array .int
  | 14 => .array .int
  | 15 => .array .int
  | 16 => .array .int
  | 17 => .int
  | 18 => .int
  | 19 => .array .int
  | 20 => .array .int
  | 21 => .array .boolean
  | 22 => .array .int
  | 23 => .int
  | 24 => .int
  | 25 => .array .int
  | 26 => .array .int
  | 27 => .int
  | 28 => .int
  | 29 => .array .int
  | 30 => .int
  | 31 => .array .int
  | 32 => .int
  | 33 => .int
  | 34 => .boolean
  | 35 => .array .byte
  | 36 => .array .byte
  | 37 => .array .short
  | 38 => .array .boolean
  | 39 => .array .int
  | 40 => .array .int
  | 41 => .int
  | 42 => .array .int
  | 43 => .array .int
  | 44 => .array .int
  | 45 => .array .long
  | 46 => .array .int
  | 47 => .int
  | 48 => .int
  | 49 => .array .int
  | 50 => .int
  | 51 => .array .int
  | 52 => .int
  | 53 => .int
  | _ => .int
theorem nm_11 : ∀ a, a < 55 → ∀ b, b < 55 → a ≠ b → (T_11 a).2.1 ≠ (T_11 b).2.1 := by decide +kernel
theorem yk_11 : ∀ k, k < 55 → parseFieldDescriptor (T_11 k).2.2.1 = some (y_11 k) := by decide +kernel
theorem uw_11 : ∀ w ∈ u_ws "TypeFoundryModel" T_11 55, w ∈ tf_Ts := tf_memL [1182, 1184, 1186, 1188, 1190, 1192, 1194, 1196, 1198, 1200, 1202, 1204, 1206, 1208, 1210, 1212, 1214, 1216, 1218, 1220, 1222, 1224, 1226, 1228, 1230, 1232, 1234, 1236, 1238, 1240, 1242, 1244, 1246, 1248, 1250, 1252, 1254, 1256, 1258, 1260, 1262, 1264, 1266, 1268, 1270, 1272, 1274, 1276, 1278, 1280, 1282, 1284, 1286, 1288, 1290] (by decide +kernel) (by decide +kernel)
def tf_cl : List vw_C := [("TypeFoundry", T_0, 9), ("TypeFoundry$Blend", T_1, 3), ("TypeFoundry$Canvas", T_2, 3), ("TypeFoundry$Glyph", T_3, 15), ("TypeFoundry$Heights", T_4, 2), ("TypeFoundry$Kerning", T_5, 7), ("TypeFoundry$Outline", T_6, 7), ("TypeFoundry$Part", T_7, 4), ("TypeFoundry$Path", T_8, 3), ("TypeFoundry$Rule", T_9, 8), ("TypeFoundry$Setter", T_10, 7), ("TypeFoundryModel", T_11, 55)]
abbrev tf_g (D : va_G) (tys : List (ClassId × FieldType)) : tf_G := (D, tf_cl, tys, tf_Ts, tf_NW)
theorem tf_gok (D : va_G) (tys : List (ClassId × FieldType)) : tf_ok (tf_g D tys) := ⟨fun w h => (List.mem_filter.mp h).2, fun w h => (List.mem_filter.mp h).2⟩
end
section
abbrev i_Tf_init : tf_I := ((⟨"TypeFoundry", "<init>", "(I)V"⟩ : MethodName), prog_1_method_1_code, 2, none)
abbrev i_Tf_glyph : tf_I := ((⟨"TypeFoundry", "glyph", "()I"⟩ : MethodName), prog_1_method_2_code, 1, some (.int))
abbrev i_Tf_point : tf_I := ((⟨"TypeFoundry", "point", "(IIIZ)I"⟩ : MethodName), prog_1_method_3_code, 6, some (.int))
abbrev i_Tf_close : tf_I := ((⟨"TypeFoundry", "close", "(I)Z"⟩ : MethodName), prog_1_method_4_code, 3, some (.boolean))
abbrev i_Tf_place : tf_I := ((⟨"TypeFoundry", "place", "(IIIII)V"⟩ : MethodName), prog_1_method_5_code, 7, none)
abbrev i_Tf_component : tf_I := ((⟨"TypeFoundry", "component", "(IIIII)V"⟩ : MethodName), prog_1_method_6_code, 8, none)
abbrev i_Tf_advance : tf_I := ((⟨"TypeFoundry", "advance", "(III)Z"⟩ : MethodName), prog_1_method_7_code, 5, some (.boolean))
abbrev i_Tf_instance : tf_I := ((⟨"TypeFoundry", "instance", "(II)Z"⟩ : MethodName), prog_1_method_8_code, 3, some (.boolean))
abbrev i_Tf_outline : tf_I := ((⟨"TypeFoundry", "outline", "(III)I"⟩ : MethodName), prog_1_method_9_code, 5, some (.int))
abbrev i_Tf_height : tf_I := ((⟨"TypeFoundry", "height", "(I)Z"⟩ : MethodName), prog_1_method_10_code, 2, some (.boolean))
abbrev i_Tf_draw : tf_I := ((⟨"TypeFoundry", "draw", "(IIZ)I"⟩ : MethodName), prog_1_method_11_code, 6, some (.int))
abbrev i_Tf_pixel : tf_I := ((⟨"TypeFoundry", "pixel", "(II)I"⟩ : MethodName), prog_1_method_12_code, 3, some (.int))
abbrev i_Tf_sort : tf_I := ((⟨"TypeFoundry", "sort", "(III)Z"⟩ : MethodName), prog_1_method_13_code, 4, some (.boolean))
abbrev i_Tf_kern : tf_I := ((⟨"TypeFoundry", "kern", "(III)Z"⟩ : MethodName), prog_1_method_14_code, 4, some (.boolean))
abbrev i_Tf_pair : tf_I := ((⟨"TypeFoundry", "pair", "(III)Z"⟩ : MethodName), prog_1_method_15_code, 4, some (.boolean))
abbrev i_Tf_rule : tf_I := ((⟨"TypeFoundry", "rule", "(IJJJI)I"⟩ : MethodName), prog_1_method_16_code, 10, some (.int))
abbrev i_Tf_type : tf_I := ((⟨"TypeFoundry", "type", "(I)Z"⟩ : MethodName), prog_1_method_17_code, 2, some (.boolean))
abbrev i_Tf_shape : tf_I := ((⟨"TypeFoundry", "shape", "()I"⟩ : MethodName), prog_1_method_18_code, 1, some (.int))
abbrev i_Tf_shaped : tf_I := ((⟨"TypeFoundry", "shaped", "(II)I"⟩ : MethodName), prog_1_method_19_code, 3, some (.int))
abbrev i_Tf_count : tf_I := ((⟨"TypeFoundry", "count", "(I)I"⟩ : MethodName), prog_1_method_20_code, 2, some (.int))
abbrev i_Tf_find : tf_I := ((⟨"TypeFoundry", "find", "(I)LTypeFoundry$Glyph;"⟩ : MethodName), prog_1_method_21_code, 2, some (.object "TypeFoundry$Glyph"))
abbrev i_Tf_ofWholeOutline : tf_I := ((⟨"TypeFoundry", "ofWholeOutline", "(LTypeFoundry$Glyph;I)I"⟩ : MethodName), prog_1_method_22_code, 3, some (.int))
abbrev i_Tf_xInRow : tf_I := ((⟨"TypeFoundry", "xInRow", "(I)I"⟩ : MethodName), prog_1_method_23_code, 4, some (.int))
abbrev i_Tf_widthOf : tf_I := ((⟨"TypeFoundry", "widthOf", "(I)I"⟩ : MethodName), prog_1_method_24_code, 3, some (.int))
abbrev i_Tf_isPlace : tf_I := ((⟨"TypeFoundry", "isPlace", "(II)Z"⟩ : MethodName), prog_1_method_25_code, 2, some (.boolean))
abbrev i_Tf_isShift : tf_I := ((⟨"TypeFoundry", "isShift", "(II)Z"⟩ : MethodName), prog_1_method_26_code, 2, some (.boolean))
abbrev i_Tf_isSide : tf_I := ((⟨"TypeFoundry", "isSide", "(I)Z"⟩ : MethodName), prog_1_method_27_code, 1, some (.boolean))
abbrev i_Tf_isKerning : tf_I := ((⟨"TypeFoundry", "isKerning", "(I)Z"⟩ : MethodName), prog_1_method_28_code, 1, some (.boolean))
abbrev i_Tf_within : tf_I := ((⟨"TypeFoundry", "within", "(III)Z"⟩ : MethodName), prog_1_method_29_code, 3, some (.boolean))
abbrev i_Tf_halvesUp : tf_I := ((⟨"TypeFoundry", "halvesUp", "(JJ)I"⟩ : MethodName), prog_1_method_30_code, 4, some (.int))
abbrev i_Mod_init : tf_I := ((⟨"TypeFoundryModel", "<init>", "(I)V"⟩ : MethodName), prog_13_method_1_code, 2, none)
abbrev i_Mod_thrown : tf_I := ((⟨"TypeFoundryModel", "thrown", "()I"⟩ : MethodName), prog_13_method_2_code, 1, some (.int))
abbrev i_Mod_floor : tf_I := ((⟨"TypeFoundryModel", "floor", "(JJ)J"⟩ : MethodName), prog_13_method_3_code, 6, some (.long))
abbrev i_Mod_near : tf_I := ((⟨"TypeFoundryModel", "near", "(JJ)J"⟩ : MethodName), prog_13_method_4_code, 4, some (.long))
abbrev i_Mod_between : tf_I := ((⟨"TypeFoundryModel", "between", "(IIII)I"⟩ : MethodName), prog_13_method_5_code, 9, some (.int))
abbrev i_Mod_glyph : tf_I := ((⟨"TypeFoundryModel", "glyph", "()I"⟩ : MethodName), prog_13_method_6_code, 1, some (.int))
abbrev i_Mod_isGlyph : tf_I := ((⟨"TypeFoundryModel", "isGlyph", "(I)Z"⟩ : MethodName), prog_13_method_7_code, 2, some (.boolean))
abbrev i_Mod_isPlace : tf_I := ((⟨"TypeFoundryModel", "isPlace", "(I)Z"⟩ : MethodName), prog_13_method_8_code, 1, some (.boolean))
abbrev i_Mod_packed : tf_I := ((⟨"TypeFoundryModel", "packed", "(II)I"⟩ : MethodName), prog_13_method_9_code, 2, some (.int))
abbrev i_Mod_point : tf_I := ((⟨"TypeFoundryModel", "point", "(IIIZ)I"⟩ : MethodName), prog_13_method_10_code, 7, some (.int))
abbrev i_Mod_close : tf_I := ((⟨"TypeFoundryModel", "close", "(I)Z"⟩ : MethodName), prog_13_method_11_code, 2, some (.boolean))
abbrev i_Mod_place : tf_I := ((⟨"TypeFoundryModel", "place", "(IIIII)V"⟩ : MethodName), prog_13_method_12_code, 7, none)
abbrev i_Mod_isShift : tf_I := ((⟨"TypeFoundryModel", "isShift", "(I)Z"⟩ : MethodName), prog_13_method_13_code, 1, some (.boolean))
abbrev i_Mod_componentPoints : tf_I := ((⟨"TypeFoundryModel", "componentPoints", "(I)I"⟩ : MethodName), prog_13_method_14_code, 4, some (.int))
abbrev i_Mod_component : tf_I := ((⟨"TypeFoundryModel", "component", "(IIIII)V"⟩ : MethodName), prog_13_method_15_code, 8, none)
abbrev i_Mod_advance : tf_I := ((⟨"TypeFoundryModel", "advance", "(III)Z"⟩ : MethodName), prog_13_method_16_code, 4, some (.boolean))
abbrev i_Mod_instance : tf_I := ((⟨"TypeFoundryModel", "instance", "(II)Z"⟩ : MethodName), prog_13_method_17_code, 3, some (.boolean))
abbrev i_Mod_xOf : tf_I := ((⟨"TypeFoundryModel", "xOf", "(II)I"⟩ : MethodName), prog_13_method_18_code, 3, some (.int))
abbrev i_Mod_yOf : tf_I := ((⟨"TypeFoundryModel", "yOf", "(II)I"⟩ : MethodName), prog_13_method_19_code, 3, some (.int))
abbrev i_Mod_turnPoint : tf_I := ((⟨"TypeFoundryModel", "turnPoint", "(II)V"⟩ : MethodName), prog_13_method_20_code, 9, none)
abbrev i_Mod_tellContours : tf_I := ((⟨"TypeFoundryModel", "tellContours", "(I)V"⟩ : MethodName), prog_13_method_21_code, 7, none)
abbrev i_Mod_tell : tf_I := ((⟨"TypeFoundryModel", "tell", "(I)V"⟩ : MethodName), prog_13_method_22_code, 4, none)
abbrev i_Mod_widthOf : tf_I := ((⟨"TypeFoundryModel", "widthOf", "(I)I"⟩ : MethodName), prog_13_method_23_code, 2, some (.int))
abbrev i_Mod_outline : tf_I := ((⟨"TypeFoundryModel", "outline", "(III)I"⟩ : MethodName), prog_13_method_24_code, 4, some (.int))
abbrev i_Mod_height : tf_I := ((⟨"TypeFoundryModel", "height", "(I)Z"⟩ : MethodName), prog_13_method_25_code, 4, some (.boolean))
abbrev i_Mod_goal : tf_I := ((⟨"TypeFoundryModel", "goal", "(I)I"⟩ : MethodName), prog_13_method_26_code, 2, some (.int))
abbrev i_Mod_fit : tf_I := ((⟨"TypeFoundryModel", "fit", "(I)I"⟩ : MethodName), prog_13_method_27_code, 6, some (.int))
abbrev i_Mod_cover : tf_I := ((⟨"TypeFoundryModel", "cover", "(IIII)V"⟩ : MethodName), prog_13_method_28_code, 9, none)
abbrev i_Mod_nextStop : tf_I := ((⟨"TypeFoundryModel", "nextStop", "(II)I"⟩ : MethodName), prog_13_method_29_code, 4, some (.int))
abbrev i_Mod_at : tf_I := ((⟨"TypeFoundryModel", "at", "(IIIII)I"⟩ : MethodName), prog_13_method_30_code, 7, some (.int))
abbrev i_Mod_across : tf_I := ((⟨"TypeFoundryModel", "across", "(IIII)V"⟩ : MethodName), prog_13_method_31_code, 9, none)
abbrev i_Mod_line : tf_I := ((⟨"TypeFoundryModel", "line", "(IIII)V"⟩ : MethodName), prog_13_method_32_code, 11, none)
abbrev i_Mod_lineTo : tf_I := ((⟨"TypeFoundryModel", "lineTo", "(II)V"⟩ : MethodName), prog_13_method_33_code, 3, none)
abbrev i_Mod_quadratic : tf_I := ((⟨"TypeFoundryModel", "quadratic", "(IIII)V"⟩ : MethodName), prog_13_method_34_code, 10, none)
abbrev i_Mod_middle : tf_I := ((⟨"TypeFoundryModel", "middle", "(II)I"⟩ : MethodName), prog_13_method_35_code, 2, some (.int))
abbrev i_Mod_contour : tf_I := ((⟨"TypeFoundryModel", "contour", "(II)V"⟩ : MethodName), prog_13_method_36_code, 9, none)
abbrev i_Mod_draw : tf_I := ((⟨"TypeFoundryModel", "draw", "(IIZ)I"⟩ : MethodName), prog_13_method_37_code, 9, some (.int))
abbrev i_Mod_pixel : tf_I := ((⟨"TypeFoundryModel", "pixel", "(II)I"⟩ : MethodName), prog_13_method_38_code, 3, some (.int))
abbrev i_Mod_sort : tf_I := ((⟨"TypeFoundryModel", "sort", "(III)Z"⟩ : MethodName), prog_13_method_39_code, 4, some (.boolean))
abbrev i_Mod_isKern : tf_I := ((⟨"TypeFoundryModel", "isKern", "(I)Z"⟩ : MethodName), prog_13_method_40_code, 1, some (.boolean))
abbrev i_Mod_kern : tf_I := ((⟨"TypeFoundryModel", "kern", "(III)Z"⟩ : MethodName), prog_13_method_41_code, 4, some (.boolean))
abbrev i_Mod_pairAt : tf_I := ((⟨"TypeFoundryModel", "pairAt", "(II)I"⟩ : MethodName), prog_13_method_42_code, 5, some (.int))
abbrev i_Mod_pair : tf_I := ((⟨"TypeFoundryModel", "pair", "(III)Z"⟩ : MethodName), prog_13_method_43_code, 5, some (.boolean))
abbrev i_Mod_kernOf : tf_I := ((⟨"TypeFoundryModel", "kernOf", "(II)I"⟩ : MethodName), prog_13_method_44_code, 5, some (.int))
abbrev i_Mod_glyphOf : tf_I := ((⟨"TypeFoundryModel", "glyphOf", "(JII)I"⟩ : MethodName), prog_13_method_45_code, 5, some (.int))
abbrev i_Mod_lengthOf : tf_I := ((⟨"TypeFoundryModel", "lengthOf", "(JI)I"⟩ : MethodName), prog_13_method_46_code, 4, some (.int))
abbrev i_Mod_isRow : tf_I := ((⟨"TypeFoundryModel", "isRow", "(JI)Z"⟩ : MethodName), prog_13_method_47_code, 6, some (.boolean))
abbrev i_Mod_rule : tf_I := ((⟨"TypeFoundryModel", "rule", "(IJJJI)I"⟩ : MethodName), prog_13_method_48_code, 10, some (.int))
abbrev i_Mod_type : tf_I := ((⟨"TypeFoundryModel", "type", "(I)Z"⟩ : MethodName), prog_13_method_49_code, 2, some (.boolean))
abbrev i_Mod_stands : tf_I := ((⟨"TypeFoundryModel", "stands", "(JII)Z"⟩ : MethodName), prog_13_method_50_code, 8, some (.boolean))
abbrev i_Mod_fitsAt : tf_I := ((⟨"TypeFoundryModel", "fitsAt", "(II)Z"⟩ : MethodName), prog_13_method_51_code, 4, some (.boolean))
abbrev i_Mod_bestRule : tf_I := ((⟨"TypeFoundryModel", "bestRule", "(II)I"⟩ : MethodName), prog_13_method_52_code, 7, some (.int))
abbrev i_Mod_change : tf_I := ((⟨"TypeFoundryModel", "change", "(II)V"⟩ : MethodName), prog_13_method_53_code, 5, none)
abbrev i_Mod_shape : tf_I := ((⟨"TypeFoundryModel", "shape", "()I"⟩ : MethodName), prog_13_method_54_code, 4, some (.int))
abbrev i_Mod_shaped : tf_I := ((⟨"TypeFoundryModel", "shaped", "(II)I"⟩ : MethodName), prog_13_method_55_code, 6, some (.int))
abbrev i_Mod_count : tf_I := ((⟨"TypeFoundryModel", "count", "(I)I"⟩ : MethodName), prog_13_method_56_code, 2, some (.int))
abbrev i_Blend_init : tf_I := ((⟨"TypeFoundry$Blend", "<init>", "(I)V"⟩ : MethodName), prog_2_method_1_code, 2, none)
abbrev i_Blend_hasMaster : tf_I := ((⟨"TypeFoundry$Blend", "hasMaster", "(I)Z"⟩ : MethodName), prog_2_method_2_code, 2, some (.boolean))
abbrev i_Blend_set : tf_I := ((⟨"TypeFoundry$Blend", "set", "(II)V"⟩ : MethodName), prog_2_method_3_code, 3, none)
abbrev i_Blend_valueOf : tf_I := ((⟨"TypeFoundry$Blend", "valueOf", "([II)I"⟩ : MethodName), prog_2_method_4_code, 8, some (.int))
abbrev i_Blend_mix : tf_I := ((⟨"TypeFoundry$Blend", "mix", "(JJI)J"⟩ : MethodName), prog_2_method_5_code, 5, some (.long))
abbrev i_Canvas_init : tf_I := ((⟨"TypeFoundry$Canvas", "<init>", "()V"⟩ : MethodName), prog_3_method_1_code, 1, none)
abbrev i_Canvas_start : tf_I := ((⟨"TypeFoundry$Canvas", "start", "(I)V"⟩ : MethodName), prog_3_method_2_code, 2, none)
abbrev i_Canvas_addPath : tf_I := ((⟨"TypeFoundry$Canvas", "addPath", "(LTypeFoundry$Path;)V"⟩ : MethodName), prog_3_method_3_code, 6, none)
abbrev i_Canvas_turnToGreys : tf_I := ((⟨"TypeFoundry$Canvas", "turnToGreys", "()I"⟩ : MethodName), prog_3_method_4_code, 6, some (.int))
abbrev i_Canvas_greyAt : tf_I := ((⟨"TypeFoundry$Canvas", "greyAt", "(II)I"⟩ : MethodName), prog_3_method_5_code, 4, some (.int))
abbrev i_Canvas_grey : tf_I := ((⟨"TypeFoundry$Canvas", "grey", "(I)I"⟩ : MethodName), prog_3_method_6_code, 3, some (.int))
abbrev i_Canvas_addRising : tf_I := ((⟨"TypeFoundry$Canvas", "addRising", "(IIIII)V"⟩ : MethodName), prog_3_method_7_code, 11, none)
abbrev i_Canvas_addPart : tf_I := ((⟨"TypeFoundry$Canvas", "addPart", "(IIIII)V"⟩ : MethodName), prog_3_method_8_code, 17, none)
abbrev i_Canvas_addRise : tf_I := ((⟨"TypeFoundry$Canvas", "addRise", "(IIII)V"⟩ : MethodName), prog_3_method_9_code, 8, none)
abbrev i_Canvas_firstCut : tf_I := ((⟨"TypeFoundry$Canvas", "firstCut", "(I)I"⟩ : MethodName), prog_3_method_10_code, 2, some (.int))
abbrev i_Canvas_crossing : tf_I := ((⟨"TypeFoundry$Canvas", "crossing", "(IIIII)I"⟩ : MethodName), prog_3_method_11_code, 5, some (.int))
abbrev i_Glyph_init : tf_I := ((⟨"TypeFoundry$Glyph", "<init>", "(I)V"⟩ : MethodName), prog_4_method_1_code, 2, none)
abbrev i_Glyph_addPoint : tf_I := ((⟨"TypeFoundry$Glyph", "addPoint", "(IIZ)I"⟩ : MethodName), prog_4_method_2_code, 5, some (.int))
abbrev i_Glyph_movePoint : tf_I := ((⟨"TypeFoundry$Glyph", "movePoint", "(IIII)V"⟩ : MethodName), prog_4_method_3_code, 5, none)
abbrev i_Glyph_endContour : tf_I := ((⟨"TypeFoundry$Glyph", "endContour", "()Z"⟩ : MethodName), prog_4_method_4_code, 1, some (.boolean))
abbrev i_Glyph_hasRoomFor : tf_I := ((⟨"TypeFoundry$Glyph", "hasRoomFor", "(LTypeFoundry$Glyph;)Z"⟩ : MethodName), prog_4_method_5_code, 2, some (.boolean))
abbrev i_Glyph_addPart : tf_I := ((⟨"TypeFoundry$Glyph", "addPart", "(LTypeFoundry$Part;)V"⟩ : MethodName), prog_4_method_6_code, 3, none)
abbrev i_Glyph_outlinePoints : tf_I := ((⟨"TypeFoundry$Glyph", "outlinePoints", "()I"⟩ : MethodName), prog_4_method_7_code, 1, some (.int))
abbrev i_Glyph_outlineContours : tf_I := ((⟨"TypeFoundry$Glyph", "outlineContours", "()I"⟩ : MethodName), prog_4_method_8_code, 1, some (.int))
abbrev i_Heights_init : tf_I := ((⟨"TypeFoundry$Heights", "<init>", "()V"⟩ : MethodName), prog_5_method_1_code, 1, none)
abbrev i_Heights_add : tf_I := ((⟨"TypeFoundry$Heights", "add", "(I)Z"⟩ : MethodName), prog_5_method_2_code, 4, some (.boolean))
abbrev i_Heights_fitted : tf_I := ((⟨"TypeFoundry$Heights", "fitted", "(II)I"⟩ : MethodName), prog_5_method_3_code, 4, some (.int))
abbrev i_Heights_between : tf_I := ((⟨"TypeFoundry$Heights", "between", "(IIII)I"⟩ : MethodName), prog_5_method_4_code, 5, some (.int))
abbrev i_Heights_goal : tf_I := ((⟨"TypeFoundry$Heights", "goal", "(II)I"⟩ : MethodName), prog_5_method_5_code, 2, some (.int))
abbrev i_Kerning_init : tf_I := ((⟨"TypeFoundry$Kerning", "<init>", "()V"⟩ : MethodName), prog_6_method_1_code, 1, none)
abbrev i_Kerning_setClass : tf_I := ((⟨"TypeFoundry$Kerning", "setClass", "(III)V"⟩ : MethodName), prog_6_method_2_code, 4, none)
abbrev i_Kerning_tellClasses : tf_I := ((⟨"TypeFoundry$Kerning", "tellClasses", "(III)V"⟩ : MethodName), prog_6_method_3_code, 4, none)
abbrev i_Kerning_tellPair : tf_I := ((⟨"TypeFoundry$Kerning", "tellPair", "(III)Z"⟩ : MethodName), prog_6_method_4_code, 5, some (.boolean))
abbrev i_Kerning_of : tf_I := ((⟨"TypeFoundry$Kerning", "of", "(II)I"⟩ : MethodName), prog_6_method_5_code, 4, some (.int))
abbrev i_Kerning_pairAt : tf_I := ((⟨"TypeFoundry$Kerning", "pairAt", "(II)I"⟩ : MethodName), prog_6_method_6_code, 4, some (.int))
abbrev i_Outline_init : tf_I := ((⟨"TypeFoundry$Outline", "<init>", "()V"⟩ : MethodName), prog_7_method_1_code, 1, none)
abbrev i_Outline_become : tf_I := ((⟨"TypeFoundry$Outline", "become", "(LTypeFoundry$Glyph;LTypeFoundry$Blend;)V"⟩ : MethodName), prog_7_method_2_code, 3, none)
abbrev i_Outline_ofPoint : tf_I := ((⟨"TypeFoundry$Outline", "ofPoint", "(II)I"⟩ : MethodName), prog_7_method_3_code, 3, some (.int))
abbrev i_Outline_gather : tf_I := ((⟨"TypeFoundry$Outline", "gather", "(LTypeFoundry$Glyph;LTypeFoundry$Blend;I)V"⟩ : MethodName), prog_7_method_4_code, 9, none)
abbrev i_Outline_addContours : tf_I := ((⟨"TypeFoundry$Outline", "addContours", "(LTypeFoundry$Glyph;LTypeFoundry$Blend;)V"⟩ : MethodName), prog_7_method_5_code, 5, none)
abbrev i_Outline_turnAndShift : tf_I := ((⟨"TypeFoundry$Outline", "turnAndShift", "(ILTypeFoundry$Part;)V"⟩ : MethodName), prog_7_method_6_code, 8, none)
abbrev i_Outline_reverseContours : tf_I := ((⟨"TypeFoundry$Outline", "reverseContours", "(I)V"⟩ : MethodName), prog_7_method_7_code, 5, none)
abbrev i_Outline_swap : tf_I := ((⟨"TypeFoundry$Outline", "swap", "(II)V"⟩ : MethodName), prog_7_method_8_code, 6, none)
abbrev i_Part_init : tf_I := ((⟨"TypeFoundry$Part", "<init>", "(LTypeFoundry$Glyph;III)V"⟩ : MethodName), prog_8_method_1_code, 5, none)
abbrev i_Part_isMirrored : tf_I := ((⟨"TypeFoundry$Part", "isMirrored", "()Z"⟩ : MethodName), prog_8_method_2_code, 1, some (.boolean))
abbrev i_Path_init : tf_I := ((⟨"TypeFoundry$Path", "<init>", "()V"⟩ : MethodName), prog_9_method_1_code, 1, none)
abbrev i_Path_follow : tf_I := ((⟨"TypeFoundry$Path", "follow", "(LTypeFoundry$Outline;I)V"⟩ : MethodName), prog_9_method_2_code, 7, none)
abbrev i_Path_fit : tf_I := ((⟨"TypeFoundry$Path", "fit", "(LTypeFoundry$Heights;I)V"⟩ : MethodName), prog_9_method_3_code, 4, none)
abbrev i_Path_addQuadratic : tf_I := ((⟨"TypeFoundry$Path", "addQuadratic", "(LTypeFoundry$Outline;III)V"⟩ : MethodName), prog_9_method_4_code, 10, none)
abbrev i_Path_addCorner : tf_I := ((⟨"TypeFoundry$Path", "addCorner", "(II)V"⟩ : MethodName), prog_9_method_5_code, 3, none)
abbrev i_Path_endAt : tf_I := ((⟨"TypeFoundry$Path", "endAt", "([IIIZ)I"⟩ : MethodName), prog_9_method_6_code, 4, some (.int))
abbrev i_Path_onQuadratic : tf_I := ((⟨"TypeFoundry$Path", "onQuadratic", "(IIII)I"⟩ : MethodName), prog_9_method_7_code, 5, some (.int))
abbrev i_Rule_init : tf_I := ((⟨"TypeFoundry$Rule", "<init>", "(IJJJI)V"⟩ : MethodName), prog_10_method_1_code, 9, none)
abbrev i_Rule_isMadeOf : tf_I := ((⟨"TypeFoundry$Rule", "isMadeOf", "(I)Z"⟩ : MethodName), prog_10_method_2_code, 2, some (.boolean))
abbrev i_Rule_isLongerThan : tf_I := ((⟨"TypeFoundry$Rule", "isLongerThan", "(LTypeFoundry$Rule;)Z"⟩ : MethodName), prog_10_method_3_code, 2, some (.boolean))
abbrev i_Rule_fits : tf_I := ((⟨"TypeFoundry$Rule", "fits", "([III)Z"⟩ : MethodName), prog_10_method_4_code, 5, some (.boolean))
abbrev i_Rule_lengthOf : tf_I := ((⟨"TypeFoundry$Rule", "lengthOf", "(JI)I"⟩ : MethodName), prog_10_method_5_code, 4, some (.int))
abbrev i_Rule_glyphAt : tf_I := ((⟨"TypeFoundry$Rule", "glyphAt", "(JI)I"⟩ : MethodName), prog_10_method_6_code, 3, some (.int))
abbrev i_Rule_isOf : tf_I := ((⟨"TypeFoundry$Rule", "isOf", "(IJI)Z"⟩ : MethodName), prog_10_method_7_code, 5, some (.boolean))
abbrev i_Rule_stands : tf_I := ((⟨"TypeFoundry$Rule", "stands", "([IIJI)Z"⟩ : MethodName), prog_10_method_8_code, 6, some (.boolean))
abbrev i_Setter_init : tf_I := ((⟨"TypeFoundry$Setter", "<init>", "()V"⟩ : MethodName), prog_11_method_1_code, 1, none)
abbrev i_Setter_addRule : tf_I := ((⟨"TypeFoundry$Setter", "addRule", "(LTypeFoundry$Rule;)I"⟩ : MethodName), prog_11_method_2_code, 2, some (.int))
abbrev i_Setter_addToText : tf_I := ((⟨"TypeFoundry$Setter", "addToText", "(I)Z"⟩ : MethodName), prog_11_method_3_code, 2, some (.boolean))
abbrev i_Setter_setRow : tf_I := ((⟨"TypeFoundry$Setter", "setRow", "()I"⟩ : MethodName), prog_11_method_4_code, 2, some (.int))
abbrev i_Setter_run : tf_I := ((⟨"TypeFoundry$Setter", "run", "(I)V"⟩ : MethodName), prog_11_method_5_code, 4, none)
abbrev i_Setter_bestAt : tf_I := ((⟨"TypeFoundry$Setter", "bestAt", "(II)LTypeFoundry$Rule;"⟩ : MethodName), prog_11_method_6_code, 6, some (.object "TypeFoundry$Rule"))
abbrev i_Setter_put : tf_I := ((⟨"TypeFoundry$Setter", "put", "(LTypeFoundry$Rule;I)V"⟩ : MethodName), prog_11_method_7_code, 4, none)
abbrev i_Law_cell : tf_I := ((⟨"TypeFoundryLaw", "cell", "([II)I"⟩ : MethodName), method_2_code, 2, some (.int))
abbrev i_Law_glyph : tf_I := ((⟨"TypeFoundryLaw", "glyph", "(LTypeFoundry;[J)I"⟩ : MethodName), method_3_code, 3, some (.int))
abbrev i_Law_point : tf_I := ((⟨"TypeFoundryLaw", "point", "(LTypeFoundry;IIIZ[J)I"⟩ : MethodName), method_4_code, 7, some (.int))
abbrev i_Law_place : tf_I := ((⟨"TypeFoundryLaw", "place", "(LTypeFoundry;IIIII)I"⟩ : MethodName), method_5_code, 7, some (.int))
abbrev i_Law_component : tf_I := ((⟨"TypeFoundryLaw", "component", "(LTypeFoundry;IIIII)I"⟩ : MethodName), method_6_code, 7, some (.int))
abbrev i_Law_outline : tf_I := ((⟨"TypeFoundryLaw", "outline", "(LTypeFoundry;III[J)I"⟩ : MethodName), method_7_code, 6, some (.int))
abbrev i_Law_draw : tf_I := ((⟨"TypeFoundryLaw", "draw", "(LTypeFoundry;IIZ[J)I"⟩ : MethodName), method_8_code, 6, some (.int))
abbrev i_Law_rule : tf_I := ((⟨"TypeFoundryLaw", "rule", "(LTypeFoundry;IJJJI[J)I"⟩ : MethodName), method_9_code, 11, some (.int))
abbrev i_Law_shaped : tf_I := ((⟨"TypeFoundryLaw", "shaped", "(LTypeFoundry;II[J)I"⟩ : MethodName), method_10_code, 5, some (.int))
abbrev i_Math_floorDiv_I : tf_I := ((⟨"java/lang/Math", "floorDiv", "(II)I"⟩ : MethodName), prog_22_method_47_code, 3, some (.int))
abbrev i_Math_floorDiv_J : tf_I := ((⟨"java/lang/Math", "floorDiv", "(JJ)J"⟩ : MethodName), prog_22_method_49_code, 6, some (.long))
abbrev i_Arrays_fill : tf_I := ((⟨"java/util/Arrays", "fill", "([IIII)V"⟩ : MethodName), prog_30_method_104_code, 5, none)
abbrev i_Arrays_rangeCheck : tf_I := ((⟨"java/util/Arrays", "rangeCheck", "(III)V"⟩ : MethodName), prog_30_method_30_code, 3, none)
theorem nl_Tf_9 {D : va_G} {tys : List (ClassId × FieldType)} : tf_nl (tf_g D tys) "TypeFoundry" 9 1 3 [.int 0, .int 0, .int 0] := ⟨"TypeFoundry$Blend", T_1, y_1, rfl, uw_1, yk_1, w_39, w_40, w_2, by intro j hj; revert j; decide⟩
theorem lk_Tf_11 {D : va_G} {tys : List (ClassId × FieldType)} : tf_lkM (tf_g D tys) "TypeFoundry" 11 i_Blend_init.1 := w_41
theorem cw_Blend_init {D : va_G} {tys : List (ClassId × FieldType)} : tf_cw (tf_g D tys) i_Blend_init 1 := ⟨w_43, w_2, by decide, by decide +kernel, by decide⟩
theorem in_Blend_init : Cond.instanceMethod i_Blend_init.1 ∈ tf_Ts := w_42
theorem ff_Tf_14 {D : va_G} {tys : List (ClassId × FieldType)} : tf_ff (tf_g D tys) "TypeFoundry" 14 0 0 (.object "TypeFoundry$Blend") := ⟨T_0, 9, rfl, by decide, uw_0, rfl, w_206, ⟨y_0, yk_0⟩, nm_0, by decide +kernel, rfl⟩
theorem ff_Tf_20 {D : va_G} {tys : List (ClassId × FieldType)} : tf_ff (tf_g D tys) "TypeFoundry" 20 0 1 (.array (.object "TypeFoundry$Glyph")) := ⟨T_0, 9, rfl, by decide, uw_0, rfl, w_207, ⟨y_0, yk_0⟩, nm_0, by decide +kernel, rfl⟩
theorem nl_Tf_24 {D : va_G} {tys : List (ClassId × FieldType)} : tf_nl (tf_g D tys) "TypeFoundry" 24 6 7 [.null, .null, .null, .null, .int 0, .null, .int 0] := ⟨"TypeFoundry$Outline", T_6, y_6, rfl, uw_6, yk_6, w_58, w_59, w_3, by intro j hj; revert j; decide⟩
theorem lk_Tf_26 {D : va_G} {tys : List (ClassId × FieldType)} : tf_lkN (tf_g D tys) "TypeFoundry" 26 i_Outline_init.1 := ⟨"TypeFoundry", w_60⟩
theorem cw_Outline_init {D : va_G} {tys : List (ClassId × FieldType)} : tf_cw (tf_g D tys) i_Outline_init 0 := ⟨w_62, w_3, by decide, by decide +kernel, by decide⟩
theorem in_Outline_init : Cond.instanceMethod i_Outline_init.1 ∈ tf_Ts := w_61
theorem ff_Tf_27 {D : va_G} {tys : List (ClassId × FieldType)} : tf_ff (tf_g D tys) "TypeFoundry" 27 0 2 (.object "TypeFoundry$Outline") := ⟨T_0, 9, rfl, by decide, uw_0, rfl, w_208, ⟨y_0, yk_0⟩, nm_0, by decide +kernel, rfl⟩
theorem nl_Tf_31 {D : va_G} {tys : List (ClassId × FieldType)} : tf_nl (tf_g D tys) "TypeFoundry" 31 8 3 [.null, .null, .int 0] := ⟨"TypeFoundry$Path", T_8, y_8, rfl, uw_8, yk_8, w_93, w_94, w_4, by intro j hj; revert j; decide⟩
theorem lk_Tf_33 {D : va_G} {tys : List (ClassId × FieldType)} : tf_lkN (tf_g D tys) "TypeFoundry" 33 i_Path_init.1 := ⟨"TypeFoundry", w_95⟩
theorem cw_Path_init {D : va_G} {tys : List (ClassId × FieldType)} : tf_cw (tf_g D tys) i_Path_init 0 := ⟨w_97, w_4, by decide, by decide +kernel, by decide⟩
theorem in_Path_init : Cond.instanceMethod i_Path_init.1 ∈ tf_Ts := w_96
theorem ff_Tf_34 {D : va_G} {tys : List (ClassId × FieldType)} : tf_ff (tf_g D tys) "TypeFoundry" 34 0 3 (.object "TypeFoundry$Path") := ⟨T_0, 9, rfl, by decide, uw_0, rfl, w_209, ⟨y_0, yk_0⟩, nm_0, by decide +kernel, rfl⟩
theorem nl_Tf_38 {D : va_G} {tys : List (ClassId × FieldType)} : tf_nl (tf_g D tys) "TypeFoundry" 38 4 2 [.int 0, .null] := ⟨"TypeFoundry$Heights", T_4, y_4, rfl, uw_4, yk_4, w_112, w_113, w_5, by intro j hj; revert j; decide⟩
theorem lk_Tf_40 {D : va_G} {tys : List (ClassId × FieldType)} : tf_lkN (tf_g D tys) "TypeFoundry" 40 i_Heights_init.1 := ⟨"TypeFoundry", w_114⟩
theorem cw_Heights_init {D : va_G} {tys : List (ClassId × FieldType)} : tf_cw (tf_g D tys) i_Heights_init 0 := ⟨w_116, w_5, by decide, by decide +kernel, by decide⟩
theorem in_Heights_init : Cond.instanceMethod i_Heights_init.1 ∈ tf_Ts := w_115
theorem ff_Tf_41 {D : va_G} {tys : List (ClassId × FieldType)} : tf_ff (tf_g D tys) "TypeFoundry" 41 0 4 (.object "TypeFoundry$Heights") := ⟨T_0, 9, rfl, by decide, uw_0, rfl, w_210, ⟨y_0, yk_0⟩, nm_0, by decide +kernel, rfl⟩
theorem nl_Tf_45 {D : va_G} {tys : List (ClassId × FieldType)} : tf_nl (tf_g D tys) "TypeFoundry" 45 2 3 [.null, .int 0, .int 0] := ⟨"TypeFoundry$Canvas", T_2, y_2, rfl, uw_2, yk_2, w_126, w_127, w_6, by intro j hj; revert j; decide⟩
theorem lk_Tf_47 {D : va_G} {tys : List (ClassId × FieldType)} : tf_lkN (tf_g D tys) "TypeFoundry" 47 i_Canvas_init.1 := ⟨"TypeFoundry", w_128⟩
theorem cw_Canvas_init {D : va_G} {tys : List (ClassId × FieldType)} : tf_cw (tf_g D tys) i_Canvas_init 0 := ⟨w_130, w_6, by decide, by decide +kernel, by decide⟩
theorem in_Canvas_init : Cond.instanceMethod i_Canvas_init.1 ∈ tf_Ts := w_129
theorem ff_Tf_48 {D : va_G} {tys : List (ClassId × FieldType)} : tf_ff (tf_g D tys) "TypeFoundry" 48 0 5 (.object "TypeFoundry$Canvas") := ⟨T_0, 9, rfl, by decide, uw_0, rfl, w_211, ⟨y_0, yk_0⟩, nm_0, by decide +kernel, rfl⟩
theorem nl_Tf_52 {D : va_G} {tys : List (ClassId × FieldType)} : tf_nl (tf_g D tys) "TypeFoundry" 52 5 7 [.int 0, .null, .null, .null, .null, .null, .null] := ⟨"TypeFoundry$Kerning", T_5, y_5, rfl, uw_5, yk_5, w_142, w_143, w_7, by intro j hj; revert j; decide⟩
theorem lk_Tf_54 {D : va_G} {tys : List (ClassId × FieldType)} : tf_lkN (tf_g D tys) "TypeFoundry" 54 i_Kerning_init.1 := ⟨"TypeFoundry", w_144⟩
theorem cw_Kerning_init {D : va_G} {tys : List (ClassId × FieldType)} : tf_cw (tf_g D tys) i_Kerning_init 0 := ⟨w_146, w_7, by decide, by decide +kernel, by decide⟩
theorem in_Kerning_init : Cond.instanceMethod i_Kerning_init.1 ∈ tf_Ts := w_145
theorem ff_Tf_55 {D : va_G} {tys : List (ClassId × FieldType)} : tf_ff (tf_g D tys) "TypeFoundry" 55 0 6 (.object "TypeFoundry$Kerning") := ⟨T_0, 9, rfl, by decide, uw_0, rfl, w_212, ⟨y_0, yk_0⟩, nm_0, by decide +kernel, rfl⟩
theorem nl_Tf_59 {D : va_G} {tys : List (ClassId × FieldType)} : tf_nl (tf_g D tys) "TypeFoundry" 59 10 7 [.null, .int 0, .int 0, .int 0, .int 0, .null, .null] := ⟨"TypeFoundry$Setter", T_10, y_10, rfl, uw_10, yk_10, w_171, w_172, w_8, by intro j hj; revert j; decide⟩
theorem lk_Tf_61 {D : va_G} {tys : List (ClassId × FieldType)} : tf_lkN (tf_g D tys) "TypeFoundry" 61 i_Setter_init.1 := ⟨"TypeFoundry", w_173⟩
theorem cw_Setter_init {D : va_G} {tys : List (ClassId × FieldType)} : tf_cw (tf_g D tys) i_Setter_init 0 := ⟨w_175, w_8, by decide, by decide +kernel, by decide⟩
theorem in_Setter_init : Cond.instanceMethod i_Setter_init.1 ∈ tf_Ts := w_174
theorem ff_Tf_62 {D : va_G} {tys : List (ClassId × FieldType)} : tf_ff (tf_g D tys) "TypeFoundry" 62 0 7 (.object "TypeFoundry$Setter") := ⟨T_0, 9, rfl, by decide, uw_0, rfl, w_213, ⟨y_0, yk_0⟩, nm_0, by decide +kernel, rfl⟩
theorem fl_Tf_66 {D : va_G} {tys : List (ClassId × FieldType)} : tf_fl (tf_g D tys) "TypeFoundry" 66 0 8 := ⟨"TypeFoundry", T_0, 9, rfl, by decide, uw_0, rfl, Or.inl w_214⟩
theorem fl_Tf_20 {D : va_G} {tys : List (ClassId × FieldType)} : tf_fl (tf_g D tys) "TypeFoundry" 20 0 1 := ⟨"TypeFoundry", T_0, 9, rfl, by decide, uw_0, rfl, Or.inl w_207⟩
theorem nl_Tf_18 {D : va_G} {tys : List (ClassId × FieldType)} : tf_nl (tf_g D tys) "TypeFoundry" 18 3 15 [.null, .null, .null, .null, .null, .null, .int 0, .int 0, .int 0, .int 0, .int 0, .int 0, .int 0, .int 0, .int 0] := ⟨"TypeFoundry$Glyph", T_3, y_3, rfl, uw_3, yk_3, w_56, w_447, w_14, by intro j hj; revert j; decide⟩
theorem fl_Tf_14 {D : va_G} {tys : List (ClassId × FieldType)} : tf_fl (tf_g D tys) "TypeFoundry" 14 0 0 := ⟨"TypeFoundry", T_0, 9, rfl, by decide, uw_0, rfl, Or.inl w_206⟩
theorem fl_Tf_77 {D : va_G} {tys : List (ClassId × FieldType)} : tf_fl (tf_g D tys) "TypeFoundry" 77 1 0 := ⟨"TypeFoundry$Blend", T_1, 3, rfl, by decide, uw_1, rfl, Or.inl w_46⟩
theorem lk_Tf_80 {D : va_G} {tys : List (ClassId × FieldType)} : tf_lkM (tf_g D tys) "TypeFoundry" 80 i_Glyph_init.1 := w_448
theorem cw_Glyph_init {D : va_G} {tys : List (ClassId × FieldType)} : tf_cw (tf_g D tys) i_Glyph_init 1 := ⟨w_450, w_14, by decide, by decide +kernel, by decide⟩
theorem in_Glyph_init : Cond.instanceMethod i_Glyph_init.1 ∈ tf_Ts := w_449
theorem fw_Tf_66 {D : va_G} {tys : List (ClassId × FieldType)} : tf_fw (tf_g D tys) "TypeFoundry" 66 0 8 (.int) := ⟨"TypeFoundry", T_0, 9, rfl, by decide, uw_0, rfl, Or.inl w_214, ⟨y_0, yk_0⟩, nm_0, by decide +kernel, rfl⟩
theorem lk_Tf_81 {D : va_G} {tys : List (ClassId × FieldType)} : tf_lkM (tf_g D tys) "TypeFoundry" 81 i_Tf_find.1 := w_238
theorem cw_Tf_find {D : va_G} {tys : List (ClassId × FieldType)} : tf_cw (tf_g D tys) i_Tf_find 1 := ⟨w_241, w_1, by decide, by decide +kernel, by decide⟩
theorem in_Tf_find : Cond.instanceMethod i_Tf_find.1 ∈ tf_Ts := w_240
theorem se_Tf_find : Cond.selects i_Tf_find.1.cls i_Tf_find.1 i_Tf_find.1 ∈ tf_Ts := wp_0
theorem lk_Tf_85 {D : va_G} {tys : List (ClassId × FieldType)} : tf_lkM (tf_g D tys) "TypeFoundry" 85 i_Tf_isPlace.1 := w_518
theorem cw_Tf_isPlace {D : va_G} {tys : List (ClassId × FieldType)} : tf_cw (tf_g D tys) i_Tf_isPlace 2 := ⟨w_520, w_1, by decide, by decide +kernel, by decide⟩
theorem sa_Tf_isPlace : Cond.static i_Tf_isPlace.1 ∈ tf_Ts := w_519
theorem fl_Tf_94 {D : va_G} {tys : List (ClassId × FieldType)} : tf_fl (tf_g D tys) "TypeFoundry" 94 3 9 := ⟨"TypeFoundry$Glyph", T_3, 15, rfl, by decide, uw_3, rfl, Or.inl w_472⟩
theorem fl_Tf_98 {D : va_G} {tys : List (ClassId × FieldType)} : tf_fl (tf_g D tys) "TypeFoundry" 98 3 6 := ⟨"TypeFoundry$Glyph", T_3, 15, rfl, by decide, uw_3, rfl, Or.inl w_467⟩
theorem lk_Tf_103 {D : va_G} {tys : List (ClassId × FieldType)} : tf_lkM (tf_g D tys) "TypeFoundry" 103 i_Glyph_addPoint.1 := w_538
theorem cw_Glyph_addPoint {D : va_G} {tys : List (ClassId × FieldType)} : tf_cw (tf_g D tys) i_Glyph_addPoint 3 := ⟨w_541, w_14, by decide, by decide +kernel, by decide⟩
theorem in_Glyph_addPoint : Cond.instanceMethod i_Glyph_addPoint.1 ∈ tf_Ts := w_539
theorem se_Glyph_addPoint : Cond.selects i_Glyph_addPoint.1.cls i_Glyph_addPoint.1 i_Glyph_addPoint.1 ∈ tf_Ts := w_540
theorem lk_Tf_107 {D : va_G} {tys : List (ClassId × FieldType)} : tf_lkM (tf_g D tys) "TypeFoundry" 107 i_Glyph_endContour.1 := w_245
theorem cw_Glyph_endContour {D : va_G} {tys : List (ClassId × FieldType)} : tf_cw (tf_g D tys) i_Glyph_endContour 0 := ⟨w_248, w_14, by decide, by decide +kernel, by decide⟩
theorem in_Glyph_endContour : Cond.instanceMethod i_Glyph_endContour.1 ∈ tf_Ts := w_246
theorem se_Glyph_endContour : Cond.selects i_Glyph_endContour.1.cls i_Glyph_endContour.1 i_Glyph_endContour.1 ∈ tf_Ts := w_247
theorem lk_Tf_111 {D : va_G} {tys : List (ClassId × FieldType)} : tf_lkM (tf_g D tys) "TypeFoundry" 111 i_Tf_within.1 := w_242
theorem cw_Tf_within {D : va_G} {tys : List (ClassId × FieldType)} : tf_cw (tf_g D tys) i_Tf_within 3 := ⟨w_244, w_1, by decide, by decide +kernel, by decide⟩
theorem sa_Tf_within : Cond.static i_Tf_within.1 ∈ tf_Ts := w_243
theorem lk_Tf_115 {D : va_G} {tys : List (ClassId × FieldType)} : tf_lkM (tf_g D tys) "TypeFoundry" 115 i_Blend_hasMaster.1 := w_253
theorem cw_Blend_hasMaster {D : va_G} {tys : List (ClassId × FieldType)} : tf_cw (tf_g D tys) i_Blend_hasMaster 1 := ⟨w_256, w_2, by decide, by decide +kernel, by decide⟩
theorem in_Blend_hasMaster : Cond.instanceMethod i_Blend_hasMaster.1 ∈ tf_Ts := w_254
theorem se_Blend_hasMaster : Cond.selects i_Blend_hasMaster.1.cls i_Blend_hasMaster.1 i_Blend_hasMaster.1 ∈ tf_Ts := w_255
theorem lk_Tf_126 {D : va_G} {tys : List (ClassId × FieldType)} : tf_lkM (tf_g D tys) "TypeFoundry" 126 i_Glyph_movePoint.1 := w_571
theorem cw_Glyph_movePoint {D : va_G} {tys : List (ClassId × FieldType)} : tf_cw (tf_g D tys) i_Glyph_movePoint 4 := ⟨w_545, w_14, by decide, by decide +kernel, by decide⟩
theorem in_Glyph_movePoint : Cond.instanceMethod i_Glyph_movePoint.1 ∈ tf_Ts := w_543
theorem se_Glyph_movePoint : Cond.selects i_Glyph_movePoint.1.cls i_Glyph_movePoint.1 i_Glyph_movePoint.1 ∈ tf_Ts := w_544
theorem lk_Tf_130 {D : va_G} {tys : List (ClassId × FieldType)} : tf_lkM (tf_g D tys) "TypeFoundry" 130 i_Tf_isShift.1 := w_579
theorem cw_Tf_isShift {D : va_G} {tys : List (ClassId × FieldType)} : tf_cw (tf_g D tys) i_Tf_isShift 2 := ⟨w_581, w_1, by decide, by decide +kernel, by decide⟩
theorem sa_Tf_isShift : Cond.static i_Tf_isShift.1 ∈ tf_Ts := w_580
theorem lk_Tf_135 {D : va_G} {tys : List (ClassId × FieldType)} : tf_lkM (tf_g D tys) "TypeFoundry" 135 i_Glyph_hasRoomFor.1 := w_583
theorem cw_Glyph_hasRoomFor {D : va_G} {tys : List (ClassId × FieldType)} : tf_cw (tf_g D tys) i_Glyph_hasRoomFor 1 := ⟨w_586, w_14, by decide, by decide +kernel, by decide⟩
theorem in_Glyph_hasRoomFor : Cond.instanceMethod i_Glyph_hasRoomFor.1 ∈ tf_Ts := w_584
theorem se_Glyph_hasRoomFor : Cond.selects i_Glyph_hasRoomFor.1.cls i_Glyph_hasRoomFor.1 i_Glyph_hasRoomFor.1 ∈ tf_Ts := w_585
theorem nl_Tf_141 {D : va_G} {tys : List (ClassId × FieldType)} : tf_nl (tf_g D tys) "TypeFoundry" 141 7 4 [.null, .int 0, .int 0, .int 0] := ⟨"TypeFoundry$Part", T_7, y_7, rfl, uw_7, yk_7, w_592, w_593, w_17, by intro j hj; revert j; decide⟩
theorem lk_Tf_143 {D : va_G} {tys : List (ClassId × FieldType)} : tf_lkM (tf_g D tys) "TypeFoundry" 143 i_Part_init.1 := w_594
theorem cw_Part_init {D : va_G} {tys : List (ClassId × FieldType)} : tf_cw (tf_g D tys) i_Part_init 4 := ⟨w_596, w_17, by decide, by decide +kernel, by decide⟩
theorem in_Part_init : Cond.instanceMethod i_Part_init.1 ∈ tf_Ts := w_595
theorem lk_Tf_146 {D : va_G} {tys : List (ClassId × FieldType)} : tf_lkM (tf_g D tys) "TypeFoundry" 146 i_Glyph_addPart.1 := w_616
theorem cw_Glyph_addPart {D : va_G} {tys : List (ClassId × FieldType)} : tf_cw (tf_g D tys) i_Glyph_addPart 1 := ⟨w_619, w_14, by decide, by decide +kernel, by decide⟩
theorem in_Glyph_addPart : Cond.instanceMethod i_Glyph_addPart.1 ∈ tf_Ts := w_617
theorem se_Glyph_addPart : Cond.selects i_Glyph_addPart.1.cls i_Glyph_addPart.1 i_Glyph_addPart.1 ∈ tf_Ts := w_618
theorem fl_Tf_150 {D : va_G} {tys : List (ClassId × FieldType)} : tf_fl (tf_g D tys) "TypeFoundry" 150 3 2 := ⟨"TypeFoundry$Glyph", T_3, 15, rfl, by decide, uw_3, rfl, Or.inl w_459⟩
theorem lk_Tf_154 {D : va_G} {tys : List (ClassId × FieldType)} : tf_lkM (tf_g D tys) "TypeFoundry" 154 i_Blend_set.1 := w_262
theorem cw_Blend_set {D : va_G} {tys : List (ClassId × FieldType)} : tf_cw (tf_g D tys) i_Blend_set 2 := ⟨w_265, w_2, by decide, by decide +kernel, by decide⟩
theorem in_Blend_set : Cond.instanceMethod i_Blend_set.1 ∈ tf_Ts := w_263
theorem se_Blend_set : Cond.selects i_Blend_set.1.cls i_Blend_set.1 i_Blend_set.1 ∈ tf_Ts := w_264
theorem lk_Tf_158 {D : va_G} {tys : List (ClassId × FieldType)} : tf_lkM (tf_g D tys) "TypeFoundry" 158 i_Glyph_outlinePoints.1 := w_632
theorem cw_Glyph_outlinePoints {D : va_G} {tys : List (ClassId × FieldType)} : tf_cw (tf_g D tys) i_Glyph_outlinePoints 0 := ⟨w_590, w_14, by decide, by decide +kernel, by decide⟩
theorem in_Glyph_outlinePoints : Cond.instanceMethod i_Glyph_outlinePoints.1 ∈ tf_Ts := w_588
theorem se_Glyph_outlinePoints : Cond.selects i_Glyph_outlinePoints.1.cls i_Glyph_outlinePoints.1 i_Glyph_outlinePoints.1 ∈ tf_Ts := w_589
theorem lk_Tf_164 {D : va_G} {tys : List (ClassId × FieldType)} : tf_lkM (tf_g D tys) "TypeFoundry" 164 i_Tf_ofWholeOutline.1 := w_634
theorem cw_Tf_ofWholeOutline {D : va_G} {tys : List (ClassId × FieldType)} : tf_cw (tf_g D tys) i_Tf_ofWholeOutline 2 := ⟨w_637, w_1, by decide, by decide +kernel, by decide⟩
theorem in_Tf_ofWholeOutline : Cond.instanceMethod i_Tf_ofWholeOutline.1 ∈ tf_Ts := w_636
theorem se_Tf_ofWholeOutline : Cond.selects i_Tf_ofWholeOutline.1.cls i_Tf_ofWholeOutline.1 i_Tf_ofWholeOutline.1 ∈ tf_Ts := wp_6
theorem fl_Tf_27 {D : va_G} {tys : List (ClassId × FieldType)} : tf_fl (tf_g D tys) "TypeFoundry" 27 0 2 := ⟨"TypeFoundry", T_0, 9, rfl, by decide, uw_0, rfl, Or.inl w_208⟩
theorem lk_Tf_168 {D : va_G} {tys : List (ClassId × FieldType)} : tf_lkM (tf_g D tys) "TypeFoundry" 168 i_Outline_become.1 := w_655
theorem cw_Outline_become {D : va_G} {tys : List (ClassId × FieldType)} : tf_cw (tf_g D tys) i_Outline_become 2 := ⟨w_658, w_3, by decide, by decide +kernel, by decide⟩
theorem in_Outline_become : Cond.instanceMethod i_Outline_become.1 ∈ tf_Ts := w_656
theorem se_Outline_become : Cond.selects i_Outline_become.1.cls i_Outline_become.1 i_Outline_become.1 ∈ tf_Ts := w_657
theorem lk_Tf_172 {D : va_G} {tys : List (ClassId × FieldType)} : tf_lkM (tf_g D tys) "TypeFoundry" 172 i_Outline_ofPoint.1 := w_684
theorem cw_Outline_ofPoint {D : va_G} {tys : List (ClassId × FieldType)} : tf_cw (tf_g D tys) i_Outline_ofPoint 2 := ⟨w_687, w_3, by decide, by decide +kernel, by decide⟩
theorem in_Outline_ofPoint : Cond.instanceMethod i_Outline_ofPoint.1 ∈ tf_Ts := w_685
theorem se_Outline_ofPoint : Cond.selects i_Outline_ofPoint.1.cls i_Outline_ofPoint.1 i_Outline_ofPoint.1 ∈ tf_Ts := w_686
theorem fl_Tf_41 {D : va_G} {tys : List (ClassId × FieldType)} : tf_fl (tf_g D tys) "TypeFoundry" 41 0 4 := ⟨"TypeFoundry", T_0, 9, rfl, by decide, uw_0, rfl, Or.inl w_210⟩
theorem lk_Tf_176 {D : va_G} {tys : List (ClassId × FieldType)} : tf_lkM (tf_g D tys) "TypeFoundry" 176 i_Heights_add.1 := w_270
theorem cw_Heights_add {D : va_G} {tys : List (ClassId × FieldType)} : tf_cw (tf_g D tys) i_Heights_add 1 := ⟨w_273, w_5, by decide, by decide +kernel, by decide⟩
theorem in_Heights_add : Cond.instanceMethod i_Heights_add.1 ∈ tf_Ts := w_271
theorem se_Heights_add : Cond.selects i_Heights_add.1.cls i_Heights_add.1 i_Heights_add.1 ∈ tf_Ts := w_272
theorem lk_Tf_179 {D : va_G} {tys : List (ClassId × FieldType)} : tf_lkM (tf_g D tys) "TypeFoundry" 179 i_Tf_isSide.1 := w_695
theorem cw_Tf_isSide {D : va_G} {tys : List (ClassId × FieldType)} : tf_cw (tf_g D tys) i_Tf_isSide 1 := ⟨w_697, w_1, by decide, by decide +kernel, by decide⟩
theorem sa_Tf_isSide : Cond.static i_Tf_isSide.1 ∈ tf_Ts := w_696
theorem fl_Tf_48 {D : va_G} {tys : List (ClassId × FieldType)} : tf_fl (tf_g D tys) "TypeFoundry" 48 0 5 := ⟨"TypeFoundry", T_0, 9, rfl, by decide, uw_0, rfl, Or.inl w_211⟩
theorem lk_Tf_184 {D : va_G} {tys : List (ClassId × FieldType)} : tf_lkM (tf_g D tys) "TypeFoundry" 184 i_Canvas_start.1 := w_699
theorem cw_Canvas_start {D : va_G} {tys : List (ClassId × FieldType)} : tf_cw (tf_g D tys) i_Canvas_start 1 := ⟨w_702, w_6, by decide, by decide +kernel, by decide⟩
theorem in_Canvas_start : Cond.instanceMethod i_Canvas_start.1 ∈ tf_Ts := w_700
theorem se_Canvas_start : Cond.selects i_Canvas_start.1.cls i_Canvas_start.1 i_Canvas_start.1 ∈ tf_Ts := w_701
theorem fl_Tf_187 {D : va_G} {tys : List (ClassId × FieldType)} : tf_fl (tf_g D tys) "TypeFoundry" 187 6 4 := ⟨"TypeFoundry$Outline", T_6, 7, rfl, by decide, uw_6, rfl, Or.inl w_73⟩
theorem fl_Tf_34 {D : va_G} {tys : List (ClassId × FieldType)} : tf_fl (tf_g D tys) "TypeFoundry" 34 0 3 := ⟨"TypeFoundry", T_0, 9, rfl, by decide, uw_0, rfl, Or.inl w_209⟩
theorem lk_Tf_190 {D : va_G} {tys : List (ClassId × FieldType)} : tf_lkM (tf_g D tys) "TypeFoundry" 190 i_Path_follow.1 := w_966
theorem cw_Path_follow {D : va_G} {tys : List (ClassId × FieldType)} : tf_cw (tf_g D tys) i_Path_follow 2 := ⟨w_969, w_4, by decide, by decide +kernel, by decide⟩
theorem in_Path_follow : Cond.instanceMethod i_Path_follow.1 ∈ tf_Ts := w_967
theorem se_Path_follow : Cond.selects i_Path_follow.1.cls i_Path_follow.1 i_Path_follow.1 ∈ tf_Ts := w_968
theorem lk_Tf_194 {D : va_G} {tys : List (ClassId × FieldType)} : tf_lkM (tf_g D tys) "TypeFoundry" 194 i_Path_fit.1 := w_987
theorem cw_Path_fit {D : va_G} {tys : List (ClassId × FieldType)} : tf_cw (tf_g D tys) i_Path_fit 2 := ⟨w_990, w_4, by decide, by decide +kernel, by decide⟩
theorem in_Path_fit : Cond.instanceMethod i_Path_fit.1 ∈ tf_Ts := w_988
theorem se_Path_fit : Cond.selects i_Path_fit.1.cls i_Path_fit.1 i_Path_fit.1 ∈ tf_Ts := w_989
theorem lk_Tf_198 {D : va_G} {tys : List (ClassId × FieldType)} : tf_lkM (tf_g D tys) "TypeFoundry" 198 i_Canvas_addPath.1 := w_1002
theorem cw_Canvas_addPath {D : va_G} {tys : List (ClassId × FieldType)} : tf_cw (tf_g D tys) i_Canvas_addPath 1 := ⟨w_1005, w_6, by decide, by decide +kernel, by decide⟩
theorem in_Canvas_addPath : Cond.instanceMethod i_Canvas_addPath.1 ∈ tf_Ts := w_1003
theorem se_Canvas_addPath : Cond.selects i_Canvas_addPath.1.cls i_Canvas_addPath.1 i_Canvas_addPath.1 ∈ tf_Ts := w_1004
theorem lk_Tf_202 {D : va_G} {tys : List (ClassId × FieldType)} : tf_lkM (tf_g D tys) "TypeFoundry" 202 i_Canvas_turnToGreys.1 := w_1033
theorem cw_Canvas_turnToGreys {D : va_G} {tys : List (ClassId × FieldType)} : tf_cw (tf_g D tys) i_Canvas_turnToGreys 0 := ⟨w_1036, w_6, by decide, by decide +kernel, by decide⟩
theorem in_Canvas_turnToGreys : Cond.instanceMethod i_Canvas_turnToGreys.1 ∈ tf_Ts := w_1034
theorem se_Canvas_turnToGreys : Cond.selects i_Canvas_turnToGreys.1.cls i_Canvas_turnToGreys.1 i_Canvas_turnToGreys.1 ∈ tf_Ts := w_1035
theorem lk_Tf_205 {D : va_G} {tys : List (ClassId × FieldType)} : tf_lkM (tf_g D tys) "TypeFoundry" 205 i_Canvas_greyAt.1 := w_278
theorem cw_Canvas_greyAt {D : va_G} {tys : List (ClassId × FieldType)} : tf_cw (tf_g D tys) i_Canvas_greyAt 2 := ⟨w_281, w_6, by decide, by decide +kernel, by decide⟩
theorem in_Canvas_greyAt : Cond.instanceMethod i_Canvas_greyAt.1 ∈ tf_Ts := w_279
theorem se_Canvas_greyAt : Cond.selects i_Canvas_greyAt.1.cls i_Canvas_greyAt.1 i_Canvas_greyAt.1 ∈ tf_Ts := w_280
theorem fl_Tf_55 {D : va_G} {tys : List (ClassId × FieldType)} : tf_fl (tf_g D tys) "TypeFoundry" 55 0 6 := ⟨"TypeFoundry", T_0, 9, rfl, by decide, uw_0, rfl, Or.inl w_212⟩
theorem lk_Tf_208 {D : va_G} {tys : List (ClassId × FieldType)} : tf_lkM (tf_g D tys) "TypeFoundry" 208 i_Kerning_setClass.1 := w_287
theorem cw_Kerning_setClass {D : va_G} {tys : List (ClassId × FieldType)} : tf_cw (tf_g D tys) i_Kerning_setClass 3 := ⟨w_290, w_7, by decide, by decide +kernel, by decide⟩
theorem in_Kerning_setClass : Cond.instanceMethod i_Kerning_setClass.1 ∈ tf_Ts := w_288
theorem se_Kerning_setClass : Cond.selects i_Kerning_setClass.1.cls i_Kerning_setClass.1 i_Kerning_setClass.1 ∈ tf_Ts := w_289
theorem lk_Tf_212 {D : va_G} {tys : List (ClassId × FieldType)} : tf_lkM (tf_g D tys) "TypeFoundry" 212 i_Tf_isKerning.1 := w_295
theorem cw_Tf_isKerning {D : va_G} {tys : List (ClassId × FieldType)} : tf_cw (tf_g D tys) i_Tf_isKerning 1 := ⟨w_297, w_1, by decide, by decide +kernel, by decide⟩
theorem sa_Tf_isKerning : Cond.static i_Tf_isKerning.1 ∈ tf_Ts := w_296
theorem lk_Tf_215 {D : va_G} {tys : List (ClassId × FieldType)} : tf_lkM (tf_g D tys) "TypeFoundry" 215 i_Kerning_tellClasses.1 := w_298
theorem cw_Kerning_tellClasses {D : va_G} {tys : List (ClassId × FieldType)} : tf_cw (tf_g D tys) i_Kerning_tellClasses 3 := ⟨w_301, w_7, by decide, by decide +kernel, by decide⟩
theorem in_Kerning_tellClasses : Cond.instanceMethod i_Kerning_tellClasses.1 ∈ tf_Ts := w_299
theorem se_Kerning_tellClasses : Cond.selects i_Kerning_tellClasses.1.cls i_Kerning_tellClasses.1 i_Kerning_tellClasses.1 ∈ tf_Ts := w_300
theorem lk_Tf_218 {D : va_G} {tys : List (ClassId × FieldType)} : tf_lkM (tf_g D tys) "TypeFoundry" 218 i_Kerning_tellPair.1 := w_306
theorem cw_Kerning_tellPair {D : va_G} {tys : List (ClassId × FieldType)} : tf_cw (tf_g D tys) i_Kerning_tellPair 3 := ⟨w_309, w_7, by decide, by decide +kernel, by decide⟩
theorem in_Kerning_tellPair : Cond.instanceMethod i_Kerning_tellPair.1 ∈ tf_Ts := w_307
theorem se_Kerning_tellPair : Cond.selects i_Kerning_tellPair.1.cls i_Kerning_tellPair.1 i_Kerning_tellPair.1 ∈ tf_Ts := w_308
theorem nl_Tf_221 {D : va_G} {tys : List (ClassId × FieldType)} : tf_nl (tf_g D tys) "TypeFoundry" 221 9 8 [.int 0, .int 0, .int 0, .long 0, .long 0, .long 0, .int 0, .int 0] := ⟨"TypeFoundry$Rule", T_9, y_9, rfl, uw_9, yk_9, w_1050, w_1051, w_30, by intro j hj; revert j; decide⟩
theorem lk_Tf_223 {D : va_G} {tys : List (ClassId × FieldType)} : tf_lkM (tf_g D tys) "TypeFoundry" 223 i_Rule_init.1 := w_1052
theorem cw_Rule_init {D : va_G} {tys : List (ClassId × FieldType)} : tf_cw (tf_g D tys) i_Rule_init 5 := ⟨w_1054, w_30, by decide, by decide +kernel, by decide⟩
theorem in_Rule_init : Cond.instanceMethod i_Rule_init.1 ∈ tf_Ts := w_1053
theorem lk_Tf_226 {D : va_G} {tys : List (ClassId × FieldType)} : tf_lkM (tf_g D tys) "TypeFoundry" 226 i_Rule_isMadeOf.1 := w_1087
theorem cw_Rule_isMadeOf {D : va_G} {tys : List (ClassId × FieldType)} : tf_cw (tf_g D tys) i_Rule_isMadeOf 1 := ⟨w_1090, w_30, by decide, by decide +kernel, by decide⟩
theorem in_Rule_isMadeOf : Cond.instanceMethod i_Rule_isMadeOf.1 ∈ tf_Ts := w_1088
theorem se_Rule_isMadeOf : Cond.selects i_Rule_isMadeOf.1.cls i_Rule_isMadeOf.1 i_Rule_isMadeOf.1 ∈ tf_Ts := w_1089
theorem fl_Tf_62 {D : va_G} {tys : List (ClassId × FieldType)} : tf_fl (tf_g D tys) "TypeFoundry" 62 0 7 := ⟨"TypeFoundry", T_0, 9, rfl, by decide, uw_0, rfl, Or.inl w_213⟩
theorem fl_Tf_231 {D : va_G} {tys : List (ClassId × FieldType)} : tf_fl (tf_g D tys) "TypeFoundry" 231 10 3 := ⟨"TypeFoundry$Setter", T_10, 7, rfl, by decide, uw_10, rfl, Or.inl w_186⟩
theorem lk_Tf_236 {D : va_G} {tys : List (ClassId × FieldType)} : tf_lkM (tf_g D tys) "TypeFoundry" 236 i_Setter_addRule.1 := w_1097
theorem cw_Setter_addRule {D : va_G} {tys : List (ClassId × FieldType)} : tf_cw (tf_g D tys) i_Setter_addRule 1 := ⟨w_1100, w_8, by decide, by decide +kernel, by decide⟩
theorem in_Setter_addRule : Cond.instanceMethod i_Setter_addRule.1 ∈ tf_Ts := w_1098
theorem se_Setter_addRule : Cond.selects i_Setter_addRule.1.cls i_Setter_addRule.1 i_Setter_addRule.1 ∈ tf_Ts := w_1099
theorem lk_Tf_240 {D : va_G} {tys : List (ClassId × FieldType)} : tf_lkM (tf_g D tys) "TypeFoundry" 240 i_Setter_addToText.1 := w_321
theorem cw_Setter_addToText {D : va_G} {tys : List (ClassId × FieldType)} : tf_cw (tf_g D tys) i_Setter_addToText 1 := ⟨w_324, w_8, by decide, by decide +kernel, by decide⟩
theorem in_Setter_addToText : Cond.instanceMethod i_Setter_addToText.1 ∈ tf_Ts := w_322
theorem se_Setter_addToText : Cond.selects i_Setter_addToText.1.cls i_Setter_addToText.1 i_Setter_addToText.1 ∈ tf_Ts := w_323
theorem lk_Tf_243 {D : va_G} {tys : List (ClassId × FieldType)} : tf_lkM (tf_g D tys) "TypeFoundry" 243 i_Setter_setRow.1 := w_329
theorem cw_Setter_setRow {D : va_G} {tys : List (ClassId × FieldType)} : tf_cw (tf_g D tys) i_Setter_setRow 0 := ⟨w_332, w_8, by decide, by decide +kernel, by decide⟩
theorem in_Setter_setRow : Cond.instanceMethod i_Setter_setRow.1 ∈ tf_Ts := w_330
theorem se_Setter_setRow : Cond.selects i_Setter_setRow.1.cls i_Setter_setRow.1 i_Setter_setRow.1 ∈ tf_Ts := w_331
theorem fl_Tf_246 {D : va_G} {tys : List (ClassId × FieldType)} : tf_fl (tf_g D tys) "TypeFoundry" 246 10 1 := ⟨"TypeFoundry$Setter", T_10, 7, rfl, by decide, uw_10, rfl, Or.inl w_182⟩
theorem fl_Tf_249 {D : va_G} {tys : List (ClassId × FieldType)} : tf_fl (tf_g D tys) "TypeFoundry" 249 10 0 := ⟨"TypeFoundry$Setter", T_10, 7, rfl, by decide, uw_10, rfl, Or.inl w_180⟩
theorem lk_Tf_252 {D : va_G} {tys : List (ClassId × FieldType)} : tf_lkM (tf_g D tys) "TypeFoundry" 252 i_Tf_xInRow.1 := w_1108
theorem cw_Tf_xInRow {D : va_G} {tys : List (ClassId × FieldType)} : tf_cw (tf_g D tys) i_Tf_xInRow 1 := ⟨w_1111, w_1, by decide, by decide +kernel, by decide⟩
theorem in_Tf_xInRow : Cond.instanceMethod i_Tf_xInRow.1 ∈ tf_Ts := w_1110
theorem se_Tf_xInRow : Cond.selects i_Tf_xInRow.1.cls i_Tf_xInRow.1 i_Tf_xInRow.1 ∈ tf_Ts := wp_19
theorem fl_Tf_258 {D : va_G} {tys : List (ClassId × FieldType)} : tf_fl (tf_g D tys) "TypeFoundry" 258 4 0 := ⟨"TypeFoundry$Heights", T_4, 2, rfl, by decide, uw_4, rfl, Or.inl w_119⟩
theorem fl_Tf_261 {D : va_G} {tys : List (ClassId × FieldType)} : tf_fl (tf_g D tys) "TypeFoundry" 261 10 2 := ⟨"TypeFoundry$Setter", T_10, 7, rfl, by decide, uw_10, rfl, Or.inl w_184⟩
theorem fl_Tf_264 {D : va_G} {tys : List (ClassId × FieldType)} : tf_fl (tf_g D tys) "TypeFoundry" 264 5 0 := ⟨"TypeFoundry$Kerning", T_5, 7, rfl, by decide, uw_5, rfl, Or.inl w_149⟩
theorem fl_Tf_267 {D : va_G} {tys : List (ClassId × FieldType)} : tf_fl (tf_g D tys) "TypeFoundry" 267 10 4 := ⟨"TypeFoundry$Setter", T_10, 7, rfl, by decide, uw_10, rfl, Or.inl w_188⟩
theorem lk_Tf_270 {D : va_G} {tys : List (ClassId × FieldType)} : tf_lkM (tf_g D tys) "TypeFoundry" 270 i_Glyph_outlineContours.1 := w_638
theorem cw_Glyph_outlineContours {D : va_G} {tys : List (ClassId × FieldType)} : tf_cw (tf_g D tys) i_Glyph_outlineContours 0 := ⟨w_623, w_14, by decide, by decide +kernel, by decide⟩
theorem in_Glyph_outlineContours : Cond.instanceMethod i_Glyph_outlineContours.1 ∈ tf_Ts := w_621
theorem se_Glyph_outlineContours : Cond.selects i_Glyph_outlineContours.1.cls i_Glyph_outlineContours.1 i_Glyph_outlineContours.1 ∈ tf_Ts := w_622
theorem lk_Tf_273 {D : va_G} {tys : List (ClassId × FieldType)} : tf_lkM (tf_g D tys) "TypeFoundry" 273 i_Blend_valueOf.1 := w_639
theorem cw_Blend_valueOf {D : va_G} {tys : List (ClassId × FieldType)} : tf_cw (tf_g D tys) i_Blend_valueOf 2 := ⟨w_642, w_2, by decide, by decide +kernel, by decide⟩
theorem in_Blend_valueOf : Cond.instanceMethod i_Blend_valueOf.1 ∈ tf_Ts := w_640
theorem se_Blend_valueOf : Cond.selects i_Blend_valueOf.1.cls i_Blend_valueOf.1 i_Blend_valueOf.1 ∈ tf_Ts := w_641
theorem fl_Tf_277 {D : va_G} {tys : List (ClassId × FieldType)} : tf_fl (tf_g D tys) "TypeFoundry" 277 3 8 := ⟨"TypeFoundry$Glyph", T_3, 15, rfl, by decide, uw_3, rfl, Or.inl w_471⟩
theorem lk_Tf_280 {D : va_G} {tys : List (ClassId × FieldType)} : tf_lkM (tf_g D tys) "TypeFoundry" 280 i_Tf_widthOf.1 := w_1112
theorem cw_Tf_widthOf {D : va_G} {tys : List (ClassId × FieldType)} : tf_cw (tf_g D tys) i_Tf_widthOf 1 := ⟨w_1115, w_1, by decide, by decide +kernel, by decide⟩
theorem in_Tf_widthOf : Cond.instanceMethod i_Tf_widthOf.1 ∈ tf_Ts := w_1114
theorem se_Tf_widthOf : Cond.selects i_Tf_widthOf.1.cls i_Tf_widthOf.1 i_Tf_widthOf.1 ∈ tf_Ts := wp_20
theorem lk_Tf_283 {D : va_G} {tys : List (ClassId × FieldType)} : tf_lkM (tf_g D tys) "TypeFoundry" 283 i_Kerning_of.1 := w_1116
theorem cw_Kerning_of {D : va_G} {tys : List (ClassId × FieldType)} : tf_cw (tf_g D tys) i_Kerning_of 2 := ⟨w_1119, w_7, by decide, by decide +kernel, by decide⟩
theorem in_Kerning_of : Cond.instanceMethod i_Kerning_of.1 ∈ tf_Ts := w_1117
theorem se_Kerning_of : Cond.selects i_Kerning_of.1.cls i_Kerning_of.1 i_Kerning_of.1 ∈ tf_Ts := w_1118
theorem lk_Tf_288 {D : va_G} {tys : List (ClassId × FieldType)} : tf_lkM (tf_g D tys) "TypeFoundry" 288 i_Math_floorDiv_J.1 := w_651
theorem cw_Math_floorDiv_J {D : va_G} {tys : List (ClassId × FieldType)} : tf_cw (tf_g D tys) i_Math_floorDiv_J 2 := ⟨w_653, w_18, by decide, by decide +kernel, by decide⟩
theorem sa_Math_floorDiv_J : Cond.static i_Math_floorDiv_J.1 ∈ tf_Ts := w_652
theorem ff_Mod_7 {D : va_G} {tys : List (ClassId × FieldType)} : tf_ff (tf_g D tys) "TypeFoundryModel" 7 11 3 (.array .int) := ⟨T_11, 55, rfl, by decide, uw_11, rfl, w_1130, ⟨y_11, yk_11⟩, nm_11, by decide +kernel, rfl⟩
theorem ff_Mod_13 {D : va_G} {tys : List (ClassId × FieldType)} : tf_ff (tf_g D tys) "TypeFoundryModel" 13 11 4 (.array .byte) := ⟨T_11, 55, rfl, by decide, uw_11, rfl, w_1131, ⟨y_11, yk_11⟩, nm_11, by decide +kernel, rfl⟩
theorem ff_Mod_17 {D : va_G} {tys : List (ClassId × FieldType)} : tf_ff (tf_g D tys) "TypeFoundryModel" 17 11 5 (.array .int) := ⟨T_11, 55, rfl, by decide, uw_11, rfl, w_1132, ⟨y_11, yk_11⟩, nm_11, by decide +kernel, rfl⟩
theorem ff_Mod_20 {D : va_G} {tys : List (ClassId × FieldType)} : tf_ff (tf_g D tys) "TypeFoundryModel" 20 11 6 (.array .int) := ⟨T_11, 55, rfl, by decide, uw_11, rfl, w_1133, ⟨y_11, yk_11⟩, nm_11, by decide +kernel, rfl⟩
theorem ff_Mod_23 {D : va_G} {tys : List (ClassId × FieldType)} : tf_ff (tf_g D tys) "TypeFoundryModel" 23 11 7 (.array .int) := ⟨T_11, 55, rfl, by decide, uw_11, rfl, w_1134, ⟨y_11, yk_11⟩, nm_11, by decide +kernel, rfl⟩
theorem ff_Mod_26 {D : va_G} {tys : List (ClassId × FieldType)} : tf_ff (tf_g D tys) "TypeFoundryModel" 26 11 8 (.array .int) := ⟨T_11, 55, rfl, by decide, uw_11, rfl, w_1135, ⟨y_11, yk_11⟩, nm_11, by decide +kernel, rfl⟩
theorem ff_Mod_29 {D : va_G} {tys : List (ClassId × FieldType)} : tf_ff (tf_g D tys) "TypeFoundryModel" 29 11 9 (.array .boolean) := ⟨T_11, 55, rfl, by decide, uw_11, rfl, w_1136, ⟨y_11, yk_11⟩, nm_11, by decide +kernel, rfl⟩
theorem ff_Mod_33 {D : va_G} {tys : List (ClassId × FieldType)} : tf_ff (tf_g D tys) "TypeFoundryModel" 33 11 10 (.array .int) := ⟨T_11, 55, rfl, by decide, uw_11, rfl, w_1137, ⟨y_11, yk_11⟩, nm_11, by decide +kernel, rfl⟩
theorem ff_Mod_36 {D : va_G} {tys : List (ClassId × FieldType)} : tf_ff (tf_g D tys) "TypeFoundryModel" 36 11 11 (.array .int) := ⟨T_11, 55, rfl, by decide, uw_11, rfl, w_1138, ⟨y_11, yk_11⟩, nm_11, by decide +kernel, rfl⟩
theorem ff_Mod_39 {D : va_G} {tys : List (ClassId × FieldType)} : tf_ff (tf_g D tys) "TypeFoundryModel" 39 11 12 (.array .int) := ⟨T_11, 55, rfl, by decide, uw_11, rfl, w_1139, ⟨y_11, yk_11⟩, nm_11, by decide +kernel, rfl⟩
theorem ff_Mod_42 {D : va_G} {tys : List (ClassId × FieldType)} : tf_ff (tf_g D tys) "TypeFoundryModel" 42 11 13 (.array .int) := ⟨T_11, 55, rfl, by decide, uw_11, rfl, w_1140, ⟨y_11, yk_11⟩, nm_11, by decide +kernel, rfl⟩
theorem ff_Mod_45 {D : va_G} {tys : List (ClassId × FieldType)} : tf_ff (tf_g D tys) "TypeFoundryModel" 45 11 14 (.array .int) := ⟨T_11, 55, rfl, by decide, uw_11, rfl, w_1141, ⟨y_11, yk_11⟩, nm_11, by decide +kernel, rfl⟩
theorem ff_Mod_48 {D : va_G} {tys : List (ClassId × FieldType)} : tf_ff (tf_g D tys) "TypeFoundryModel" 48 11 15 (.array .int) := ⟨T_11, 55, rfl, by decide, uw_11, rfl, w_1142, ⟨y_11, yk_11⟩, nm_11, by decide +kernel, rfl⟩
theorem ff_Mod_51 {D : va_G} {tys : List (ClassId × FieldType)} : tf_ff (tf_g D tys) "TypeFoundryModel" 51 11 16 (.array .int) := ⟨T_11, 55, rfl, by decide, uw_11, rfl, w_1143, ⟨y_11, yk_11⟩, nm_11, by decide +kernel, rfl⟩
theorem ff_Mod_54 {D : va_G} {tys : List (ClassId × FieldType)} : tf_ff (tf_g D tys) "TypeFoundryModel" 54 11 19 (.array .int) := ⟨T_11, 55, rfl, by decide, uw_11, rfl, w_1146, ⟨y_11, yk_11⟩, nm_11, by decide +kernel, rfl⟩
theorem ff_Mod_57 {D : va_G} {tys : List (ClassId × FieldType)} : tf_ff (tf_g D tys) "TypeFoundryModel" 57 11 20 (.array .int) := ⟨T_11, 55, rfl, by decide, uw_11, rfl, w_1147, ⟨y_11, yk_11⟩, nm_11, by decide +kernel, rfl⟩
theorem ff_Mod_60 {D : va_G} {tys : List (ClassId × FieldType)} : tf_ff (tf_g D tys) "TypeFoundryModel" 60 11 21 (.array .boolean) := ⟨T_11, 55, rfl, by decide, uw_11, rfl, w_1148, ⟨y_11, yk_11⟩, nm_11, by decide +kernel, rfl⟩
theorem ff_Mod_63 {D : va_G} {tys : List (ClassId × FieldType)} : tf_ff (tf_g D tys) "TypeFoundryModel" 63 11 22 (.array .int) := ⟨T_11, 55, rfl, by decide, uw_11, rfl, w_1149, ⟨y_11, yk_11⟩, nm_11, by decide +kernel, rfl⟩
theorem ff_Mod_66 {D : va_G} {tys : List (ClassId × FieldType)} : tf_ff (tf_g D tys) "TypeFoundryModel" 66 11 25 (.array .int) := ⟨T_11, 55, rfl, by decide, uw_11, rfl, w_1152, ⟨y_11, yk_11⟩, nm_11, by decide +kernel, rfl⟩
theorem ff_Mod_69 {D : va_G} {tys : List (ClassId × FieldType)} : tf_ff (tf_g D tys) "TypeFoundryModel" 69 11 26 (.array .int) := ⟨T_11, 55, rfl, by decide, uw_11, rfl, w_1153, ⟨y_11, yk_11⟩, nm_11, by decide +kernel, rfl⟩
theorem ff_Mod_72 {D : va_G} {tys : List (ClassId × FieldType)} : tf_ff (tf_g D tys) "TypeFoundryModel" 72 11 29 (.array .int) := ⟨T_11, 55, rfl, by decide, uw_11, rfl, w_1156, ⟨y_11, yk_11⟩, nm_11, by decide +kernel, rfl⟩
theorem ff_Mod_75 {D : va_G} {tys : List (ClassId × FieldType)} : tf_ff (tf_g D tys) "TypeFoundryModel" 75 11 31 (.array .int) := ⟨T_11, 55, rfl, by decide, uw_11, rfl, w_1158, ⟨y_11, yk_11⟩, nm_11, by decide +kernel, rfl⟩
theorem ff_Mod_78 {D : va_G} {tys : List (ClassId × FieldType)} : tf_ff (tf_g D tys) "TypeFoundryModel" 78 11 35 (.array .byte) := ⟨T_11, 55, rfl, by decide, uw_11, rfl, w_1162, ⟨y_11, yk_11⟩, nm_11, by decide +kernel, rfl⟩
theorem ff_Mod_81 {D : va_G} {tys : List (ClassId × FieldType)} : tf_ff (tf_g D tys) "TypeFoundryModel" 81 11 36 (.array .byte) := ⟨T_11, 55, rfl, by decide, uw_11, rfl, w_1163, ⟨y_11, yk_11⟩, nm_11, by decide +kernel, rfl⟩
theorem ff_Mod_84 {D : va_G} {tys : List (ClassId × FieldType)} : tf_ff (tf_g D tys) "TypeFoundryModel" 84 11 37 (.array .short) := ⟨T_11, 55, rfl, by decide, uw_11, rfl, w_1164, ⟨y_11, yk_11⟩, nm_11, by decide +kernel, rfl⟩
theorem ff_Mod_88 {D : va_G} {tys : List (ClassId × FieldType)} : tf_ff (tf_g D tys) "TypeFoundryModel" 88 11 38 (.array .boolean) := ⟨T_11, 55, rfl, by decide, uw_11, rfl, w_1165, ⟨y_11, yk_11⟩, nm_11, by decide +kernel, rfl⟩
theorem ff_Mod_91 {D : va_G} {tys : List (ClassId × FieldType)} : tf_ff (tf_g D tys) "TypeFoundryModel" 91 11 39 (.array .int) := ⟨T_11, 55, rfl, by decide, uw_11, rfl, w_1166, ⟨y_11, yk_11⟩, nm_11, by decide +kernel, rfl⟩
theorem ff_Mod_94 {D : va_G} {tys : List (ClassId × FieldType)} : tf_ff (tf_g D tys) "TypeFoundryModel" 94 11 40 (.array .int) := ⟨T_11, 55, rfl, by decide, uw_11, rfl, w_1167, ⟨y_11, yk_11⟩, nm_11, by decide +kernel, rfl⟩
theorem ff_Mod_97 {D : va_G} {tys : List (ClassId × FieldType)} : tf_ff (tf_g D tys) "TypeFoundryModel" 97 11 42 (.array .int) := ⟨T_11, 55, rfl, by decide, uw_11, rfl, w_1169, ⟨y_11, yk_11⟩, nm_11, by decide +kernel, rfl⟩
theorem ff_Mod_100 {D : va_G} {tys : List (ClassId × FieldType)} : tf_ff (tf_g D tys) "TypeFoundryModel" 100 11 43 (.array .int) := ⟨T_11, 55, rfl, by decide, uw_11, rfl, w_1170, ⟨y_11, yk_11⟩, nm_11, by decide +kernel, rfl⟩
theorem ff_Mod_103 {D : va_G} {tys : List (ClassId × FieldType)} : tf_ff (tf_g D tys) "TypeFoundryModel" 103 11 44 (.array .int) := ⟨T_11, 55, rfl, by decide, uw_11, rfl, w_1171, ⟨y_11, yk_11⟩, nm_11, by decide +kernel, rfl⟩
theorem ff_Mod_106 {D : va_G} {tys : List (ClassId × FieldType)} : tf_ff (tf_g D tys) "TypeFoundryModel" 106 11 45 (.array .long) := ⟨T_11, 55, rfl, by decide, uw_11, rfl, w_1172, ⟨y_11, yk_11⟩, nm_11, by decide +kernel, rfl⟩
theorem ff_Mod_110 {D : va_G} {tys : List (ClassId × FieldType)} : tf_ff (tf_g D tys) "TypeFoundryModel" 110 11 46 (.array .int) := ⟨T_11, 55, rfl, by decide, uw_11, rfl, w_1173, ⟨y_11, yk_11⟩, nm_11, by decide +kernel, rfl⟩
theorem ff_Mod_113 {D : va_G} {tys : List (ClassId × FieldType)} : tf_ff (tf_g D tys) "TypeFoundryModel" 113 11 49 (.array .int) := ⟨T_11, 55, rfl, by decide, uw_11, rfl, w_1176, ⟨y_11, yk_11⟩, nm_11, by decide +kernel, rfl⟩
theorem ff_Mod_116 {D : va_G} {tys : List (ClassId × FieldType)} : tf_ff (tf_g D tys) "TypeFoundryModel" 116 11 51 (.array .int) := ⟨T_11, 55, rfl, by decide, uw_11, rfl, w_1178, ⟨y_11, yk_11⟩, nm_11, by decide +kernel, rfl⟩
theorem ff_Mod_119 {D : va_G} {tys : List (ClassId × FieldType)} : tf_ff (tf_g D tys) "TypeFoundryModel" 119 11 1 (.int) := ⟨T_11, 55, rfl, by decide, uw_11, rfl, w_1128, ⟨y_11, yk_11⟩, nm_11, by decide +kernel, rfl⟩
theorem fl_Mod_123 {D : va_G} {tys : List (ClassId × FieldType)} : tf_fl (tf_g D tys) "TypeFoundryModel" 123 11 0 := ⟨"TypeFoundryModel", T_11, 55, rfl, by decide, uw_11, rfl, Or.inl w_1127⟩
theorem lk_Mod_128 {D : va_G} {tys : List (ClassId × FieldType)} : tf_lkM (tf_g D tys) "TypeFoundryModel" 128 i_Mod_floor.1 := w_1373
theorem cw_Mod_floor {D : va_G} {tys : List (ClassId × FieldType)} : tf_cw (tf_g D tys) i_Mod_floor 2 := ⟨w_1375, w_9, by decide, by decide +kernel, by decide⟩
theorem sa_Mod_floor : Cond.static i_Mod_floor.1 ∈ tf_Ts := w_1374
theorem fl_Mod_132 {D : va_G} {tys : List (ClassId × FieldType)} : tf_fl (tf_g D tys) "TypeFoundryModel" 132 11 17 := ⟨"TypeFoundryModel", T_11, 55, rfl, by decide, uw_11, rfl, Or.inl w_1144⟩
theorem fl_Mod_135 {D : va_G} {tys : List (ClassId × FieldType)} : tf_fl (tf_g D tys) "TypeFoundryModel" 135 11 18 := ⟨"TypeFoundryModel", T_11, 55, rfl, by decide, uw_11, rfl, Or.inl w_1145⟩
theorem fl_Mod_119 {D : va_G} {tys : List (ClassId × FieldType)} : tf_fl (tf_g D tys) "TypeFoundryModel" 119 11 1 := ⟨"TypeFoundryModel", T_11, 55, rfl, by decide, uw_11, rfl, Or.inl w_1128⟩
theorem lk_Mod_140 {D : va_G} {tys : List (ClassId × FieldType)} : tf_lkM (tf_g D tys) "TypeFoundryModel" 140 i_Mod_near.1 := w_1369
theorem cw_Mod_near {D : va_G} {tys : List (ClassId × FieldType)} : tf_cw (tf_g D tys) i_Mod_near 2 := ⟨w_1371, w_9, by decide, by decide +kernel, by decide⟩
theorem sa_Mod_near : Cond.static i_Mod_near.1 ∈ tf_Ts := w_1370
theorem fl_Mod_145 {D : va_G} {tys : List (ClassId × FieldType)} : tf_fl (tf_g D tys) "TypeFoundryModel" 145 11 2 := ⟨"TypeFoundryModel", T_11, 55, rfl, by decide, uw_11, rfl, Or.inl w_1129⟩
theorem fw_Mod_123 {D : va_G} {tys : List (ClassId × FieldType)} : tf_fw (tf_g D tys) "TypeFoundryModel" 123 11 0 (.int) := ⟨"TypeFoundryModel", T_11, 55, rfl, by decide, uw_11, rfl, Or.inl w_1127, ⟨y_11, yk_11⟩, nm_11, by decide +kernel, rfl⟩
theorem fw_Mod_145 {D : va_G} {tys : List (ClassId × FieldType)} : tf_fw (tf_g D tys) "TypeFoundryModel" 145 11 2 (.int) := ⟨"TypeFoundryModel", T_11, 55, rfl, by decide, uw_11, rfl, Or.inl w_1129, ⟨y_11, yk_11⟩, nm_11, by decide +kernel, rfl⟩
theorem lk_Mod_148 {D : va_G} {tys : List (ClassId × FieldType)} : tf_lkM (tf_g D tys) "TypeFoundryModel" 148 i_Mod_isGlyph.1 := w_1307
theorem cw_Mod_isGlyph {D : va_G} {tys : List (ClassId × FieldType)} : tf_cw (tf_g D tys) i_Mod_isGlyph 1 := ⟨w_1310, w_9, by decide, by decide +kernel, by decide⟩
theorem in_Mod_isGlyph : Cond.instanceMethod i_Mod_isGlyph.1 ∈ tf_Ts := w_1309
theorem se_Mod_isGlyph : Cond.selects i_Mod_isGlyph.1.cls i_Mod_isGlyph.1 i_Mod_isGlyph.1 ∈ tf_Ts := wp_21
theorem lk_Mod_152 {D : va_G} {tys : List (ClassId × FieldType)} : tf_lkM (tf_g D tys) "TypeFoundryModel" 152 i_Mod_isPlace.1 := w_1311
theorem cw_Mod_isPlace {D : va_G} {tys : List (ClassId × FieldType)} : tf_cw (tf_g D tys) i_Mod_isPlace 1 := ⟨w_1313, w_9, by decide, by decide +kernel, by decide⟩
theorem sa_Mod_isPlace : Cond.static i_Mod_isPlace.1 ∈ tf_Ts := w_1312
theorem fl_Mod_29 {D : va_G} {tys : List (ClassId × FieldType)} : tf_fl (tf_g D tys) "TypeFoundryModel" 29 11 9 := ⟨"TypeFoundryModel", T_11, 55, rfl, by decide, uw_11, rfl, Or.inl w_1136⟩
theorem fl_Mod_17 {D : va_G} {tys : List (ClassId × FieldType)} : tf_fl (tf_g D tys) "TypeFoundryModel" 17 11 5 := ⟨"TypeFoundryModel", T_11, 55, rfl, by decide, uw_11, rfl, Or.inl w_1132⟩
theorem fl_Mod_7 {D : va_G} {tys : List (ClassId × FieldType)} : tf_fl (tf_g D tys) "TypeFoundryModel" 7 11 3 := ⟨"TypeFoundryModel", T_11, 55, rfl, by decide, uw_11, rfl, Or.inl w_1130⟩
theorem lk_Mod_155 {D : va_G} {tys : List (ClassId × FieldType)} : tf_lkM (tf_g D tys) "TypeFoundryModel" 155 i_Mod_packed.1 := w_1314
theorem cw_Mod_packed {D : va_G} {tys : List (ClassId × FieldType)} : tf_cw (tf_g D tys) i_Mod_packed 2 := ⟨w_1316, w_9, by decide, by decide +kernel, by decide⟩
theorem sa_Mod_packed : Cond.static i_Mod_packed.1 ∈ tf_Ts := w_1315
theorem fl_Mod_13 {D : va_G} {tys : List (ClassId × FieldType)} : tf_fl (tf_g D tys) "TypeFoundryModel" 13 11 4 := ⟨"TypeFoundryModel", T_11, 55, rfl, by decide, uw_11, rfl, Or.inl w_1131⟩
theorem fl_Mod_23 {D : va_G} {tys : List (ClassId × FieldType)} : tf_fl (tf_g D tys) "TypeFoundryModel" 23 11 7 := ⟨"TypeFoundryModel", T_11, 55, rfl, by decide, uw_11, rfl, Or.inl w_1134⟩
theorem fl_Mod_20 {D : va_G} {tys : List (ClassId × FieldType)} : tf_fl (tf_g D tys) "TypeFoundryModel" 20 11 6 := ⟨"TypeFoundryModel", T_11, 55, rfl, by decide, uw_11, rfl, Or.inl w_1133⟩
theorem fl_Mod_36 {D : va_G} {tys : List (ClassId × FieldType)} : tf_fl (tf_g D tys) "TypeFoundryModel" 36 11 11 := ⟨"TypeFoundryModel", T_11, 55, rfl, by decide, uw_11, rfl, Or.inl w_1138⟩
theorem fl_Mod_39 {D : va_G} {tys : List (ClassId × FieldType)} : tf_fl (tf_g D tys) "TypeFoundryModel" 39 11 12 := ⟨"TypeFoundryModel", T_11, 55, rfl, by decide, uw_11, rfl, Or.inl w_1139⟩
theorem fl_Mod_42 {D : va_G} {tys : List (ClassId × FieldType)} : tf_fl (tf_g D tys) "TypeFoundryModel" 42 11 13 := ⟨"TypeFoundryModel", T_11, 55, rfl, by decide, uw_11, rfl, Or.inl w_1140⟩
theorem lk_Mod_159 {D : va_G} {tys : List (ClassId × FieldType)} : tf_lkM (tf_g D tys) "TypeFoundryModel" 159 i_Mod_isShift.1 := w_1329
theorem cw_Mod_isShift {D : va_G} {tys : List (ClassId × FieldType)} : tf_cw (tf_g D tys) i_Mod_isShift 1 := ⟨w_1331, w_9, by decide, by decide +kernel, by decide⟩
theorem sa_Mod_isShift : Cond.static i_Mod_isShift.1 ∈ tf_Ts := w_1330
theorem fl_Mod_33 {D : va_G} {tys : List (ClassId × FieldType)} : tf_fl (tf_g D tys) "TypeFoundryModel" 33 11 10 := ⟨"TypeFoundryModel", T_11, 55, rfl, by decide, uw_11, rfl, Or.inl w_1137⟩
theorem lk_Mod_162 {D : va_G} {tys : List (ClassId × FieldType)} : tf_lkM (tf_g D tys) "TypeFoundryModel" 162 i_Mod_componentPoints.1 := w_1332
theorem cw_Mod_componentPoints {D : va_G} {tys : List (ClassId × FieldType)} : tf_cw (tf_g D tys) i_Mod_componentPoints 1 := ⟨w_1335, w_9, by decide, by decide +kernel, by decide⟩
theorem in_Mod_componentPoints : Cond.instanceMethod i_Mod_componentPoints.1 ∈ tf_Ts := w_1334
theorem se_Mod_componentPoints : Cond.selects i_Mod_componentPoints.1.cls i_Mod_componentPoints.1 i_Mod_componentPoints.1 ∈ tf_Ts := wp_22
theorem fl_Mod_45 {D : va_G} {tys : List (ClassId × FieldType)} : tf_fl (tf_g D tys) "TypeFoundryModel" 45 11 14 := ⟨"TypeFoundryModel", T_11, 55, rfl, by decide, uw_11, rfl, Or.inl w_1141⟩
theorem fl_Mod_48 {D : va_G} {tys : List (ClassId × FieldType)} : tf_fl (tf_g D tys) "TypeFoundryModel" 48 11 15 := ⟨"TypeFoundryModel", T_11, 55, rfl, by decide, uw_11, rfl, Or.inl w_1142⟩
theorem fl_Mod_51 {D : va_G} {tys : List (ClassId × FieldType)} : tf_fl (tf_g D tys) "TypeFoundryModel" 51 11 16 := ⟨"TypeFoundryModel", T_11, 55, rfl, by decide, uw_11, rfl, Or.inl w_1143⟩
theorem fl_Mod_26 {D : va_G} {tys : List (ClassId × FieldType)} : tf_fl (tf_g D tys) "TypeFoundryModel" 26 11 8 := ⟨"TypeFoundryModel", T_11, 55, rfl, by decide, uw_11, rfl, Or.inl w_1135⟩
theorem fw_Mod_132 {D : va_G} {tys : List (ClassId × FieldType)} : tf_fw (tf_g D tys) "TypeFoundryModel" 132 11 17 (.int) := ⟨"TypeFoundryModel", T_11, 55, rfl, by decide, uw_11, rfl, Or.inl w_1144, ⟨y_11, yk_11⟩, nm_11, by decide +kernel, rfl⟩
theorem fw_Mod_135 {D : va_G} {tys : List (ClassId × FieldType)} : tf_fw (tf_g D tys) "TypeFoundryModel" 135 11 18 (.int) := ⟨"TypeFoundryModel", T_11, 55, rfl, by decide, uw_11, rfl, Or.inl w_1145, ⟨y_11, yk_11⟩, nm_11, by decide +kernel, rfl⟩
theorem lk_Mod_167 {D : va_G} {tys : List (ClassId × FieldType)} : tf_lkM (tf_g D tys) "TypeFoundryModel" 167 i_Mod_xOf.1 := w_1360
theorem cw_Mod_xOf {D : va_G} {tys : List (ClassId × FieldType)} : tf_cw (tf_g D tys) i_Mod_xOf 2 := ⟨w_1363, w_9, by decide, by decide +kernel, by decide⟩
theorem in_Mod_xOf : Cond.instanceMethod i_Mod_xOf.1 ∈ tf_Ts := w_1362
theorem se_Mod_xOf : Cond.selects i_Mod_xOf.1.cls i_Mod_xOf.1 i_Mod_xOf.1 ∈ tf_Ts := wp_26
theorem lk_Mod_170 {D : va_G} {tys : List (ClassId × FieldType)} : tf_lkM (tf_g D tys) "TypeFoundryModel" 170 i_Mod_between.1 := w_1364
theorem cw_Mod_between {D : va_G} {tys : List (ClassId × FieldType)} : tf_cw (tf_g D tys) i_Mod_between 4 := ⟨w_1367, w_9, by decide, by decide +kernel, by decide⟩
theorem in_Mod_between : Cond.instanceMethod i_Mod_between.1 ∈ tf_Ts := w_1366
theorem se_Mod_between : Cond.selects i_Mod_between.1.cls i_Mod_between.1 i_Mod_between.1 ∈ tf_Ts := wp_27
theorem lk_Mod_174 {D : va_G} {tys : List (ClassId × FieldType)} : tf_lkM (tf_g D tys) "TypeFoundryModel" 174 i_Mod_yOf.1 := w_1377
theorem cw_Mod_yOf {D : va_G} {tys : List (ClassId × FieldType)} : tf_cw (tf_g D tys) i_Mod_yOf 2 := ⟨w_1380, w_9, by decide, by decide +kernel, by decide⟩
theorem in_Mod_yOf : Cond.instanceMethod i_Mod_yOf.1 ∈ tf_Ts := w_1379
theorem se_Mod_yOf : Cond.selects i_Mod_yOf.1.cls i_Mod_yOf.1 i_Mod_yOf.1 ∈ tf_Ts := wp_28
theorem fl_Mod_66 {D : va_G} {tys : List (ClassId × FieldType)} : tf_fl (tf_g D tys) "TypeFoundryModel" 66 11 25 := ⟨"TypeFoundryModel", T_11, 55, rfl, by decide, uw_11, rfl, Or.inl w_1152⟩
theorem fl_Mod_69 {D : va_G} {tys : List (ClassId × FieldType)} : tf_fl (tf_g D tys) "TypeFoundryModel" 69 11 26 := ⟨"TypeFoundryModel", T_11, 55, rfl, by decide, uw_11, rfl, Or.inl w_1153⟩
theorem fw_Mod_177 {D : va_G} {tys : List (ClassId × FieldType)} : tf_fw (tf_g D tys) "TypeFoundryModel" 177 11 27 (.int) := ⟨"TypeFoundryModel", T_11, 55, rfl, by decide, uw_11, rfl, Or.inl w_1154, ⟨y_11, yk_11⟩, nm_11, by decide +kernel, rfl⟩
theorem fw_Mod_180 {D : va_G} {tys : List (ClassId × FieldType)} : tf_fw (tf_g D tys) "TypeFoundryModel" 180 11 28 (.int) := ⟨"TypeFoundryModel", T_11, 55, rfl, by decide, uw_11, rfl, Or.inl w_1155, ⟨y_11, yk_11⟩, nm_11, by decide +kernel, rfl⟩
theorem lk_Mod_183 {D : va_G} {tys : List (ClassId × FieldType)} : tf_lkM (tf_g D tys) "TypeFoundryModel" 183 i_Mod_turnPoint.1 := w_1356
theorem cw_Mod_turnPoint {D : va_G} {tys : List (ClassId × FieldType)} : tf_cw (tf_g D tys) i_Mod_turnPoint 2 := ⟨w_1359, w_9, by decide, by decide +kernel, by decide⟩
theorem in_Mod_turnPoint : Cond.instanceMethod i_Mod_turnPoint.1 ∈ tf_Ts := w_1358
theorem se_Mod_turnPoint : Cond.selects i_Mod_turnPoint.1.cls i_Mod_turnPoint.1 i_Mod_turnPoint.1 ∈ tf_Ts := wp_25
theorem fl_Mod_54 {D : va_G} {tys : List (ClassId × FieldType)} : tf_fl (tf_g D tys) "TypeFoundryModel" 54 11 19 := ⟨"TypeFoundryModel", T_11, 55, rfl, by decide, uw_11, rfl, Or.inl w_1146⟩
theorem fl_Mod_187 {D : va_G} {tys : List (ClassId × FieldType)} : tf_fl (tf_g D tys) "TypeFoundryModel" 187 11 23 := ⟨"TypeFoundryModel", T_11, 55, rfl, by decide, uw_11, rfl, Or.inl w_1150⟩
theorem fl_Mod_177 {D : va_G} {tys : List (ClassId × FieldType)} : tf_fl (tf_g D tys) "TypeFoundryModel" 177 11 27 := ⟨"TypeFoundryModel", T_11, 55, rfl, by decide, uw_11, rfl, Or.inl w_1154⟩
theorem fl_Mod_57 {D : va_G} {tys : List (ClassId × FieldType)} : tf_fl (tf_g D tys) "TypeFoundryModel" 57 11 20 := ⟨"TypeFoundryModel", T_11, 55, rfl, by decide, uw_11, rfl, Or.inl w_1147⟩
theorem fl_Mod_180 {D : va_G} {tys : List (ClassId × FieldType)} : tf_fl (tf_g D tys) "TypeFoundryModel" 180 11 28 := ⟨"TypeFoundryModel", T_11, 55, rfl, by decide, uw_11, rfl, Or.inl w_1155⟩
theorem fl_Mod_60 {D : va_G} {tys : List (ClassId × FieldType)} : tf_fl (tf_g D tys) "TypeFoundryModel" 60 11 21 := ⟨"TypeFoundryModel", T_11, 55, rfl, by decide, uw_11, rfl, Or.inl w_1148⟩
theorem fl_Mod_63 {D : va_G} {tys : List (ClassId × FieldType)} : tf_fl (tf_g D tys) "TypeFoundryModel" 63 11 22 := ⟨"TypeFoundryModel", T_11, 55, rfl, by decide, uw_11, rfl, Or.inl w_1149⟩
theorem fl_Mod_190 {D : va_G} {tys : List (ClassId × FieldType)} : tf_fl (tf_g D tys) "TypeFoundryModel" 190 11 24 := ⟨"TypeFoundryModel", T_11, 55, rfl, by decide, uw_11, rfl, Or.inl w_1151⟩
theorem fw_Mod_187 {D : va_G} {tys : List (ClassId × FieldType)} : tf_fw (tf_g D tys) "TypeFoundryModel" 187 11 23 (.int) := ⟨"TypeFoundryModel", T_11, 55, rfl, by decide, uw_11, rfl, Or.inl w_1150, ⟨y_11, yk_11⟩, nm_11, by decide +kernel, rfl⟩
theorem fw_Mod_190 {D : va_G} {tys : List (ClassId × FieldType)} : tf_fw (tf_g D tys) "TypeFoundryModel" 190 11 24 (.int) := ⟨"TypeFoundryModel", T_11, 55, rfl, by decide, uw_11, rfl, Or.inl w_1151, ⟨y_11, yk_11⟩, nm_11, by decide +kernel, rfl⟩
theorem lk_Mod_193 {D : va_G} {tys : List (ClassId × FieldType)} : tf_lkM (tf_g D tys) "TypeFoundryModel" 193 i_Mod_tellContours.1 := w_1352
theorem cw_Mod_tellContours {D : va_G} {tys : List (ClassId × FieldType)} : tf_cw (tf_g D tys) i_Mod_tellContours 1 := ⟨w_1355, w_9, by decide, by decide +kernel, by decide⟩
theorem in_Mod_tellContours : Cond.instanceMethod i_Mod_tellContours.1 ∈ tf_Ts := w_1354
theorem se_Mod_tellContours : Cond.selects i_Mod_tellContours.1.cls i_Mod_tellContours.1 i_Mod_tellContours.1 ∈ tf_Ts := wp_24
theorem lk_Mod_197 {D : va_G} {tys : List (ClassId × FieldType)} : tf_lkM (tf_g D tys) "TypeFoundryModel" 197 i_Mod_tell.1 := w_1348
theorem cw_Mod_tell {D : va_G} {tys : List (ClassId × FieldType)} : tf_cw (tf_g D tys) i_Mod_tell 1 := ⟨w_1351, w_9, by decide, by decide +kernel, by decide⟩
theorem in_Mod_tell : Cond.instanceMethod i_Mod_tell.1 ∈ tf_Ts := w_1350
theorem se_Mod_tell : Cond.selects i_Mod_tell.1.cls i_Mod_tell.1 i_Mod_tell.1 ∈ tf_Ts := wp_23
theorem lk_Mod_200 {D : va_G} {tys : List (ClassId × FieldType)} : tf_lkM (tf_g D tys) "TypeFoundryModel" 200 i_Mod_widthOf.1 := w_1382
theorem cw_Mod_widthOf {D : va_G} {tys : List (ClassId × FieldType)} : tf_cw (tf_g D tys) i_Mod_widthOf 1 := ⟨w_1385, w_9, by decide, by decide +kernel, by decide⟩
theorem in_Mod_widthOf : Cond.instanceMethod i_Mod_widthOf.1 ∈ tf_Ts := w_1384
theorem se_Mod_widthOf : Cond.selects i_Mod_widthOf.1.cls i_Mod_widthOf.1 i_Mod_widthOf.1 ∈ tf_Ts := wp_29
theorem fl_Mod_203 {D : va_G} {tys : List (ClassId × FieldType)} : tf_fl (tf_g D tys) "TypeFoundryModel" 203 11 30 := ⟨"TypeFoundryModel", T_11, 55, rfl, by decide, uw_11, rfl, Or.inl w_1157⟩
theorem fl_Mod_72 {D : va_G} {tys : List (ClassId × FieldType)} : tf_fl (tf_g D tys) "TypeFoundryModel" 72 11 29 := ⟨"TypeFoundryModel", T_11, 55, rfl, by decide, uw_11, rfl, Or.inl w_1156⟩
theorem fw_Mod_203 {D : va_G} {tys : List (ClassId × FieldType)} : tf_fw (tf_g D tys) "TypeFoundryModel" 203 11 30 (.int) := ⟨"TypeFoundryModel", T_11, 55, rfl, by decide, uw_11, rfl, Or.inl w_1157, ⟨y_11, yk_11⟩, nm_11, by decide +kernel, rfl⟩
theorem fl_Mod_206 {D : va_G} {tys : List (ClassId × FieldType)} : tf_fl (tf_g D tys) "TypeFoundryModel" 206 11 33 := ⟨"TypeFoundryModel", T_11, 55, rfl, by decide, uw_11, rfl, Or.inl w_1160⟩
theorem fl_Mod_209 {D : va_G} {tys : List (ClassId × FieldType)} : tf_fl (tf_g D tys) "TypeFoundryModel" 209 11 34 := ⟨"TypeFoundryModel", T_11, 55, rfl, by decide, uw_11, rfl, Or.inl w_1161⟩
theorem lk_Mod_213 {D : va_G} {tys : List (ClassId × FieldType)} : tf_lkM (tf_g D tys) "TypeFoundryModel" 213 i_Mod_goal.1 := w_1410
theorem cw_Mod_goal {D : va_G} {tys : List (ClassId × FieldType)} : tf_cw (tf_g D tys) i_Mod_goal 1 := ⟨w_1413, w_9, by decide, by decide +kernel, by decide⟩
theorem in_Mod_goal : Cond.instanceMethod i_Mod_goal.1 ∈ tf_Ts := w_1412
theorem se_Mod_goal : Cond.selects i_Mod_goal.1.cls i_Mod_goal.1 i_Mod_goal.1 ∈ tf_Ts := wp_34
theorem fl_Mod_216 {D : va_G} {tys : List (ClassId × FieldType)} : tf_fl (tf_g D tys) "TypeFoundryModel" 216 11 32 := ⟨"TypeFoundryModel", T_11, 55, rfl, by decide, uw_11, rfl, Or.inl w_1159⟩
theorem fl_Mod_75 {D : va_G} {tys : List (ClassId × FieldType)} : tf_fl (tf_g D tys) "TypeFoundryModel" 75 11 31 := ⟨"TypeFoundryModel", T_11, 55, rfl, by decide, uw_11, rfl, Or.inl w_1158⟩
theorem lk_Mod_219 {D : va_G} {tys : List (ClassId × FieldType)} : tf_lkM (tf_g D tys) "TypeFoundryModel" 219 i_Mod_nextStop.1 := w_1414
theorem cw_Mod_nextStop {D : va_G} {tys : List (ClassId × FieldType)} : tf_cw (tf_g D tys) i_Mod_nextStop 2 := ⟨w_1417, w_9, by decide, by decide +kernel, by decide⟩
theorem in_Mod_nextStop : Cond.instanceMethod i_Mod_nextStop.1 ∈ tf_Ts := w_1416
theorem se_Mod_nextStop : Cond.selects i_Mod_nextStop.1.cls i_Mod_nextStop.1 i_Mod_nextStop.1 ∈ tf_Ts := wp_35
theorem lk_Mod_222 {D : va_G} {tys : List (ClassId × FieldType)} : tf_lkM (tf_g D tys) "TypeFoundryModel" 222 i_Mod_at.1 := w_1418
theorem cw_Mod_at {D : va_G} {tys : List (ClassId × FieldType)} : tf_cw (tf_g D tys) i_Mod_at 5 := ⟨w_1420, w_9, by decide, by decide +kernel, by decide⟩
theorem sa_Mod_at : Cond.static i_Mod_at.1 ∈ tf_Ts := w_1419
theorem lk_Mod_226 {D : va_G} {tys : List (ClassId × FieldType)} : tf_lkM (tf_g D tys) "TypeFoundryModel" 226 i_Mod_cover.1 := w_1425
theorem cw_Mod_cover {D : va_G} {tys : List (ClassId × FieldType)} : tf_cw (tf_g D tys) i_Mod_cover 4 := ⟨w_1428, w_9, by decide, by decide +kernel, by decide⟩
theorem in_Mod_cover : Cond.instanceMethod i_Mod_cover.1 ∈ tf_Ts := w_1427
theorem se_Mod_cover : Cond.selects i_Mod_cover.1.cls i_Mod_cover.1 i_Mod_cover.1 ∈ tf_Ts := wp_37
theorem lk_Mod_230 {D : va_G} {tys : List (ClassId × FieldType)} : tf_lkM (tf_g D tys) "TypeFoundryModel" 230 i_Mod_fit.1 := w_1406
theorem cw_Mod_fit {D : va_G} {tys : List (ClassId × FieldType)} : tf_cw (tf_g D tys) i_Mod_fit 1 := ⟨w_1409, w_9, by decide, by decide +kernel, by decide⟩
theorem in_Mod_fit : Cond.instanceMethod i_Mod_fit.1 ∈ tf_Ts := w_1408
theorem se_Mod_fit : Cond.selects i_Mod_fit.1.cls i_Mod_fit.1 i_Mod_fit.1 ∈ tf_Ts := wp_33
theorem lk_Mod_233 {D : va_G} {tys : List (ClassId × FieldType)} : tf_lkM (tf_g D tys) "TypeFoundryModel" 233 i_Mod_across.1 := w_1421
theorem cw_Mod_across {D : va_G} {tys : List (ClassId × FieldType)} : tf_cw (tf_g D tys) i_Mod_across 4 := ⟨w_1424, w_9, by decide, by decide +kernel, by decide⟩
theorem in_Mod_across : Cond.instanceMethod i_Mod_across.1 ∈ tf_Ts := w_1423
theorem se_Mod_across : Cond.selects i_Mod_across.1.cls i_Mod_across.1 i_Mod_across.1 ∈ tf_Ts := wp_36
theorem fl_Mod_236 {D : va_G} {tys : List (ClassId × FieldType)} : tf_fl (tf_g D tys) "TypeFoundryModel" 236 11 53 := ⟨"TypeFoundryModel", T_11, 55, rfl, by decide, uw_11, rfl, Or.inl w_1180⟩
theorem fl_Mod_239 {D : va_G} {tys : List (ClassId × FieldType)} : tf_fl (tf_g D tys) "TypeFoundryModel" 239 11 54 := ⟨"TypeFoundryModel", T_11, 55, rfl, by decide, uw_11, rfl, Or.inl w_1181⟩
theorem lk_Mod_242 {D : va_G} {tys : List (ClassId × FieldType)} : tf_lkM (tf_g D tys) "TypeFoundryModel" 242 i_Mod_line.1 := w_1402
theorem cw_Mod_line {D : va_G} {tys : List (ClassId × FieldType)} : tf_cw (tf_g D tys) i_Mod_line 4 := ⟨w_1405, w_9, by decide, by decide +kernel, by decide⟩
theorem in_Mod_line : Cond.instanceMethod i_Mod_line.1 ∈ tf_Ts := w_1404
theorem se_Mod_line : Cond.selects i_Mod_line.1.cls i_Mod_line.1 i_Mod_line.1 ∈ tf_Ts := wp_32
theorem fw_Mod_236 {D : va_G} {tys : List (ClassId × FieldType)} : tf_fw (tf_g D tys) "TypeFoundryModel" 236 11 53 (.int) := ⟨"TypeFoundryModel", T_11, 55, rfl, by decide, uw_11, rfl, Or.inl w_1180, ⟨y_11, yk_11⟩, nm_11, by decide +kernel, rfl⟩
theorem fw_Mod_239 {D : va_G} {tys : List (ClassId × FieldType)} : tf_fw (tf_g D tys) "TypeFoundryModel" 239 11 54 (.int) := ⟨"TypeFoundryModel", T_11, 55, rfl, by decide, uw_11, rfl, Or.inl w_1181, ⟨y_11, yk_11⟩, nm_11, by decide +kernel, rfl⟩
theorem lk_Mod_247 {D : va_G} {tys : List (ClassId × FieldType)} : tf_lkM (tf_g D tys) "TypeFoundryModel" 247 i_Mod_lineTo.1 := w_1398
theorem cw_Mod_lineTo {D : va_G} {tys : List (ClassId × FieldType)} : tf_cw (tf_g D tys) i_Mod_lineTo 2 := ⟨w_1401, w_9, by decide, by decide +kernel, by decide⟩
theorem in_Mod_lineTo : Cond.instanceMethod i_Mod_lineTo.1 ∈ tf_Ts := w_1400
theorem se_Mod_lineTo : Cond.selects i_Mod_lineTo.1.cls i_Mod_lineTo.1 i_Mod_lineTo.1 ∈ tf_Ts := wp_31
theorem lk_Mod_250 {D : va_G} {tys : List (ClassId × FieldType)} : tf_lkM (tf_g D tys) "TypeFoundryModel" 250 i_Mod_middle.1 := w_1429
theorem cw_Mod_middle {D : va_G} {tys : List (ClassId × FieldType)} : tf_cw (tf_g D tys) i_Mod_middle 2 := ⟨w_1431, w_9, by decide, by decide +kernel, by decide⟩
theorem sa_Mod_middle : Cond.static i_Mod_middle.1 ∈ tf_Ts := w_1430
theorem lk_Mod_253 {D : va_G} {tys : List (ClassId × FieldType)} : tf_lkM (tf_g D tys) "TypeFoundryModel" 253 i_Mod_quadratic.1 := w_1432
theorem cw_Mod_quadratic {D : va_G} {tys : List (ClassId × FieldType)} : tf_cw (tf_g D tys) i_Mod_quadratic 4 := ⟨w_1435, w_9, by decide, by decide +kernel, by decide⟩
theorem in_Mod_quadratic : Cond.instanceMethod i_Mod_quadratic.1 ∈ tf_Ts := w_1434
theorem se_Mod_quadratic : Cond.selects i_Mod_quadratic.1.cls i_Mod_quadratic.1 i_Mod_quadratic.1 ∈ tf_Ts := wp_38
theorem fw_Mod_206 {D : va_G} {tys : List (ClassId × FieldType)} : tf_fw (tf_g D tys) "TypeFoundryModel" 206 11 33 (.int) := ⟨"TypeFoundryModel", T_11, 55, rfl, by decide, uw_11, rfl, Or.inl w_1160, ⟨y_11, yk_11⟩, nm_11, by decide +kernel, rfl⟩
theorem fw_Mod_216 {D : va_G} {tys : List (ClassId × FieldType)} : tf_fw (tf_g D tys) "TypeFoundryModel" 216 11 32 (.int) := ⟨"TypeFoundryModel", T_11, 55, rfl, by decide, uw_11, rfl, Or.inl w_1159, ⟨y_11, yk_11⟩, nm_11, by decide +kernel, rfl⟩
theorem fw_Mod_209 {D : va_G} {tys : List (ClassId × FieldType)} : tf_fw (tf_g D tys) "TypeFoundryModel" 209 11 34 (.boolean) := ⟨"TypeFoundryModel", T_11, 55, rfl, by decide, uw_11, rfl, Or.inl w_1161, ⟨y_11, yk_11⟩, nm_11, by decide +kernel, rfl⟩
theorem lk_Mod_256 {D : va_G} {tys : List (ClassId × FieldType)} : tf_lkM (tf_g D tys) "TypeFoundryModel" 256 i_Mod_contour.1 := w_1394
theorem cw_Mod_contour {D : va_G} {tys : List (ClassId × FieldType)} : tf_cw (tf_g D tys) i_Mod_contour 2 := ⟨w_1397, w_9, by decide, by decide +kernel, by decide⟩
theorem in_Mod_contour : Cond.instanceMethod i_Mod_contour.1 ∈ tf_Ts := w_1396
theorem se_Mod_contour : Cond.selects i_Mod_contour.1.cls i_Mod_contour.1 i_Mod_contour.1 ∈ tf_Ts := wp_30
theorem fl_Mod_78 {D : va_G} {tys : List (ClassId × FieldType)} : tf_fl (tf_g D tys) "TypeFoundryModel" 78 11 35 := ⟨"TypeFoundryModel", T_11, 55, rfl, by decide, uw_11, rfl, Or.inl w_1162⟩
theorem fl_Mod_81 {D : va_G} {tys : List (ClassId × FieldType)} : tf_fl (tf_g D tys) "TypeFoundryModel" 81 11 36 := ⟨"TypeFoundryModel", T_11, 55, rfl, by decide, uw_11, rfl, Or.inl w_1163⟩
theorem lk_Mod_261 {D : va_G} {tys : List (ClassId × FieldType)} : tf_lkM (tf_g D tys) "TypeFoundryModel" 261 i_Mod_isKern.1 := w_1450
theorem cw_Mod_isKern {D : va_G} {tys : List (ClassId × FieldType)} : tf_cw (tf_g D tys) i_Mod_isKern 1 := ⟨w_1452, w_9, by decide, by decide +kernel, by decide⟩
theorem sa_Mod_isKern : Cond.static i_Mod_isKern.1 ∈ tf_Ts := w_1451
theorem fl_Mod_84 {D : va_G} {tys : List (ClassId × FieldType)} : tf_fl (tf_g D tys) "TypeFoundryModel" 84 11 37 := ⟨"TypeFoundryModel", T_11, 55, rfl, by decide, uw_11, rfl, Or.inl w_1164⟩
theorem fl_Mod_88 {D : va_G} {tys : List (ClassId × FieldType)} : tf_fl (tf_g D tys) "TypeFoundryModel" 88 11 38 := ⟨"TypeFoundryModel", T_11, 55, rfl, by decide, uw_11, rfl, Or.inl w_1165⟩
theorem fl_Mod_264 {D : va_G} {tys : List (ClassId × FieldType)} : tf_fl (tf_g D tys) "TypeFoundryModel" 264 11 41 := ⟨"TypeFoundryModel", T_11, 55, rfl, by decide, uw_11, rfl, Or.inl w_1168⟩
theorem fl_Mod_91 {D : va_G} {tys : List (ClassId × FieldType)} : tf_fl (tf_g D tys) "TypeFoundryModel" 91 11 39 := ⟨"TypeFoundryModel", T_11, 55, rfl, by decide, uw_11, rfl, Or.inl w_1166⟩
theorem lk_Mod_267 {D : va_G} {tys : List (ClassId × FieldType)} : tf_lkM (tf_g D tys) "TypeFoundryModel" 267 i_Mod_pairAt.1 := w_1457
theorem cw_Mod_pairAt {D : va_G} {tys : List (ClassId × FieldType)} : tf_cw (tf_g D tys) i_Mod_pairAt 2 := ⟨w_1460, w_9, by decide, by decide +kernel, by decide⟩
theorem in_Mod_pairAt : Cond.instanceMethod i_Mod_pairAt.1 ∈ tf_Ts := w_1459
theorem se_Mod_pairAt : Cond.selects i_Mod_pairAt.1.cls i_Mod_pairAt.1 i_Mod_pairAt.1 ∈ tf_Ts := wp_39
theorem fw_Mod_264 {D : va_G} {tys : List (ClassId × FieldType)} : tf_fw (tf_g D tys) "TypeFoundryModel" 264 11 41 (.int) := ⟨"TypeFoundryModel", T_11, 55, rfl, by decide, uw_11, rfl, Or.inl w_1168, ⟨y_11, yk_11⟩, nm_11, by decide +kernel, rfl⟩
theorem fl_Mod_94 {D : va_G} {tys : List (ClassId × FieldType)} : tf_fl (tf_g D tys) "TypeFoundryModel" 94 11 40 := ⟨"TypeFoundryModel", T_11, 55, rfl, by decide, uw_11, rfl, Or.inl w_1167⟩
theorem lk_Mod_270 {D : va_G} {tys : List (ClassId × FieldType)} : tf_lkM (tf_g D tys) "TypeFoundryModel" 270 i_Mod_glyphOf.1 := w_1468
theorem cw_Mod_glyphOf {D : va_G} {tys : List (ClassId × FieldType)} : tf_cw (tf_g D tys) i_Mod_glyphOf 3 := ⟨w_1470, w_9, by decide, by decide +kernel, by decide⟩
theorem sa_Mod_glyphOf : Cond.static i_Mod_glyphOf.1 ∈ tf_Ts := w_1469
theorem lk_Mod_274 {D : va_G} {tys : List (ClassId × FieldType)} : tf_lkM (tf_g D tys) "TypeFoundryModel" 274 i_Mod_lengthOf.1 := w_1465
theorem cw_Mod_lengthOf {D : va_G} {tys : List (ClassId × FieldType)} : tf_cw (tf_g D tys) i_Mod_lengthOf 2 := ⟨w_1467, w_9, by decide, by decide +kernel, by decide⟩
theorem sa_Mod_lengthOf : Cond.static i_Mod_lengthOf.1 ∈ tf_Ts := w_1466
theorem lk_Mod_278 {D : va_G} {tys : List (ClassId × FieldType)} : tf_lkM (tf_g D tys) "TypeFoundryModel" 278 i_Mod_isRow.1 := w_1471
theorem cw_Mod_isRow {D : va_G} {tys : List (ClassId × FieldType)} : tf_cw (tf_g D tys) i_Mod_isRow 2 := ⟨w_1474, w_9, by decide, by decide +kernel, by decide⟩
theorem in_Mod_isRow : Cond.instanceMethod i_Mod_isRow.1 ∈ tf_Ts := w_1473
theorem se_Mod_isRow : Cond.selects i_Mod_isRow.1.cls i_Mod_isRow.1 i_Mod_isRow.1 ∈ tf_Ts := wp_40
theorem fl_Mod_282 {D : va_G} {tys : List (ClassId × FieldType)} : tf_fl (tf_g D tys) "TypeFoundryModel" 282 11 47 := ⟨"TypeFoundryModel", T_11, 55, rfl, by decide, uw_11, rfl, Or.inl w_1174⟩
theorem fl_Mod_97 {D : va_G} {tys : List (ClassId × FieldType)} : tf_fl (tf_g D tys) "TypeFoundryModel" 97 11 42 := ⟨"TypeFoundryModel", T_11, 55, rfl, by decide, uw_11, rfl, Or.inl w_1169⟩
theorem fl_Mod_100 {D : va_G} {tys : List (ClassId × FieldType)} : tf_fl (tf_g D tys) "TypeFoundryModel" 100 11 43 := ⟨"TypeFoundryModel", T_11, 55, rfl, by decide, uw_11, rfl, Or.inl w_1170⟩
theorem fl_Mod_103 {D : va_G} {tys : List (ClassId × FieldType)} : tf_fl (tf_g D tys) "TypeFoundryModel" 103 11 44 := ⟨"TypeFoundryModel", T_11, 55, rfl, by decide, uw_11, rfl, Or.inl w_1171⟩
theorem fl_Mod_106 {D : va_G} {tys : List (ClassId × FieldType)} : tf_fl (tf_g D tys) "TypeFoundryModel" 106 11 45 := ⟨"TypeFoundryModel", T_11, 55, rfl, by decide, uw_11, rfl, Or.inl w_1172⟩
theorem fl_Mod_110 {D : va_G} {tys : List (ClassId × FieldType)} : tf_fl (tf_g D tys) "TypeFoundryModel" 110 11 46 := ⟨"TypeFoundryModel", T_11, 55, rfl, by decide, uw_11, rfl, Or.inl w_1173⟩
theorem fw_Mod_282 {D : va_G} {tys : List (ClassId × FieldType)} : tf_fw (tf_g D tys) "TypeFoundryModel" 282 11 47 (.int) := ⟨"TypeFoundryModel", T_11, 55, rfl, by decide, uw_11, rfl, Or.inl w_1174, ⟨y_11, yk_11⟩, nm_11, by decide +kernel, rfl⟩
theorem fl_Mod_289 {D : va_G} {tys : List (ClassId × FieldType)} : tf_fl (tf_g D tys) "TypeFoundryModel" 289 11 50 := ⟨"TypeFoundryModel", T_11, 55, rfl, by decide, uw_11, rfl, Or.inl w_1177⟩
theorem fl_Mod_113 {D : va_G} {tys : List (ClassId × FieldType)} : tf_fl (tf_g D tys) "TypeFoundryModel" 113 11 49 := ⟨"TypeFoundryModel", T_11, 55, rfl, by decide, uw_11, rfl, Or.inl w_1176⟩
theorem fw_Mod_289 {D : va_G} {tys : List (ClassId × FieldType)} : tf_fw (tf_g D tys) "TypeFoundryModel" 289 11 50 (.int) := ⟨"TypeFoundryModel", T_11, 55, rfl, by decide, uw_11, rfl, Or.inl w_1177, ⟨y_11, yk_11⟩, nm_11, by decide +kernel, rfl⟩
theorem fl_Mod_292 {D : va_G} {tys : List (ClassId × FieldType)} : tf_fl (tf_g D tys) "TypeFoundryModel" 292 11 52 := ⟨"TypeFoundryModel", T_11, 55, rfl, by decide, uw_11, rfl, Or.inl w_1179⟩
theorem fl_Mod_116 {D : va_G} {tys : List (ClassId × FieldType)} : tf_fl (tf_g D tys) "TypeFoundryModel" 116 11 51 := ⟨"TypeFoundryModel", T_11, 55, rfl, by decide, uw_11, rfl, Or.inl w_1178⟩
theorem lk_Mod_295 {D : va_G} {tys : List (ClassId × FieldType)} : tf_lkM (tf_g D tys) "TypeFoundryModel" 295 i_Mod_stands.1 := w_1493
theorem cw_Mod_stands {D : va_G} {tys : List (ClassId × FieldType)} : tf_cw (tf_g D tys) i_Mod_stands 3 := ⟨w_1496, w_9, by decide, by decide +kernel, by decide⟩
theorem in_Mod_stands : Cond.instanceMethod i_Mod_stands.1 ∈ tf_Ts := w_1495
theorem se_Mod_stands : Cond.selects i_Mod_stands.1.cls i_Mod_stands.1 i_Mod_stands.1 ∈ tf_Ts := wp_43
theorem lk_Mod_299 {D : va_G} {tys : List (ClassId × FieldType)} : tf_lkM (tf_g D tys) "TypeFoundryModel" 299 i_Mod_fitsAt.1 := w_1489
theorem cw_Mod_fitsAt {D : va_G} {tys : List (ClassId × FieldType)} : tf_cw (tf_g D tys) i_Mod_fitsAt 2 := ⟨w_1492, w_9, by decide, by decide +kernel, by decide⟩
theorem in_Mod_fitsAt : Cond.instanceMethod i_Mod_fitsAt.1 ∈ tf_Ts := w_1491
theorem se_Mod_fitsAt : Cond.selects i_Mod_fitsAt.1.cls i_Mod_fitsAt.1 i_Mod_fitsAt.1 ∈ tf_Ts := wp_42
theorem fw_Mod_292 {D : va_G} {tys : List (ClassId × FieldType)} : tf_fw (tf_g D tys) "TypeFoundryModel" 292 11 52 (.int) := ⟨"TypeFoundryModel", T_11, 55, rfl, by decide, uw_11, rfl, Or.inl w_1179, ⟨y_11, yk_11⟩, nm_11, by decide +kernel, rfl⟩
theorem fl_Mod_303 {D : va_G} {tys : List (ClassId × FieldType)} : tf_fl (tf_g D tys) "TypeFoundryModel" 303 11 48 := ⟨"TypeFoundryModel", T_11, 55, rfl, by decide, uw_11, rfl, Or.inl w_1175⟩
theorem fw_Mod_303 {D : va_G} {tys : List (ClassId × FieldType)} : tf_fw (tf_g D tys) "TypeFoundryModel" 303 11 48 (.int) := ⟨"TypeFoundryModel", T_11, 55, rfl, by decide, uw_11, rfl, Or.inl w_1175, ⟨y_11, yk_11⟩, nm_11, by decide +kernel, rfl⟩
theorem lk_Mod_306 {D : va_G} {tys : List (ClassId × FieldType)} : tf_lkM (tf_g D tys) "TypeFoundryModel" 306 i_Mod_bestRule.1 := w_1485
theorem cw_Mod_bestRule {D : va_G} {tys : List (ClassId × FieldType)} : tf_cw (tf_g D tys) i_Mod_bestRule 2 := ⟨w_1488, w_9, by decide, by decide +kernel, by decide⟩
theorem in_Mod_bestRule : Cond.instanceMethod i_Mod_bestRule.1 ∈ tf_Ts := w_1487
theorem se_Mod_bestRule : Cond.selects i_Mod_bestRule.1.cls i_Mod_bestRule.1 i_Mod_bestRule.1 ∈ tf_Ts := wp_41
theorem lk_Mod_309 {D : va_G} {tys : List (ClassId × FieldType)} : tf_lkM (tf_g D tys) "TypeFoundryModel" 309 i_Mod_change.1 := w_1497
theorem cw_Mod_change {D : va_G} {tys : List (ClassId × FieldType)} : tf_cw (tf_g D tys) i_Mod_change 2 := ⟨w_1500, w_9, by decide, by decide +kernel, by decide⟩
theorem in_Mod_change : Cond.instanceMethod i_Mod_change.1 ∈ tf_Ts := w_1499
theorem se_Mod_change : Cond.selects i_Mod_change.1.cls i_Mod_change.1 i_Mod_change.1 ∈ tf_Ts := wp_44
theorem lk_Mod_312 {D : va_G} {tys : List (ClassId × FieldType)} : tf_lkM (tf_g D tys) "TypeFoundryModel" 312 i_Mod_kernOf.1 := w_1505
theorem cw_Mod_kernOf {D : va_G} {tys : List (ClassId × FieldType)} : tf_cw (tf_g D tys) i_Mod_kernOf 2 := ⟨w_1508, w_9, by decide, by decide +kernel, by decide⟩
theorem in_Mod_kernOf : Cond.instanceMethod i_Mod_kernOf.1 ∈ tf_Ts := w_1507
theorem se_Mod_kernOf : Cond.selects i_Mod_kernOf.1.cls i_Mod_kernOf.1 i_Mod_kernOf.1 ∈ tf_Ts := wp_45
theorem ff_Blend_9 {D : va_G} {tys : List (ClassId × FieldType)} : tf_ff (tf_g D tys) "TypeFoundry$Blend" 9 1 0 (.int) := ⟨T_1, 3, rfl, by decide, uw_1, rfl, w_45, ⟨y_1, yk_1⟩, nm_1, by decide +kernel, rfl⟩
theorem fl_Blend_9 {D : va_G} {tys : List (ClassId × FieldType)} : tf_fl (tf_g D tys) "TypeFoundry$Blend" 9 1 0 := ⟨"TypeFoundry$Blend", T_1, 3, rfl, by decide, uw_1, rfl, Or.inl w_45⟩
theorem lk_Blend_15 {D : va_G} {tys : List (ClassId × FieldType)} : tf_lkN (tf_g D tys) "TypeFoundry$Blend" 15 i_Tf_within.1 := ⟨"TypeFoundry", w_257⟩
theorem fw_Blend_19 {D : va_G} {tys : List (ClassId × FieldType)} : tf_fw (tf_g D tys) "TypeFoundry$Blend" 19 1 1 (.int) := ⟨"TypeFoundry$Blend", T_1, 3, rfl, by decide, uw_1, rfl, Or.inl w_47, ⟨y_1, yk_1⟩, nm_1, by decide +kernel, rfl⟩
theorem fw_Blend_22 {D : va_G} {tys : List (ClassId × FieldType)} : tf_fw (tf_g D tys) "TypeFoundry$Blend" 22 1 2 (.int) := ⟨"TypeFoundry$Blend", T_1, 3, rfl, by decide, uw_1, rfl, Or.inl w_48, ⟨y_1, yk_1⟩, nm_1, by decide +kernel, rfl⟩
theorem fl_Blend_19 {D : va_G} {tys : List (ClassId × FieldType)} : tf_fl (tf_g D tys) "TypeFoundry$Blend" 19 1 1 := ⟨"TypeFoundry$Blend", T_1, 3, rfl, by decide, uw_1, rfl, Or.inl w_47⟩
theorem lk_Blend_25 {D : va_G} {tys : List (ClassId × FieldType)} : tf_lkM (tf_g D tys) "TypeFoundry$Blend" 25 i_Blend_mix.1 := w_643
theorem cw_Blend_mix {D : va_G} {tys : List (ClassId × FieldType)} : tf_cw (tf_g D tys) i_Blend_mix 3 := ⟨w_645, w_2, by decide, by decide +kernel, by decide⟩
theorem sa_Blend_mix : Cond.static i_Blend_mix.1 ∈ tf_Ts := w_644
theorem lk_Blend_31 {D : va_G} {tys : List (ClassId × FieldType)} : tf_lkN (tf_g D tys) "TypeFoundry$Blend" 31 i_Tf_halvesUp.1 := ⟨"TypeFoundry", w_647⟩
theorem cw_Tf_halvesUp {D : va_G} {tys : List (ClassId × FieldType)} : tf_cw (tf_g D tys) i_Tf_halvesUp 2 := ⟨w_649, w_1, by decide, by decide +kernel, by decide⟩
theorem sa_Tf_halvesUp : Cond.static i_Tf_halvesUp.1 ∈ tf_Ts := w_648
theorem fl_Blend_22 {D : va_G} {tys : List (ClassId × FieldType)} : tf_fl (tf_g D tys) "TypeFoundry$Blend" 22 1 2 := ⟨"TypeFoundry$Blend", T_1, 3, rfl, by decide, uw_1, rfl, Or.inl w_48⟩
theorem ff_Canvas_11 {D : va_G} {tys : List (ClassId × FieldType)} : tf_ff (tf_g D tys) "TypeFoundry$Canvas" 11 2 0 (.array .int) := ⟨T_2, 3, rfl, by decide, uw_2, rfl, w_132, ⟨y_2, yk_2⟩, nm_2, by decide +kernel, rfl⟩
theorem fw_Canvas_15 {D : va_G} {tys : List (ClassId × FieldType)} : tf_fw (tf_g D tys) "TypeFoundry$Canvas" 15 2 1 (.int) := ⟨"TypeFoundry$Canvas", T_2, 3, rfl, by decide, uw_2, rfl, Or.inl w_133, ⟨y_2, yk_2⟩, nm_2, by decide +kernel, rfl⟩
theorem fw_Canvas_19 {D : va_G} {tys : List (ClassId × FieldType)} : tf_fw (tf_g D tys) "TypeFoundry$Canvas" 19 2 2 (.int) := ⟨"TypeFoundry$Canvas", T_2, 3, rfl, by decide, uw_2, rfl, Or.inl w_134, ⟨y_2, yk_2⟩, nm_2, by decide +kernel, rfl⟩
theorem fl_Canvas_11 {D : va_G} {tys : List (ClassId × FieldType)} : tf_fl (tf_g D tys) "TypeFoundry$Canvas" 11 2 0 := ⟨"TypeFoundry$Canvas", T_2, 3, rfl, by decide, uw_2, rfl, Or.inl w_132⟩
theorem fl_Canvas_19 {D : va_G} {tys : List (ClassId × FieldType)} : tf_fl (tf_g D tys) "TypeFoundry$Canvas" 19 2 2 := ⟨"TypeFoundry$Canvas", T_2, 3, rfl, by decide, uw_2, rfl, Or.inl w_134⟩
theorem lk_Canvas_22 {D : va_G} {tys : List (ClassId × FieldType)} : tf_lkM (tf_g D tys) "TypeFoundry$Canvas" 22 i_Arrays_fill.1 := w_703
theorem cw_Arrays_fill {D : va_G} {tys : List (ClassId × FieldType)} : tf_cw (tf_g D tys) i_Arrays_fill 4 := ⟨w_705, w_19, by decide, by decide +kernel, by decide⟩
theorem sa_Arrays_fill : Cond.static i_Arrays_fill.1 ∈ tf_Ts := w_704
theorem fl_Canvas_28 {D : va_G} {tys : List (ClassId × FieldType)} : tf_fl (tf_g D tys) "TypeFoundry$Canvas" 28 8 2 := ⟨"TypeFoundry$Path", T_8, 3, rfl, by decide, uw_8, rfl, Or.inl w_104⟩
theorem fl_Canvas_33 {D : va_G} {tys : List (ClassId × FieldType)} : tf_fl (tf_g D tys) "TypeFoundry$Canvas" 33 8 1 := ⟨"TypeFoundry$Path", T_8, 3, rfl, by decide, uw_8, rfl, Or.inl w_102⟩
theorem fl_Canvas_36 {D : va_G} {tys : List (ClassId × FieldType)} : tf_fl (tf_g D tys) "TypeFoundry$Canvas" 36 8 0 := ⟨"TypeFoundry$Path", T_8, 3, rfl, by decide, uw_8, rfl, Or.inl w_100⟩
theorem lk_Canvas_39 {D : va_G} {tys : List (ClassId × FieldType)} : tf_lkM (tf_g D tys) "TypeFoundry$Canvas" 39 i_Canvas_addRising.1 := w_1006
theorem cw_Canvas_addRising {D : va_G} {tys : List (ClassId × FieldType)} : tf_cw (tf_g D tys) i_Canvas_addRising 5 := ⟨w_1009, w_6, by decide, by decide +kernel, by decide⟩
theorem in_Canvas_addRising : Cond.instanceMethod i_Canvas_addRising.1 ∈ tf_Ts := w_1008
theorem se_Canvas_addRising : Cond.selects i_Canvas_addRising.1.cls i_Canvas_addRising.1 i_Canvas_addRising.1 ∈ tf_Ts := wp_14
theorem lk_Canvas_43 {D : va_G} {tys : List (ClassId × FieldType)} : tf_lkM (tf_g D tys) "TypeFoundry$Canvas" 43 i_Canvas_grey.1 := w_1037
theorem cw_Canvas_grey {D : va_G} {tys : List (ClassId × FieldType)} : tf_cw (tf_g D tys) i_Canvas_grey 1 := ⟨w_1040, w_6, by decide, by decide +kernel, by decide⟩
theorem in_Canvas_grey : Cond.instanceMethod i_Canvas_grey.1 ∈ tf_Ts := w_1039
theorem se_Canvas_grey : Cond.selects i_Canvas_grey.1.cls i_Canvas_grey.1 i_Canvas_grey.1 ∈ tf_Ts := wp_18
theorem lk_Canvas_47 {D : va_G} {tys : List (ClassId × FieldType)} : tf_lkN (tf_g D tys) "TypeFoundry$Canvas" 47 i_Tf_within.1 := ⟨"TypeFoundry", w_282⟩
theorem fl_Canvas_15 {D : va_G} {tys : List (ClassId × FieldType)} : tf_fl (tf_g D tys) "TypeFoundry$Canvas" 15 2 1 := ⟨"TypeFoundry$Canvas", T_2, 3, rfl, by decide, uw_2, rfl, Or.inl w_133⟩
theorem lk_Canvas_53 {D : va_G} {tys : List (ClassId × FieldType)} : tf_lkN (tf_g D tys) "TypeFoundry$Canvas" 53 i_Tf_halvesUp.1 := ⟨"TypeFoundry", w_1021⟩
theorem lk_Canvas_66 {D : va_G} {tys : List (ClassId × FieldType)} : tf_lkM (tf_g D tys) "TypeFoundry$Canvas" 66 i_Canvas_firstCut.1 := w_1010
theorem cw_Canvas_firstCut {D : va_G} {tys : List (ClassId × FieldType)} : tf_cw (tf_g D tys) i_Canvas_firstCut 1 := ⟨w_1013, w_6, by decide, by decide +kernel, by decide⟩
theorem in_Canvas_firstCut : Cond.instanceMethod i_Canvas_firstCut.1 ∈ tf_Ts := w_1012
theorem se_Canvas_firstCut : Cond.selects i_Canvas_firstCut.1.cls i_Canvas_firstCut.1 i_Canvas_firstCut.1 ∈ tf_Ts := wp_15
theorem lk_Canvas_69 {D : va_G} {tys : List (ClassId × FieldType)} : tf_lkM (tf_g D tys) "TypeFoundry$Canvas" 69 i_Canvas_crossing.1 := w_1018
theorem cw_Canvas_crossing {D : va_G} {tys : List (ClassId × FieldType)} : tf_cw (tf_g D tys) i_Canvas_crossing 5 := ⟨w_1020, w_6, by decide, by decide +kernel, by decide⟩
theorem sa_Canvas_crossing : Cond.static i_Canvas_crossing.1 ∈ tf_Ts := w_1019
theorem lk_Canvas_73 {D : va_G} {tys : List (ClassId × FieldType)} : tf_lkM (tf_g D tys) "TypeFoundry$Canvas" 73 i_Canvas_addPart.1 := w_1022
theorem cw_Canvas_addPart {D : va_G} {tys : List (ClassId × FieldType)} : tf_cw (tf_g D tys) i_Canvas_addPart 5 := ⟨w_1025, w_6, by decide, by decide +kernel, by decide⟩
theorem in_Canvas_addPart : Cond.instanceMethod i_Canvas_addPart.1 ∈ tf_Ts := w_1024
theorem se_Canvas_addPart : Cond.selects i_Canvas_addPart.1.cls i_Canvas_addPart.1 i_Canvas_addPart.1 ∈ tf_Ts := wp_16
theorem lk_Canvas_76 {D : va_G} {tys : List (ClassId × FieldType)} : tf_lkM (tf_g D tys) "TypeFoundry$Canvas" 76 i_Math_floorDiv_I.1 := w_1014
theorem cw_Math_floorDiv_I {D : va_G} {tys : List (ClassId × FieldType)} : tf_cw (tf_g D tys) i_Math_floorDiv_I 2 := ⟨w_1016, w_18, by decide, by decide +kernel, by decide⟩
theorem sa_Math_floorDiv_I : Cond.static i_Math_floorDiv_I.1 ∈ tf_Ts := w_1015
theorem lk_Canvas_82 {D : va_G} {tys : List (ClassId × FieldType)} : tf_lkM (tf_g D tys) "TypeFoundry$Canvas" 82 i_Canvas_addRise.1 := w_1029
theorem cw_Canvas_addRise {D : va_G} {tys : List (ClassId × FieldType)} : tf_cw (tf_g D tys) i_Canvas_addRise 4 := ⟨w_1032, w_6, by decide, by decide +kernel, by decide⟩
theorem in_Canvas_addRise : Cond.instanceMethod i_Canvas_addRise.1 ∈ tf_Ts := w_1031
theorem se_Canvas_addRise : Cond.selects i_Canvas_addRise.1.cls i_Canvas_addRise.1 i_Canvas_addRise.1 ∈ tf_Ts := wp_17
theorem ff_Glyph_9 {D : va_G} {tys : List (ClassId × FieldType)} : tf_ff (tf_g D tys) "TypeFoundry$Glyph" 9 3 3 (.array .boolean) := ⟨T_3, 15, rfl, by decide, uw_3, rfl, w_460, ⟨y_3, yk_3⟩, nm_3, by decide +kernel, rfl⟩
theorem ff_Glyph_15 {D : va_G} {tys : List (ClassId × FieldType)} : tf_ff (tf_g D tys) "TypeFoundry$Glyph" 15 3 4 (.array .int) := ⟨T_3, 15, rfl, by decide, uw_3, rfl, w_462, ⟨y_3, yk_3⟩, nm_3, by decide +kernel, rfl⟩
theorem ff_Glyph_21 {D : va_G} {tys : List (ClassId × FieldType)} : tf_ff (tf_g D tys) "TypeFoundry$Glyph" 21 3 5 (.array (.object "TypeFoundry$Part")) := ⟨T_3, 15, rfl, by decide, uw_3, rfl, w_464, ⟨y_3, yk_3⟩, nm_3, by decide +kernel, rfl⟩
theorem ff_Glyph_25 {D : va_G} {tys : List (ClassId × FieldType)} : tf_ff (tf_g D tys) "TypeFoundry$Glyph" 25 3 10 (.int) := ⟨T_3, 15, rfl, by decide, uw_3, rfl, w_474, ⟨y_3, yk_3⟩, nm_3, by decide +kernel, rfl⟩
theorem ff_Glyph_29 {D : va_G} {tys : List (ClassId × FieldType)} : tf_ff (tf_g D tys) "TypeFoundry$Glyph" 29 3 0 (.array .int) := ⟨T_3, 15, rfl, by decide, uw_3, rfl, w_454, ⟨y_3, yk_3⟩, nm_3, by decide +kernel, rfl⟩
theorem ff_Glyph_32 {D : va_G} {tys : List (ClassId × FieldType)} : tf_ff (tf_g D tys) "TypeFoundry$Glyph" 32 3 1 (.array .int) := ⟨T_3, 15, rfl, by decide, uw_3, rfl, w_456, ⟨y_3, yk_3⟩, nm_3, by decide +kernel, rfl⟩
theorem ff_Glyph_35 {D : va_G} {tys : List (ClassId × FieldType)} : tf_ff (tf_g D tys) "TypeFoundry$Glyph" 35 3 2 (.array .int) := ⟨T_3, 15, rfl, by decide, uw_3, rfl, w_458, ⟨y_3, yk_3⟩, nm_3, by decide +kernel, rfl⟩
theorem fl_Glyph_25 {D : va_G} {tys : List (ClassId × FieldType)} : tf_fl (tf_g D tys) "TypeFoundry$Glyph" 25 3 10 := ⟨"TypeFoundry$Glyph", T_3, 15, rfl, by decide, uw_3, rfl, Or.inl w_474⟩
theorem fl_Glyph_38 {D : va_G} {tys : List (ClassId × FieldType)} : tf_fl (tf_g D tys) "TypeFoundry$Glyph" 38 3 6 := ⟨"TypeFoundry$Glyph", T_3, 15, rfl, by decide, uw_3, rfl, Or.inl w_466⟩
theorem lk_Glyph_41 {D : va_G} {tys : List (ClassId × FieldType)} : tf_lkM (tf_g D tys) "TypeFoundry$Glyph" 41 i_Glyph_movePoint.1 := w_542
theorem fl_Glyph_9 {D : va_G} {tys : List (ClassId × FieldType)} : tf_fl (tf_g D tys) "TypeFoundry$Glyph" 9 3 3 := ⟨"TypeFoundry$Glyph", T_3, 15, rfl, by decide, uw_3, rfl, Or.inl w_460⟩
theorem fw_Glyph_38 {D : va_G} {tys : List (ClassId × FieldType)} : tf_fw (tf_g D tys) "TypeFoundry$Glyph" 38 3 6 (.int) := ⟨"TypeFoundry$Glyph", T_3, 15, rfl, by decide, uw_3, rfl, Or.inl w_466, ⟨y_3, yk_3⟩, nm_3, by decide +kernel, rfl⟩
theorem fl_Glyph_29 {D : va_G} {tys : List (ClassId × FieldType)} : tf_fl (tf_g D tys) "TypeFoundry$Glyph" 29 3 0 := ⟨"TypeFoundry$Glyph", T_3, 15, rfl, by decide, uw_3, rfl, Or.inl w_454⟩
theorem fl_Glyph_32 {D : va_G} {tys : List (ClassId × FieldType)} : tf_fl (tf_g D tys) "TypeFoundry$Glyph" 32 3 1 := ⟨"TypeFoundry$Glyph", T_3, 15, rfl, by decide, uw_3, rfl, Or.inl w_456⟩
theorem fl_Glyph_45 {D : va_G} {tys : List (ClassId × FieldType)} : tf_fl (tf_g D tys) "TypeFoundry$Glyph" 45 3 9 := ⟨"TypeFoundry$Glyph", T_3, 15, rfl, by decide, uw_3, rfl, Or.inl w_473⟩
theorem fl_Glyph_49 {D : va_G} {tys : List (ClassId × FieldType)} : tf_fl (tf_g D tys) "TypeFoundry$Glyph" 49 3 11 := ⟨"TypeFoundry$Glyph", T_3, 15, rfl, by decide, uw_3, rfl, Or.inl w_475⟩
theorem fl_Glyph_15 {D : va_G} {tys : List (ClassId × FieldType)} : tf_fl (tf_g D tys) "TypeFoundry$Glyph" 15 3 4 := ⟨"TypeFoundry$Glyph", T_3, 15, rfl, by decide, uw_3, rfl, Or.inl w_462⟩
theorem fl_Glyph_52 {D : va_G} {tys : List (ClassId × FieldType)} : tf_fl (tf_g D tys) "TypeFoundry$Glyph" 52 3 7 := ⟨"TypeFoundry$Glyph", T_3, 15, rfl, by decide, uw_3, rfl, Or.inl w_468⟩
theorem fw_Glyph_52 {D : va_G} {tys : List (ClassId × FieldType)} : tf_fw (tf_g D tys) "TypeFoundry$Glyph" 52 3 7 (.int) := ⟨"TypeFoundry$Glyph", T_3, 15, rfl, by decide, uw_3, rfl, Or.inl w_468, ⟨y_3, yk_3⟩, nm_3, by decide +kernel, rfl⟩
theorem fw_Glyph_49 {D : va_G} {tys : List (ClassId × FieldType)} : tf_fw (tf_g D tys) "TypeFoundry$Glyph" 49 3 11 (.int) := ⟨"TypeFoundry$Glyph", T_3, 15, rfl, by decide, uw_3, rfl, Or.inl w_475, ⟨y_3, yk_3⟩, nm_3, by decide +kernel, rfl⟩
theorem fl_Glyph_55 {D : va_G} {tys : List (ClassId × FieldType)} : tf_fl (tf_g D tys) "TypeFoundry$Glyph" 55 3 12 := ⟨"TypeFoundry$Glyph", T_3, 15, rfl, by decide, uw_3, rfl, Or.inl w_476⟩
theorem fl_Glyph_58 {D : va_G} {tys : List (ClassId × FieldType)} : tf_fl (tf_g D tys) "TypeFoundry$Glyph" 58 3 8 := ⟨"TypeFoundry$Glyph", T_3, 15, rfl, by decide, uw_3, rfl, Or.inl w_470⟩
theorem fl_Glyph_61 {D : va_G} {tys : List (ClassId × FieldType)} : tf_fl (tf_g D tys) "TypeFoundry$Glyph" 61 3 13 := ⟨"TypeFoundry$Glyph", T_3, 15, rfl, by decide, uw_3, rfl, Or.inl w_477⟩
theorem lk_Glyph_64 {D : va_G} {tys : List (ClassId × FieldType)} : tf_lkM (tf_g D tys) "TypeFoundry$Glyph" 64 i_Glyph_outlinePoints.1 := w_587
theorem fl_Glyph_68 {D : va_G} {tys : List (ClassId × FieldType)} : tf_fl (tf_g D tys) "TypeFoundry$Glyph" 68 7 0 := ⟨"TypeFoundry$Part", T_7, 4, rfl, by decide, uw_7, rfl, Or.inl w_600⟩
theorem fl_Glyph_21 {D : va_G} {tys : List (ClassId × FieldType)} : tf_fl (tf_g D tys) "TypeFoundry$Glyph" 21 3 5 := ⟨"TypeFoundry$Glyph", T_3, 15, rfl, by decide, uw_3, rfl, Or.inl w_464⟩
theorem fw_Glyph_55 {D : va_G} {tys : List (ClassId × FieldType)} : tf_fw (tf_g D tys) "TypeFoundry$Glyph" 55 3 12 (.int) := ⟨"TypeFoundry$Glyph", T_3, 15, rfl, by decide, uw_3, rfl, Or.inl w_476, ⟨y_3, yk_3⟩, nm_3, by decide +kernel, rfl⟩
theorem fw_Glyph_61 {D : va_G} {tys : List (ClassId × FieldType)} : tf_fw (tf_g D tys) "TypeFoundry$Glyph" 61 3 13 (.int) := ⟨"TypeFoundry$Glyph", T_3, 15, rfl, by decide, uw_3, rfl, Or.inl w_477, ⟨y_3, yk_3⟩, nm_3, by decide +kernel, rfl⟩
theorem fl_Glyph_72 {D : va_G} {tys : List (ClassId × FieldType)} : tf_fl (tf_g D tys) "TypeFoundry$Glyph" 72 3 14 := ⟨"TypeFoundry$Glyph", T_3, 15, rfl, by decide, uw_3, rfl, Or.inl w_478⟩
theorem lk_Glyph_75 {D : va_G} {tys : List (ClassId × FieldType)} : tf_lkM (tf_g D tys) "TypeFoundry$Glyph" 75 i_Glyph_outlineContours.1 := w_620
theorem fw_Glyph_72 {D : va_G} {tys : List (ClassId × FieldType)} : tf_fw (tf_g D tys) "TypeFoundry$Glyph" 72 3 14 (.int) := ⟨"TypeFoundry$Glyph", T_3, 15, rfl, by decide, uw_3, rfl, Or.inl w_478, ⟨y_3, yk_3⟩, nm_3, by decide +kernel, rfl⟩
theorem fw_Glyph_58 {D : va_G} {tys : List (ClassId × FieldType)} : tf_fw (tf_g D tys) "TypeFoundry$Glyph" 58 3 8 (.int) := ⟨"TypeFoundry$Glyph", T_3, 15, rfl, by decide, uw_3, rfl, Or.inl w_470, ⟨y_3, yk_3⟩, nm_3, by decide +kernel, rfl⟩
theorem fw_Glyph_45 {D : va_G} {tys : List (ClassId × FieldType)} : tf_fw (tf_g D tys) "TypeFoundry$Glyph" 45 3 9 (.boolean) := ⟨"TypeFoundry$Glyph", T_3, 15, rfl, by decide, uw_3, rfl, Or.inl w_473, ⟨y_3, yk_3⟩, nm_3, by decide +kernel, rfl⟩
theorem ff_Heights_9 {D : va_G} {tys : List (ClassId × FieldType)} : tf_ff (tf_g D tys) "TypeFoundry$Heights" 9 4 1 (.array .int) := ⟨T_4, 2, rfl, by decide, uw_4, rfl, w_120, ⟨y_4, yk_4⟩, nm_4, by decide +kernel, rfl⟩
theorem fl_Heights_15 {D : va_G} {tys : List (ClassId × FieldType)} : tf_fl (tf_g D tys) "TypeFoundry$Heights" 15 4 0 := ⟨"TypeFoundry$Heights", T_4, 2, rfl, by decide, uw_4, rfl, Or.inl w_118⟩
theorem fl_Heights_9 {D : va_G} {tys : List (ClassId × FieldType)} : tf_fl (tf_g D tys) "TypeFoundry$Heights" 9 4 1 := ⟨"TypeFoundry$Heights", T_4, 2, rfl, by decide, uw_4, rfl, Or.inl w_120⟩
theorem fw_Heights_15 {D : va_G} {tys : List (ClassId × FieldType)} : tf_fw (tf_g D tys) "TypeFoundry$Heights" 15 4 0 (.int) := ⟨"TypeFoundry$Heights", T_4, 2, rfl, by decide, uw_4, rfl, Or.inl w_118, ⟨y_4, yk_4⟩, nm_4, by decide +kernel, rfl⟩
theorem lk_Heights_19 {D : va_G} {tys : List (ClassId × FieldType)} : tf_lkM (tf_g D tys) "TypeFoundry$Heights" 19 i_Heights_goal.1 := w_995
theorem cw_Heights_goal {D : va_G} {tys : List (ClassId × FieldType)} : tf_cw (tf_g D tys) i_Heights_goal 2 := ⟨w_997, w_5, by decide, by decide +kernel, by decide⟩
theorem sa_Heights_goal : Cond.static i_Heights_goal.1 ∈ tf_Ts := w_996
theorem lk_Heights_23 {D : va_G} {tys : List (ClassId × FieldType)} : tf_lkM (tf_g D tys) "TypeFoundry$Heights" 23 i_Heights_between.1 := w_999
theorem cw_Heights_between {D : va_G} {tys : List (ClassId × FieldType)} : tf_cw (tf_g D tys) i_Heights_between 4 := ⟨w_1001, w_5, by decide, by decide +kernel, by decide⟩
theorem sa_Heights_between : Cond.static i_Heights_between.1 ∈ tf_Ts := w_1000
theorem lk_Heights_27 {D : va_G} {tys : List (ClassId × FieldType)} : tf_lkN (tf_g D tys) "TypeFoundry$Heights" 27 i_Tf_halvesUp.1 := ⟨"TypeFoundry", w_998⟩
theorem ff_Kerning_9 {D : va_G} {tys : List (ClassId × FieldType)} : tf_ff (tf_g D tys) "TypeFoundry$Kerning" 9 5 1 (.array .int) := ⟨T_5, 7, rfl, by decide, uw_5, rfl, w_150, ⟨y_5, yk_5⟩, nm_5, by decide +kernel, rfl⟩
theorem ff_Kerning_15 {D : va_G} {tys : List (ClassId × FieldType)} : tf_ff (tf_g D tys) "TypeFoundry$Kerning" 15 5 2 (.array .int) := ⟨T_5, 7, rfl, by decide, uw_5, rfl, w_151, ⟨y_5, yk_5⟩, nm_5, by decide +kernel, rfl⟩
theorem ff_Kerning_18 {D : va_G} {tys : List (ClassId × FieldType)} : tf_ff (tf_g D tys) "TypeFoundry$Kerning" 18 5 3 (.array .int) := ⟨T_5, 7, rfl, by decide, uw_5, rfl, w_152, ⟨y_5, yk_5⟩, nm_5, by decide +kernel, rfl⟩
theorem ff_Kerning_21 {D : va_G} {tys : List (ClassId × FieldType)} : tf_ff (tf_g D tys) "TypeFoundry$Kerning" 21 5 4 (.array .int) := ⟨T_5, 7, rfl, by decide, uw_5, rfl, w_153, ⟨y_5, yk_5⟩, nm_5, by decide +kernel, rfl⟩
theorem ff_Kerning_24 {D : va_G} {tys : List (ClassId × FieldType)} : tf_ff (tf_g D tys) "TypeFoundry$Kerning" 24 5 5 (.array .int) := ⟨T_5, 7, rfl, by decide, uw_5, rfl, w_154, ⟨y_5, yk_5⟩, nm_5, by decide +kernel, rfl⟩
theorem ff_Kerning_27 {D : va_G} {tys : List (ClassId × FieldType)} : tf_ff (tf_g D tys) "TypeFoundry$Kerning" 27 5 6 (.array .int) := ⟨T_5, 7, rfl, by decide, uw_5, rfl, w_155, ⟨y_5, yk_5⟩, nm_5, by decide +kernel, rfl⟩
theorem fl_Kerning_9 {D : va_G} {tys : List (ClassId × FieldType)} : tf_fl (tf_g D tys) "TypeFoundry$Kerning" 9 5 1 := ⟨"TypeFoundry$Kerning", T_5, 7, rfl, by decide, uw_5, rfl, Or.inl w_150⟩
theorem fl_Kerning_15 {D : va_G} {tys : List (ClassId × FieldType)} : tf_fl (tf_g D tys) "TypeFoundry$Kerning" 15 5 2 := ⟨"TypeFoundry$Kerning", T_5, 7, rfl, by decide, uw_5, rfl, Or.inl w_151⟩
theorem fl_Kerning_18 {D : va_G} {tys : List (ClassId × FieldType)} : tf_fl (tf_g D tys) "TypeFoundry$Kerning" 18 5 3 := ⟨"TypeFoundry$Kerning", T_5, 7, rfl, by decide, uw_5, rfl, Or.inl w_152⟩
theorem lk_Kerning_30 {D : va_G} {tys : List (ClassId × FieldType)} : tf_lkM (tf_g D tys) "TypeFoundry$Kerning" 30 i_Kerning_pairAt.1 := w_310
theorem cw_Kerning_pairAt {D : va_G} {tys : List (ClassId × FieldType)} : tf_cw (tf_g D tys) i_Kerning_pairAt 2 := ⟨w_313, w_7, by decide, by decide +kernel, by decide⟩
theorem in_Kerning_pairAt : Cond.instanceMethod i_Kerning_pairAt.1 ∈ tf_Ts := w_312
theorem se_Kerning_pairAt : Cond.selects i_Kerning_pairAt.1.cls i_Kerning_pairAt.1 i_Kerning_pairAt.1 ∈ tf_Ts := wp_1
theorem fl_Kerning_21 {D : va_G} {tys : List (ClassId × FieldType)} : tf_fl (tf_g D tys) "TypeFoundry$Kerning" 21 5 4 := ⟨"TypeFoundry$Kerning", T_5, 7, rfl, by decide, uw_5, rfl, Or.inl w_153⟩
theorem fl_Kerning_24 {D : va_G} {tys : List (ClassId × FieldType)} : tf_fl (tf_g D tys) "TypeFoundry$Kerning" 24 5 5 := ⟨"TypeFoundry$Kerning", T_5, 7, rfl, by decide, uw_5, rfl, Or.inl w_154⟩
theorem fl_Kerning_27 {D : va_G} {tys : List (ClassId × FieldType)} : tf_fl (tf_g D tys) "TypeFoundry$Kerning" 27 5 6 := ⟨"TypeFoundry$Kerning", T_5, 7, rfl, by decide, uw_5, rfl, Or.inl w_155⟩
theorem fl_Kerning_34 {D : va_G} {tys : List (ClassId × FieldType)} : tf_fl (tf_g D tys) "TypeFoundry$Kerning" 34 5 0 := ⟨"TypeFoundry$Kerning", T_5, 7, rfl, by decide, uw_5, rfl, Or.inl w_148⟩
theorem fw_Kerning_34 {D : va_G} {tys : List (ClassId × FieldType)} : tf_fw (tf_g D tys) "TypeFoundry$Kerning" 34 5 0 (.int) := ⟨"TypeFoundry$Kerning", T_5, 7, rfl, by decide, uw_5, rfl, Or.inl w_148, ⟨y_5, yk_5⟩, nm_5, by decide +kernel, rfl⟩
theorem ff_Outline_9 {D : va_G} {tys : List (ClassId × FieldType)} : tf_ff (tf_g D tys) "TypeFoundry$Outline" 9 6 0 (.array .int) := ⟨T_6, 7, rfl, by decide, uw_6, rfl, w_64, ⟨y_6, yk_6⟩, nm_6, by decide +kernel, rfl⟩
theorem ff_Outline_15 {D : va_G} {tys : List (ClassId × FieldType)} : tf_ff (tf_g D tys) "TypeFoundry$Outline" 15 6 1 (.array .int) := ⟨T_6, 7, rfl, by decide, uw_6, rfl, w_66, ⟨y_6, yk_6⟩, nm_6, by decide +kernel, rfl⟩
theorem ff_Outline_18 {D : va_G} {tys : List (ClassId × FieldType)} : tf_ff (tf_g D tys) "TypeFoundry$Outline" 18 6 2 (.array .boolean) := ⟨T_6, 7, rfl, by decide, uw_6, rfl, w_68, ⟨y_6, yk_6⟩, nm_6, by decide +kernel, rfl⟩
theorem ff_Outline_22 {D : va_G} {tys : List (ClassId × FieldType)} : tf_ff (tf_g D tys) "TypeFoundry$Outline" 22 6 3 (.array .int) := ⟨T_6, 7, rfl, by decide, uw_6, rfl, w_70, ⟨y_6, yk_6⟩, nm_6, by decide +kernel, rfl⟩
theorem ff_Outline_25 {D : va_G} {tys : List (ClassId × FieldType)} : tf_ff (tf_g D tys) "TypeFoundry$Outline" 25 6 5 (.array .int) := ⟨T_6, 7, rfl, by decide, uw_6, rfl, w_74, ⟨y_6, yk_6⟩, nm_6, by decide +kernel, rfl⟩
theorem fw_Outline_28 {D : va_G} {tys : List (ClassId × FieldType)} : tf_fw (tf_g D tys) "TypeFoundry$Outline" 28 6 6 (.int) := ⟨"TypeFoundry$Outline", T_6, 7, rfl, by decide, uw_6, rfl, Or.inl w_75, ⟨y_6, yk_6⟩, nm_6, by decide +kernel, rfl⟩
theorem fw_Outline_32 {D : va_G} {tys : List (ClassId × FieldType)} : tf_fw (tf_g D tys) "TypeFoundry$Outline" 32 6 4 (.int) := ⟨"TypeFoundry$Outline", T_6, 7, rfl, by decide, uw_6, rfl, Or.inl w_72, ⟨y_6, yk_6⟩, nm_6, by decide +kernel, rfl⟩
theorem lk_Outline_35 {D : va_G} {tys : List (ClassId × FieldType)} : tf_lkM (tf_g D tys) "TypeFoundry$Outline" 35 i_Outline_gather.1 := w_659
theorem cw_Outline_gather {D : va_G} {tys : List (ClassId × FieldType)} : tf_cw (tf_g D tys) i_Outline_gather 3 := ⟨w_662, w_3, by decide, by decide +kernel, by decide⟩
theorem in_Outline_gather : Cond.instanceMethod i_Outline_gather.1 ∈ tf_Ts := w_661
theorem se_Outline_gather : Cond.selects i_Outline_gather.1.cls i_Outline_gather.1 i_Outline_gather.1 ∈ tf_Ts := wp_7
theorem fl_Outline_9 {D : va_G} {tys : List (ClassId × FieldType)} : tf_fl (tf_g D tys) "TypeFoundry$Outline" 9 6 0 := ⟨"TypeFoundry$Outline", T_6, 7, rfl, by decide, uw_6, rfl, Or.inl w_64⟩
theorem fl_Outline_15 {D : va_G} {tys : List (ClassId × FieldType)} : tf_fl (tf_g D tys) "TypeFoundry$Outline" 15 6 1 := ⟨"TypeFoundry$Outline", T_6, 7, rfl, by decide, uw_6, rfl, Or.inl w_66⟩
theorem fl_Outline_18 {D : va_G} {tys : List (ClassId × FieldType)} : tf_fl (tf_g D tys) "TypeFoundry$Outline" 18 6 2 := ⟨"TypeFoundry$Outline", T_6, 7, rfl, by decide, uw_6, rfl, Or.inl w_68⟩
theorem fl_Outline_25 {D : va_G} {tys : List (ClassId × FieldType)} : tf_fl (tf_g D tys) "TypeFoundry$Outline" 25 6 5 := ⟨"TypeFoundry$Outline", T_6, 7, rfl, by decide, uw_6, rfl, Or.inl w_74⟩
theorem lk_Outline_39 {D : va_G} {tys : List (ClassId × FieldType)} : tf_lkM (tf_g D tys) "TypeFoundry$Outline" 39 i_Outline_addContours.1 := w_663
theorem cw_Outline_addContours {D : va_G} {tys : List (ClassId × FieldType)} : tf_cw (tf_g D tys) i_Outline_addContours 2 := ⟨w_666, w_3, by decide, by decide +kernel, by decide⟩
theorem in_Outline_addContours : Cond.instanceMethod i_Outline_addContours.1 ∈ tf_Ts := w_665
theorem se_Outline_addContours : Cond.selects i_Outline_addContours.1.cls i_Outline_addContours.1 i_Outline_addContours.1 ∈ tf_Ts := wp_8
theorem fl_Outline_43 {D : va_G} {tys : List (ClassId × FieldType)} : tf_fl (tf_g D tys) "TypeFoundry$Outline" 43 3 5 := ⟨"TypeFoundry$Glyph", T_3, 15, rfl, by decide, uw_3, rfl, Or.inl w_465⟩
theorem fl_Outline_32 {D : va_G} {tys : List (ClassId × FieldType)} : tf_fl (tf_g D tys) "TypeFoundry$Outline" 32 6 4 := ⟨"TypeFoundry$Outline", T_6, 7, rfl, by decide, uw_6, rfl, Or.inl w_72⟩
theorem fl_Outline_49 {D : va_G} {tys : List (ClassId × FieldType)} : tf_fl (tf_g D tys) "TypeFoundry$Outline" 49 7 0 := ⟨"TypeFoundry$Part", T_7, 4, rfl, by decide, uw_7, rfl, Or.inl w_599⟩
theorem lk_Outline_55 {D : va_G} {tys : List (ClassId × FieldType)} : tf_lkM (tf_g D tys) "TypeFoundry$Outline" 55 i_Outline_turnAndShift.1 := w_668
theorem cw_Outline_turnAndShift {D : va_G} {tys : List (ClassId × FieldType)} : tf_cw (tf_g D tys) i_Outline_turnAndShift 2 := ⟨w_671, w_3, by decide, by decide +kernel, by decide⟩
theorem in_Outline_turnAndShift : Cond.instanceMethod i_Outline_turnAndShift.1 ∈ tf_Ts := w_670
theorem se_Outline_turnAndShift : Cond.selects i_Outline_turnAndShift.1.cls i_Outline_turnAndShift.1 i_Outline_turnAndShift.1 ∈ tf_Ts := wp_9
theorem lk_Outline_59 {D : va_G} {tys : List (ClassId × FieldType)} : tf_lkM (tf_g D tys) "TypeFoundry$Outline" 59 i_Part_isMirrored.1 := w_672
theorem cw_Part_isMirrored {D : va_G} {tys : List (ClassId × FieldType)} : tf_cw (tf_g D tys) i_Part_isMirrored 0 := ⟨w_675, w_17, by decide, by decide +kernel, by decide⟩
theorem in_Part_isMirrored : Cond.instanceMethod i_Part_isMirrored.1 ∈ tf_Ts := w_673
theorem se_Part_isMirrored : Cond.selects i_Part_isMirrored.1.cls i_Part_isMirrored.1 i_Part_isMirrored.1 ∈ tf_Ts := w_674
theorem lk_Outline_63 {D : va_G} {tys : List (ClassId × FieldType)} : tf_lkM (tf_g D tys) "TypeFoundry$Outline" 63 i_Outline_reverseContours.1 := w_676
theorem cw_Outline_reverseContours {D : va_G} {tys : List (ClassId × FieldType)} : tf_cw (tf_g D tys) i_Outline_reverseContours 1 := ⟨w_679, w_3, by decide, by decide +kernel, by decide⟩
theorem in_Outline_reverseContours : Cond.instanceMethod i_Outline_reverseContours.1 ∈ tf_Ts := w_678
theorem se_Outline_reverseContours : Cond.selects i_Outline_reverseContours.1.cls i_Outline_reverseContours.1 i_Outline_reverseContours.1 ∈ tf_Ts := wp_10
theorem fl_Outline_67 {D : va_G} {tys : List (ClassId × FieldType)} : tf_fl (tf_g D tys) "TypeFoundry$Outline" 67 3 7 := ⟨"TypeFoundry$Glyph", T_3, 15, rfl, by decide, uw_3, rfl, Or.inl w_469⟩
theorem fl_Outline_68 {D : va_G} {tys : List (ClassId × FieldType)} : tf_fl (tf_g D tys) "TypeFoundry$Outline" 68 3 4 := ⟨"TypeFoundry$Glyph", T_3, 15, rfl, by decide, uw_3, rfl, Or.inl w_463⟩
theorem fl_Outline_28 {D : va_G} {tys : List (ClassId × FieldType)} : tf_fl (tf_g D tys) "TypeFoundry$Outline" 28 6 6 := ⟨"TypeFoundry$Outline", T_6, 7, rfl, by decide, uw_6, rfl, Or.inl w_75⟩
theorem fl_Outline_71 {D : va_G} {tys : List (ClassId × FieldType)} : tf_fl (tf_g D tys) "TypeFoundry$Outline" 71 3 0 := ⟨"TypeFoundry$Glyph", T_3, 15, rfl, by decide, uw_3, rfl, Or.inl w_455⟩
theorem lk_Outline_72 {D : va_G} {tys : List (ClassId × FieldType)} : tf_lkM (tf_g D tys) "TypeFoundry$Outline" 72 i_Blend_valueOf.1 := w_667
theorem fl_Outline_78 {D : va_G} {tys : List (ClassId × FieldType)} : tf_fl (tf_g D tys) "TypeFoundry$Outline" 78 3 1 := ⟨"TypeFoundry$Glyph", T_3, 15, rfl, by decide, uw_3, rfl, Or.inl w_457⟩
theorem fl_Outline_79 {D : va_G} {tys : List (ClassId × FieldType)} : tf_fl (tf_g D tys) "TypeFoundry$Outline" 79 3 3 := ⟨"TypeFoundry$Glyph", T_3, 15, rfl, by decide, uw_3, rfl, Or.inl w_461⟩
theorem fl_Outline_22 {D : va_G} {tys : List (ClassId × FieldType)} : tf_fl (tf_g D tys) "TypeFoundry$Outline" 22 6 3 := ⟨"TypeFoundry$Outline", T_6, 7, rfl, by decide, uw_6, rfl, Or.inl w_70⟩
theorem fl_Outline_80 {D : va_G} {tys : List (ClassId × FieldType)} : tf_fl (tf_g D tys) "TypeFoundry$Outline" 80 7 3 := ⟨"TypeFoundry$Part", T_7, 4, rfl, by decide, uw_7, rfl, Or.inl w_606⟩
theorem fl_Outline_83 {D : va_G} {tys : List (ClassId × FieldType)} : tf_fl (tf_g D tys) "TypeFoundry$Outline" 83 7 1 := ⟨"TypeFoundry$Part", T_7, 4, rfl, by decide, uw_7, rfl, Or.inl w_602⟩
theorem fl_Outline_86 {D : va_G} {tys : List (ClassId × FieldType)} : tf_fl (tf_g D tys) "TypeFoundry$Outline" 86 7 2 := ⟨"TypeFoundry$Part", T_7, 4, rfl, by decide, uw_7, rfl, Or.inl w_604⟩
theorem lk_Outline_89 {D : va_G} {tys : List (ClassId × FieldType)} : tf_lkM (tf_g D tys) "TypeFoundry$Outline" 89 i_Outline_swap.1 := w_680
theorem cw_Outline_swap {D : va_G} {tys : List (ClassId × FieldType)} : tf_cw (tf_g D tys) i_Outline_swap 2 := ⟨w_683, w_3, by decide, by decide +kernel, by decide⟩
theorem in_Outline_swap : Cond.instanceMethod i_Outline_swap.1 ∈ tf_Ts := w_682
theorem se_Outline_swap : Cond.selects i_Outline_swap.1.cls i_Outline_swap.1 i_Outline_swap.1 ∈ tf_Ts := wp_11
theorem ff_Part_9 {D : va_G} {tys : List (ClassId × FieldType)} : tf_ff (tf_g D tys) "TypeFoundry$Part" 9 7 0 (.object "TypeFoundry$Glyph") := ⟨T_7, 4, rfl, by decide, uw_7, rfl, w_598, ⟨y_7, yk_7⟩, nm_7, by decide +kernel, rfl⟩
theorem ff_Part_15 {D : va_G} {tys : List (ClassId × FieldType)} : tf_ff (tf_g D tys) "TypeFoundry$Part" 15 7 1 (.int) := ⟨T_7, 4, rfl, by decide, uw_7, rfl, w_601, ⟨y_7, yk_7⟩, nm_7, by decide +kernel, rfl⟩
theorem ff_Part_19 {D : va_G} {tys : List (ClassId × FieldType)} : tf_ff (tf_g D tys) "TypeFoundry$Part" 19 7 2 (.int) := ⟨T_7, 4, rfl, by decide, uw_7, rfl, w_603, ⟨y_7, yk_7⟩, nm_7, by decide +kernel, rfl⟩
theorem ff_Part_22 {D : va_G} {tys : List (ClassId × FieldType)} : tf_ff (tf_g D tys) "TypeFoundry$Part" 22 7 3 (.int) := ⟨T_7, 4, rfl, by decide, uw_7, rfl, w_605, ⟨y_7, yk_7⟩, nm_7, by decide +kernel, rfl⟩
theorem fl_Part_22 {D : va_G} {tys : List (ClassId × FieldType)} : tf_fl (tf_g D tys) "TypeFoundry$Part" 22 7 3 := ⟨"TypeFoundry$Part", T_7, 4, rfl, by decide, uw_7, rfl, Or.inl w_605⟩
theorem ff_Path_9 {D : va_G} {tys : List (ClassId × FieldType)} : tf_ff (tf_g D tys) "TypeFoundry$Path" 9 8 0 (.array .int) := ⟨T_8, 3, rfl, by decide, uw_8, rfl, w_99, ⟨y_8, yk_8⟩, nm_8, by decide +kernel, rfl⟩
theorem ff_Path_15 {D : va_G} {tys : List (ClassId × FieldType)} : tf_ff (tf_g D tys) "TypeFoundry$Path" 15 8 1 (.array .int) := ⟨T_8, 3, rfl, by decide, uw_8, rfl, w_101, ⟨y_8, yk_8⟩, nm_8, by decide +kernel, rfl⟩
theorem fl_Path_18 {D : va_G} {tys : List (ClassId × FieldType)} : tf_fl (tf_g D tys) "TypeFoundry$Path" 18 6 3 := ⟨"TypeFoundry$Outline", T_6, 7, rfl, by decide, uw_6, rfl, Or.inl w_71⟩
theorem fw_Path_23 {D : va_G} {tys : List (ClassId × FieldType)} : tf_fw (tf_g D tys) "TypeFoundry$Path" 23 8 2 (.int) := ⟨"TypeFoundry$Path", T_8, 3, rfl, by decide, uw_8, rfl, Or.inl w_103, ⟨y_8, yk_8⟩, nm_8, by decide +kernel, rfl⟩
theorem fl_Path_27 {D : va_G} {tys : List (ClassId × FieldType)} : tf_fl (tf_g D tys) "TypeFoundry$Path" 27 6 2 := ⟨"TypeFoundry$Outline", T_6, 7, rfl, by decide, uw_6, rfl, Or.inl w_69⟩
theorem lk_Path_31 {D : va_G} {tys : List (ClassId × FieldType)} : tf_lkM (tf_g D tys) "TypeFoundry$Path" 31 i_Path_addQuadratic.1 := w_970
theorem cw_Path_addQuadratic {D : va_G} {tys : List (ClassId × FieldType)} : tf_cw (tf_g D tys) i_Path_addQuadratic 4 := ⟨w_973, w_4, by decide, by decide +kernel, by decide⟩
theorem in_Path_addQuadratic : Cond.instanceMethod i_Path_addQuadratic.1 ∈ tf_Ts := w_972
theorem se_Path_addQuadratic : Cond.selects i_Path_addQuadratic.1.cls i_Path_addQuadratic.1 i_Path_addQuadratic.1 ∈ tf_Ts := wp_12
theorem fl_Path_35 {D : va_G} {tys : List (ClassId × FieldType)} : tf_fl (tf_g D tys) "TypeFoundry$Path" 35 6 0 := ⟨"TypeFoundry$Outline", T_6, 7, rfl, by decide, uw_6, rfl, Or.inl w_65⟩
theorem fl_Path_36 {D : va_G} {tys : List (ClassId × FieldType)} : tf_fl (tf_g D tys) "TypeFoundry$Path" 36 6 1 := ⟨"TypeFoundry$Outline", T_6, 7, rfl, by decide, uw_6, rfl, Or.inl w_67⟩
theorem lk_Path_37 {D : va_G} {tys : List (ClassId × FieldType)} : tf_lkM (tf_g D tys) "TypeFoundry$Path" 37 i_Path_addCorner.1 := w_983
theorem cw_Path_addCorner {D : va_G} {tys : List (ClassId × FieldType)} : tf_cw (tf_g D tys) i_Path_addCorner 2 := ⟨w_986, w_4, by decide, by decide +kernel, by decide⟩
theorem in_Path_addCorner : Cond.instanceMethod i_Path_addCorner.1 ∈ tf_Ts := w_985
theorem se_Path_addCorner : Cond.selects i_Path_addCorner.1.cls i_Path_addCorner.1 i_Path_addCorner.1 ∈ tf_Ts := wp_13
theorem fl_Path_23 {D : va_G} {tys : List (ClassId × FieldType)} : tf_fl (tf_g D tys) "TypeFoundry$Path" 23 8 2 := ⟨"TypeFoundry$Path", T_8, 3, rfl, by decide, uw_8, rfl, Or.inl w_103⟩
theorem fl_Path_15 {D : va_G} {tys : List (ClassId × FieldType)} : tf_fl (tf_g D tys) "TypeFoundry$Path" 15 8 1 := ⟨"TypeFoundry$Path", T_8, 3, rfl, by decide, uw_8, rfl, Or.inl w_101⟩
theorem lk_Path_41 {D : va_G} {tys : List (ClassId × FieldType)} : tf_lkM (tf_g D tys) "TypeFoundry$Path" 41 i_Heights_fitted.1 := w_991
theorem cw_Heights_fitted {D : va_G} {tys : List (ClassId × FieldType)} : tf_cw (tf_g D tys) i_Heights_fitted 2 := ⟨w_994, w_5, by decide, by decide +kernel, by decide⟩
theorem in_Heights_fitted : Cond.instanceMethod i_Heights_fitted.1 ∈ tf_Ts := w_992
theorem se_Heights_fitted : Cond.selects i_Heights_fitted.1.cls i_Heights_fitted.1 i_Heights_fitted.1 ∈ tf_Ts := w_993
theorem lk_Path_47 {D : va_G} {tys : List (ClassId × FieldType)} : tf_lkM (tf_g D tys) "TypeFoundry$Path" 47 i_Path_endAt.1 := w_974
theorem cw_Path_endAt {D : va_G} {tys : List (ClassId × FieldType)} : tf_cw (tf_g D tys) i_Path_endAt 4 := ⟨w_976, w_4, by decide, by decide +kernel, by decide⟩
theorem sa_Path_endAt : Cond.static i_Path_endAt.1 ∈ tf_Ts := w_975
theorem lk_Path_51 {D : va_G} {tys : List (ClassId × FieldType)} : tf_lkM (tf_g D tys) "TypeFoundry$Path" 51 i_Path_onQuadratic.1 := w_979
theorem cw_Path_onQuadratic {D : va_G} {tys : List (ClassId × FieldType)} : tf_cw (tf_g D tys) i_Path_onQuadratic 4 := ⟨w_981, w_4, by decide, by decide +kernel, by decide⟩
theorem sa_Path_onQuadratic : Cond.static i_Path_onQuadratic.1 ∈ tf_Ts := w_980
theorem fl_Path_9 {D : va_G} {tys : List (ClassId × FieldType)} : tf_fl (tf_g D tys) "TypeFoundry$Path" 9 8 0 := ⟨"TypeFoundry$Path", T_8, 3, rfl, by decide, uw_8, rfl, Or.inl w_99⟩
theorem lk_Path_57 {D : va_G} {tys : List (ClassId × FieldType)} : tf_lkN (tf_g D tys) "TypeFoundry$Path" 57 i_Tf_halvesUp.1 := ⟨"TypeFoundry", w_978⟩
theorem ff_Rule_9 {D : va_G} {tys : List (ClassId × FieldType)} : tf_ff (tf_g D tys) "TypeFoundry$Rule" 9 9 0 (.int) := ⟨T_9, 8, rfl, by decide, uw_9, rfl, w_1059, ⟨y_9, yk_9⟩, nm_9, by decide +kernel, rfl⟩
theorem ff_Rule_15 {D : va_G} {tys : List (ClassId × FieldType)} : tf_ff (tf_g D tys) "TypeFoundry$Rule" 15 9 3 (.long) := ⟨T_9, 8, rfl, by decide, uw_9, rfl, w_1065, ⟨y_9, yk_9⟩, nm_9, by decide +kernel, rfl⟩
theorem ff_Rule_19 {D : va_G} {tys : List (ClassId × FieldType)} : tf_ff (tf_g D tys) "TypeFoundry$Rule" 19 9 4 (.long) := ⟨T_9, 8, rfl, by decide, uw_9, rfl, w_1066, ⟨y_9, yk_9⟩, nm_9, by decide +kernel, rfl⟩
theorem ff_Rule_22 {D : va_G} {tys : List (ClassId × FieldType)} : tf_ff (tf_g D tys) "TypeFoundry$Rule" 22 9 5 (.long) := ⟨T_9, 8, rfl, by decide, uw_9, rfl, w_1067, ⟨y_9, yk_9⟩, nm_9, by decide +kernel, rfl⟩
theorem ff_Rule_25 {D : va_G} {tys : List (ClassId × FieldType)} : tf_ff (tf_g D tys) "TypeFoundry$Rule" 25 9 2 (.int) := ⟨T_9, 8, rfl, by decide, uw_9, rfl, w_1063, ⟨y_9, yk_9⟩, nm_9, by decide +kernel, rfl⟩
theorem lk_Rule_28 {D : va_G} {tys : List (ClassId × FieldType)} : tf_lkM (tf_g D tys) "TypeFoundry$Rule" 28 i_Rule_lengthOf.1 := w_1056
theorem cw_Rule_lengthOf {D : va_G} {tys : List (ClassId × FieldType)} : tf_cw (tf_g D tys) i_Rule_lengthOf 2 := ⟨w_1058, w_30, by decide, by decide +kernel, by decide⟩
theorem sa_Rule_lengthOf : Cond.static i_Rule_lengthOf.1 ∈ tf_Ts := w_1057
theorem ff_Rule_32 {D : va_G} {tys : List (ClassId × FieldType)} : tf_ff (tf_g D tys) "TypeFoundry$Rule" 32 9 6 (.int) := ⟨T_9, 8, rfl, by decide, uw_9, rfl, w_1068, ⟨y_9, yk_9⟩, nm_9, by decide +kernel, rfl⟩
theorem ff_Rule_35 {D : va_G} {tys : List (ClassId × FieldType)} : tf_ff (tf_g D tys) "TypeFoundry$Rule" 35 9 1 (.int) := ⟨T_9, 8, rfl, by decide, uw_9, rfl, w_1061, ⟨y_9, yk_9⟩, nm_9, by decide +kernel, rfl⟩
theorem ff_Rule_38 {D : va_G} {tys : List (ClassId × FieldType)} : tf_ff (tf_g D tys) "TypeFoundry$Rule" 38 9 7 (.int) := ⟨T_9, 8, rfl, by decide, uw_9, rfl, w_1069, ⟨y_9, yk_9⟩, nm_9, by decide +kernel, rfl⟩
theorem fl_Rule_35 {D : va_G} {tys : List (ClassId × FieldType)} : tf_fl (tf_g D tys) "TypeFoundry$Rule" 35 9 1 := ⟨"TypeFoundry$Rule", T_9, 8, rfl, by decide, uw_9, rfl, Or.inl w_1061⟩
theorem fl_Rule_15 {D : va_G} {tys : List (ClassId × FieldType)} : tf_fl (tf_g D tys) "TypeFoundry$Rule" 15 9 3 := ⟨"TypeFoundry$Rule", T_9, 8, rfl, by decide, uw_9, rfl, Or.inl w_1065⟩
theorem fl_Rule_32 {D : va_G} {tys : List (ClassId × FieldType)} : tf_fl (tf_g D tys) "TypeFoundry$Rule" 32 9 6 := ⟨"TypeFoundry$Rule", T_9, 8, rfl, by decide, uw_9, rfl, Or.inl w_1068⟩
theorem lk_Rule_41 {D : va_G} {tys : List (ClassId × FieldType)} : tf_lkM (tf_g D tys) "TypeFoundry$Rule" 41 i_Rule_isOf.1 := w_1091
theorem cw_Rule_isOf {D : va_G} {tys : List (ClassId × FieldType)} : tf_cw (tf_g D tys) i_Rule_isOf 3 := ⟨w_1093, w_30, by decide, by decide +kernel, by decide⟩
theorem sa_Rule_isOf : Cond.static i_Rule_isOf.1 ∈ tf_Ts := w_1092
theorem fl_Rule_19 {D : va_G} {tys : List (ClassId × FieldType)} : tf_fl (tf_g D tys) "TypeFoundry$Rule" 19 9 4 := ⟨"TypeFoundry$Rule", T_9, 8, rfl, by decide, uw_9, rfl, Or.inl w_1066⟩
theorem fl_Rule_22 {D : va_G} {tys : List (ClassId × FieldType)} : tf_fl (tf_g D tys) "TypeFoundry$Rule" 22 9 5 := ⟨"TypeFoundry$Rule", T_9, 8, rfl, by decide, uw_9, rfl, Or.inl w_1067⟩
theorem fl_Rule_38 {D : va_G} {tys : List (ClassId × FieldType)} : tf_fl (tf_g D tys) "TypeFoundry$Rule" 38 9 7 := ⟨"TypeFoundry$Rule", T_9, 8, rfl, by decide, uw_9, rfl, Or.inl w_1069⟩
theorem fl_Rule_25 {D : va_G} {tys : List (ClassId × FieldType)} : tf_fl (tf_g D tys) "TypeFoundry$Rule" 25 9 2 := ⟨"TypeFoundry$Rule", T_9, 8, rfl, by decide, uw_9, rfl, Or.inl w_1063⟩
theorem lk_Rule_45 {D : va_G} {tys : List (ClassId × FieldType)} : tf_lkN (tf_g D tys) "TypeFoundry$Rule" 45 i_Tf_within.1 := ⟨"TypeFoundry", w_1094⟩
theorem lk_Rule_49 {D : va_G} {tys : List (ClassId × FieldType)} : tf_lkM (tf_g D tys) "TypeFoundry$Rule" 49 i_Rule_stands.1 := w_352
theorem cw_Rule_stands {D : va_G} {tys : List (ClassId × FieldType)} : tf_cw (tf_g D tys) i_Rule_stands 4 := ⟨w_354, w_30, by decide, by decide +kernel, by decide⟩
theorem sa_Rule_stands : Cond.static i_Rule_stands.1 ∈ tf_Ts := w_353
theorem lk_Rule_53 {D : va_G} {tys : List (ClassId × FieldType)} : tf_lkM (tf_g D tys) "TypeFoundry$Rule" 53 i_Rule_glyphAt.1 := w_355
theorem cw_Rule_glyphAt {D : va_G} {tys : List (ClassId × FieldType)} : tf_cw (tf_g D tys) i_Rule_glyphAt 2 := ⟨w_357, w_30, by decide, by decide +kernel, by decide⟩
theorem sa_Rule_glyphAt : Cond.static i_Rule_glyphAt.1 ∈ tf_Ts := w_356
theorem ff_Setter_9 {D : va_G} {tys : List (ClassId × FieldType)} : tf_ff (tf_g D tys) "TypeFoundry$Setter" 9 10 0 (.array .int) := ⟨T_10, 7, rfl, by decide, uw_10, rfl, w_179, ⟨y_10, yk_10⟩, nm_10, by decide +kernel, rfl⟩
theorem ff_Setter_15 {D : va_G} {tys : List (ClassId × FieldType)} : tf_ff (tf_g D tys) "TypeFoundry$Setter" 15 10 5 (.array .int) := ⟨T_10, 7, rfl, by decide, uw_10, rfl, w_189, ⟨y_10, yk_10⟩, nm_10, by decide +kernel, rfl⟩
theorem ff_Setter_20 {D : va_G} {tys : List (ClassId × FieldType)} : tf_ff (tf_g D tys) "TypeFoundry$Setter" 20 10 6 (.array (.object "TypeFoundry$Rule")) := ⟨T_10, 7, rfl, by decide, uw_10, rfl, w_190, ⟨y_10, yk_10⟩, nm_10, by decide +kernel, rfl⟩
theorem fl_Setter_20 {D : va_G} {tys : List (ClassId × FieldType)} : tf_fl (tf_g D tys) "TypeFoundry$Setter" 20 10 6 := ⟨"TypeFoundry$Setter", T_10, 7, rfl, by decide, uw_10, rfl, Or.inl w_190⟩
theorem fl_Setter_24 {D : va_G} {tys : List (ClassId × FieldType)} : tf_fl (tf_g D tys) "TypeFoundry$Setter" 24 10 3 := ⟨"TypeFoundry$Setter", T_10, 7, rfl, by decide, uw_10, rfl, Or.inl w_185⟩
theorem fw_Setter_24 {D : va_G} {tys : List (ClassId × FieldType)} : tf_fw (tf_g D tys) "TypeFoundry$Setter" 24 10 3 (.int) := ⟨"TypeFoundry$Setter", T_10, 7, rfl, by decide, uw_10, rfl, Or.inl w_185, ⟨y_10, yk_10⟩, nm_10, by decide +kernel, rfl⟩
theorem fl_Setter_28 {D : va_G} {tys : List (ClassId × FieldType)} : tf_fl (tf_g D tys) "TypeFoundry$Setter" 28 10 2 := ⟨"TypeFoundry$Setter", T_10, 7, rfl, by decide, uw_10, rfl, Or.inl w_183⟩
theorem fl_Setter_15 {D : va_G} {tys : List (ClassId × FieldType)} : tf_fl (tf_g D tys) "TypeFoundry$Setter" 15 10 5 := ⟨"TypeFoundry$Setter", T_10, 7, rfl, by decide, uw_10, rfl, Or.inl w_189⟩
theorem fw_Setter_28 {D : va_G} {tys : List (ClassId × FieldType)} : tf_fw (tf_g D tys) "TypeFoundry$Setter" 28 10 2 (.int) := ⟨"TypeFoundry$Setter", T_10, 7, rfl, by decide, uw_10, rfl, Or.inl w_183, ⟨y_10, yk_10⟩, nm_10, by decide +kernel, rfl⟩
theorem fl_Setter_9 {D : va_G} {tys : List (ClassId × FieldType)} : tf_fl (tf_g D tys) "TypeFoundry$Setter" 9 10 0 := ⟨"TypeFoundry$Setter", T_10, 7, rfl, by decide, uw_10, rfl, Or.inl w_179⟩
theorem fw_Setter_37 {D : va_G} {tys : List (ClassId × FieldType)} : tf_fw (tf_g D tys) "TypeFoundry$Setter" 37 10 1 (.int) := ⟨"TypeFoundry$Setter", T_10, 7, rfl, by decide, uw_10, rfl, Or.inl w_181, ⟨y_10, yk_10⟩, nm_10, by decide +kernel, rfl⟩
theorem fw_Setter_40 {D : va_G} {tys : List (ClassId × FieldType)} : tf_fw (tf_g D tys) "TypeFoundry$Setter" 40 10 4 (.int) := ⟨"TypeFoundry$Setter", T_10, 7, rfl, by decide, uw_10, rfl, Or.inl w_187, ⟨y_10, yk_10⟩, nm_10, by decide +kernel, rfl⟩
theorem lk_Setter_43 {D : va_G} {tys : List (ClassId × FieldType)} : tf_lkM (tf_g D tys) "TypeFoundry$Setter" 43 i_Setter_run.1 := w_336
theorem cw_Setter_run {D : va_G} {tys : List (ClassId × FieldType)} : tf_cw (tf_g D tys) i_Setter_run 1 := ⟨w_339, w_8, by decide, by decide +kernel, by decide⟩
theorem in_Setter_run : Cond.instanceMethod i_Setter_run.1 ∈ tf_Ts := w_338
theorem se_Setter_run : Cond.selects i_Setter_run.1.cls i_Setter_run.1 i_Setter_run.1 ∈ tf_Ts := wp_2
theorem fl_Setter_37 {D : va_G} {tys : List (ClassId × FieldType)} : tf_fl (tf_g D tys) "TypeFoundry$Setter" 37 10 1 := ⟨"TypeFoundry$Setter", T_10, 7, rfl, by decide, uw_10, rfl, Or.inl w_181⟩
theorem lk_Setter_47 {D : va_G} {tys : List (ClassId × FieldType)} : tf_lkM (tf_g D tys) "TypeFoundry$Setter" 47 i_Setter_bestAt.1 := w_340
theorem cw_Setter_bestAt {D : va_G} {tys : List (ClassId × FieldType)} : tf_cw (tf_g D tys) i_Setter_bestAt 2 := ⟨w_343, w_8, by decide, by decide +kernel, by decide⟩
theorem in_Setter_bestAt : Cond.instanceMethod i_Setter_bestAt.1 ∈ tf_Ts := w_342
theorem se_Setter_bestAt : Cond.selects i_Setter_bestAt.1.cls i_Setter_bestAt.1 i_Setter_bestAt.1 ∈ tf_Ts := wp_3
theorem lk_Setter_51 {D : va_G} {tys : List (ClassId × FieldType)} : tf_lkM (tf_g D tys) "TypeFoundry$Setter" 51 i_Setter_put.1 := w_359
theorem cw_Setter_put {D : va_G} {tys : List (ClassId × FieldType)} : tf_cw (tf_g D tys) i_Setter_put 2 := ⟨w_362, w_8, by decide, by decide +kernel, by decide⟩
theorem in_Setter_put : Cond.instanceMethod i_Setter_put.1 ∈ tf_Ts := w_361
theorem se_Setter_put : Cond.selects i_Setter_put.1.cls i_Setter_put.1 i_Setter_put.1 ∈ tf_Ts := wp_4
theorem fl_Setter_55 {D : va_G} {tys : List (ClassId × FieldType)} : tf_fl (tf_g D tys) "TypeFoundry$Setter" 55 9 0 := ⟨"TypeFoundry$Rule", T_9, 8, rfl, by decide, uw_9, rfl, Or.inl w_1060⟩
theorem lk_Setter_58 {D : va_G} {tys : List (ClassId × FieldType)} : tf_lkM (tf_g D tys) "TypeFoundry$Setter" 58 i_Rule_isLongerThan.1 := w_344
theorem cw_Rule_isLongerThan {D : va_G} {tys : List (ClassId × FieldType)} : tf_cw (tf_g D tys) i_Rule_isLongerThan 1 := ⟨w_347, w_30, by decide, by decide +kernel, by decide⟩
theorem in_Rule_isLongerThan : Cond.instanceMethod i_Rule_isLongerThan.1 ∈ tf_Ts := w_345
theorem se_Rule_isLongerThan : Cond.selects i_Rule_isLongerThan.1.cls i_Rule_isLongerThan.1 i_Rule_isLongerThan.1 ∈ tf_Ts := w_346
theorem lk_Setter_62 {D : va_G} {tys : List (ClassId × FieldType)} : tf_lkM (tf_g D tys) "TypeFoundry$Setter" 62 i_Rule_fits.1 := w_348
theorem cw_Rule_fits {D : va_G} {tys : List (ClassId × FieldType)} : tf_cw (tf_g D tys) i_Rule_fits 3 := ⟨w_351, w_30, by decide, by decide +kernel, by decide⟩
theorem in_Rule_fits : Cond.instanceMethod i_Rule_fits.1 ∈ tf_Ts := w_349
theorem se_Rule_fits : Cond.selects i_Rule_fits.1.cls i_Rule_fits.1 i_Rule_fits.1 ∈ tf_Ts := w_350
theorem fl_Setter_66 {D : va_G} {tys : List (ClassId × FieldType)} : tf_fl (tf_g D tys) "TypeFoundry$Setter" 66 9 1 := ⟨"TypeFoundry$Rule", T_9, 8, rfl, by decide, uw_9, rfl, Or.inl w_1062⟩
theorem fl_Setter_69 {D : va_G} {tys : List (ClassId × FieldType)} : tf_fl (tf_g D tys) "TypeFoundry$Setter" 69 9 2 := ⟨"TypeFoundry$Rule", T_9, 8, rfl, by decide, uw_9, rfl, Or.inl w_1064⟩
theorem fl_Setter_40 {D : va_G} {tys : List (ClassId × FieldType)} : tf_fl (tf_g D tys) "TypeFoundry$Setter" 40 10 4 := ⟨"TypeFoundry$Setter", T_10, 7, rfl, by decide, uw_10, rfl, Or.inl w_187⟩
theorem lk_Law_7 {D : va_G} {tys : List (ClassId × FieldType)} : tf_lkM (tf_g D tys) "TypeFoundryLaw" 7 i_Tf_glyph.1 := w_374
theorem cw_Tf_glyph {D : va_G} {tys : List (ClassId × FieldType)} : tf_cw (tf_g D tys) i_Tf_glyph 0 := ⟨w_377, w_1, by decide, by decide +kernel, by decide⟩
theorem in_Tf_glyph : Cond.instanceMethod i_Tf_glyph.1 ∈ tf_Ts := w_375
theorem se_Tf_glyph : Cond.selects i_Tf_glyph.1.cls i_Tf_glyph.1 i_Tf_glyph.1 ∈ tf_Ts := w_376
theorem lk_Law_15 {D : va_G} {tys : List (ClassId × FieldType)} : tf_lkM (tf_g D tys) "TypeFoundryLaw" 15 i_Tf_point.1 := w_514
theorem cw_Tf_point {D : va_G} {tys : List (ClassId × FieldType)} : tf_cw (tf_g D tys) i_Tf_point 4 := ⟨w_517, w_1, by decide, by decide +kernel, by decide⟩
theorem in_Tf_point : Cond.instanceMethod i_Tf_point.1 ∈ tf_Ts := w_515
theorem se_Tf_point : Cond.selects i_Tf_point.1.cls i_Tf_point.1 i_Tf_point.1 ∈ tf_Ts := w_516
theorem lk_Law_21 {D : va_G} {tys : List (ClassId × FieldType)} : tf_lkM (tf_g D tys) "TypeFoundryLaw" 21 i_Tf_place.1 := w_550
theorem cw_Tf_place {D : va_G} {tys : List (ClassId × FieldType)} : tf_cw (tf_g D tys) i_Tf_place 5 := ⟨w_553, w_1, by decide, by decide +kernel, by decide⟩
theorem in_Tf_place : Cond.instanceMethod i_Tf_place.1 ∈ tf_Ts := w_551
theorem se_Tf_place : Cond.selects i_Tf_place.1.cls i_Tf_place.1 i_Tf_place.1 ∈ tf_Ts := w_552
theorem lk_Law_27 {D : va_G} {tys : List (ClassId × FieldType)} : tf_lkM (tf_g D tys) "TypeFoundryLaw" 27 i_Tf_component.1 := w_575
theorem cw_Tf_component {D : va_G} {tys : List (ClassId × FieldType)} : tf_cw (tf_g D tys) i_Tf_component 5 := ⟨w_578, w_1, by decide, by decide +kernel, by decide⟩
theorem in_Tf_component : Cond.instanceMethod i_Tf_component.1 ∈ tf_Ts := w_576
theorem se_Tf_component : Cond.selects i_Tf_component.1.cls i_Tf_component.1 i_Tf_component.1 ∈ tf_Ts := w_577
theorem lk_Law_30 {D : va_G} {tys : List (ClassId × FieldType)} : tf_lkM (tf_g D tys) "TypeFoundryLaw" 30 i_Tf_outline.1 := w_628
theorem cw_Tf_outline {D : va_G} {tys : List (ClassId × FieldType)} : tf_cw (tf_g D tys) i_Tf_outline 3 := ⟨w_631, w_1, by decide, by decide +kernel, by decide⟩
theorem in_Tf_outline : Cond.instanceMethod i_Tf_outline.1 ∈ tf_Ts := w_629
theorem se_Tf_outline : Cond.selects i_Tf_outline.1.cls i_Tf_outline.1 i_Tf_outline.1 ∈ tf_Ts := w_630
theorem lk_Law_34 {D : va_G} {tys : List (ClassId × FieldType)} : tf_lkM (tf_g D tys) "TypeFoundryLaw" 34 i_Tf_draw.1 := w_691
theorem cw_Tf_draw {D : va_G} {tys : List (ClassId × FieldType)} : tf_cw (tf_g D tys) i_Tf_draw 3 := ⟨w_694, w_1, by decide, by decide +kernel, by decide⟩
theorem in_Tf_draw : Cond.instanceMethod i_Tf_draw.1 ∈ tf_Ts := w_692
theorem se_Tf_draw : Cond.selects i_Tf_draw.1.cls i_Tf_draw.1 i_Tf_draw.1 ∈ tf_Ts := w_693
theorem lk_Law_38 {D : va_G} {tys : List (ClassId × FieldType)} : tf_lkM (tf_g D tys) "TypeFoundryLaw" 38 i_Tf_rule.1 := w_1046
theorem cw_Tf_rule {D : va_G} {tys : List (ClassId × FieldType)} : tf_cw (tf_g D tys) i_Tf_rule 5 := ⟨w_1049, w_1, by decide, by decide +kernel, by decide⟩
theorem in_Tf_rule : Cond.instanceMethod i_Tf_rule.1 ∈ tf_Ts := w_1047
theorem se_Tf_rule : Cond.selects i_Tf_rule.1.cls i_Tf_rule.1 i_Tf_rule.1 ∈ tf_Ts := w_1048
theorem lk_Law_42 {D : va_G} {tys : List (ClassId × FieldType)} : tf_lkM (tf_g D tys) "TypeFoundryLaw" 42 i_Tf_shaped.1 := w_1104
theorem cw_Tf_shaped {D : va_G} {tys : List (ClassId × FieldType)} : tf_cw (tf_g D tys) i_Tf_shaped 2 := ⟨w_1107, w_1, by decide, by decide +kernel, by decide⟩
theorem in_Tf_shaped : Cond.instanceMethod i_Tf_shaped.1 ∈ tf_Ts := w_1105
theorem se_Tf_shaped : Cond.selects i_Tf_shaped.1.cls i_Tf_shaped.1 i_Tf_shaped.1 ∈ tf_Ts := w_1106
theorem nl_Law_8 {D : va_G} {tys : List (ClassId × FieldType)} : tf_nl (tf_g D tys) "TypeFoundryLaw" 8 0 9 [.null, .null, .null, .null, .null, .null, .null, .null, .int 0] := ⟨"TypeFoundry", T_0, y_0, rfl, uw_0, yk_0, w_31, w_32, w_1, by intro j hj; revert j; decide⟩
theorem lk_Law_46 {D : va_G} {tys : List (ClassId × FieldType)} : tf_lkM (tf_g D tys) "TypeFoundryLaw" 46 i_Law_cell.1 := w_367
theorem cw_Law_cell {D : va_G} {tys : List (ClassId × FieldType)} : tf_cw (tf_g D tys) i_Law_cell 2 := ⟨w_369, w_0, by decide, by decide +kernel, by decide⟩
theorem sa_Law_cell : Cond.static i_Law_cell.1 ∈ tf_Ts := w_368
theorem lk_Law_52 {D : va_G} {tys : List (ClassId × FieldType)} : tf_lkM (tf_g D tys) "TypeFoundryLaw" 52 i_Tf_init.1 := w_33
theorem cw_Tf_init {D : va_G} {tys : List (ClassId × FieldType)} : tf_cw (tf_g D tys) i_Tf_init 1 := ⟨w_35, w_1, by decide, by decide +kernel, by decide⟩
theorem in_Tf_init : Cond.instanceMethod i_Tf_init.1 ∈ tf_Ts := w_34
theorem nl_Law_55 {D : va_G} {tys : List (ClassId × FieldType)} : tf_nl (tf_g D tys) "TypeFoundryLaw" 55 11 55 [.int 0, .int 0, .int 0, .null, .null, .null, .null, .null, .null, .null, .null, .null, .null, .null, .null, .null, .null, .int 0, .int 0, .null, .null, .null, .null, .int 0, .int 0, .null, .null, .int 0, .int 0, .null, .int 0, .null, .int 0, .int 0, .int 0, .null, .null, .null, .null, .null, .null, .int 0, .null, .null, .null, .null, .null, .int 0, .int 0, .null, .int 0, .null, .int 0, .int 0, .int 0] := ⟨"TypeFoundryModel", T_11, y_11, rfl, uw_11, yk_11, w_1121, w_1122, w_9, by intro j hj; revert j; decide⟩
theorem lk_Law_57 {D : va_G} {tys : List (ClassId × FieldType)} : tf_lkM (tf_g D tys) "TypeFoundryLaw" 57 i_Mod_init.1 := w_1123
theorem cw_Mod_init {D : va_G} {tys : List (ClassId × FieldType)} : tf_cw (tf_g D tys) i_Mod_init 1 := ⟨w_1125, w_9, by decide, by decide +kernel, by decide⟩
theorem in_Mod_init : Cond.instanceMethod i_Mod_init.1 ∈ tf_Ts := w_1124
theorem lk_Law_58 {D : va_G} {tys : List (ClassId × FieldType)} : tf_lkM (tf_g D tys) "TypeFoundryLaw" 58 i_Law_glyph.1 := w_370
theorem lk_Law_61 {D : va_G} {tys : List (ClassId × FieldType)} : tf_lkM (tf_g D tys) "TypeFoundryLaw" 61 i_Mod_glyph.1 := w_1299
theorem cw_Mod_glyph {D : va_G} {tys : List (ClassId × FieldType)} : tf_cw (tf_g D tys) i_Mod_glyph 0 := ⟨w_1302, w_9, by decide, by decide +kernel, by decide⟩
theorem in_Mod_glyph : Cond.instanceMethod i_Mod_glyph.1 ∈ tf_Ts := w_1300
theorem se_Mod_glyph : Cond.selects i_Mod_glyph.1.cls i_Mod_glyph.1 i_Mod_glyph.1 ∈ tf_Ts := w_1301
theorem lk_Law_62 {D : va_G} {tys : List (ClassId × FieldType)} : tf_lkM (tf_g D tys) "TypeFoundryLaw" 62 i_Mod_thrown.1 := w_1295
theorem cw_Mod_thrown {D : va_G} {tys : List (ClassId × FieldType)} : tf_cw (tf_g D tys) i_Mod_thrown 0 := ⟨w_1298, w_9, by decide, by decide +kernel, by decide⟩
theorem in_Mod_thrown : Cond.instanceMethod i_Mod_thrown.1 ∈ tf_Ts := w_1296
theorem se_Mod_thrown : Cond.selects i_Mod_thrown.1.cls i_Mod_thrown.1 i_Mod_thrown.1 ∈ tf_Ts := w_1297
theorem lk_Law_65 {D : va_G} {tys : List (ClassId × FieldType)} : tf_lkM (tf_g D tys) "TypeFoundryLaw" 65 i_Law_point.1 := w_510
theorem lk_Law_68 {D : va_G} {tys : List (ClassId × FieldType)} : tf_lkM (tf_g D tys) "TypeFoundryLaw" 68 i_Mod_point.1 := w_1303
theorem cw_Mod_point {D : va_G} {tys : List (ClassId × FieldType)} : tf_cw (tf_g D tys) i_Mod_point 4 := ⟨w_1306, w_9, by decide, by decide +kernel, by decide⟩
theorem in_Mod_point : Cond.instanceMethod i_Mod_point.1 ∈ tf_Ts := w_1304
theorem se_Mod_point : Cond.selects i_Mod_point.1.cls i_Mod_point.1 i_Mod_point.1 ∈ tf_Ts := w_1305
theorem lk_Law_69 {D : va_G} {tys : List (ClassId × FieldType)} : tf_lkM (tf_g D tys) "TypeFoundryLaw" 69 i_Tf_close.1 := w_234
theorem cw_Tf_close {D : va_G} {tys : List (ClassId × FieldType)} : tf_cw (tf_g D tys) i_Tf_close 1 := ⟨w_237, w_1, by decide, by decide +kernel, by decide⟩
theorem in_Tf_close : Cond.instanceMethod i_Tf_close.1 ∈ tf_Ts := w_235
theorem se_Tf_close : Cond.selects i_Tf_close.1.cls i_Tf_close.1 i_Tf_close.1 ∈ tf_Ts := w_236
theorem lk_Law_73 {D : va_G} {tys : List (ClassId × FieldType)} : tf_lkM (tf_g D tys) "TypeFoundryLaw" 73 i_Mod_close.1 := w_1317
theorem cw_Mod_close {D : va_G} {tys : List (ClassId × FieldType)} : tf_cw (tf_g D tys) i_Mod_close 1 := ⟨w_1320, w_9, by decide, by decide +kernel, by decide⟩
theorem in_Mod_close : Cond.instanceMethod i_Mod_close.1 ∈ tf_Ts := w_1318
theorem se_Mod_close : Cond.selects i_Mod_close.1.cls i_Mod_close.1 i_Mod_close.1 ∈ tf_Ts := w_1319
theorem lk_Law_74 {D : va_G} {tys : List (ClassId × FieldType)} : tf_lkM (tf_g D tys) "TypeFoundryLaw" 74 i_Law_place.1 := w_546
theorem lk_Law_77 {D : va_G} {tys : List (ClassId × FieldType)} : tf_lkM (tf_g D tys) "TypeFoundryLaw" 77 i_Mod_place.1 := w_1321
theorem cw_Mod_place {D : va_G} {tys : List (ClassId × FieldType)} : tf_cw (tf_g D tys) i_Mod_place 5 := ⟨w_1324, w_9, by decide, by decide +kernel, by decide⟩
theorem in_Mod_place : Cond.instanceMethod i_Mod_place.1 ∈ tf_Ts := w_1322
theorem se_Mod_place : Cond.selects i_Mod_place.1.cls i_Mod_place.1 i_Mod_place.1 ∈ tf_Ts := w_1323
theorem lk_Law_78 {D : va_G} {tys : List (ClassId × FieldType)} : tf_lkM (tf_g D tys) "TypeFoundryLaw" 78 i_Law_component.1 := w_572
theorem lk_Law_80 {D : va_G} {tys : List (ClassId × FieldType)} : tf_lkM (tf_g D tys) "TypeFoundryLaw" 80 i_Mod_component.1 := w_1325
theorem cw_Mod_component {D : va_G} {tys : List (ClassId × FieldType)} : tf_cw (tf_g D tys) i_Mod_component 5 := ⟨w_1328, w_9, by decide, by decide +kernel, by decide⟩
theorem in_Mod_component : Cond.instanceMethod i_Mod_component.1 ∈ tf_Ts := w_1326
theorem se_Mod_component : Cond.selects i_Mod_component.1.cls i_Mod_component.1 i_Mod_component.1 ∈ tf_Ts := w_1327
theorem lk_Law_81 {D : va_G} {tys : List (ClassId × FieldType)} : tf_lkM (tf_g D tys) "TypeFoundryLaw" 81 i_Tf_advance.1 := w_249
theorem cw_Tf_advance {D : va_G} {tys : List (ClassId × FieldType)} : tf_cw (tf_g D tys) i_Tf_advance 3 := ⟨w_252, w_1, by decide, by decide +kernel, by decide⟩
theorem in_Tf_advance : Cond.instanceMethod i_Tf_advance.1 ∈ tf_Ts := w_250
theorem se_Tf_advance : Cond.selects i_Tf_advance.1.cls i_Tf_advance.1 i_Tf_advance.1 ∈ tf_Ts := w_251
theorem lk_Law_85 {D : va_G} {tys : List (ClassId × FieldType)} : tf_lkM (tf_g D tys) "TypeFoundryLaw" 85 i_Mod_advance.1 := w_1336
theorem cw_Mod_advance {D : va_G} {tys : List (ClassId × FieldType)} : tf_cw (tf_g D tys) i_Mod_advance 3 := ⟨w_1339, w_9, by decide, by decide +kernel, by decide⟩
theorem in_Mod_advance : Cond.instanceMethod i_Mod_advance.1 ∈ tf_Ts := w_1337
theorem se_Mod_advance : Cond.selects i_Mod_advance.1.cls i_Mod_advance.1 i_Mod_advance.1 ∈ tf_Ts := w_1338
theorem lk_Law_86 {D : va_G} {tys : List (ClassId × FieldType)} : tf_lkM (tf_g D tys) "TypeFoundryLaw" 86 i_Tf_instance.1 := w_258
theorem cw_Tf_instance {D : va_G} {tys : List (ClassId × FieldType)} : tf_cw (tf_g D tys) i_Tf_instance 2 := ⟨w_261, w_1, by decide, by decide +kernel, by decide⟩
theorem in_Tf_instance : Cond.instanceMethod i_Tf_instance.1 ∈ tf_Ts := w_259
theorem se_Tf_instance : Cond.selects i_Tf_instance.1.cls i_Tf_instance.1 i_Tf_instance.1 ∈ tf_Ts := w_260
theorem lk_Law_90 {D : va_G} {tys : List (ClassId × FieldType)} : tf_lkM (tf_g D tys) "TypeFoundryLaw" 90 i_Mod_instance.1 := w_1340
theorem cw_Mod_instance {D : va_G} {tys : List (ClassId × FieldType)} : tf_cw (tf_g D tys) i_Mod_instance 2 := ⟨w_1343, w_9, by decide, by decide +kernel, by decide⟩
theorem in_Mod_instance : Cond.instanceMethod i_Mod_instance.1 ∈ tf_Ts := w_1341
theorem se_Mod_instance : Cond.selects i_Mod_instance.1.cls i_Mod_instance.1 i_Mod_instance.1 ∈ tf_Ts := w_1342
theorem lk_Law_91 {D : va_G} {tys : List (ClassId × FieldType)} : tf_lkM (tf_g D tys) "TypeFoundryLaw" 91 i_Law_outline.1 := w_625
theorem lk_Law_94 {D : va_G} {tys : List (ClassId × FieldType)} : tf_lkM (tf_g D tys) "TypeFoundryLaw" 94 i_Mod_outline.1 := w_1344
theorem cw_Mod_outline {D : va_G} {tys : List (ClassId × FieldType)} : tf_cw (tf_g D tys) i_Mod_outline 3 := ⟨w_1347, w_9, by decide, by decide +kernel, by decide⟩
theorem in_Mod_outline : Cond.instanceMethod i_Mod_outline.1 ∈ tf_Ts := w_1345
theorem se_Mod_outline : Cond.selects i_Mod_outline.1.cls i_Mod_outline.1 i_Mod_outline.1 ∈ tf_Ts := w_1346
theorem lk_Law_95 {D : va_G} {tys : List (ClassId × FieldType)} : tf_lkM (tf_g D tys) "TypeFoundryLaw" 95 i_Tf_height.1 := w_266
theorem cw_Tf_height {D : va_G} {tys : List (ClassId × FieldType)} : tf_cw (tf_g D tys) i_Tf_height 1 := ⟨w_269, w_1, by decide, by decide +kernel, by decide⟩
theorem in_Tf_height : Cond.instanceMethod i_Tf_height.1 ∈ tf_Ts := w_267
theorem se_Tf_height : Cond.selects i_Tf_height.1.cls i_Tf_height.1 i_Tf_height.1 ∈ tf_Ts := w_268
theorem lk_Law_98 {D : va_G} {tys : List (ClassId × FieldType)} : tf_lkM (tf_g D tys) "TypeFoundryLaw" 98 i_Mod_height.1 := w_1386
theorem cw_Mod_height {D : va_G} {tys : List (ClassId × FieldType)} : tf_cw (tf_g D tys) i_Mod_height 1 := ⟨w_1389, w_9, by decide, by decide +kernel, by decide⟩
theorem in_Mod_height : Cond.instanceMethod i_Mod_height.1 ∈ tf_Ts := w_1387
theorem se_Mod_height : Cond.selects i_Mod_height.1.cls i_Mod_height.1 i_Mod_height.1 ∈ tf_Ts := w_1388
theorem lk_Law_99 {D : va_G} {tys : List (ClassId × FieldType)} : tf_lkM (tf_g D tys) "TypeFoundryLaw" 99 i_Law_draw.1 := w_688
theorem lk_Law_102 {D : va_G} {tys : List (ClassId × FieldType)} : tf_lkM (tf_g D tys) "TypeFoundryLaw" 102 i_Mod_draw.1 := w_1390
theorem cw_Mod_draw {D : va_G} {tys : List (ClassId × FieldType)} : tf_cw (tf_g D tys) i_Mod_draw 3 := ⟨w_1393, w_9, by decide, by decide +kernel, by decide⟩
theorem in_Mod_draw : Cond.instanceMethod i_Mod_draw.1 ∈ tf_Ts := w_1391
theorem se_Mod_draw : Cond.selects i_Mod_draw.1.cls i_Mod_draw.1 i_Mod_draw.1 ∈ tf_Ts := w_1392
theorem lk_Law_103 {D : va_G} {tys : List (ClassId × FieldType)} : tf_lkM (tf_g D tys) "TypeFoundryLaw" 103 i_Tf_pixel.1 := w_274
theorem cw_Tf_pixel {D : va_G} {tys : List (ClassId × FieldType)} : tf_cw (tf_g D tys) i_Tf_pixel 2 := ⟨w_277, w_1, by decide, by decide +kernel, by decide⟩
theorem in_Tf_pixel : Cond.instanceMethod i_Tf_pixel.1 ∈ tf_Ts := w_275
theorem se_Tf_pixel : Cond.selects i_Tf_pixel.1.cls i_Tf_pixel.1 i_Tf_pixel.1 ∈ tf_Ts := w_276
theorem lk_Law_106 {D : va_G} {tys : List (ClassId × FieldType)} : tf_lkM (tf_g D tys) "TypeFoundryLaw" 106 i_Mod_pixel.1 := w_1438
theorem cw_Mod_pixel {D : va_G} {tys : List (ClassId × FieldType)} : tf_cw (tf_g D tys) i_Mod_pixel 2 := ⟨w_1441, w_9, by decide, by decide +kernel, by decide⟩
theorem in_Mod_pixel : Cond.instanceMethod i_Mod_pixel.1 ∈ tf_Ts := w_1439
theorem se_Mod_pixel : Cond.selects i_Mod_pixel.1.cls i_Mod_pixel.1 i_Mod_pixel.1 ∈ tf_Ts := w_1440
theorem lk_Law_107 {D : va_G} {tys : List (ClassId × FieldType)} : tf_lkM (tf_g D tys) "TypeFoundryLaw" 107 i_Tf_sort.1 := w_283
theorem cw_Tf_sort {D : va_G} {tys : List (ClassId × FieldType)} : tf_cw (tf_g D tys) i_Tf_sort 3 := ⟨w_286, w_1, by decide, by decide +kernel, by decide⟩
theorem in_Tf_sort : Cond.instanceMethod i_Tf_sort.1 ∈ tf_Ts := w_284
theorem se_Tf_sort : Cond.selects i_Tf_sort.1.cls i_Tf_sort.1 i_Tf_sort.1 ∈ tf_Ts := w_285
theorem lk_Law_110 {D : va_G} {tys : List (ClassId × FieldType)} : tf_lkM (tf_g D tys) "TypeFoundryLaw" 110 i_Mod_sort.1 := w_1442
theorem cw_Mod_sort {D : va_G} {tys : List (ClassId × FieldType)} : tf_cw (tf_g D tys) i_Mod_sort 3 := ⟨w_1445, w_9, by decide, by decide +kernel, by decide⟩
theorem in_Mod_sort : Cond.instanceMethod i_Mod_sort.1 ∈ tf_Ts := w_1443
theorem se_Mod_sort : Cond.selects i_Mod_sort.1.cls i_Mod_sort.1 i_Mod_sort.1 ∈ tf_Ts := w_1444
theorem lk_Law_111 {D : va_G} {tys : List (ClassId × FieldType)} : tf_lkM (tf_g D tys) "TypeFoundryLaw" 111 i_Tf_kern.1 := w_291
theorem cw_Tf_kern {D : va_G} {tys : List (ClassId × FieldType)} : tf_cw (tf_g D tys) i_Tf_kern 3 := ⟨w_294, w_1, by decide, by decide +kernel, by decide⟩
theorem in_Tf_kern : Cond.instanceMethod i_Tf_kern.1 ∈ tf_Ts := w_292
theorem se_Tf_kern : Cond.selects i_Tf_kern.1.cls i_Tf_kern.1 i_Tf_kern.1 ∈ tf_Ts := w_293
theorem lk_Law_114 {D : va_G} {tys : List (ClassId × FieldType)} : tf_lkM (tf_g D tys) "TypeFoundryLaw" 114 i_Mod_kern.1 := w_1446
theorem cw_Mod_kern {D : va_G} {tys : List (ClassId × FieldType)} : tf_cw (tf_g D tys) i_Mod_kern 3 := ⟨w_1449, w_9, by decide, by decide +kernel, by decide⟩
theorem in_Mod_kern : Cond.instanceMethod i_Mod_kern.1 ∈ tf_Ts := w_1447
theorem se_Mod_kern : Cond.selects i_Mod_kern.1.cls i_Mod_kern.1 i_Mod_kern.1 ∈ tf_Ts := w_1448
theorem lk_Law_115 {D : va_G} {tys : List (ClassId × FieldType)} : tf_lkM (tf_g D tys) "TypeFoundryLaw" 115 i_Tf_pair.1 := w_302
theorem cw_Tf_pair {D : va_G} {tys : List (ClassId × FieldType)} : tf_cw (tf_g D tys) i_Tf_pair 3 := ⟨w_305, w_1, by decide, by decide +kernel, by decide⟩
theorem in_Tf_pair : Cond.instanceMethod i_Tf_pair.1 ∈ tf_Ts := w_303
theorem se_Tf_pair : Cond.selects i_Tf_pair.1.cls i_Tf_pair.1 i_Tf_pair.1 ∈ tf_Ts := w_304
theorem lk_Law_118 {D : va_G} {tys : List (ClassId × FieldType)} : tf_lkM (tf_g D tys) "TypeFoundryLaw" 118 i_Mod_pair.1 := w_1453
theorem cw_Mod_pair {D : va_G} {tys : List (ClassId × FieldType)} : tf_cw (tf_g D tys) i_Mod_pair 3 := ⟨w_1456, w_9, by decide, by decide +kernel, by decide⟩
theorem in_Mod_pair : Cond.instanceMethod i_Mod_pair.1 ∈ tf_Ts := w_1454
theorem se_Mod_pair : Cond.selects i_Mod_pair.1.cls i_Mod_pair.1 i_Mod_pair.1 ∈ tf_Ts := w_1455
theorem lk_Law_121 {D : va_G} {tys : List (ClassId × FieldType)} : tf_lkM (tf_g D tys) "TypeFoundryLaw" 121 i_Law_rule.1 := w_1043
theorem lk_Law_124 {D : va_G} {tys : List (ClassId × FieldType)} : tf_lkM (tf_g D tys) "TypeFoundryLaw" 124 i_Mod_rule.1 := w_1461
theorem cw_Mod_rule {D : va_G} {tys : List (ClassId × FieldType)} : tf_cw (tf_g D tys) i_Mod_rule 5 := ⟨w_1464, w_9, by decide, by decide +kernel, by decide⟩
theorem in_Mod_rule : Cond.instanceMethod i_Mod_rule.1 ∈ tf_Ts := w_1462
theorem se_Mod_rule : Cond.selects i_Mod_rule.1.cls i_Mod_rule.1 i_Mod_rule.1 ∈ tf_Ts := w_1463
theorem lk_Law_125 {D : va_G} {tys : List (ClassId × FieldType)} : tf_lkM (tf_g D tys) "TypeFoundryLaw" 125 i_Tf_type.1 := w_317
theorem cw_Tf_type {D : va_G} {tys : List (ClassId × FieldType)} : tf_cw (tf_g D tys) i_Tf_type 1 := ⟨w_320, w_1, by decide, by decide +kernel, by decide⟩
theorem in_Tf_type : Cond.instanceMethod i_Tf_type.1 ∈ tf_Ts := w_318
theorem se_Tf_type : Cond.selects i_Tf_type.1.cls i_Tf_type.1 i_Tf_type.1 ∈ tf_Ts := w_319
theorem lk_Law_128 {D : va_G} {tys : List (ClassId × FieldType)} : tf_lkM (tf_g D tys) "TypeFoundryLaw" 128 i_Mod_type.1 := w_1477
theorem cw_Mod_type {D : va_G} {tys : List (ClassId × FieldType)} : tf_cw (tf_g D tys) i_Mod_type 1 := ⟨w_1480, w_9, by decide, by decide +kernel, by decide⟩
theorem in_Mod_type : Cond.instanceMethod i_Mod_type.1 ∈ tf_Ts := w_1478
theorem se_Mod_type : Cond.selects i_Mod_type.1.cls i_Mod_type.1 i_Mod_type.1 ∈ tf_Ts := w_1479
theorem lk_Law_129 {D : va_G} {tys : List (ClassId × FieldType)} : tf_lkM (tf_g D tys) "TypeFoundryLaw" 129 i_Tf_shape.1 := w_325
theorem cw_Tf_shape {D : va_G} {tys : List (ClassId × FieldType)} : tf_cw (tf_g D tys) i_Tf_shape 0 := ⟨w_328, w_1, by decide, by decide +kernel, by decide⟩
theorem in_Tf_shape : Cond.instanceMethod i_Tf_shape.1 ∈ tf_Ts := w_326
theorem se_Tf_shape : Cond.selects i_Tf_shape.1.cls i_Tf_shape.1 i_Tf_shape.1 ∈ tf_Ts := w_327
theorem lk_Law_132 {D : va_G} {tys : List (ClassId × FieldType)} : tf_lkM (tf_g D tys) "TypeFoundryLaw" 132 i_Mod_shape.1 := w_1481
theorem cw_Mod_shape {D : va_G} {tys : List (ClassId × FieldType)} : tf_cw (tf_g D tys) i_Mod_shape 0 := ⟨w_1484, w_9, by decide, by decide +kernel, by decide⟩
theorem in_Mod_shape : Cond.instanceMethod i_Mod_shape.1 ∈ tf_Ts := w_1482
theorem se_Mod_shape : Cond.selects i_Mod_shape.1.cls i_Mod_shape.1 i_Mod_shape.1 ∈ tf_Ts := w_1483
theorem lk_Law_133 {D : va_G} {tys : List (ClassId × FieldType)} : tf_lkM (tf_g D tys) "TypeFoundryLaw" 133 i_Law_shaped.1 := w_1101
theorem lk_Law_136 {D : va_G} {tys : List (ClassId × FieldType)} : tf_lkM (tf_g D tys) "TypeFoundryLaw" 136 i_Mod_shaped.1 := w_1501
theorem cw_Mod_shaped {D : va_G} {tys : List (ClassId × FieldType)} : tf_cw (tf_g D tys) i_Mod_shaped 2 := ⟨w_1504, w_9, by decide, by decide +kernel, by decide⟩
theorem in_Mod_shaped : Cond.instanceMethod i_Mod_shaped.1 ∈ tf_Ts := w_1502
theorem se_Mod_shaped : Cond.selects i_Mod_shaped.1.cls i_Mod_shaped.1 i_Mod_shaped.1 ∈ tf_Ts := w_1503
theorem lk_Law_137 {D : va_G} {tys : List (ClassId × FieldType)} : tf_lkM (tf_g D tys) "TypeFoundryLaw" 137 i_Tf_count.1 := w_363
theorem cw_Tf_count {D : va_G} {tys : List (ClassId × FieldType)} : tf_cw (tf_g D tys) i_Tf_count 1 := ⟨w_366, w_1, by decide, by decide +kernel, by decide⟩
theorem in_Tf_count : Cond.instanceMethod i_Tf_count.1 ∈ tf_Ts := w_364
theorem se_Tf_count : Cond.selects i_Tf_count.1.cls i_Tf_count.1 i_Tf_count.1 ∈ tf_Ts := w_365
theorem lk_Law_141 {D : va_G} {tys : List (ClassId × FieldType)} : tf_lkM (tf_g D tys) "TypeFoundryLaw" 141 i_Mod_count.1 := w_1509
theorem cw_Mod_count {D : va_G} {tys : List (ClassId × FieldType)} : tf_cw (tf_g D tys) i_Mod_count 1 := ⟨w_1512, w_9, by decide, by decide +kernel, by decide⟩
theorem in_Mod_count : Cond.instanceMethod i_Mod_count.1 ∈ tf_Ts := w_1510
theorem se_Mod_count : Cond.selects i_Mod_count.1.cls i_Mod_count.1 i_Mod_count.1 ∈ tf_Ts := w_1511
theorem lk_Arrays_13 {D : va_G} {tys : List (ClassId × FieldType)} : tf_lkM (tf_g D tys) "java/util/Arrays" 13 i_Arrays_rangeCheck.1 := w_706
theorem cw_Arrays_rangeCheck {D : va_G} {tys : List (ClassId × FieldType)} : tf_cw (tf_g D tys) i_Arrays_rangeCheck 3 := ⟨w_708, w_19, by decide, by decide +kernel, by decide⟩
theorem sa_Arrays_rangeCheck : Cond.static i_Arrays_rangeCheck.1 ∈ tf_Ts := w_707
end
section
section
variable {l : Launch} {G : tf_G} {EX : State → (Nat → Prop) → Prop} {QB : tf_B} {d : Nat} {i : tf_I} {pc : Nat} {lv lv2 : tf_V} {st st2 : List Value} {L : List Nat} {f : tf_F} {kc ks : Nat} {Φ : tf_O}
theorem tf_cS (hG : tf_ok G) {ix d2 n k2 s2 : Nat} {j : tf_I} {As : List Value} {Ψ : tf_O} (hC : tf_C l G d2 j As L f k2 s2 Ψ) (nxt : Nat) (hd : decode i.2.1 pc = .ok (.invokestatic ix, 3)) (hn : pc + 3 = nxt) (hlk0 : tf_lkM G i.1.cls ix j.1) (hj : tf_cw G j n) (hAs : As.length = n) (hsta : Cond.static j.1 ∈ G.2.2.2.1) (hd2 : d2 + 1 ≤ d) (hst : (st.map fun v => v.category).sum ≤ 8) (hsk : st2 = As.reverse ++ st)
    (kk : ∀ (v : Option Value) (L2 : List Nat) (f2 : tf_F), Ψ v L2 f2 → tf_W l G EX QB d i nxt lv (v.toList ++ st) L2 f2 kc ks) : tf_W l G EX QB d i pc lv st2 L f (kc + k2) (ks + s2) :=
  tf_callS hG nxt hd hn hlk0 hj hAs hsta hd2 hst hsk hC kk
theorem tf_cSN (hG : tf_ok G) {ix d2 n k2 s2 : Nat} {j : tf_I} {As : List Value} {Ψ : tf_O} (hC : tf_C l G d2 j As L f k2 s2 Ψ) (nxt : Nat) (hd : decode i.2.1 pc = .ok (.invokestatic ix, 3)) (hn : pc + 3 = nxt) (hlk0 : tf_lkN G i.1.cls ix j.1) (hj : tf_cw G j n) (hAs : As.length = n) (hsta : Cond.static j.1 ∈ G.2.2.2.1) (hd2 : d2 + 1 ≤ d) (hst : (st.map fun v => v.category).sum ≤ 8) (hsk : st2 = As.reverse ++ st)
    (kk : ∀ (v : Option Value) (L2 : List Nat) (f2 : tf_F), Ψ v L2 f2 → tf_W l G EX QB d i nxt lv (v.toList ++ st) L2 f2 kc ks) : tf_W l G EX QB d i pc lv st2 L f (kc + k2) (ks + s2) :=
  tf_callSN hG nxt hd hn hlk0 hj hAs hsta hd2 hst hsk hC kk
theorem tf_cI (hG : tf_ok G) {ix d2 n k2 s2 a : Nat} {y : MethodName} {cc0 : ByteArray} {nL0 : Nat} {As : List Value} {Ψ : tf_O} (hC : tf_C l G d2 (y, cc0, nL0, none) (.ref a :: As) L f k2 s2 Ψ) (nxt : Nat) (hd : decode i.2.1 pc = .ok (.invokespecial ix, 3)) (hn : pc + 3 = nxt) (hlk0 : tf_lkM G i.1.cls ix y) (hj : tf_cw G (y, cc0, nL0, none) n) (hAs : As.length = n) (hin : Cond.instanceMethod y ∈ G.2.2.2.1) (hini : y.name = "<init>") (hd2 : d2 + 1 ≤ d) (hst : (st.map fun v => v.category).sum ≤ 8) (hsk : st2 = As.reverse ++ .ref a :: st)
    (kk : ∀ (v : Option Value) (L2 : List Nat) (f2 : tf_F), Ψ v L2 f2 → tf_W l G EX QB d i nxt lv (v.toList ++ st) L2 f2 kc ks) : tf_W l G EX QB d i pc lv st2 L f (kc + k2) (ks + s2) :=
  tf_callI hG nxt hd hn hlk0 hj hAs hin hini hd2 hst hsk hC kk
theorem tf_cIN (hG : tf_ok G) {ix d2 n k2 s2 a : Nat} {y : MethodName} {cc0 : ByteArray} {nL0 : Nat} {As : List Value} {Ψ : tf_O} (hC : tf_C l G d2 (y, cc0, nL0, none) (.ref a :: As) L f k2 s2 Ψ) (nxt : Nat) (hd : decode i.2.1 pc = .ok (.invokespecial ix, 3)) (hn : pc + 3 = nxt) (hlk0 : tf_lkN G i.1.cls ix y) (hj : tf_cw G (y, cc0, nL0, none) n) (hAs : As.length = n) (hin : Cond.instanceMethod y ∈ G.2.2.2.1) (hini : y.name = "<init>") (hd2 : d2 + 1 ≤ d) (hst : (st.map fun v => v.category).sum ≤ 8) (hsk : st2 = As.reverse ++ .ref a :: st)
    (kk : ∀ (v : Option Value) (L2 : List Nat) (f2 : tf_F), Ψ v L2 f2 → tf_W l G EX QB d i nxt lv (v.toList ++ st) L2 f2 kc ks) : tf_W l G EX QB d i pc lv st2 L f (kc + k2) (ks + s2) :=
  tf_callIN hG nxt hd hn hlk0 hj hAs hin hini hd2 hst hsk hC kk
theorem tf_cV (hG : tf_ok G) {ix d2 n k2 s2 a : Nat} {j : tf_I} {As : List Value} {Ψ : tf_O} (hC : tf_C l G d2 j (.ref a :: As) L f k2 s2 Ψ) (nxt : Nat) (hd : decode i.2.1 pc = .ok (.invokevirtual ix, 3)) (hn : pc + 3 = nxt) (hlk0 : tf_lkM G i.1.cls ix j.1) (hj : tf_cw G j n) (hAs : As.length = n) (hin : Cond.instanceMethod j.1 ∈ G.2.2.2.1) (hse : Cond.selects j.1.cls j.1 j.1 ∈ G.2.2.2.1) {ci : Nat} {r : vw_C} {fs : List Value} (ha : a ∈ L) (hf : f a = .inr (ci, fs)) (hci : G.2.1[ci]? = some r) (hcl : r.1 = j.1.cls) (hd2 : d2 + 1 ≤ d) (hst : (st.map fun v => v.category).sum ≤ 8) (hsk : st2 = As.reverse ++ .ref a :: st)
    (kk : ∀ (v : Option Value) (L2 : List Nat) (f2 : tf_F), Ψ v L2 f2 → tf_W l G EX QB d i nxt lv (v.toList ++ st) L2 f2 kc ks) : tf_W l G EX QB d i pc lv st2 L f (kc + k2) (ks + s2) :=
  tf_callV hG nxt hd hn hlk0 hj hAs hin hse ha hf hci hcl hd2 hst hsk hC kk
theorem tf_cVN (hG : tf_ok G) {ix d2 n k2 s2 a : Nat} {j : tf_I} {As : List Value} {Ψ : tf_O} (hC : tf_C l G d2 j (.ref a :: As) L f k2 s2 Ψ) (nxt : Nat) (hd : decode i.2.1 pc = .ok (.invokevirtual ix, 3)) (hn : pc + 3 = nxt) (hlk0 : tf_lkN G i.1.cls ix j.1) (hj : tf_cw G j n) (hAs : As.length = n) (hin : Cond.instanceMethod j.1 ∈ G.2.2.2.1) (hse : Cond.selects j.1.cls j.1 j.1 ∈ G.2.2.2.1) {ci : Nat} {r : vw_C} {fs : List Value} (ha : a ∈ L) (hf : f a = .inr (ci, fs)) (hci : G.2.1[ci]? = some r) (hcl : r.1 = j.1.cls) (hd2 : d2 + 1 ≤ d) (hst : (st.map fun v => v.category).sum ≤ 8) (hsk : st2 = As.reverse ++ .ref a :: st)
    (kk : ∀ (v : Option Value) (L2 : List Nat) (f2 : tf_F), Ψ v L2 f2 → tf_W l G EX QB d i nxt lv (v.toList ++ st) L2 f2 kc ks) : tf_W l G EX QB d i pc lv st2 L f (kc + k2) (ks + s2) :=
  tf_callVN hG nxt hd hn hlk0 hj hAs hin hse ha hf hci hcl hd2 hst hsk hC kk
end
end
section
section
variable {l : Launch} {G : tf_G} {d : Nat} {i : tf_I} {L : List Nat} {f : tf_F} {Φ : tf_O}
/-- a contract of a JDK's own method that the machine has no entry for -/
theorem tf_C.ofF (hG : tf_ok G) {av : List Value} {mc ms : Nat} (hy : plainFor i.1 = true) (hc : Cond.code i.1 i.2.1 i.2.2.1 i.2.2.2 ∈ G.2.2.2.1) (hs : (lg_sl av).length ≤ i.2.2.1) (h : tf_W l G tf_T (tf_QM G Φ) d i 0 (lv_args 0 av) [] L f mc ms) : tf_C l G d i av L f mc ms Φ := by
  intro sz
  refine va_MetF (cc := i.2.1) (maxL := i.2.2.1) (ret := i.2.2.2) hy rfl ?_
  intro p e s m args below meth c s₁ B hml hv
  obtain ⟨rfl, hsz, hP, hK, hD, hnw⟩ := hv
  have hts : ∀ w ∈ G.2.2.2.1, w.before av.toArray s = true := fun w hw => atoms_spec (ws := tf_ws G i) B.pre w (List.mem_cons_of_mem _ hw)
  have hnm : meth.name = i.1.name := (name_of_methodNamed B.named B.method).1
  subst hsz
  have hl := lv_entry av (n := i.2.2.1) hs
  rw [lg_entry_eq]
  exact h p e _ s m av.toArray below meth c s.heap [] 0 0 _ (tf_A L s.heap.size) mc ms ⟨B.exec, B.bytes, hml, findClass_of_methodNamed B.named, hts, B.returns, B.notSynchronized, hnw, hnm, hK⟩ trivial
    ⟨Nat.le_refl _, Nat.le_refl _, by omega, by omega, Nat.le_refl _, Nat.le_refl _⟩ hl ⟨hP, tf_D_self hD, va_S.rf, fun q h => Or.inr h⟩
end
end
section
/-! the first contracts: small methods -/
theorem tf_u {f : tf_F} {a b : Nat} {e X : va_E} (hne : b ≠ a) (h : f b = X) : va_up f a e b = X := (va_up_ne f e hne).trans h
abbrev tf_y (q : Nat → ClassId) : List (ClassId × FieldType) := [(q 0, .int), (q 1, .boolean), (q 2, .long), (q 3, .byte), (q 4, .short), (q 5, .object "TypeFoundry$Glyph"), (q 6, .object "TypeFoundry$Part"), (q 7, .object "TypeFoundry$Rule")]
abbrev tf_H (D : va_G) (q : Nat → ClassId) : tf_G := tf_g D (tf_y q)
abbrev ti (q : Nat → ClassId) (n : Nat) (g : Nat → Int32) : va_E := .inl (q 0, n, .inl g)
abbrev tz (q : Nat → ClassId) (n : Nat) (g : Nat → Int32) : va_E := .inl (q 1, n, .inl g)
abbrev tj (q : Nat → ClassId) (n : Nat) (g : Nat → Int64) : va_E := .inl (q 2, n, .inr (.inl g))
abbrev tb (q : Nat → ClassId) (n : Nat) (g : Nat → Int32) : va_E := .inl (q 3, n, .inl g)
abbrev ts (q : Nat → ClassId) (n : Nat) (g : Nat → Int32) : va_E := .inl (q 4, n, .inl g)
abbrev tr (k : Nat) (q : Nat → ClassId) (n : Nat) (g : Nat → Option Nat) : va_E := .inl (q k, n, .inr (.inr (.inr (.inr g))))
abbrev to (ci : Nat) (fs : List Value) : va_E := .inr (ci, fs)
abbrev kI (n : Int) : Int32 := Int32.ofInt n
def bI (b : Bool) : Int32 := if b then kI 1 else kI 0
theorem bI_n (b : Bool) : narrow .boolean (.int (bI b)) = .int (bI b) := by cases b <;> rfl
/-- a method that answers and changes nothing -/
abbrev tf_rd (v : Value) (L : List Nat) (f : tf_F) : tf_O := fun w L2 f2 => w = some v ∧ L2 = L ∧ f2 = f
def tw_in (x a b : Int32) : Bool := decide (a ≤ x) && decide (x ≤ b)
theorem wi_t {x a b : Int32} (h1 : ¬ x < a) (h2 : ¬ b < x) : tw_in x a b = true := by
  simp only [tw_in, Bool.and_eq_true, decide_eq_true_eq]
  exact ⟨Int32.not_lt.mp h1, Int32.not_lt.mp h2⟩
theorem wi_f1 {x a b : Int32} (h1 : x < a) : tw_in x a b = false := by
  simp only [tw_in, Bool.and_eq_false_iff, decide_eq_false_iff_not]
  exact Or.inl (Int32.not_le.mpr h1)
theorem wi_f2 {x a b : Int32} (h1 : b < x) : tw_in x a b = false := by
  simp only [tw_in, Bool.and_eq_false_iff, decide_eq_false_iff_not]
  exact Or.inr (Int32.not_le.mpr h1)
theorem tw_in_iff {x a b : Int32} : tw_in x a b = true ↔ a.toInt ≤ x.toInt ∧ x.toInt ≤ b.toInt := by
  simp only [tw_in, Bool.and_eq_true, decide_eq_true_eq, Int32.le_iff_toInt_le]
theorem tw_bt {b : Bool} (h : ¬ bI b = 0) : b = true := by
  cases b
  · exact absurd rfl h
  · rfl
theorem tw_bf {b : Bool} (h : bI b = 0) : b = false := by
  cases b
  · rfl
  · exact absurd h (by decide)
def tw_isPlace (x y : Int32) : Bool := tw_in x (kI (-2000)) (kI 4000) && tw_in y (kI (-2000)) (kI 4000)
def tw_isShift (x y : Int32) : Bool := tw_in x (kI (-4000)) (kI 4000) && tw_in y (kI (-4000)) (kI 4000)
def tw_isKern (x : Int32) : Bool := tw_in x (kI (-1000)) (kI 1000)
def tw_isSide (x : Int32) : Bool := decide (x = kI 32) || decide (x = kI 64) || decide (x = kI 128) || decide (x = kI 256)
def tw_find (n : Nat) (g : Nat → Option Nat) (k : Int32) : Option Nat := if tw_in k (kI 0) (nI n - kI 1) = true then g k.toNatClampNeg else none
theorem tw_find_in {n : Nat} {k : Int32} (hn : n ≤ 40) (h : tw_in k (kI 0) (nI n - kI 1) = true) : vp_in k 40 := by
  rw [tw_in_iff] at h
  rw [vp_in_iff]
  have h1 : (kI 0).toInt = 0 := by decide
  have h2 : (nI n - nI 1).toInt = (n : Int) - (1 : Nat) := pk_sub_toInt (by omega) (by omega)
  have h3 : kI 1 = nI 1 := by decide
  rw [h1, h3, h2] at h
  omega
section
variable (l : Launch) (D : va_G) (q : Nat → ClassId) (d : Nat) (L : List Nat) (f : tf_F)
set_option maxHeartbeats 4000000 in
set_option maxRecDepth 100000 in
theorem c_Tf_within (x a b : Int32) : tf_C l (tf_H D q) d i_Tf_within [.int x, .int a, .int b] L f 0 0 (tf_rd (.int (bI (tw_in x a b))) L f) := by
  refine tf_C.of (tf_gok _ _) (by decide) w_244 (Nat.le_of_ble_eq_true rfl) ?_
  refine tf_blk _ b_Tf_within_0 rfl ?_
  refine tf_ic_lt 14 5 d_Tf_within_2 rfl rfl (fun h2 => ?_) (fun h2 => ?_)
  · refine tf_blk _ b_Tf_within_14 rfl ?_
    refine tf_zret d_Tf_within_15 rfl (rfl) ?_
    first
      | exact ⟨by rw [wi_f1 (by assumption)]; rfl, rfl, rfl⟩
      | exact ⟨by rw [wi_f2 (by assumption)]; rfl, rfl, rfl⟩
      | exact ⟨by rw [wi_t (by assumption) (by assumption)]; rfl, rfl, rfl⟩
  · refine tf_blk _ b_Tf_within_5 rfl ?_
    refine tf_ic_gt 14 10 d_Tf_within_7 rfl rfl (fun h7 => ?_) (fun h7 => ?_)
    · refine tf_blk _ b_Tf_within_14 rfl ?_
      refine tf_zret d_Tf_within_15 rfl (rfl) ?_
      first
        | exact ⟨by rw [wi_f1 (by assumption)]; rfl, rfl, rfl⟩
        | exact ⟨by rw [wi_f2 (by assumption)]; rfl, rfl, rfl⟩
        | exact ⟨by rw [wi_t (by assumption) (by assumption)]; rfl, rfl, rfl⟩
    · refine tf_blk _ b_Tf_within_10 rfl ?_
      refine tf_goto 15 d_Tf_within_11 rfl ?_
      refine tf_zret d_Tf_within_15 rfl (rfl) ?_
      first
        | exact ⟨by rw [wi_f1 (by assumption)]; rfl, rfl, rfl⟩
        | exact ⟨by rw [wi_f2 (by assumption)]; rfl, rfl, rfl⟩
        | exact ⟨by rw [wi_t (by assumption) (by assumption)]; rfl, rfl, rfl⟩
set_option maxHeartbeats 4000000 in
set_option maxRecDepth 100000 in
theorem c_Tf_isPlace (hd : 1 ≤ d) (x y : Int32) : tf_C l (tf_H D q) d i_Tf_isPlace [.int x, .int y] L f 0 0 (tf_rd (.int (bI (tw_isPlace x y))) L f) := by
  refine tf_C.of (tf_gok _ _) (by decide) w_520 (Nat.le_of_ble_eq_true rfl) ?_
  refine tf_blk _ b_Tf_isPlace_0 rfl ?_
  refine tf_cS (tf_gok _ _) (c_Tf_within l D q (d - 1) _ _ _ _ _) 10 d_Tf_isPlace_7 rfl lk_Tf_111 cw_Tf_within (by rfl) sa_Tf_within (by omega) (by exact Nat.le_of_ble_eq_true rfl) rfl ?_
  rintro v7 L7 f7 ⟨rfl, rfl, rfl⟩
  refine tf_if_eq 30 13 d_Tf_isPlace_10 rfl rfl (fun h10 => ?_) (fun h10 => ?_)
  · refine tf_blk _ b_Tf_isPlace_30 rfl ?_
    refine tf_zret d_Tf_isPlace_31 rfl (rfl) ?_
    first
      | exact ⟨by rw [tw_isPlace, tw_bf h10, Bool.false_and]; rfl, rfl, rfl⟩
      | exact ⟨by rw [tw_isPlace, tw_bt h10, tw_bf h23]; rfl, rfl, rfl⟩
      | exact ⟨by rw [tw_isPlace, tw_bt h10, tw_bt h23]; rfl, rfl, rfl⟩
  · refine tf_blk _ b_Tf_isPlace_13 rfl ?_
    refine tf_cS (tf_gok _ _) (c_Tf_within l D q (d - 1) _ _ _ _ _) 23 d_Tf_isPlace_20 rfl lk_Tf_111 cw_Tf_within (by rfl) sa_Tf_within (by omega) (by exact Nat.le_of_ble_eq_true rfl) rfl ?_
    rintro v20 L20 f20 ⟨rfl, rfl, rfl⟩
    refine tf_if_eq 30 26 d_Tf_isPlace_23 rfl rfl (fun h23 => ?_) (fun h23 => ?_)
    · refine tf_blk _ b_Tf_isPlace_30 rfl ?_
      refine tf_zret d_Tf_isPlace_31 rfl (rfl) ?_
      first
        | exact ⟨by rw [tw_isPlace, tw_bf h10, Bool.false_and]; rfl, rfl, rfl⟩
        | exact ⟨by rw [tw_isPlace, tw_bt h10, tw_bf h23]; rfl, rfl, rfl⟩
        | exact ⟨by rw [tw_isPlace, tw_bt h10, tw_bt h23]; rfl, rfl, rfl⟩
    · refine tf_blk _ b_Tf_isPlace_26 rfl ?_
      refine tf_goto 31 d_Tf_isPlace_27 rfl ?_
      refine tf_zret d_Tf_isPlace_31 rfl (rfl) ?_
      first
        | exact ⟨by rw [tw_isPlace, tw_bf h10, Bool.false_and]; rfl, rfl, rfl⟩
        | exact ⟨by rw [tw_isPlace, tw_bt h10, tw_bf h23]; rfl, rfl, rfl⟩
        | exact ⟨by rw [tw_isPlace, tw_bt h10, tw_bt h23]; rfl, rfl, rfl⟩
set_option maxHeartbeats 4000000 in
set_option maxRecDepth 100000 in
theorem c_Tf_isShift (hd : 1 ≤ d) (x y : Int32) : tf_C l (tf_H D q) d i_Tf_isShift [.int x, .int y] L f 0 0 (tf_rd (.int (bI (tw_isShift x y))) L f) := by
  refine tf_C.of (tf_gok _ _) (by decide) w_581 (Nat.le_of_ble_eq_true rfl) ?_
  refine tf_blk _ b_Tf_isShift_0 rfl ?_
  refine tf_cS (tf_gok _ _) (c_Tf_within l D q (d - 1) _ _ _ _ _) 10 d_Tf_isShift_7 rfl lk_Tf_111 cw_Tf_within (by rfl) sa_Tf_within (by omega) (by exact Nat.le_of_ble_eq_true rfl) rfl ?_
  rintro v7 L7 f7 ⟨rfl, rfl, rfl⟩
  refine tf_if_eq 30 13 d_Tf_isShift_10 rfl rfl (fun h10 => ?_) (fun h10 => ?_)
  · refine tf_blk _ b_Tf_isShift_30 rfl ?_
    refine tf_zret d_Tf_isShift_31 rfl (rfl) ?_
    first
      | exact ⟨by rw [tw_isShift, tw_bf h10, Bool.false_and]; rfl, rfl, rfl⟩
      | exact ⟨by rw [tw_isShift, tw_bt h10, tw_bf h23]; rfl, rfl, rfl⟩
      | exact ⟨by rw [tw_isShift, tw_bt h10, tw_bt h23]; rfl, rfl, rfl⟩
  · refine tf_blk _ b_Tf_isShift_13 rfl ?_
    refine tf_cS (tf_gok _ _) (c_Tf_within l D q (d - 1) _ _ _ _ _) 23 d_Tf_isShift_20 rfl lk_Tf_111 cw_Tf_within (by rfl) sa_Tf_within (by omega) (by exact Nat.le_of_ble_eq_true rfl) rfl ?_
    rintro v20 L20 f20 ⟨rfl, rfl, rfl⟩
    refine tf_if_eq 30 26 d_Tf_isShift_23 rfl rfl (fun h23 => ?_) (fun h23 => ?_)
    · refine tf_blk _ b_Tf_isShift_30 rfl ?_
      refine tf_zret d_Tf_isShift_31 rfl (rfl) ?_
      first
        | exact ⟨by rw [tw_isShift, tw_bf h10, Bool.false_and]; rfl, rfl, rfl⟩
        | exact ⟨by rw [tw_isShift, tw_bt h10, tw_bf h23]; rfl, rfl, rfl⟩
        | exact ⟨by rw [tw_isShift, tw_bt h10, tw_bt h23]; rfl, rfl, rfl⟩
    · refine tf_blk _ b_Tf_isShift_26 rfl ?_
      refine tf_goto 31 d_Tf_isShift_27 rfl ?_
      refine tf_zret d_Tf_isShift_31 rfl (rfl) ?_
      first
        | exact ⟨by rw [tw_isShift, tw_bf h10, Bool.false_and]; rfl, rfl, rfl⟩
        | exact ⟨by rw [tw_isShift, tw_bt h10, tw_bf h23]; rfl, rfl, rfl⟩
        | exact ⟨by rw [tw_isShift, tw_bt h10, tw_bt h23]; rfl, rfl, rfl⟩
set_option maxHeartbeats 4000000 in
set_option maxRecDepth 100000 in
theorem c_Tf_isKerning (hd : 1 ≤ d) (x : Int32) : tf_C l (tf_H D q) d i_Tf_isKerning [.int x] L f 0 0 (tf_rd (.int (bI (tw_isKern x))) L f) := by
  refine tf_C.of (tf_gok _ _) (by decide) w_297 (Nat.le_of_ble_eq_true rfl) ?_
  refine tf_blk _ b_Tf_isKerning_0 rfl ?_
  refine tf_cS (tf_gok _ _) (c_Tf_within l D q (d - 1) _ _ _ _ _) 10 d_Tf_isKerning_7 rfl lk_Tf_111 cw_Tf_within (by rfl) sa_Tf_within (by omega) (by exact Nat.le_of_ble_eq_true rfl) rfl ?_
  rintro v7 L7 f7 ⟨rfl, rfl, rfl⟩
  refine tf_zret d_Tf_isKerning_10 rfl (bI_n _) ?_
  exact ⟨rfl, rfl, rfl⟩
set_option maxHeartbeats 4000000 in
set_option maxRecDepth 100000 in
theorem c_Tf_isSide (x : Int32) : tf_C l (tf_H D q) d i_Tf_isSide [.int x] L f 0 0 (tf_rd (.int (bI (tw_isSide x))) L f) := by
  refine tf_C.of (tf_gok _ _) (by decide) w_697 (Nat.le_of_ble_eq_true rfl) ?_
  refine tf_blk _ b_Tf_isSide_0 rfl ?_
  refine tf_ic_eq 26 6 d_Tf_isSide_3 rfl rfl (fun h3 => ?_) (fun h3 => ?_)
  · refine tf_blk _ b_Tf_isSide_26 rfl ?_
    refine tf_goto 31 d_Tf_isSide_27 rfl ?_
    refine tf_zret d_Tf_isSide_31 rfl (rfl) ?_
    exact ⟨by simp only [tw_isSide, *]; rfl, rfl, rfl⟩
  · refine tf_blk _ b_Tf_isSide_6 rfl ?_
    refine tf_ic_eq 26 12 d_Tf_isSide_9 rfl rfl (fun h9 => ?_) (fun h9 => ?_)
    · refine tf_blk _ b_Tf_isSide_26 rfl ?_
      refine tf_goto 31 d_Tf_isSide_27 rfl ?_
      refine tf_zret d_Tf_isSide_31 rfl (rfl) ?_
      exact ⟨by simp only [tw_isSide, *]; rfl, rfl, rfl⟩
    · refine tf_blk _ b_Tf_isSide_12 rfl ?_
      refine tf_ic_eq 26 19 d_Tf_isSide_16 rfl rfl (fun h16 => ?_) (fun h16 => ?_)
      · refine tf_blk _ b_Tf_isSide_26 rfl ?_
        refine tf_goto 31 d_Tf_isSide_27 rfl ?_
        refine tf_zret d_Tf_isSide_31 rfl (rfl) ?_
        exact ⟨by simp only [tw_isSide, *]; rfl, rfl, rfl⟩
      · refine tf_blk _ b_Tf_isSide_19 rfl ?_
        refine tf_ic_ne 30 26 d_Tf_isSide_23 rfl rfl (fun h23 => ?_) (fun h23 => ?_)
        · refine tf_blk _ b_Tf_isSide_30 rfl ?_
          refine tf_zret d_Tf_isSide_31 rfl (rfl) ?_
          exact ⟨by simp only [tw_isSide, *]; rfl, rfl, rfl⟩
        · refine tf_blk _ b_Tf_isSide_26 rfl ?_
          refine tf_goto 31 d_Tf_isSide_27 rfl ?_
          refine tf_zret d_Tf_isSide_31 rfl (rfl) ?_
          exact ⟨by simp only [tw_isSide, *]; rfl, rfl, rfl⟩
set_option maxHeartbeats 4000000 in
set_option maxRecDepth 100000 in
theorem c_Tf_find (hd : 1 ≤ d) {x gl n : Nat} {bl ou pa he ca ke se : Value} {g : Nat → Option Nat} (hx : x ∈ L) (hgl : gl ∈ L) (hn : n ≤ 40) (fx : f x = to 0 [bl, .ref gl, ou, pa, he, ca, ke, se, .int (nI n)]) (fg : f gl = tr 5 q 40 g) (k : Int32) : tf_C l (tf_H D q) d i_Tf_find [.ref x, .int k] L f 0 0 (tf_rd (va_rf (tw_find n g k)) L f) := by
  refine tf_C.of (tf_gok _ _) (by decide) w_241 (Nat.le_of_ble_eq_true rfl) ?_
  refine tf_blk _ b_Tf_find_0 rfl ?_
  refine tf_get (fs := ?fs_3_21) (v := ?v_3_21) 6 d_Tf_find_3 rfl fl_Tf_66 ?ha_3_21 ?hf_3_21 ?hv_3_21 ?kk_3_21
  case ha_3_21 => first | assumption | (simp only [List.mem_append, List.mem_singleton]; simp [*])
  case hf_3_21 => first | assumption | exact va_up_self _ _ _ | (refine tf_u (by first | assumption | (apply Ne.symm; assumption) | (intro hh; subst hh; contradiction)) ?_; first | assumption | exact va_up_self _ _ _ | (refine tf_u (by first | assumption | (apply Ne.symm; assumption) | (intro hh; subst hh; contradiction)) ?_; first | assumption | exact va_up_self _ _ _ | (refine tf_u (by first | assumption | (apply Ne.symm; assumption) | (intro hh; subst hh; contradiction)) ?_; first | assumption | exact va_up_self _ _ _ | (refine tf_u (by first | assumption | (apply Ne.symm; assumption) | (intro hh; subst hh; contradiction)) ?_; first | assumption | exact va_up_self _ _ _ | (refine tf_u (by first | assumption | (apply Ne.symm; assumption) | (intro hh; subst hh; contradiction)) ?_; first | assumption | exact va_up_self _ _ _)))))
  case hv_3_21 => rfl
  refine tf_blk _ b_Tf_find_6 rfl ?_
  refine tf_cS (tf_gok _ _) (c_Tf_within l D q (d - 1) _ _ _ _ _) 11 d_Tf_find_8 rfl lk_Tf_111 cw_Tf_within (by rfl) sa_Tf_within (by omega) (by exact Nat.le_of_ble_eq_true rfl) rfl ?_
  rintro v8 L8 f8 ⟨rfl, rfl, rfl⟩
  refine tf_if_eq 23 14 d_Tf_find_11 rfl rfl (fun h11 => ?_) (fun h11 => ?_)
  · refine tf_blk _ b_Tf_find_23 rfl ?_
    refine tf_aret d_Tf_find_24 rfl (Or.inl ⟨_, rfl⟩) (by first | exact va_rf_or _ | exact Or.inl rfl) ?_
    first
      | exact ⟨by rw [tw_find, if_pos (tw_bt h11)], rfl, rfl⟩
      | exact ⟨by rw [tw_find, if_neg (by rw [tw_bf h11]; exact Bool.false_ne_true)]; rfl, rfl, rfl⟩
  · refine tf_blk _ b_Tf_find_14 rfl ?_
    refine tf_get (fs := ?fs_15_24) (v := ?v_15_24) 18 d_Tf_find_15 rfl fl_Tf_20 ?ha_15_24 ?hf_15_24 ?hv_15_24 ?kk_15_24
    case ha_15_24 => first | assumption | (simp only [List.mem_append, List.mem_singleton]; simp [*])
    case hf_15_24 => first | assumption | exact va_up_self _ _ _ | (refine tf_u (by first | assumption | (apply Ne.symm; assumption) | (intro hh; subst hh; contradiction)) ?_; first | assumption | exact va_up_self _ _ _ | (refine tf_u (by first | assumption | (apply Ne.symm; assumption) | (intro hh; subst hh; contradiction)) ?_; first | assumption | exact va_up_self _ _ _ | (refine tf_u (by first | assumption | (apply Ne.symm; assumption) | (intro hh; subst hh; contradiction)) ?_; first | assumption | exact va_up_self _ _ _ | (refine tf_u (by first | assumption | (apply Ne.symm; assumption) | (intro hh; subst hh; contradiction)) ?_; first | assumption | exact va_up_self _ _ _ | (refine tf_u (by first | assumption | (apply Ne.symm; assumption) | (intro hh; subst hh; contradiction)) ?_; first | assumption | exact va_up_self _ _ _)))))
    case hv_15_24 => rfl
    refine tf_blk _ b_Tf_find_18 rfl ?_
    refine tf_aald (n := ?n_19_25) (g := ?g_19_25) 20 5 d_Tf_find_19 rfl rfl ?ha_19_25 ?hf_19_25 ?hi_19_25 ?kk_19_25
    case ha_19_25 => first | assumption | (simp only [List.mem_append, List.mem_singleton]; simp [*])
    case hf_19_25 => first | assumption | exact va_up_self _ _ _ | (refine tf_u (by first | assumption | (apply Ne.symm; assumption) | (intro hh; subst hh; contradiction)) ?_; first | assumption | exact va_up_self _ _ _ | (refine tf_u (by first | assumption | (apply Ne.symm; assumption) | (intro hh; subst hh; contradiction)) ?_; first | assumption | exact va_up_self _ _ _ | (refine tf_u (by first | assumption | (apply Ne.symm; assumption) | (intro hh; subst hh; contradiction)) ?_; first | assumption | exact va_up_self _ _ _ | (refine tf_u (by first | assumption | (apply Ne.symm; assumption) | (intro hh; subst hh; contradiction)) ?_; first | assumption | exact va_up_self _ _ _ | (refine tf_u (by first | assumption | (apply Ne.symm; assumption) | (intro hh; subst hh; contradiction)) ?_; first | assumption | exact va_up_self _ _ _)))))
    case hi_19_25 => exact tw_find_in hn (tw_bt h11)
    refine tf_goto 24 d_Tf_find_20 rfl ?_
    refine tf_aret d_Tf_find_24 rfl (Or.inl ⟨_, rfl⟩) (by first | exact va_rf_or _ | exact Or.inl rfl) ?_
    first
      | exact ⟨by rw [tw_find, if_pos (tw_bt h11)], rfl, rfl⟩
      | exact ⟨by rw [tw_find, if_neg (by rw [tw_bf h11]; exact Bool.false_ne_true)]; rfl, rfl, rfl⟩
end
def fdJ (x y : Int64) : Int64 := if x ^^^ y < 0 ∧ ¬ x / y * y = x then x / y - 1 else x / y
def fdI (x y : Int32) : Int32 := if x ^^^ y < 0 ∧ ¬ x / y * y = x then x / y - kI 1 else x / y
def hvU (a b : Int64) : Int32 := if b = 0 then kI 0 else (fdJ (2 * a + b) (2 * b)).toInt32
section
variable (l : Launch) (D : va_G) (q : Nat → ClassId) (d : Nat) (L : List Nat) (f : tf_F)
set_option maxHeartbeats 4000000 in
set_option maxRecDepth 100000 in
theorem c_Math_floorDiv_J {x y : Int64} (hy : ¬ y = 0) : tf_C l (tf_H D q) d i_Math_floorDiv_J [.long x, .long y] L f 0 0 (tf_rd (.long (fdJ x y)) L f) := by
  refine tf_C.ofF (tf_gok _ _) (by decide +kernel) w_653 (Nat.le_of_ble_eq_true rfl) ?_
  refine tf_blk _ b_Math_floorDiv_J_0 rfl ?_
  refine tf_ldiv 3 d_Math_floorDiv_J_2 rfl (hy) ?_
  refine tf_blk _ b_Math_floorDiv_J_3 rfl ?_
  refine tf_if_ge 27 13 d_Math_floorDiv_J_10 rfl rfl (fun h10 => ?_) (fun h10 => ?_)
  · refine tf_blk _ b_Math_floorDiv_J_27 rfl ?_
    refine tf_lret d_Math_floorDiv_J_29 rfl ?_
    first
      | exact ⟨by rw [fdJ, if_neg (fun z => Int32.not_lt.mpr h10 ((lg_cmp_lt _ _).mpr z.1))], rfl, rfl⟩
      | exact ⟨by rw [fdJ, if_neg (fun z => z.2 ((lg_cmp_eq _ _).mp h19))], rfl, rfl⟩
  · refine tf_blk _ b_Math_floorDiv_J_13 rfl ?_
    refine tf_if_eq 27 22 d_Math_floorDiv_J_19 rfl rfl (fun h19 => ?_) (fun h19 => ?_)
    · refine tf_blk _ b_Math_floorDiv_J_27 rfl ?_
      refine tf_lret d_Math_floorDiv_J_29 rfl ?_
      first
        | exact ⟨by rw [fdJ, if_neg (fun z => Int32.not_lt.mpr h10 ((lg_cmp_lt _ _).mpr z.1))], rfl, rfl⟩
        | exact ⟨by rw [fdJ, if_neg (fun z => z.2 ((lg_cmp_eq _ _).mp h19))], rfl, rfl⟩
    · refine tf_blk _ b_Math_floorDiv_J_22 rfl ?_
      refine tf_lret d_Math_floorDiv_J_26 rfl ?_
      exact ⟨by rw [fdJ, if_pos ⟨(lg_cmp_lt _ _).mp (Int32.not_le.mp h10), fun z => h19 ((lg_cmp_eq _ _).mpr z)⟩]; rfl, rfl, rfl⟩
set_option maxHeartbeats 4000000 in
set_option maxRecDepth 100000 in
theorem c_Math_floorDiv_I {x y : Int32} (hy : ¬ y = 0) : tf_C l (tf_H D q) d i_Math_floorDiv_I [.int x, .int y] L f 0 0 (tf_rd (.int (fdI x y)) L f) := by
  refine tf_C.ofF (tf_gok _ _) (by decide +kernel) w_1016 (Nat.le_of_ble_eq_true rfl) ?_
  refine tf_blk _ b_Math_floorDiv_I_0 rfl ?_
  refine tf_idiv 3 d_Math_floorDiv_I_2 rfl (hy) ?_
  refine tf_blk _ b_Math_floorDiv_I_3 rfl ?_
  refine tf_if_ge 21 10 d_Math_floorDiv_I_7 rfl rfl (fun h7 => ?_) (fun h7 => ?_)
  · refine tf_blk _ b_Math_floorDiv_I_21 rfl ?_
    refine tf_iret d_Math_floorDiv_I_22 rfl ?_
    first
      | exact ⟨by rw [fdI, if_neg (fun z => Int32.not_lt.mpr h7 z.1)], rfl, rfl⟩
      | exact ⟨by rw [fdI, if_neg (fun z => z.2 h14)], rfl, rfl⟩
  · refine tf_blk _ b_Math_floorDiv_I_10 rfl ?_
    refine tf_ic_eq 21 17 d_Math_floorDiv_I_14 rfl rfl (fun h14 => ?_) (fun h14 => ?_)
    · refine tf_blk _ b_Math_floorDiv_I_21 rfl ?_
      refine tf_iret d_Math_floorDiv_I_22 rfl ?_
      first
        | exact ⟨by rw [fdI, if_neg (fun z => Int32.not_lt.mpr h7 z.1)], rfl, rfl⟩
        | exact ⟨by rw [fdI, if_neg (fun z => z.2 h14)], rfl, rfl⟩
    · refine tf_blk _ b_Math_floorDiv_I_17 rfl ?_
      refine tf_iret d_Math_floorDiv_I_20 rfl ?_
      exact ⟨by rw [fdI, if_pos ⟨Int32.not_le.mp h7, h14⟩], rfl, rfl⟩
theorem two_ne {b : Int64} (h : ¬ b = 0) (hs : -2 ^ 62 ≤ b.toInt ∧ b.toInt < 2 ^ 62) : ¬ 2 * b = 0 := by
  intro z
  apply h
  have := congrArg Int64.toInt z
  rw [Int64.toInt_mul] at this
  apply Int64.toInt_inj.mp
  have h2 : (2 : Int64).toInt = 2 := by decide
  have h0 : (0 : Int64).toInt = 0 := by decide
  rw [h2, h0] at this
  rw [h0]
  simp only [Int.bmod] at this
  omega
set_option maxHeartbeats 4000000 in
set_option maxRecDepth 100000 in
theorem c_Tf_halvesUp (hd : 1 ≤ d) {a b : Int64} (hb : -2 ^ 62 ≤ b.toInt ∧ b.toInt < 2 ^ 62) : tf_C l (tf_H D q) d i_Tf_halvesUp [.long a, .long b] L f 0 0 (tf_rd (.int (hvU a b)) L f) := by
  refine tf_C.of (tf_gok _ _) (by decide) w_649 (Nat.le_of_ble_eq_true rfl) ?_
  refine tf_blk _ b_Tf_halvesUp_0 rfl ?_
  refine tf_if_ne 10 6 d_Tf_halvesUp_3 rfl rfl (fun h3 => ?_) (fun h3 => ?_)
  · refine tf_ldc2 13 d_Tf_halvesUp_10 rfl w_650 ?_
    refine tf_blk _ b_Tf_halvesUp_13 rfl ?_
    refine tf_ldc2 20 d_Tf_halvesUp_17 rfl w_650 ?_
    refine tf_blk _ b_Tf_halvesUp_20 rfl ?_
    refine tf_cS (tf_gok _ _) (c_Math_floorDiv_J l D q (d - 1) L f (two_ne (fun z => h3 ((lg_cmp_eq _ _).mpr z)) hb)) 25 d_Tf_halvesUp_22 rfl lk_Tf_288 cw_Math_floorDiv_J (by rfl) sa_Math_floorDiv_J (by omega) (by exact Nat.le_of_ble_eq_true rfl) rfl ?_
    rintro v22 L22 f22 ⟨rfl, rfl, rfl⟩
    refine tf_blk _ b_Tf_halvesUp_25 rfl ?_
    refine tf_iret d_Tf_halvesUp_26 rfl ?_
    first
      | exact ⟨by (rw [hvU, if_pos (show b = 0 from (lg_cmp_eq b 0).mp h3)]; try rfl), rfl, rfl⟩
      | exact ⟨by (rw [hvU, if_neg (show ¬ b = 0 from fun z => h3 ((lg_cmp_eq b 0).mpr z))]; try rfl), rfl, rfl⟩
  · refine tf_blk _ b_Tf_halvesUp_6 rfl ?_
    refine tf_goto 26 d_Tf_halvesUp_7 rfl ?_
    refine tf_iret d_Tf_halvesUp_26 rfl ?_
    first
      | exact ⟨by (rw [hvU, if_pos (show b = 0 from (lg_cmp_eq b 0).mp h3)]; try rfl), rfl, rfl⟩
      | exact ⟨by (rw [hvU, if_neg (show ¬ b = 0 from fun z => h3 ((lg_cmp_eq b 0).mpr z))]; try rfl), rfl, rfl⟩
end
end
section
/-! constructors of the small classes -/
/-- what a constructor of an object at a with new cells qs leaves: the object, the cells, all else as it was -/
def tf_mk (L : List Nat) (f : tf_F) (a : Nat) (qs : List (Nat × va_E)) (ob : va_E) : tf_O := fun v L2 f2 =>
  v = none ∧ L2 = L ++ qs.map Prod.fst ∧ (∀ q ∈ qs, q.1 ∉ L) ∧ (qs.map Prod.fst).Nodup ∧ f2 a = ob ∧ (∀ q ∈ qs, f2 q.1 = q.2) ∧ ∀ z, z ∈ L → z ≠ a → f2 z = f z
section
variable (l : Launch) (D : va_G) (q : Nat → ClassId) (d : Nat) (L : List Nat) (f : tf_F)
set_option maxHeartbeats 4000000 in
set_option maxRecDepth 100000 in
theorem c_Heights_init (hd : 1 ≤ d) {a : Nat} (ha : a ∈ L) (fa : f a = to 4 [.int 0, .null]) : tf_C l (tf_H D q) d i_Heights_init [.ref a] L f 1 8 (fun v L2 f2 => ∃ q7 : Nat, tf_mk L f a [(q7, ti q 8 (fun _ => 0))] (to 4 [.int 0, .ref q7]) v L2 f2) := by
  refine tf_C.of (tf_gok _ _) (by decide) w_116 (Nat.le_of_ble_eq_true rfl) ?_
  refine tf_blk _ b_Heights_init_0 rfl ?_
  refine tf_obj 4 d_Heights_init_1 rfl w_117 wi_obj wc_obj (by omega) (by decide) ?_
  refine tf_blk _ b_Heights_init_4 rfl ?_
  refine tf_newa (N := 8) (a0 := (8, .inl (fun _ => 0))) 9 0 d_Heights_init_7 rfl rfl wa_int rfl (by decide) (by decide) (by decide) (fun _ => rfl) (fun q7 hq7 => ?_)
  have a_q7 : a ≠ q7 := fun hh => hq7 (hh ▸ (by simp [ha]))
  have n_q7 : q7 ∉ L := fun hh => hq7 (by simp [hh])
  refine tf_putF (fs := ?fs_9_3) 12 d_Heights_init_9 rfl ff_Heights_9 rfl ?ha_9_3 ?hf_9_3 ?hl_9_3 ?hn_9_3 ?ht_9_3 ?kk_9_3
  case ha_9_3 => first | assumption | (simp only [List.mem_append, List.mem_singleton]; simp [*])
  case hf_9_3 => first | assumption | exact va_up_self _ _ _ | (refine tf_u (by first | assumption | (apply Ne.symm; assumption) | (intro hh; subst hh; contradiction)) ?_; first | assumption | exact va_up_self _ _ _ | (refine tf_u (by first | assumption | (apply Ne.symm; assumption) | (intro hh; subst hh; contradiction)) ?_; first | assumption | exact va_up_self _ _ _ | (refine tf_u (by first | assumption | (apply Ne.symm; assumption) | (intro hh; subst hh; contradiction)) ?_; first | assumption | exact va_up_self _ _ _ | (refine tf_u (by first | assumption | (apply Ne.symm; assumption) | (intro hh; subst hh; contradiction)) ?_; first | assumption | exact va_up_self _ _ _ | (refine tf_u (by first | assumption | (apply Ne.symm; assumption) | (intro hh; subst hh; contradiction)) ?_; first | assumption | exact va_up_self _ _ _)))))
  case hl_9_3 => exact Nat.le_of_ble_eq_true rfl
  case hn_9_3 => rfl
  case ht_9_3 => rfl
  refine tf_vret d_Heights_init_12 rfl ?_
  refine ⟨q7, rfl, by simp, ?_, ?_, ?_, ?_, ?_⟩
  · simp only [List.forall_mem_cons, List.not_mem_nil, false_implies, implies_true, and_true]
    exact n_q7
  · simp
  · repeat (first | exact va_up_self _ _ _ | refine tf_u (by first | assumption | (apply Ne.symm; assumption)) ?_)
  · simp only [List.forall_mem_cons, List.not_mem_nil, false_implies, implies_true, and_true]
    repeat (first | exact va_up_self _ _ _ | refine tf_u (by first | assumption | (apply Ne.symm; assumption)) ?_)
  · intro z hz hza
    have z_q7 : z ≠ q7 := fun hh => n_q7 (hh ▸ hz)
    iterate 2 refine tf_u (by first | assumption | (apply Ne.symm; assumption)) ?_
    rfl
set_option maxHeartbeats 4000000 in
set_option maxRecDepth 100000 in
theorem c_Canvas_init (hd : 1 ≤ d) {a : Nat} (ha : a ∈ L) (fa : f a = to 2 [.null, .int 0, .int 0]) : tf_C l (tf_H D q) d i_Canvas_init [.ref a] L f 1 4096 (fun v L2 f2 => ∃ q8 : Nat, tf_mk L f a [(q8, ti q 4096 (fun _ => 0))] (to 2 [.ref q8, .int (kI 32), .int 0]) v L2 f2) := by
  refine tf_C.of (tf_gok _ _) (by decide) w_130 (Nat.le_of_ble_eq_true rfl) ?_
  refine tf_blk _ b_Canvas_init_0 rfl ?_
  refine tf_obj 4 d_Canvas_init_1 rfl w_131 wi_obj wc_obj (by omega) (by decide) ?_
  refine tf_blk _ b_Canvas_init_4 rfl ?_
  refine tf_newa (N := 4096) (a0 := (4096, .inl (fun _ => 0))) 10 0 d_Canvas_init_8 rfl rfl wa_int rfl (by decide) (by decide) (by decide) (fun _ => rfl) (fun q8 hq8 => ?_)
  have a_q8 : a ≠ q8 := fun hh => hq8 (hh ▸ (by simp [ha]))
  have n_q8 : q8 ∉ L := fun hh => hq8 (by simp [hh])
  refine tf_putF (fs := ?fs_10_7) 13 d_Canvas_init_10 rfl ff_Canvas_11 rfl ?ha_10_7 ?hf_10_7 ?hl_10_7 ?hn_10_7 ?ht_10_7 ?kk_10_7
  case ha_10_7 => first | assumption | (simp only [List.mem_append, List.mem_singleton]; simp [*])
  case hf_10_7 => first | assumption | exact va_up_self _ _ _ | (refine tf_u (by first | assumption | (apply Ne.symm; assumption) | (intro hh; subst hh; contradiction)) ?_; first | assumption | exact va_up_self _ _ _ | (refine tf_u (by first | assumption | (apply Ne.symm; assumption) | (intro hh; subst hh; contradiction)) ?_; first | assumption | exact va_up_self _ _ _ | (refine tf_u (by first | assumption | (apply Ne.symm; assumption) | (intro hh; subst hh; contradiction)) ?_; first | assumption | exact va_up_self _ _ _ | (refine tf_u (by first | assumption | (apply Ne.symm; assumption) | (intro hh; subst hh; contradiction)) ?_; first | assumption | exact va_up_self _ _ _ | (refine tf_u (by first | assumption | (apply Ne.symm; assumption) | (intro hh; subst hh; contradiction)) ?_; first | assumption | exact va_up_self _ _ _)))))
  case hl_10_7 => exact Nat.le_of_ble_eq_true rfl
  case hn_10_7 => rfl
  case ht_10_7 => rfl
  refine tf_blk _ b_Canvas_init_13 rfl ?_
  refine tf_put (fs := ?fs_16_8) 19 d_Canvas_init_16 rfl fw_Canvas_15 ?ha_16_8 ?hf_16_8 ?hl_16_8 ?hn_16_8 ?ht_16_8 ?kk_16_8
  case ha_16_8 => first | assumption | (simp only [List.mem_append, List.mem_singleton]; simp [*])
  case hf_16_8 => first | assumption | exact va_up_self _ _ _ | (refine tf_u (by first | assumption | (apply Ne.symm; assumption) | (intro hh; subst hh; contradiction)) ?_; first | assumption | exact va_up_self _ _ _ | (refine tf_u (by first | assumption | (apply Ne.symm; assumption) | (intro hh; subst hh; contradiction)) ?_; first | assumption | exact va_up_self _ _ _ | (refine tf_u (by first | assumption | (apply Ne.symm; assumption) | (intro hh; subst hh; contradiction)) ?_; first | assumption | exact va_up_self _ _ _ | (refine tf_u (by first | assumption | (apply Ne.symm; assumption) | (intro hh; subst hh; contradiction)) ?_; first | assumption | exact va_up_self _ _ _ | (refine tf_u (by first | assumption | (apply Ne.symm; assumption) | (intro hh; subst hh; contradiction)) ?_; first | assumption | exact va_up_self _ _ _)))))
  case hl_16_8 => exact Nat.le_of_ble_eq_true rfl
  case hn_16_8 => rfl
  case ht_16_8 => rfl
  refine tf_vret d_Canvas_init_19 rfl ?_
  refine ⟨q8, rfl, by simp, ?_, ?_, ?_, ?_, ?_⟩
  · simp only [List.forall_mem_cons, List.not_mem_nil, false_implies, implies_true, and_true]
    exact n_q8
  · simp
  · repeat (first | exact va_up_self _ _ _ | refine tf_u (by first | assumption | (apply Ne.symm; assumption)) ?_)
  · simp only [List.forall_mem_cons, List.not_mem_nil, false_implies, implies_true, and_true]
    repeat (first | exact va_up_self _ _ _ | refine tf_u (by first | assumption | (apply Ne.symm; assumption)) ?_)
  · intro z hz hza
    have z_q8 : z ≠ q8 := fun hh => n_q8 (hh ▸ hz)
    iterate 3 refine tf_u (by first | assumption | (apply Ne.symm; assumption)) ?_
    rfl
set_option maxHeartbeats 4000000 in
set_option maxRecDepth 100000 in
theorem c_Path_init (hd : 1 ≤ d) {a : Nat} (ha : a ∈ L) (fa : f a = to 8 [.null, .null, .int 0]) : tf_C l (tf_H D q) d i_Path_init [.ref a] L f 2 640 (fun v L2 f2 => ∃ q8 q17 : Nat, tf_mk L f a [(q8, ti q 320 (fun _ => 0)), (q17, ti q 320 (fun _ => 0))] (to 8 [.ref q8, .ref q17, .int 0]) v L2 f2) := by
  refine tf_C.of (tf_gok _ _) (by decide) w_97 (Nat.le_of_ble_eq_true rfl) ?_
  refine tf_blk _ b_Path_init_0 rfl ?_
  refine tf_obj 4 d_Path_init_1 rfl w_98 wi_obj wc_obj (by omega) (by decide) ?_
  refine tf_blk _ b_Path_init_4 rfl ?_
  refine tf_newa (N := 320) (a0 := (320, .inl (fun _ => 0))) 10 0 d_Path_init_8 rfl rfl wa_int rfl (by decide) (by decide) (by decide) (fun _ => rfl) (fun q8 hq8 => ?_)
  have a_q8 : a ≠ q8 := fun hh => hq8 (hh ▸ (by simp [ha]))
  have n_q8 : q8 ∉ L := fun hh => hq8 (by simp [hh])
  refine tf_putF (fs := ?fs_10_12) 13 d_Path_init_10 rfl ff_Path_9 rfl ?ha_10_12 ?hf_10_12 ?hl_10_12 ?hn_10_12 ?ht_10_12 ?kk_10_12
  case ha_10_12 => first | assumption | (simp only [List.mem_append, List.mem_singleton]; simp [*])
  case hf_10_12 => first | assumption | exact va_up_self _ _ _ | (refine tf_u (by first | assumption | (apply Ne.symm; assumption) | (intro hh; subst hh; contradiction)) ?_; first | assumption | exact va_up_self _ _ _ | (refine tf_u (by first | assumption | (apply Ne.symm; assumption) | (intro hh; subst hh; contradiction)) ?_; first | assumption | exact va_up_self _ _ _ | (refine tf_u (by first | assumption | (apply Ne.symm; assumption) | (intro hh; subst hh; contradiction)) ?_; first | assumption | exact va_up_self _ _ _ | (refine tf_u (by first | assumption | (apply Ne.symm; assumption) | (intro hh; subst hh; contradiction)) ?_; first | assumption | exact va_up_self _ _ _ | (refine tf_u (by first | assumption | (apply Ne.symm; assumption) | (intro hh; subst hh; contradiction)) ?_; first | assumption | exact va_up_self _ _ _)))))
  case hl_10_12 => exact Nat.le_of_ble_eq_true rfl
  case hn_10_12 => rfl
  case ht_10_12 => rfl
  refine tf_blk _ b_Path_init_13 rfl ?_
  refine tf_newa (N := 320) (a0 := (320, .inl (fun _ => 0))) 19 0 d_Path_init_17 rfl rfl wa_int rfl (by decide) (by decide) (by decide) (fun _ => rfl) (fun q17 hq17 => ?_)
  have a_q17 : a ≠ q17 := fun hh => hq17 (hh ▸ (by simp [ha]))
  have n_q17 : q17 ∉ L := fun hh => hq17 (by simp [hh])
  have q8_q17 : q8 ≠ q17 := fun hh => hq17 (hh ▸ (by simp))
  refine tf_putF (fs := ?fs_19_14) 22 d_Path_init_19 rfl ff_Path_15 rfl ?ha_19_14 ?hf_19_14 ?hl_19_14 ?hn_19_14 ?ht_19_14 ?kk_19_14
  case ha_19_14 => first | assumption | (simp only [List.mem_append, List.mem_singleton]; simp [*])
  case hf_19_14 => first | assumption | exact va_up_self _ _ _ | (refine tf_u (by first | assumption | (apply Ne.symm; assumption) | (intro hh; subst hh; contradiction)) ?_; first | assumption | exact va_up_self _ _ _ | (refine tf_u (by first | assumption | (apply Ne.symm; assumption) | (intro hh; subst hh; contradiction)) ?_; first | assumption | exact va_up_self _ _ _ | (refine tf_u (by first | assumption | (apply Ne.symm; assumption) | (intro hh; subst hh; contradiction)) ?_; first | assumption | exact va_up_self _ _ _ | (refine tf_u (by first | assumption | (apply Ne.symm; assumption) | (intro hh; subst hh; contradiction)) ?_; first | assumption | exact va_up_self _ _ _ | (refine tf_u (by first | assumption | (apply Ne.symm; assumption) | (intro hh; subst hh; contradiction)) ?_; first | assumption | exact va_up_self _ _ _)))))
  case hl_19_14 => exact Nat.le_of_ble_eq_true rfl
  case hn_19_14 => rfl
  case ht_19_14 => rfl
  refine tf_vret d_Path_init_22 rfl ?_
  refine ⟨q8, q17, rfl, by simp, ?_, ?_, ?_, ?_, ?_⟩
  · simp only [List.forall_mem_cons, List.not_mem_nil, false_implies, implies_true, and_true]
    exact ⟨n_q8, n_q17⟩
  · simp only [List.map_cons, List.map_nil, List.nodup_cons, List.mem_cons, List.not_mem_nil, or_false, not_or, List.nodup_nil, and_true, not_false_eq_true]
    exact q8_q17
  · repeat (first | exact va_up_self _ _ _ | refine tf_u (by first | assumption | (apply Ne.symm; assumption)) ?_)
  · simp only [List.forall_mem_cons, List.not_mem_nil, false_implies, implies_true, and_true]
    refine ⟨?_, ?_⟩ <;> (repeat (first | exact va_up_self _ _ _ | refine tf_u (by first | assumption | (apply Ne.symm; assumption)) ?_))
  · intro z hz hza
    have z_q8 : z ≠ q8 := fun hh => n_q8 (hh ▸ hz)
    have z_q17 : z ≠ q17 := fun hh => n_q17 (hh ▸ hz)
    iterate 4 refine tf_u (by first | assumption | (apply Ne.symm; assumption)) ?_
    rfl
set_option maxHeartbeats 4000000 in
set_option maxRecDepth 100000 in
theorem c_Outline_init (hd : 1 ≤ d) {a : Nat} (ha : a ∈ L) (fa : f a = to 6 [.null, .null, .null, .null, .int 0, .null, .int 0]) : tf_C l (tf_H D q) d i_Outline_init [.ref a] L f 5 694 (fun v L2 f2 => ∃ q8 q17 q26 q34 q43 : Nat, tf_mk L f a [(q8, ti q 160 (fun _ => 0)), (q17, ti q 160 (fun _ => 0)), (q26, tz q 160 (fun _ => 0)), (q34, ti q 54 (fun _ => 0)), (q43, ti q 160 (fun _ => 0))] (to 6 [.ref q8, .ref q17, .ref q26, .ref q34, .int 0, .ref q43, .int 0]) v L2 f2) := by
  refine tf_C.of (tf_gok _ _) (by decide) w_62 (Nat.le_of_ble_eq_true rfl) ?_
  refine tf_blk _ b_Outline_init_0 rfl ?_
  refine tf_obj 4 d_Outline_init_1 rfl w_63 wi_obj wc_obj (by omega) (by decide) ?_
  refine tf_blk _ b_Outline_init_4 rfl ?_
  refine tf_newa (N := 160) (a0 := (160, .inl (fun _ => 0))) 10 0 d_Outline_init_8 rfl rfl wa_int rfl (by decide) (by decide) (by decide) (fun _ => rfl) (fun q8 hq8 => ?_)
  have a_q8 : a ≠ q8 := fun hh => hq8 (hh ▸ (by simp [ha]))
  have n_q8 : q8 ∉ L := fun hh => hq8 (by simp [hh])
  refine tf_putF (fs := ?fs_10_18) 13 d_Outline_init_10 rfl ff_Outline_9 rfl ?ha_10_18 ?hf_10_18 ?hl_10_18 ?hn_10_18 ?ht_10_18 ?kk_10_18
  case ha_10_18 => first | assumption | (simp only [List.mem_append, List.mem_singleton]; simp [*])
  case hf_10_18 => first | assumption | exact va_up_self _ _ _ | (refine tf_u (by first | assumption | (apply Ne.symm; assumption) | (intro hh; subst hh; contradiction)) ?_; first | assumption | exact va_up_self _ _ _ | (refine tf_u (by first | assumption | (apply Ne.symm; assumption) | (intro hh; subst hh; contradiction)) ?_; first | assumption | exact va_up_self _ _ _ | (refine tf_u (by first | assumption | (apply Ne.symm; assumption) | (intro hh; subst hh; contradiction)) ?_; first | assumption | exact va_up_self _ _ _ | (refine tf_u (by first | assumption | (apply Ne.symm; assumption) | (intro hh; subst hh; contradiction)) ?_; first | assumption | exact va_up_self _ _ _ | (refine tf_u (by first | assumption | (apply Ne.symm; assumption) | (intro hh; subst hh; contradiction)) ?_; first | assumption | exact va_up_self _ _ _)))))
  case hl_10_18 => exact Nat.le_of_ble_eq_true rfl
  case hn_10_18 => rfl
  case ht_10_18 => rfl
  refine tf_blk _ b_Outline_init_13 rfl ?_
  refine tf_newa (N := 160) (a0 := (160, .inl (fun _ => 0))) 19 0 d_Outline_init_17 rfl rfl wa_int rfl (by decide) (by decide) (by decide) (fun _ => rfl) (fun q17 hq17 => ?_)
  have a_q17 : a ≠ q17 := fun hh => hq17 (hh ▸ (by simp [ha]))
  have n_q17 : q17 ∉ L := fun hh => hq17 (by simp [hh])
  have q8_q17 : q8 ≠ q17 := fun hh => hq17 (hh ▸ (by simp))
  refine tf_putF (fs := ?fs_19_20) 22 d_Outline_init_19 rfl ff_Outline_15 rfl ?ha_19_20 ?hf_19_20 ?hl_19_20 ?hn_19_20 ?ht_19_20 ?kk_19_20
  case ha_19_20 => first | assumption | (simp only [List.mem_append, List.mem_singleton]; simp [*])
  case hf_19_20 => first | assumption | exact va_up_self _ _ _ | (refine tf_u (by first | assumption | (apply Ne.symm; assumption) | (intro hh; subst hh; contradiction)) ?_; first | assumption | exact va_up_self _ _ _ | (refine tf_u (by first | assumption | (apply Ne.symm; assumption) | (intro hh; subst hh; contradiction)) ?_; first | assumption | exact va_up_self _ _ _ | (refine tf_u (by first | assumption | (apply Ne.symm; assumption) | (intro hh; subst hh; contradiction)) ?_; first | assumption | exact va_up_self _ _ _ | (refine tf_u (by first | assumption | (apply Ne.symm; assumption) | (intro hh; subst hh; contradiction)) ?_; first | assumption | exact va_up_self _ _ _ | (refine tf_u (by first | assumption | (apply Ne.symm; assumption) | (intro hh; subst hh; contradiction)) ?_; first | assumption | exact va_up_self _ _ _)))))
  case hl_19_20 => exact Nat.le_of_ble_eq_true rfl
  case hn_19_20 => rfl
  case ht_19_20 => rfl
  refine tf_blk _ b_Outline_init_22 rfl ?_
  refine tf_newa (N := 160) (a0 := (160, .inl (fun _ => 0))) 28 1 d_Outline_init_26 rfl rfl wa_boolean rfl (by decide) (by decide) (by decide) (fun _ => rfl) (fun q26 hq26 => ?_)
  have a_q26 : a ≠ q26 := fun hh => hq26 (hh ▸ (by simp [ha]))
  have n_q26 : q26 ∉ L := fun hh => hq26 (by simp [hh])
  have q8_q26 : q8 ≠ q26 := fun hh => hq26 (hh ▸ (by simp))
  have q17_q26 : q17 ≠ q26 := fun hh => hq26 (hh ▸ (by simp))
  refine tf_putF (fs := ?fs_28_22) 31 d_Outline_init_28 rfl ff_Outline_18 rfl ?ha_28_22 ?hf_28_22 ?hl_28_22 ?hn_28_22 ?ht_28_22 ?kk_28_22
  case ha_28_22 => first | assumption | (simp only [List.mem_append, List.mem_singleton]; simp [*])
  case hf_28_22 => first | assumption | exact va_up_self _ _ _ | (refine tf_u (by first | assumption | (apply Ne.symm; assumption) | (intro hh; subst hh; contradiction)) ?_; first | assumption | exact va_up_self _ _ _ | (refine tf_u (by first | assumption | (apply Ne.symm; assumption) | (intro hh; subst hh; contradiction)) ?_; first | assumption | exact va_up_self _ _ _ | (refine tf_u (by first | assumption | (apply Ne.symm; assumption) | (intro hh; subst hh; contradiction)) ?_; first | assumption | exact va_up_self _ _ _ | (refine tf_u (by first | assumption | (apply Ne.symm; assumption) | (intro hh; subst hh; contradiction)) ?_; first | assumption | exact va_up_self _ _ _ | (refine tf_u (by first | assumption | (apply Ne.symm; assumption) | (intro hh; subst hh; contradiction)) ?_; first | assumption | exact va_up_self _ _ _)))))
  case hl_28_22 => exact Nat.le_of_ble_eq_true rfl
  case hn_28_22 => rfl
  case ht_28_22 => rfl
  refine tf_blk _ b_Outline_init_31 rfl ?_
  refine tf_newa (N := 54) (a0 := (54, .inl (fun _ => 0))) 36 0 d_Outline_init_34 rfl rfl wa_int rfl (by decide) (by decide) (by decide) (fun _ => rfl) (fun q34 hq34 => ?_)
  have a_q34 : a ≠ q34 := fun hh => hq34 (hh ▸ (by simp [ha]))
  have n_q34 : q34 ∉ L := fun hh => hq34 (by simp [hh])
  have q8_q34 : q8 ≠ q34 := fun hh => hq34 (hh ▸ (by simp))
  have q17_q34 : q17 ≠ q34 := fun hh => hq34 (hh ▸ (by simp))
  have q26_q34 : q26 ≠ q34 := fun hh => hq34 (hh ▸ (by simp))
  refine tf_putF (fs := ?fs_36_24) 39 d_Outline_init_36 rfl ff_Outline_22 rfl ?ha_36_24 ?hf_36_24 ?hl_36_24 ?hn_36_24 ?ht_36_24 ?kk_36_24
  case ha_36_24 => first | assumption | (simp only [List.mem_append, List.mem_singleton]; simp [*])
  case hf_36_24 => first | assumption | exact va_up_self _ _ _ | (refine tf_u (by first | assumption | (apply Ne.symm; assumption) | (intro hh; subst hh; contradiction)) ?_; first | assumption | exact va_up_self _ _ _ | (refine tf_u (by first | assumption | (apply Ne.symm; assumption) | (intro hh; subst hh; contradiction)) ?_; first | assumption | exact va_up_self _ _ _ | (refine tf_u (by first | assumption | (apply Ne.symm; assumption) | (intro hh; subst hh; contradiction)) ?_; first | assumption | exact va_up_self _ _ _ | (refine tf_u (by first | assumption | (apply Ne.symm; assumption) | (intro hh; subst hh; contradiction)) ?_; first | assumption | exact va_up_self _ _ _ | (refine tf_u (by first | assumption | (apply Ne.symm; assumption) | (intro hh; subst hh; contradiction)) ?_; first | assumption | exact va_up_self _ _ _)))))
  case hl_36_24 => exact Nat.le_of_ble_eq_true rfl
  case hn_36_24 => rfl
  case ht_36_24 => rfl
  refine tf_blk _ b_Outline_init_39 rfl ?_
  refine tf_newa (N := 160) (a0 := (160, .inl (fun _ => 0))) 45 0 d_Outline_init_43 rfl rfl wa_int rfl (by decide) (by decide) (by decide) (fun _ => rfl) (fun q43 hq43 => ?_)
  have a_q43 : a ≠ q43 := fun hh => hq43 (hh ▸ (by simp [ha]))
  have n_q43 : q43 ∉ L := fun hh => hq43 (by simp [hh])
  have q8_q43 : q8 ≠ q43 := fun hh => hq43 (hh ▸ (by simp))
  have q17_q43 : q17 ≠ q43 := fun hh => hq43 (hh ▸ (by simp))
  have q26_q43 : q26 ≠ q43 := fun hh => hq43 (hh ▸ (by simp))
  have q34_q43 : q34 ≠ q43 := fun hh => hq43 (hh ▸ (by simp))
  refine tf_putF (fs := ?fs_45_26) 48 d_Outline_init_45 rfl ff_Outline_25 rfl ?ha_45_26 ?hf_45_26 ?hl_45_26 ?hn_45_26 ?ht_45_26 ?kk_45_26
  case ha_45_26 => first | assumption | (simp only [List.mem_append, List.mem_singleton]; simp [*])
  case hf_45_26 => first | assumption | exact va_up_self _ _ _ | (refine tf_u (by first | assumption | (apply Ne.symm; assumption) | (intro hh; subst hh; contradiction)) ?_; first | assumption | exact va_up_self _ _ _ | (refine tf_u (by first | assumption | (apply Ne.symm; assumption) | (intro hh; subst hh; contradiction)) ?_; first | assumption | exact va_up_self _ _ _ | (refine tf_u (by first | assumption | (apply Ne.symm; assumption) | (intro hh; subst hh; contradiction)) ?_; first | assumption | exact va_up_self _ _ _ | (refine tf_u (by first | assumption | (apply Ne.symm; assumption) | (intro hh; subst hh; contradiction)) ?_; first | assumption | exact va_up_self _ _ _ | (refine tf_u (by first | assumption | (apply Ne.symm; assumption) | (intro hh; subst hh; contradiction)) ?_; first | assumption | exact va_up_self _ _ _)))))
  case hl_45_26 => exact Nat.le_of_ble_eq_true rfl
  case hn_45_26 => rfl
  case ht_45_26 => rfl
  refine tf_vret d_Outline_init_48 rfl ?_
  refine ⟨q8, q17, q26, q34, q43, rfl, by simp, ?_, ?_, ?_, ?_, ?_⟩
  · simp only [List.forall_mem_cons, List.not_mem_nil, false_implies, implies_true, and_true]
    exact ⟨n_q8, n_q17, n_q26, n_q34, n_q43⟩
  · simp only [List.map_cons, List.map_nil, List.nodup_cons, List.mem_cons, List.not_mem_nil, or_false, not_or, List.nodup_nil, and_true, not_false_eq_true]
    exact ⟨⟨q8_q17, q8_q26, q8_q34, q8_q43⟩, ⟨q17_q26, q17_q34, q17_q43⟩, ⟨q26_q34, q26_q43⟩, q34_q43⟩
  · repeat (first | exact va_up_self _ _ _ | refine tf_u (by first | assumption | (apply Ne.symm; assumption)) ?_)
  · simp only [List.forall_mem_cons, List.not_mem_nil, false_implies, implies_true, and_true]
    refine ⟨?_, ?_, ?_, ?_, ?_⟩ <;> (repeat (first | exact va_up_self _ _ _ | refine tf_u (by first | assumption | (apply Ne.symm; assumption)) ?_))
  · intro z hz hza
    have z_q8 : z ≠ q8 := fun hh => n_q8 (hh ▸ hz)
    have z_q17 : z ≠ q17 := fun hh => n_q17 (hh ▸ hz)
    have z_q26 : z ≠ q26 := fun hh => n_q26 (hh ▸ hz)
    have z_q34 : z ≠ q34 := fun hh => n_q34 (hh ▸ hz)
    have z_q43 : z ≠ q43 := fun hh => n_q43 (hh ▸ hz)
    iterate 10 refine tf_u (by first | assumption | (apply Ne.symm; assumption)) ?_
    rfl
set_option maxHeartbeats 4000000 in
set_option maxRecDepth 100000 in
theorem c_Kerning_init (hd : 1 ≤ d) {a : Nat} (ha : a ∈ L) (fa : f a = to 5 [.int 0, .null, .null, .null, .null, .null, .null]) : tf_C l (tf_H D q) d i_Kerning_init [.ref a] L f 6 456 (fun v L2 f2 => ∃ q7 q15 q24 q32 q40 q48 : Nat, tf_mk L f a [(q7, ti q 40 (fun _ => 0)), (q15, ti q 40 (fun _ => 0)), (q24, ti q 256 (fun _ => 0)), (q32, ti q 40 (fun _ => 0)), (q40, ti q 40 (fun _ => 0)), (q48, ti q 40 (fun _ => 0))] (to 5 [.int 0, .ref q7, .ref q15, .ref q24, .ref q32, .ref q40, .ref q48]) v L2 f2) := by
  refine tf_C.of (tf_gok _ _) (by decide) w_146 (Nat.le_of_ble_eq_true rfl) ?_
  refine tf_blk _ b_Kerning_init_0 rfl ?_
  refine tf_obj 4 d_Kerning_init_1 rfl w_147 wi_obj wc_obj (by omega) (by decide) ?_
  refine tf_blk _ b_Kerning_init_4 rfl ?_
  refine tf_newa (N := 40) (a0 := (40, .inl (fun _ => 0))) 9 0 d_Kerning_init_7 rfl rfl wa_int rfl (by decide) (by decide) (by decide) (fun _ => rfl) (fun q7 hq7 => ?_)
  have a_q7 : a ≠ q7 := fun hh => hq7 (hh ▸ (by simp [ha]))
  have n_q7 : q7 ∉ L := fun hh => hq7 (by simp [hh])
  refine tf_putF (fs := ?fs_9_30) 12 d_Kerning_init_9 rfl ff_Kerning_9 rfl ?ha_9_30 ?hf_9_30 ?hl_9_30 ?hn_9_30 ?ht_9_30 ?kk_9_30
  case ha_9_30 => first | assumption | (simp only [List.mem_append, List.mem_singleton]; simp [*])
  case hf_9_30 => first | assumption | exact va_up_self _ _ _ | (refine tf_u (by first | assumption | (apply Ne.symm; assumption) | (intro hh; subst hh; contradiction)) ?_; first | assumption | exact va_up_self _ _ _ | (refine tf_u (by first | assumption | (apply Ne.symm; assumption) | (intro hh; subst hh; contradiction)) ?_; first | assumption | exact va_up_self _ _ _ | (refine tf_u (by first | assumption | (apply Ne.symm; assumption) | (intro hh; subst hh; contradiction)) ?_; first | assumption | exact va_up_self _ _ _ | (refine tf_u (by first | assumption | (apply Ne.symm; assumption) | (intro hh; subst hh; contradiction)) ?_; first | assumption | exact va_up_self _ _ _ | (refine tf_u (by first | assumption | (apply Ne.symm; assumption) | (intro hh; subst hh; contradiction)) ?_; first | assumption | exact va_up_self _ _ _)))))
  case hl_9_30 => exact Nat.le_of_ble_eq_true rfl
  case hn_9_30 => rfl
  case ht_9_30 => rfl
  refine tf_blk _ b_Kerning_init_12 rfl ?_
  refine tf_newa (N := 40) (a0 := (40, .inl (fun _ => 0))) 17 0 d_Kerning_init_15 rfl rfl wa_int rfl (by decide) (by decide) (by decide) (fun _ => rfl) (fun q15 hq15 => ?_)
  have a_q15 : a ≠ q15 := fun hh => hq15 (hh ▸ (by simp [ha]))
  have n_q15 : q15 ∉ L := fun hh => hq15 (by simp [hh])
  have q7_q15 : q7 ≠ q15 := fun hh => hq15 (hh ▸ (by simp))
  refine tf_putF (fs := ?fs_17_32) 20 d_Kerning_init_17 rfl ff_Kerning_15 rfl ?ha_17_32 ?hf_17_32 ?hl_17_32 ?hn_17_32 ?ht_17_32 ?kk_17_32
  case ha_17_32 => first | assumption | (simp only [List.mem_append, List.mem_singleton]; simp [*])
  case hf_17_32 => first | assumption | exact va_up_self _ _ _ | (refine tf_u (by first | assumption | (apply Ne.symm; assumption) | (intro hh; subst hh; contradiction)) ?_; first | assumption | exact va_up_self _ _ _ | (refine tf_u (by first | assumption | (apply Ne.symm; assumption) | (intro hh; subst hh; contradiction)) ?_; first | assumption | exact va_up_self _ _ _ | (refine tf_u (by first | assumption | (apply Ne.symm; assumption) | (intro hh; subst hh; contradiction)) ?_; first | assumption | exact va_up_self _ _ _ | (refine tf_u (by first | assumption | (apply Ne.symm; assumption) | (intro hh; subst hh; contradiction)) ?_; first | assumption | exact va_up_self _ _ _ | (refine tf_u (by first | assumption | (apply Ne.symm; assumption) | (intro hh; subst hh; contradiction)) ?_; first | assumption | exact va_up_self _ _ _)))))
  case hl_17_32 => exact Nat.le_of_ble_eq_true rfl
  case hn_17_32 => rfl
  case ht_17_32 => rfl
  refine tf_blk _ b_Kerning_init_20 rfl ?_
  refine tf_newa (N := 256) (a0 := (256, .inl (fun _ => 0))) 26 0 d_Kerning_init_24 rfl rfl wa_int rfl (by decide) (by decide) (by decide) (fun _ => rfl) (fun q24 hq24 => ?_)
  have a_q24 : a ≠ q24 := fun hh => hq24 (hh ▸ (by simp [ha]))
  have n_q24 : q24 ∉ L := fun hh => hq24 (by simp [hh])
  have q7_q24 : q7 ≠ q24 := fun hh => hq24 (hh ▸ (by simp))
  have q15_q24 : q15 ≠ q24 := fun hh => hq24 (hh ▸ (by simp))
  refine tf_putF (fs := ?fs_26_34) 29 d_Kerning_init_26 rfl ff_Kerning_18 rfl ?ha_26_34 ?hf_26_34 ?hl_26_34 ?hn_26_34 ?ht_26_34 ?kk_26_34
  case ha_26_34 => first | assumption | (simp only [List.mem_append, List.mem_singleton]; simp [*])
  case hf_26_34 => first | assumption | exact va_up_self _ _ _ | (refine tf_u (by first | assumption | (apply Ne.symm; assumption) | (intro hh; subst hh; contradiction)) ?_; first | assumption | exact va_up_self _ _ _ | (refine tf_u (by first | assumption | (apply Ne.symm; assumption) | (intro hh; subst hh; contradiction)) ?_; first | assumption | exact va_up_self _ _ _ | (refine tf_u (by first | assumption | (apply Ne.symm; assumption) | (intro hh; subst hh; contradiction)) ?_; first | assumption | exact va_up_self _ _ _ | (refine tf_u (by first | assumption | (apply Ne.symm; assumption) | (intro hh; subst hh; contradiction)) ?_; first | assumption | exact va_up_self _ _ _ | (refine tf_u (by first | assumption | (apply Ne.symm; assumption) | (intro hh; subst hh; contradiction)) ?_; first | assumption | exact va_up_self _ _ _)))))
  case hl_26_34 => exact Nat.le_of_ble_eq_true rfl
  case hn_26_34 => rfl
  case ht_26_34 => rfl
  refine tf_blk _ b_Kerning_init_29 rfl ?_
  refine tf_newa (N := 40) (a0 := (40, .inl (fun _ => 0))) 34 0 d_Kerning_init_32 rfl rfl wa_int rfl (by decide) (by decide) (by decide) (fun _ => rfl) (fun q32 hq32 => ?_)
  have a_q32 : a ≠ q32 := fun hh => hq32 (hh ▸ (by simp [ha]))
  have n_q32 : q32 ∉ L := fun hh => hq32 (by simp [hh])
  have q7_q32 : q7 ≠ q32 := fun hh => hq32 (hh ▸ (by simp))
  have q15_q32 : q15 ≠ q32 := fun hh => hq32 (hh ▸ (by simp))
  have q24_q32 : q24 ≠ q32 := fun hh => hq32 (hh ▸ (by simp))
  refine tf_putF (fs := ?fs_34_36) 37 d_Kerning_init_34 rfl ff_Kerning_21 rfl ?ha_34_36 ?hf_34_36 ?hl_34_36 ?hn_34_36 ?ht_34_36 ?kk_34_36
  case ha_34_36 => first | assumption | (simp only [List.mem_append, List.mem_singleton]; simp [*])
  case hf_34_36 => first | assumption | exact va_up_self _ _ _ | (refine tf_u (by first | assumption | (apply Ne.symm; assumption) | (intro hh; subst hh; contradiction)) ?_; first | assumption | exact va_up_self _ _ _ | (refine tf_u (by first | assumption | (apply Ne.symm; assumption) | (intro hh; subst hh; contradiction)) ?_; first | assumption | exact va_up_self _ _ _ | (refine tf_u (by first | assumption | (apply Ne.symm; assumption) | (intro hh; subst hh; contradiction)) ?_; first | assumption | exact va_up_self _ _ _ | (refine tf_u (by first | assumption | (apply Ne.symm; assumption) | (intro hh; subst hh; contradiction)) ?_; first | assumption | exact va_up_self _ _ _ | (refine tf_u (by first | assumption | (apply Ne.symm; assumption) | (intro hh; subst hh; contradiction)) ?_; first | assumption | exact va_up_self _ _ _)))))
  case hl_34_36 => exact Nat.le_of_ble_eq_true rfl
  case hn_34_36 => rfl
  case ht_34_36 => rfl
  refine tf_blk _ b_Kerning_init_37 rfl ?_
  refine tf_newa (N := 40) (a0 := (40, .inl (fun _ => 0))) 42 0 d_Kerning_init_40 rfl rfl wa_int rfl (by decide) (by decide) (by decide) (fun _ => rfl) (fun q40 hq40 => ?_)
  have a_q40 : a ≠ q40 := fun hh => hq40 (hh ▸ (by simp [ha]))
  have n_q40 : q40 ∉ L := fun hh => hq40 (by simp [hh])
  have q7_q40 : q7 ≠ q40 := fun hh => hq40 (hh ▸ (by simp))
  have q15_q40 : q15 ≠ q40 := fun hh => hq40 (hh ▸ (by simp))
  have q24_q40 : q24 ≠ q40 := fun hh => hq40 (hh ▸ (by simp))
  have q32_q40 : q32 ≠ q40 := fun hh => hq40 (hh ▸ (by simp))
  refine tf_putF (fs := ?fs_42_38) 45 d_Kerning_init_42 rfl ff_Kerning_24 rfl ?ha_42_38 ?hf_42_38 ?hl_42_38 ?hn_42_38 ?ht_42_38 ?kk_42_38
  case ha_42_38 => first | assumption | (simp only [List.mem_append, List.mem_singleton]; simp [*])
  case hf_42_38 => first | assumption | exact va_up_self _ _ _ | (refine tf_u (by first | assumption | (apply Ne.symm; assumption) | (intro hh; subst hh; contradiction)) ?_; first | assumption | exact va_up_self _ _ _ | (refine tf_u (by first | assumption | (apply Ne.symm; assumption) | (intro hh; subst hh; contradiction)) ?_; first | assumption | exact va_up_self _ _ _ | (refine tf_u (by first | assumption | (apply Ne.symm; assumption) | (intro hh; subst hh; contradiction)) ?_; first | assumption | exact va_up_self _ _ _ | (refine tf_u (by first | assumption | (apply Ne.symm; assumption) | (intro hh; subst hh; contradiction)) ?_; first | assumption | exact va_up_self _ _ _ | (refine tf_u (by first | assumption | (apply Ne.symm; assumption) | (intro hh; subst hh; contradiction)) ?_; first | assumption | exact va_up_self _ _ _)))))
  case hl_42_38 => exact Nat.le_of_ble_eq_true rfl
  case hn_42_38 => rfl
  case ht_42_38 => rfl
  refine tf_blk _ b_Kerning_init_45 rfl ?_
  refine tf_newa (N := 40) (a0 := (40, .inl (fun _ => 0))) 50 0 d_Kerning_init_48 rfl rfl wa_int rfl (by decide) (by decide) (by decide) (fun _ => rfl) (fun q48 hq48 => ?_)
  have a_q48 : a ≠ q48 := fun hh => hq48 (hh ▸ (by simp [ha]))
  have n_q48 : q48 ∉ L := fun hh => hq48 (by simp [hh])
  have q7_q48 : q7 ≠ q48 := fun hh => hq48 (hh ▸ (by simp))
  have q15_q48 : q15 ≠ q48 := fun hh => hq48 (hh ▸ (by simp))
  have q24_q48 : q24 ≠ q48 := fun hh => hq48 (hh ▸ (by simp))
  have q32_q48 : q32 ≠ q48 := fun hh => hq48 (hh ▸ (by simp))
  have q40_q48 : q40 ≠ q48 := fun hh => hq48 (hh ▸ (by simp))
  refine tf_putF (fs := ?fs_50_40) 53 d_Kerning_init_50 rfl ff_Kerning_27 rfl ?ha_50_40 ?hf_50_40 ?hl_50_40 ?hn_50_40 ?ht_50_40 ?kk_50_40
  case ha_50_40 => first | assumption | (simp only [List.mem_append, List.mem_singleton]; simp [*])
  case hf_50_40 => first | assumption | exact va_up_self _ _ _ | (refine tf_u (by first | assumption | (apply Ne.symm; assumption) | (intro hh; subst hh; contradiction)) ?_; first | assumption | exact va_up_self _ _ _ | (refine tf_u (by first | assumption | (apply Ne.symm; assumption) | (intro hh; subst hh; contradiction)) ?_; first | assumption | exact va_up_self _ _ _ | (refine tf_u (by first | assumption | (apply Ne.symm; assumption) | (intro hh; subst hh; contradiction)) ?_; first | assumption | exact va_up_self _ _ _ | (refine tf_u (by first | assumption | (apply Ne.symm; assumption) | (intro hh; subst hh; contradiction)) ?_; first | assumption | exact va_up_self _ _ _ | (refine tf_u (by first | assumption | (apply Ne.symm; assumption) | (intro hh; subst hh; contradiction)) ?_; first | assumption | exact va_up_self _ _ _)))))
  case hl_50_40 => exact Nat.le_of_ble_eq_true rfl
  case hn_50_40 => rfl
  case ht_50_40 => rfl
  refine tf_vret d_Kerning_init_53 rfl ?_
  refine ⟨q7, q15, q24, q32, q40, q48, rfl, by simp, ?_, ?_, ?_, ?_, ?_⟩
  · simp only [List.forall_mem_cons, List.not_mem_nil, false_implies, implies_true, and_true]
    exact ⟨n_q7, n_q15, n_q24, n_q32, n_q40, n_q48⟩
  · simp only [List.map_cons, List.map_nil, List.nodup_cons, List.mem_cons, List.not_mem_nil, or_false, not_or, List.nodup_nil, and_true, not_false_eq_true]
    exact ⟨⟨q7_q15, q7_q24, q7_q32, q7_q40, q7_q48⟩, ⟨q15_q24, q15_q32, q15_q40, q15_q48⟩, ⟨q24_q32, q24_q40, q24_q48⟩, ⟨q32_q40, q32_q48⟩, q40_q48⟩
  · repeat (first | exact va_up_self _ _ _ | refine tf_u (by first | assumption | (apply Ne.symm; assumption)) ?_)
  · simp only [List.forall_mem_cons, List.not_mem_nil, false_implies, implies_true, and_true]
    refine ⟨?_, ?_, ?_, ?_, ?_, ?_⟩ <;> (repeat (first | exact va_up_self _ _ _ | refine tf_u (by first | assumption | (apply Ne.symm; assumption)) ?_))
  · intro z hz hza
    have z_q7 : z ≠ q7 := fun hh => n_q7 (hh ▸ hz)
    have z_q15 : z ≠ q15 := fun hh => n_q15 (hh ▸ hz)
    have z_q24 : z ≠ q24 := fun hh => n_q24 (hh ▸ hz)
    have z_q32 : z ≠ q32 := fun hh => n_q32 (hh ▸ hz)
    have z_q40 : z ≠ q40 := fun hh => n_q40 (hh ▸ hz)
    have z_q48 : z ≠ q48 := fun hh => n_q48 (hh ▸ hz)
    iterate 12 refine tf_u (by first | assumption | (apply Ne.symm; assumption)) ?_
    rfl
set_option maxHeartbeats 4000000 in
set_option maxRecDepth 100000 in
theorem c_Setter_init (hd : 1 ≤ d) {a : Nat} (ha : a ∈ L) (fa : f a = to 10 [.null, .int 0, .int 0, .int 0, .int 0, .null, .null]) : tf_C l (tf_H D q) d i_Setter_init [.ref a] L f 3 160 (fun v L2 f2 => ∃ q7 q15 q23 : Nat, tf_mk L f a [(q7, ti q 60 (fun _ => 0)), (q15, ti q 60 (fun _ => 0)), (q23, tr 7 q 40 (fun _ => none))] (to 10 [.ref q7, .int 0, .int 0, .int 0, .int 0, .ref q15, .ref q23]) v L2 f2) := by
  refine tf_C.of (tf_gok _ _) (by decide) w_175 (Nat.le_of_ble_eq_true rfl) ?_
  refine tf_blk _ b_Setter_init_0 rfl ?_
  refine tf_obj 4 d_Setter_init_1 rfl w_176 wi_obj wc_obj (by omega) (by decide) ?_
  refine tf_blk _ b_Setter_init_4 rfl ?_
  refine tf_newa (N := 60) (a0 := (60, .inl (fun _ => 0))) 9 0 d_Setter_init_7 rfl rfl wa_int rfl (by decide) (by decide) (by decide) (fun _ => rfl) (fun q7 hq7 => ?_)
  have a_q7 : a ≠ q7 := fun hh => hq7 (hh ▸ (by simp [ha]))
  have n_q7 : q7 ∉ L := fun hh => hq7 (by simp [hh])
  refine tf_putF (fs := ?fs_9_44) 12 d_Setter_init_9 rfl ff_Setter_9 rfl ?ha_9_44 ?hf_9_44 ?hl_9_44 ?hn_9_44 ?ht_9_44 ?kk_9_44
  case ha_9_44 => first | assumption | (simp only [List.mem_append, List.mem_singleton]; simp [*])
  case hf_9_44 => first | assumption | exact va_up_self _ _ _ | (refine tf_u (by first | assumption | (apply Ne.symm; assumption) | (intro hh; subst hh; contradiction)) ?_; first | assumption | exact va_up_self _ _ _ | (refine tf_u (by first | assumption | (apply Ne.symm; assumption) | (intro hh; subst hh; contradiction)) ?_; first | assumption | exact va_up_self _ _ _ | (refine tf_u (by first | assumption | (apply Ne.symm; assumption) | (intro hh; subst hh; contradiction)) ?_; first | assumption | exact va_up_self _ _ _ | (refine tf_u (by first | assumption | (apply Ne.symm; assumption) | (intro hh; subst hh; contradiction)) ?_; first | assumption | exact va_up_self _ _ _ | (refine tf_u (by first | assumption | (apply Ne.symm; assumption) | (intro hh; subst hh; contradiction)) ?_; first | assumption | exact va_up_self _ _ _)))))
  case hl_9_44 => exact Nat.le_of_ble_eq_true rfl
  case hn_9_44 => rfl
  case ht_9_44 => rfl
  refine tf_blk _ b_Setter_init_12 rfl ?_
  refine tf_newa (N := 60) (a0 := (60, .inl (fun _ => 0))) 17 0 d_Setter_init_15 rfl rfl wa_int rfl (by decide) (by decide) (by decide) (fun _ => rfl) (fun q15 hq15 => ?_)
  have a_q15 : a ≠ q15 := fun hh => hq15 (hh ▸ (by simp [ha]))
  have n_q15 : q15 ∉ L := fun hh => hq15 (by simp [hh])
  have q7_q15 : q7 ≠ q15 := fun hh => hq15 (hh ▸ (by simp))
  refine tf_putF (fs := ?fs_17_46) 20 d_Setter_init_17 rfl ff_Setter_15 rfl ?ha_17_46 ?hf_17_46 ?hl_17_46 ?hn_17_46 ?ht_17_46 ?kk_17_46
  case ha_17_46 => first | assumption | (simp only [List.mem_append, List.mem_singleton]; simp [*])
  case hf_17_46 => first | assumption | exact va_up_self _ _ _ | (refine tf_u (by first | assumption | (apply Ne.symm; assumption) | (intro hh; subst hh; contradiction)) ?_; first | assumption | exact va_up_self _ _ _ | (refine tf_u (by first | assumption | (apply Ne.symm; assumption) | (intro hh; subst hh; contradiction)) ?_; first | assumption | exact va_up_self _ _ _ | (refine tf_u (by first | assumption | (apply Ne.symm; assumption) | (intro hh; subst hh; contradiction)) ?_; first | assumption | exact va_up_self _ _ _ | (refine tf_u (by first | assumption | (apply Ne.symm; assumption) | (intro hh; subst hh; contradiction)) ?_; first | assumption | exact va_up_self _ _ _ | (refine tf_u (by first | assumption | (apply Ne.symm; assumption) | (intro hh; subst hh; contradiction)) ?_; first | assumption | exact va_up_self _ _ _)))))
  case hl_17_46 => exact Nat.le_of_ble_eq_true rfl
  case hn_17_46 => rfl
  case ht_17_46 => rfl
  refine tf_blk _ b_Setter_init_20 rfl ?_
  refine tf_newq (N := 40) 26 7 d_Setter_init_23 rfl w_177 wo_Rule rfl (by decide) (by decide) (by decide) (fun q23 hq23 => ?_)
  have a_q23 : a ≠ q23 := fun hh => hq23 (hh ▸ (by simp [ha]))
  have n_q23 : q23 ∉ L := fun hh => hq23 (by simp [hh])
  have q7_q23 : q7 ≠ q23 := fun hh => hq23 (hh ▸ (by simp))
  have q15_q23 : q15 ≠ q23 := fun hh => hq23 (hh ▸ (by simp))
  refine tf_putF (fs := ?fs_26_48) 29 d_Setter_init_26 rfl ff_Setter_20 rfl ?ha_26_48 ?hf_26_48 ?hl_26_48 ?hn_26_48 ?ht_26_48 ?kk_26_48
  case ha_26_48 => first | assumption | (simp only [List.mem_append, List.mem_singleton]; simp [*])
  case hf_26_48 => first | assumption | exact va_up_self _ _ _ | (refine tf_u (by first | assumption | (apply Ne.symm; assumption) | (intro hh; subst hh; contradiction)) ?_; first | assumption | exact va_up_self _ _ _ | (refine tf_u (by first | assumption | (apply Ne.symm; assumption) | (intro hh; subst hh; contradiction)) ?_; first | assumption | exact va_up_self _ _ _ | (refine tf_u (by first | assumption | (apply Ne.symm; assumption) | (intro hh; subst hh; contradiction)) ?_; first | assumption | exact va_up_self _ _ _ | (refine tf_u (by first | assumption | (apply Ne.symm; assumption) | (intro hh; subst hh; contradiction)) ?_; first | assumption | exact va_up_self _ _ _ | (refine tf_u (by first | assumption | (apply Ne.symm; assumption) | (intro hh; subst hh; contradiction)) ?_; first | assumption | exact va_up_self _ _ _)))))
  case hl_26_48 => exact Nat.le_of_ble_eq_true rfl
  case hn_26_48 => rfl
  case ht_26_48 => rfl
  refine tf_vret d_Setter_init_29 rfl ?_
  refine ⟨q7, q15, q23, rfl, by simp, ?_, ?_, ?_, ?_, ?_⟩
  · simp only [List.forall_mem_cons, List.not_mem_nil, false_implies, implies_true, and_true]
    exact ⟨n_q7, n_q15, n_q23⟩
  · simp only [List.map_cons, List.map_nil, List.nodup_cons, List.mem_cons, List.not_mem_nil, or_false, not_or, List.nodup_nil, and_true, not_false_eq_true]
    exact ⟨⟨q7_q15, q7_q23⟩, q15_q23⟩
  · repeat (first | exact va_up_self _ _ _ | refine tf_u (by first | assumption | (apply Ne.symm; assumption)) ?_)
  · simp only [List.forall_mem_cons, List.not_mem_nil, false_implies, implies_true, and_true]
    refine ⟨?_, ?_, ?_⟩ <;> (repeat (first | exact va_up_self _ _ _ | refine tf_u (by first | assumption | (apply Ne.symm; assumption)) ?_))
  · intro z hz hza
    have z_q7 : z ≠ q7 := fun hh => n_q7 (hh ▸ hz)
    have z_q15 : z ≠ q15 := fun hh => n_q15 (hh ▸ hz)
    have z_q23 : z ≠ q23 := fun hh => n_q23 (hh ▸ hz)
    iterate 6 refine tf_u (by first | assumption | (apply Ne.symm; assumption)) ?_
    rfl
set_option maxHeartbeats 4000000 in
set_option maxRecDepth 100000 in
theorem c_Blend_init (hd : 1 ≤ d) {a : Nat} (k : Int32) (ha : a ∈ L) (fa : f a = to 1 [.int 0, .int 0, .int 0]) : tf_C l (tf_H D q) d i_Blend_init [.ref a, .int k] L f 0 0 (fun v L2 f2 => tf_mk L f a [] (to 1 [.int k, .int 0, .int 0]) v L2 f2) := by
  refine tf_C.of (tf_gok _ _) (by decide) w_43 (Nat.le_of_ble_eq_true rfl) ?_
  refine tf_blk _ b_Blend_init_0 rfl ?_
  refine tf_obj 4 d_Blend_init_1 rfl w_44 wi_obj wc_obj (by omega) (by decide) ?_
  refine tf_blk _ b_Blend_init_4 rfl ?_
  refine tf_putF (fs := ?fs_6_51) 9 d_Blend_init_6 rfl ff_Blend_9 rfl ?ha_6_51 ?hf_6_51 ?hl_6_51 ?hn_6_51 ?ht_6_51 ?kk_6_51
  case ha_6_51 => first | assumption | (simp only [List.mem_append, List.mem_singleton]; simp [*])
  case hf_6_51 => first | assumption | exact va_up_self _ _ _ | (refine tf_u (by first | assumption | (apply Ne.symm; assumption) | (intro hh; subst hh; contradiction)) ?_; first | assumption | exact va_up_self _ _ _ | (refine tf_u (by first | assumption | (apply Ne.symm; assumption) | (intro hh; subst hh; contradiction)) ?_; first | assumption | exact va_up_self _ _ _ | (refine tf_u (by first | assumption | (apply Ne.symm; assumption) | (intro hh; subst hh; contradiction)) ?_; first | assumption | exact va_up_self _ _ _ | (refine tf_u (by first | assumption | (apply Ne.symm; assumption) | (intro hh; subst hh; contradiction)) ?_; first | assumption | exact va_up_self _ _ _ | (refine tf_u (by first | assumption | (apply Ne.symm; assumption) | (intro hh; subst hh; contradiction)) ?_; first | assumption | exact va_up_self _ _ _)))))
  case hl_6_51 => exact Nat.le_of_ble_eq_true rfl
  case hn_6_51 => rfl
  case ht_6_51 => rfl
  refine tf_vret d_Blend_init_9 rfl ?_
  refine ⟨rfl, by simp, ?_, ?_, ?_, ?_, ?_⟩
  · simp
  · simp
  · repeat (first | exact va_up_self _ _ _ | refine tf_u (by first | assumption | (apply Ne.symm; assumption)) ?_)
  · simp
  · intro z hz hza
    iterate 1 refine tf_u (by first | assumption | (apply Ne.symm; assumption)) ?_
    rfl
end
end
section
/-! the constructor of TypeFoundry -/
/-- cells qs have come (L2, f2) behind (L, f); but for x nothing that was there has changed -/
def tf_E (x : Nat) (L : List Nat) (f : tf_F) (qs : List (Nat × va_E)) (L2 : List Nat) (f2 : tf_F) : Prop :=
  L2 = L ++ qs.map Prod.fst ∧ (∀ q ∈ qs, q.1 ∉ L) ∧ (qs.map Prod.fst).Nodup ∧ (∀ q ∈ qs, f2 q.1 = q.2) ∧ ∀ z, z ∈ L → z ≠ x → f2 z = f z
theorem tf_E.rf {x : Nat} {L : List Nat} {f : tf_F} : tf_E x L f [] L f := ⟨by simp, fun _ h => (List.not_mem_nil h).elim, List.nodup_nil, fun _ h => (List.not_mem_nil h).elim, fun _ _ _ => rfl⟩
theorem tf_E.add {x : Nat} {L L1 L2 : List Nat} {f f1 f2 : tf_F} {qs rs : List (Nat × va_E)} (hx : x ∈ L) (h : tf_E x L f qs L1 f1) (hL : L2 = L1 ++ rs.map Prod.fst) (hn : ∀ q ∈ rs, q.1 ∉ L1) (hd : (rs.map Prod.fst).Nodup) (hc : ∀ q ∈ rs, f2 q.1 = q.2) (hf : ∀ z, z ∈ L1 → z ≠ x → f2 z = f1 z) : tf_E x L f (qs ++ rs) L2 f2 := by
  obtain ⟨h1, h2, h3, h4, h5⟩ := h
  refine ⟨by rw [hL, h1, List.map_append, List.append_assoc], fun q hq => ?_, ?_, fun q hq => ?_, fun z hz hzx => ?_⟩
  · rcases List.mem_append.mp hq with h | h
    · exact h2 q h
    · exact fun hh => hn q h (by rw [h1]; exact List.mem_append_left _ hh)
  · rw [List.map_append, List.nodup_append]
    refine ⟨h3, hd, fun a ha b hb hab => ?_⟩
    obtain ⟨r, hr, e⟩ := List.mem_map.mp hb
    exact hn r hr (by rw [h1, e, ← hab]; exact List.mem_append_right _ ha)
  · rcases List.mem_append.mp hq with h | h
    · have hm : q.1 ∈ L1 := by rw [h1]; exact List.mem_append_right _ (List.mem_map.mpr ⟨q, h, rfl⟩)
      rw [hf q.1 hm (fun e => h2 q h (e ▸ hx))]
      exact h4 q h
    · exact hc q h
  · rw [hf z (by rw [h1]; exact List.mem_append_left _ hz) hzx]
    exact h5 z hz hzx
theorem tf_E.x {x : Nat} {L L1 : List Nat} {f f1 : tf_F} {qs : List (Nat × va_E)} (hx : x ∈ L) (h : tf_E x L f qs L1 f1) : x ∈ L1 := by
  rw [h.1]; exact List.mem_append_left _ hx
/-- a new object, and its constructor -/
theorem tf_E.made {x : Nat} {L L1 L2 : List Nat} {f f1 f2 : tf_F} {qs rs : List (Nat × va_E)} {a : Nat} {e0 ob o : va_E} {v : Option Value} (hx : x ∈ L) (h : tf_E x L f qs L1 f1) (ha : a ∉ L1) (hm : tf_mk (L1 ++ [a]) (va_up f1 a e0) a rs ob v L2 f2) : tf_E x L f (qs ++ (a, ob) :: rs) L2 (va_up f2 x o) ∧ f2 x = f1 x ∧ v = none ∧ x ∈ L2 ∧ a ∈ L2 := by
  obtain ⟨m1, m2, m3, m4, m5, m6, m7⟩ := hm
  have hx1 := h.x hx
  have hxa : x ≠ a := fun e => ha (e ▸ hx1)
  have hax : a ≠ x := fun e => hxa e.symm
  have hrx : ∀ q ∈ rs, q.1 ≠ x := fun q hq e => m3 q hq (by rw [e]; exact List.mem_append_left _ hx1)
  refine ⟨h.add hx (by rw [m2, List.append_assoc]; rfl) (fun q hq => ?_) ?_ (fun q hq => ?_) (fun z hz hzx => ?_), ?_, m1, ?_, ?_⟩
  · rcases List.mem_cons.mp hq with e | hq
    · rw [e]; exact ha
    · exact fun hh => m3 q hq (List.mem_append_left _ hh)
  · rw [List.map_cons, List.nodup_cons]
    refine ⟨fun hh => ?_, m4⟩
    obtain ⟨r, hr, e⟩ := List.mem_map.mp hh
    exact m3 r hr (by rw [e]; exact List.mem_append_right _ (List.mem_singleton.mpr rfl))
  · rcases List.mem_cons.mp hq with e | hq
    · rw [e]; exact tf_u hax m5
    · exact tf_u (hrx q hq) (m6 q hq)
  · have hza : z ≠ a := fun e => ha (e ▸ hz)
    refine tf_u hzx ?_
    rw [m7 z (List.mem_append_left _ hz) hza]
    exact va_up_ne _ _ hza
  · rw [m7 x (List.mem_append_left _ hx1) hxa]
    exact va_up_ne _ _ hxa
  · rw [m2]; exact List.mem_append_left _ (List.mem_append_left _ hx1)
  · rw [m2]; exact List.mem_append_left _ (List.mem_append_right _ (List.mem_singleton.mpr rfl))
/-- a new cell alone -/
theorem tf_E.one {x : Nat} {L L1 : List Nat} {f f1 : tf_F} {qs : List (Nat × va_E)} {a : Nat} {ob o : va_E} (hx : x ∈ L) (h : tf_E x L f qs L1 f1) (ha : a ∉ L1) : tf_E x L f (qs ++ [(a, ob)]) (L1 ++ [a]) (va_up (va_up f1 a ob) x o) := by
  have hxa : a ≠ x := fun e => ha (e ▸ h.x hx)
  refine h.add hx rfl (fun q hq => ?_) (by simp) (fun q hq => ?_) (fun z hz hzx => ?_)
  · rw [List.mem_singleton.mp hq]; exact ha
  · rw [List.mem_singleton.mp hq]; exact tf_u hxa (va_up_self _ _ _)
  · exact tf_u hzx (va_up_ne _ _ (fun e => ha (e ▸ hz)))
section
variable (l : Launch) (D : va_G) (q : Nat → ClassId) (d : Nat) (L : List Nat) (f : tf_F)
/-- what a new object is: its cells by their addresses -/
def tf_new0 (q : Nat → ClassId) (k : Int32) (ad : Nat → Nat) : List (Nat × va_E) := [(ad 1, to 1 [.int k, .int 0, .int 0]), (ad 2, tr 5 q 40 (fun _ => none)), (ad 3, to 6 [.ref (ad 4), .ref (ad 5), .ref (ad 6), .ref (ad 7), .int 0, .ref (ad 8), .int 0]), (ad 4, ti q 160 (fun _ => 0)), (ad 5, ti q 160 (fun _ => 0)), (ad 6, tz q 160 (fun _ => 0)), (ad 7, ti q 54 (fun _ => 0)), (ad 8, ti q 160 (fun _ => 0)), (ad 9, to 8 [.ref (ad 10), .ref (ad 11), .int 0]), (ad 10, ti q 320 (fun _ => 0)), (ad 11, ti q 320 (fun _ => 0)), (ad 12, to 4 [.int 0, .ref (ad 13)]), (ad 13, ti q 8 (fun _ => 0)), (ad 14, to 2 [.ref (ad 15), .int (kI 32), .int 0]), (ad 15, ti q 4096 (fun _ => 0)), (ad 16, to 5 [.int 0, .ref (ad 17), .ref (ad 18), .ref (ad 19), .ref (ad 20), .ref (ad 21), .ref (ad 22)]), (ad 17, ti q 40 (fun _ => 0)), (ad 18, ti q 40 (fun _ => 0)), (ad 19, ti q 256 (fun _ => 0)), (ad 20, ti q 40 (fun _ => 0)), (ad 21, ti q 40 (fun _ => 0)), (ad 22, ti q 40 (fun _ => 0)), (ad 23, to 10 [.ref (ad 24), .int 0, .int 0, .int 0, .int 0, .ref (ad 25), .ref (ad 26)]), (ad 24, ti q 60 (fun _ => 0)), (ad 25, ti q 60 (fun _ => 0)), (ad 26, tr 7 q 40 (fun _ => none))]
def tf_ob0 (ad : Nat → Nat) : va_E := to 0 [.ref (ad 1), .ref (ad 2), .ref (ad 3), .ref (ad 9), .ref (ad 12), .ref (ad 14), .ref (ad 16), .ref (ad 23), .int 0]
set_option maxHeartbeats 4000000 in
set_option maxRecDepth 100000 in
theorem t_Tf_init (hd : 2 ≤ d) {x bl : Nat} {k k0 : Int32} (hx : x ∈ L) (fx0 : f x = to 0 [.null, .null, .null, .null, .null, .null, .null, .null, .int 0]) (hbl : bl ∉ L) : tf_W l (tf_H D q) tf_T (tf_QM (tf_H D q) (fun v L2 f2 => ∃ ad : Nat → Nat, v = none ∧ tf_E x L f (tf_new0 q k ad) L2 f2 ∧ f2 x = tf_ob0 ad)) d i_Tf_init 24 [(0, .ref x), (1, .int k0)] [.int k, .ref bl, .ref bl, .ref x] (L ++ [bl]) (va_up f bl (to 1 [.int 0, .int 0, .int 0])) 25 6123 := by
  have E0 : tf_E x L f [] L f := tf_E.rf
  refine tf_cI (tf_gok _ _) (c_Blend_init l D q (d - 1) _ _ (by omega) _ (List.mem_append_right _ (List.mem_singleton.mpr rfl)) (va_up_self _ _ _)) 27 d_Tf_init_24 rfl lk_Tf_11 cw_Blend_init (by rfl) in_Blend_init rfl (by omega) (by exact Nat.le_of_ble_eq_true rfl) rfl ?_
  rintro v24 L24 f24 hm24
  obtain ⟨E1, gx24, rfl, mx24, ma24⟩ := tf_E.made (o := (to 0 [.ref bl, .null, .null, .null, .null, .null, .null, .null, .int 0])) hx E0 hbl hm24
  refine tf_putF (fs := ?fs_27_2) 30 d_Tf_init_27 rfl ff_Tf_14 rfl ?ha_27_2 ?hf_27_2 ?hl_27_2 ?hn_27_2 ?ht_27_2 ?kk_27_2
  case ha_27_2 => exact mx24
  case hf_27_2 => (rw [gx24]; assumption)
  case hl_27_2 => exact Nat.le_of_ble_eq_true rfl
  case hn_27_2 => rfl
  case ht_27_2 => rfl
  refine tf_blk _ b_Tf_init_30 rfl ?_
  refine tf_newq (N := 40) 36 5 d_Tf_init_33 rfl w_56 wo_Glyph rfl (by decide) (by decide) (by decide) (fun gl hgl => ?_)
  have E2 := tf_E.one (ob := tr 5 q 40 (fun _ => none)) (o := (to 0 [.ref bl, .ref gl, .null, .null, .null, .null, .null, .null, .int 0])) hx E1 hgl
  have mx33 : x ∈ L24 ++ [gl] := List.mem_append_left _ mx24
  have fx33 : x ≠ gl := fun e => hgl (e ▸ mx24)
  refine tf_putF (fs := ?fs_36_4) 39 d_Tf_init_36 rfl ff_Tf_20 rfl ?ha_36_4 ?hf_36_4 ?hl_36_4 ?hn_36_4 ?ht_36_4 ?kk_36_4
  case ha_36_4 => exact mx33
  case hf_36_4 => first | assumption | exact va_up_self _ _ _ | (refine tf_u (by first | assumption | (apply Ne.symm; assumption) | (intro hh; subst hh; contradiction)) ?_; first | assumption | exact va_up_self _ _ _ | (refine tf_u (by first | assumption | (apply Ne.symm; assumption) | (intro hh; subst hh; contradiction)) ?_; first | assumption | exact va_up_self _ _ _ | (refine tf_u (by first | assumption | (apply Ne.symm; assumption) | (intro hh; subst hh; contradiction)) ?_; first | assumption | exact va_up_self _ _ _ | (refine tf_u (by first | assumption | (apply Ne.symm; assumption) | (intro hh; subst hh; contradiction)) ?_; first | assumption | exact va_up_self _ _ _ | (refine tf_u (by first | assumption | (apply Ne.symm; assumption) | (intro hh; subst hh; contradiction)) ?_; first | assumption | exact va_up_self _ _ _)))))
  case hl_36_4 => exact Nat.le_of_ble_eq_true rfl
  case hn_36_4 => rfl
  case ht_36_4 => rfl
  refine tf_blk _ b_Tf_init_39 rfl ?_
  refine tf_new (N := 7) 43 d_Tf_init_40 rfl nl_Tf_24 (fun ou hou => ?_)
  refine tf_blk _ b_Tf_init_43 rfl ?_
  refine tf_cIN (tf_gok _ _) (c_Outline_init l D q (d - 1) _ _ (by omega) (List.mem_append_right _ (List.mem_singleton.mpr rfl)) (va_up_self _ _ _)) 47 d_Tf_init_44 rfl lk_Tf_26 cw_Outline_init (by rfl) in_Outline_init rfl (by omega) (by exact Nat.le_of_ble_eq_true rfl) rfl ?_
  rintro v44 L44 f44 ⟨ou0, ou1, ou2, ou3, ou4, hm44⟩
  obtain ⟨E3, gx44, rfl, mx44, ma44⟩ := tf_E.made (o := (to 0 [.ref bl, .ref gl, .ref ou, .null, .null, .null, .null, .null, .int 0])) hx E2 hou hm44
  refine tf_putF (fs := ?fs_47_7) 50 d_Tf_init_47 rfl ff_Tf_27 rfl ?ha_47_7 ?hf_47_7 ?hl_47_7 ?hn_47_7 ?ht_47_7 ?kk_47_7
  case ha_47_7 => exact mx44
  case hf_47_7 => (rw [gx44]; exact va_up_self _ _ _)
  case hl_47_7 => exact Nat.le_of_ble_eq_true rfl
  case hn_47_7 => rfl
  case ht_47_7 => rfl
  refine tf_blk _ b_Tf_init_50 rfl ?_
  refine tf_new (N := 3) 54 d_Tf_init_51 rfl nl_Tf_31 (fun pa hpa => ?_)
  refine tf_blk _ b_Tf_init_54 rfl ?_
  refine tf_cIN (tf_gok _ _) (c_Path_init l D q (d - 1) _ _ (by omega) (List.mem_append_right _ (List.mem_singleton.mpr rfl)) (va_up_self _ _ _)) 58 d_Tf_init_55 rfl lk_Tf_33 cw_Path_init (by rfl) in_Path_init rfl (by omega) (by exact Nat.le_of_ble_eq_true rfl) rfl ?_
  rintro v55 L55 f55 ⟨pa0, pa1, hm55⟩
  obtain ⟨E4, gx55, rfl, mx55, ma55⟩ := tf_E.made (o := (to 0 [.ref bl, .ref gl, .ref ou, .ref pa, .null, .null, .null, .null, .int 0])) hx E3 hpa hm55
  refine tf_putF (fs := ?fs_58_10) 61 d_Tf_init_58 rfl ff_Tf_34 rfl ?ha_58_10 ?hf_58_10 ?hl_58_10 ?hn_58_10 ?ht_58_10 ?kk_58_10
  case ha_58_10 => exact mx55
  case hf_58_10 => (rw [gx55]; exact va_up_self _ _ _)
  case hl_58_10 => exact Nat.le_of_ble_eq_true rfl
  case hn_58_10 => rfl
  case ht_58_10 => rfl
  refine tf_blk _ b_Tf_init_61 rfl ?_
  refine tf_new (N := 2) 65 d_Tf_init_62 rfl nl_Tf_38 (fun he hhe => ?_)
  refine tf_blk _ b_Tf_init_65 rfl ?_
  refine tf_cIN (tf_gok _ _) (c_Heights_init l D q (d - 1) _ _ (by omega) (List.mem_append_right _ (List.mem_singleton.mpr rfl)) (va_up_self _ _ _)) 69 d_Tf_init_66 rfl lk_Tf_40 cw_Heights_init (by rfl) in_Heights_init rfl (by omega) (by exact Nat.le_of_ble_eq_true rfl) rfl ?_
  rintro v66 L66 f66 ⟨he0, hm66⟩
  obtain ⟨E5, gx66, rfl, mx66, ma66⟩ := tf_E.made (o := (to 0 [.ref bl, .ref gl, .ref ou, .ref pa, .ref he, .null, .null, .null, .int 0])) hx E4 hhe hm66
  refine tf_putF (fs := ?fs_69_13) 72 d_Tf_init_69 rfl ff_Tf_41 rfl ?ha_69_13 ?hf_69_13 ?hl_69_13 ?hn_69_13 ?ht_69_13 ?kk_69_13
  case ha_69_13 => exact mx66
  case hf_69_13 => (rw [gx66]; exact va_up_self _ _ _)
  case hl_69_13 => exact Nat.le_of_ble_eq_true rfl
  case hn_69_13 => rfl
  case ht_69_13 => rfl
  refine tf_blk _ b_Tf_init_72 rfl ?_
  refine tf_new (N := 3) 76 d_Tf_init_73 rfl nl_Tf_45 (fun ca hca => ?_)
  refine tf_blk _ b_Tf_init_76 rfl ?_
  refine tf_cIN (tf_gok _ _) (c_Canvas_init l D q (d - 1) _ _ (by omega) (List.mem_append_right _ (List.mem_singleton.mpr rfl)) (va_up_self _ _ _)) 80 d_Tf_init_77 rfl lk_Tf_47 cw_Canvas_init (by rfl) in_Canvas_init rfl (by omega) (by exact Nat.le_of_ble_eq_true rfl) rfl ?_
  rintro v77 L77 f77 ⟨ca0, hm77⟩
  obtain ⟨E6, gx77, rfl, mx77, ma77⟩ := tf_E.made (o := (to 0 [.ref bl, .ref gl, .ref ou, .ref pa, .ref he, .ref ca, .null, .null, .int 0])) hx E5 hca hm77
  refine tf_putF (fs := ?fs_80_16) 83 d_Tf_init_80 rfl ff_Tf_48 rfl ?ha_80_16 ?hf_80_16 ?hl_80_16 ?hn_80_16 ?ht_80_16 ?kk_80_16
  case ha_80_16 => exact mx77
  case hf_80_16 => (rw [gx77]; exact va_up_self _ _ _)
  case hl_80_16 => exact Nat.le_of_ble_eq_true rfl
  case hn_80_16 => rfl
  case ht_80_16 => rfl
  refine tf_blk _ b_Tf_init_83 rfl ?_
  refine tf_new (N := 7) 87 d_Tf_init_84 rfl nl_Tf_52 (fun ke hke => ?_)
  refine tf_blk _ b_Tf_init_87 rfl ?_
  refine tf_cIN (tf_gok _ _) (c_Kerning_init l D q (d - 1) _ _ (by omega) (List.mem_append_right _ (List.mem_singleton.mpr rfl)) (va_up_self _ _ _)) 91 d_Tf_init_88 rfl lk_Tf_54 cw_Kerning_init (by rfl) in_Kerning_init rfl (by omega) (by exact Nat.le_of_ble_eq_true rfl) rfl ?_
  rintro v88 L88 f88 ⟨ke0, ke1, ke2, ke3, ke4, ke5, hm88⟩
  obtain ⟨E7, gx88, rfl, mx88, ma88⟩ := tf_E.made (o := (to 0 [.ref bl, .ref gl, .ref ou, .ref pa, .ref he, .ref ca, .ref ke, .null, .int 0])) hx E6 hke hm88
  refine tf_putF (fs := ?fs_91_19) 94 d_Tf_init_91 rfl ff_Tf_55 rfl ?ha_91_19 ?hf_91_19 ?hl_91_19 ?hn_91_19 ?ht_91_19 ?kk_91_19
  case ha_91_19 => exact mx88
  case hf_91_19 => (rw [gx88]; exact va_up_self _ _ _)
  case hl_91_19 => exact Nat.le_of_ble_eq_true rfl
  case hn_91_19 => rfl
  case ht_91_19 => rfl
  refine tf_blk _ b_Tf_init_94 rfl ?_
  refine tf_new (N := 7) 98 d_Tf_init_95 rfl nl_Tf_59 (fun se hse => ?_)
  refine tf_blk _ b_Tf_init_98 rfl ?_
  refine tf_cIN (tf_gok _ _) (c_Setter_init l D q (d - 1) _ _ (by omega) (List.mem_append_right _ (List.mem_singleton.mpr rfl)) (va_up_self _ _ _)) 102 d_Tf_init_99 rfl lk_Tf_61 cw_Setter_init (by rfl) in_Setter_init rfl (by omega) (by exact Nat.le_of_ble_eq_true rfl) rfl ?_
  rintro v99 L99 f99 ⟨se0, se1, se2, hm99⟩
  obtain ⟨E8, gx99, rfl, mx99, ma99⟩ := tf_E.made (o := (to 0 [.ref bl, .ref gl, .ref ou, .ref pa, .ref he, .ref ca, .ref ke, .ref se, .int 0])) hx E7 hse hm99
  refine tf_putF (fs := ?fs_102_22) 105 d_Tf_init_102 rfl ff_Tf_62 rfl ?ha_102_22 ?hf_102_22 ?hl_102_22 ?hn_102_22 ?ht_102_22 ?kk_102_22
  case ha_102_22 => exact mx99
  case hf_102_22 => (rw [gx99]; exact va_up_self _ _ _)
  case hl_102_22 => exact Nat.le_of_ble_eq_true rfl
  case hn_102_22 => rfl
  case ht_102_22 => rfl
  refine tf_vret d_Tf_init_105 rfl ?_
  exact ⟨(fun n => [x, bl, gl, ou, ou0, ou1, ou2, ou3, ou4, pa, pa0, pa1, he, he0, ca, ca0, ke, ke0, ke1, ke2, ke3, ke4, ke5, se, se0, se1, se2].getD n 0), rfl, E8, va_up_self _ _ _⟩
def tw_ms (k : Int32) : Int32 := if k = kI 2 ∨ k = kI 4 then k else kI 1
set_option maxHeartbeats 4000000 in
set_option maxRecDepth 100000 in
theorem c_Tf_init (hd : 2 ≤ d) {x : Nat} {k : Int32} (hx : x ∈ L) (fx0 : f x = to 0 [.null, .null, .null, .null, .null, .null, .null, .null, .int 0]) : tf_C l (tf_H D q) d i_Tf_init [.ref x, .int k] L f 26 6126 (fun v L2 f2 => ∃ ad : Nat → Nat, v = none ∧ tf_E x L f (tf_new0 q (tw_ms k) ad) L2 f2 ∧ f2 x = tf_ob0 ad) := by
  refine tf_C.of (tf_gok _ _) (by decide) w_35 (Nat.le_of_ble_eq_true rfl) ?_
  refine tf_blk _ b_Tf_init_0 rfl ?_
  refine tf_obj 4 d_Tf_init_1 rfl w_36 wi_obj wc_obj (by omega) (by decide) ?_
  refine tf_blk _ b_Tf_init_4 rfl ?_
  refine tf_new (N := 3) 8 d_Tf_init_5 rfl nl_Tf_9 (fun bl hbl => ?_)
  refine tf_blk _ b_Tf_init_8 rfl ?_
  refine tf_ic_eq 19 14 d_Tf_init_11 rfl rfl (fun h11 => ?_) (fun h11 => ?_)
  · refine tf_blk _ b_Tf_init_19 rfl ?_
    refine tf_goto 24 d_Tf_init_20 rfl ?_
    first
      | (rw [show tw_ms k = k from if_pos (Or.inl h11)]; exact t_Tf_init l D q d L f hd hx fx0 hbl)
      | (rw [show tw_ms k = k from if_pos (Or.inr (by assumption))]; exact t_Tf_init l D q d L f hd hx fx0 hbl)
      | (rw [show tw_ms k = kI 1 from if_neg (fun z => z.elim h11 (by assumption))]; exact t_Tf_init l D q d L f hd hx fx0 hbl)
  · refine tf_blk _ b_Tf_init_14 rfl ?_
    refine tf_ic_ne 23 19 d_Tf_init_16 rfl rfl (fun h16 => ?_) (fun h16 => ?_)
    · refine tf_blk _ b_Tf_init_23 rfl ?_
      first
        | (rw [show tw_ms k = k from if_pos (Or.inl h11)]; exact t_Tf_init l D q d L f hd hx fx0 hbl)
        | (rw [show tw_ms k = k from if_pos (Or.inr (by assumption))]; exact t_Tf_init l D q d L f hd hx fx0 hbl)
        | (rw [show tw_ms k = kI 1 from if_neg (fun z => z.elim h11 (by assumption))]; exact t_Tf_init l D q d L f hd hx fx0 hbl)
    · refine tf_blk _ b_Tf_init_19 rfl ?_
      refine tf_goto 24 d_Tf_init_20 rfl ?_
      first
        | (rw [show tw_ms k = k from if_pos (Or.inl h11)]; exact t_Tf_init l D q d L f hd hx fx0 hbl)
        | (rw [show tw_ms k = k from if_pos (Or.inr (by assumption))]; exact t_Tf_init l D q d L f hd hx fx0 hbl)
        | (rw [show tw_ms k = kI 1 from if_neg (fun z => z.elim h11 (by assumption))]; exact t_Tf_init l D q d L f hd hx fx0 hbl)
end
end
section
/-! the reference's object: its world, and rows over it -/
def tm_tab : List (Nat × Nat) := [(9, 0), (9, 0), (9, 0), (0, 6400), (3, 1600), (0, 40), (0, 40), (0, 40), (0, 160), (1, 40), (0, 40), (0, 40), (0, 40), (0, 160), (0, 160), (0, 160), (0, 160), (9, 0), (9, 0), (0, 160), (0, 160), (1, 160), (0, 160), (9, 0), (9, 0), (0, 6), (0, 6), (9, 0), (9, 0), (0, 8), (9, 0), (0, 4096), (9, 0), (9, 0), (9, 0), (3, 40), (3, 40), (4, 256), (1, 256), (0, 40), (0, 40), (9, 0), (0, 40), (0, 40), (0, 40), (2, 40), (0, 40), (9, 0), (9, 0), (0, 60), (9, 0), (0, 60), (9, 0), (9, 0), (9, 0)]
def tm_kd (k : Nat) : Nat × Nat := tm_tab.getD k (9, 0)
def tm_F (ad : Nat → Nat) (J : Nat → Int32) : List Value := [.int (J 0), .int (J 1), .int (J 2), .ref (ad 3), .ref (ad 4), .ref (ad 5), .ref (ad 6), .ref (ad 7), .ref (ad 8), .ref (ad 9), .ref (ad 10), .ref (ad 11), .ref (ad 12), .ref (ad 13), .ref (ad 14), .ref (ad 15), .ref (ad 16), .int (J 17), .int (J 18), .ref (ad 19), .ref (ad 20), .ref (ad 21), .ref (ad 22), .int (J 23), .int (J 24), .ref (ad 25), .ref (ad 26), .int (J 27), .int (J 28), .ref (ad 29), .int (J 30), .ref (ad 31), .int (J 32), .int (J 33), .int (J 34), .ref (ad 35), .ref (ad 36), .ref (ad 37), .ref (ad 38), .ref (ad 39), .ref (ad 40), .int (J 41), .ref (ad 42), .ref (ad 43), .ref (ad 44), .ref (ad 45), .ref (ad 46), .int (J 47), .int (J 48), .ref (ad 49), .int (J 50), .ref (ad 51), .int (J 52), .int (J 53), .int (J 54)]
def tm_ar (q : Nat → ClassId) (k : Nat) (g : Nat → Int32) (R : Nat → Int64) : va_E := if (tm_kd k).1 = 2 then tj q (tm_kd k).2 R else .inl (q (tm_kd k).1, (tm_kd k).2, .inl g)
def tm_own (ad : Nat → Nat) (m z : Nat) : Prop := z = m ∨ ∃ k, (tm_kd k).1 ≠ 9 ∧ z = ad k
/-- the object at m with its arrays at ad: the ints J, the arrays A, the longs R -/
def tm_ok (q : Nat → ClassId) (ad : Nat → Nat) (m : Nat) (J : Nat → Int32) (A : Nat → Nat → Int32) (R : Nat → Int64) (L : List Nat) (f : tf_F) : Prop :=
  m ∈ L ∧ f m = to 11 (tm_F ad J) ∧ (∀ k, (tm_kd k).1 ≠ 9 → ad k ∈ L ∧ f (ad k) = tm_ar q k (A k) R) ∧ ∀ i j, (tm_kd i).1 ≠ 9 → (tm_kd j).1 ≠ 9 → ad i = ad j → i = j
/-- the world of a walk: the object, and all else as in W0 -/
def tm_at (q : Nat → ClassId) (ad : Nat → Nat) (m : Nat) (W0 : tf_F) (L : List Nat) (J : Nat → Int32) (A : Nat → Nat → Int32) (R : Nat → Int64) (f : tf_F) : Prop :=
  tm_ok q ad m J A R L f ∧ ∀ z, ¬ tm_own ad m z → f z = W0 z
section
variable {q : Nat → ClassId} {ad : Nat → Nat} {m : Nat} {W0 : tf_F} {L : List Nat} {J : Nat → Int32} {A : Nat → Nat → Int32} {R : Nat → Int64} {f : tf_F}
theorem tm_inl (k : Nat) (g : Nat → Int32) (R : Nat → Int64) : ∃ z, tm_ar q k g R = .inl z := by
  unfold tm_ar
  split
  · exact ⟨_, rfl⟩
  · exact ⟨_, rfl⟩
theorem tm_ne (h : tm_ok q ad m J A R L f) {k : Nat} (hk : (tm_kd k).1 ≠ 9) : ad k ≠ m := by
  intro e
  obtain ⟨h1, h2, h3, h4⟩ := h
  have := (h3 k hk).2
  rw [e, h2] at this
  obtain ⟨z, hz⟩ := tm_inl (q := q) k (A k) R
  rw [hz] at this
  cases this
theorem tm_put_ok (h : tm_at q ad m W0 L J A R f) {J2 : Nat → Int32} : tm_at q ad m W0 L J2 A R (va_up f m (to 11 (tm_F ad J2))) := by
  obtain ⟨h0, hw⟩ := h
  obtain ⟨h1, h2, h3, h4⟩ := id h0
  refine ⟨⟨h1, va_up_self _ _ _, fun k hk => ⟨(h3 k hk).1, tf_u (tm_ne h0 hk) (h3 k hk).2⟩, h4⟩, fun z hz => tf_u (fun e => hz (Or.inl e)) (hw z hz)⟩
theorem tm_ast_ok (h : tm_at q ad m W0 L J A R f) {k : Nat} (hk : (tm_kd k).1 ≠ 9) (h2 : (tm_kd k).1 ≠ 2) {g : Nat → Int32} : tm_at q ad m W0 L J (va_up A k g) R (va_up f (ad k) (tm_ar q k g R)) := by
  obtain ⟨h0, hw⟩ := h
  obtain ⟨h1, hm, h3, h4⟩ := id h0
  refine ⟨⟨h1, tf_u (fun e => tm_ne h0 hk e.symm) hm, fun j hj => ⟨(h3 j hj).1, ?_⟩, h4⟩, fun z hz => tf_u (fun e => hz (Or.inr ⟨k, hk, e⟩)) (hw z hz)⟩
  by_cases e : j = k
  · subst e
    rw [va_up_self, va_up_self]
  · rw [va_up_ne A g e]
    exact tf_u (fun e2 => e (h4 j k hj hk e2)) (h3 j hj).2
theorem tm_only2 : ∀ j, (tm_kd j).1 = 2 → j = 45 := by
  intro j h
  by_cases hj : j < 55
  · revert h
    revert j
    decide +kernel
  · have : tm_kd j = (9, 0) := by
      unfold tm_kd
      have h9 : tm_tab[j]? = none := List.getElem?_eq_none (by show 55 ≤ j; omega)
      rw [List.getD_eq_getElem?_getD, h9]
      rfl
    rw [this] at h
    cases h
theorem tm_last_ok (h : tm_at q ad m W0 L J A R f) {R2 : Nat → Int64} : tm_at q ad m W0 L J A R2 (va_up f (ad 45) (tm_ar q 45 (A 45) R2)) := by
  obtain ⟨h0, hw⟩ := h
  obtain ⟨h1, hm, h3, h4⟩ := id h0
  have hk : (tm_kd 45).1 ≠ 9 := by decide
  refine ⟨⟨h1, tf_u (fun e => tm_ne h0 hk e.symm) hm, fun j hj => ⟨(h3 j hj).1, ?_⟩, h4⟩, fun z hz => tf_u (fun e => hz (Or.inr ⟨45, hk, e⟩)) (hw z hz)⟩
  by_cases e : j = 45
  · subst e
    exact va_up_self _ _ _
  · refine tf_u (fun e2 => e (h4 j 45 hj hk e2)) ?_
    rw [(h3 j hj).2]
    have : ¬ (tm_kd j).1 = 2 := fun z => e (tm_only2 j z)
    unfold tm_ar
    rw [if_neg this, if_neg this]
theorem tm_arI (h : tm_at q ad m W0 L J A R f) {k t n : Nat} (hk : tm_kd k = (t, n)) (ht : t ≠ 9) (h2 : t ≠ 2) : ad k ∈ L ∧ f (ad k) = .inl (q t, n, .inl (A k)) := by
  have hk1 : (tm_kd k).1 ≠ 9 := by rw [hk]; exact ht
  have := h.1.2.2.1 k hk1
  refine ⟨this.1, this.2.trans ?_⟩
  unfold tm_ar
  rw [hk, if_neg h2]
theorem tm_arJ (h : tm_at q ad m W0 L J A R f) : ad 45 ∈ L ∧ f (ad 45) = tj q 40 R := by
  have := h.1.2.2.1 45 (by decide)
  exact ⟨this.1, this.2.trans rfl⟩
variable {l : Launch} {D : va_G} {EX : State → (Nat → Prop) → Prop} {QB : tf_B} {d : Nat} {i : tf_I} {pc : Nat} {lv : tf_V} {st : List Value} {kc ks : Nat}
theorem tm_get {ix k : Nat} {v : Value} (nxt : Nat) (hd : decode i.2.1 pc = .ok (.getfield ix, 3)) (hn : pc + 3 = nxt) (hF : tf_fl (tf_H D q) i.1.cls ix 11 k) (hT : tm_at q ad m W0 L J A R f) (hv : (tm_F ad J)[k]? = some v) (kk : tf_W l (tf_H D q) EX QB d i nxt lv (v :: st) L f kc ks) : tf_W l (tf_H D q) EX QB d i pc lv (.ref m :: st) L f kc ks :=
  tf_get nxt hd hn hF hT.1.1 hT.1.2.1 hv kk
theorem tm_put {ix k : Nat} {v : Int32} {ty : FieldType} (nxt : Nat) (hd : decode i.2.1 pc = .ok (.putfield ix, 3)) (hn : pc + 3 = nxt) (hF : tf_fw (tf_H D q) i.1.cls ix 11 k ty) (hT : tm_at q ad m W0 L J A R f) (hk : k < 55) (hs : (tm_F ad J).set k (.int v) = tm_F ad (upd J k v)) (hna : narrow ty (.int v) = .int v) (hfi : fits ty (.int v) = true) (kk : ∀ f2 : tf_F, tm_at q ad m W0 L (upd J k v) A R f2 → tf_W l (tf_H D q) EX QB d i nxt lv st L f2 kc ks) : tf_W l (tf_H D q) EX QB d i pc lv (.int v :: .ref m :: st) L f kc ks := by
  refine tf_put nxt hd hn hF hT.1.1 hT.1.2.1 hk hna hfi ?_
  rw [hs]
  exact kk _ (tm_put_ok hT)
theorem tm_iald {n : Nat} {x : Int32} (k nxt : Nat) (hd : decode i.2.1 pc = .ok (.iaload, 1)) (hn : pc + 1 = nxt) (hT : tm_at q ad m W0 L J A R f) (hk : tm_kd k = (0, n)) (hin : vp_in x n) (kk : tf_W l (tf_H D q) EX QB d i nxt lv (.int (A k x.toNatClampNeg) :: st) L f kc ks) : tf_W l (tf_H D q) EX QB d i pc lv (.int x :: .ref (ad k) :: st) L f kc ks :=
  tf_iald nxt 0 hd hn rfl (tm_arI hT hk (by decide) (by decide)).1 (tm_arI hT hk (by decide) (by decide)).2 hin kk
theorem tm_zald {n : Nat} {x : Int32} (k nxt : Nat) (hd : decode i.2.1 pc = .ok (.baload, 1)) (hn : pc + 1 = nxt) (hT : tm_at q ad m W0 L J A R f) (hk : tm_kd k = (1, n)) (hin : vp_in x n) (kk : tf_W l (tf_H D q) EX QB d i nxt lv (.int (A k x.toNatClampNeg) :: st) L f kc ks) : tf_W l (tf_H D q) EX QB d i pc lv (.int x :: .ref (ad k) :: st) L f kc ks :=
  tf_zald nxt 1 hd hn rfl (tm_arI hT hk (by decide) (by decide)).1 (tm_arI hT hk (by decide) (by decide)).2 hin kk
theorem tm_bald {n : Nat} {x : Int32} (k nxt : Nat) (hd : decode i.2.1 pc = .ok (.baload, 1)) (hn : pc + 1 = nxt) (hT : tm_at q ad m W0 L J A R f) (hk : tm_kd k = (3, n)) (hin : vp_in x n) (kk : tf_W l (tf_H D q) EX QB d i nxt lv (.int (A k x.toNatClampNeg) :: st) L f kc ks) : tf_W l (tf_H D q) EX QB d i pc lv (.int x :: .ref (ad k) :: st) L f kc ks :=
  tf_bald nxt 3 hd hn rfl (tm_arI hT hk (by decide) (by decide)).1 (tm_arI hT hk (by decide) (by decide)).2 hin kk
theorem tm_sald {n : Nat} {x : Int32} (k nxt : Nat) (hd : decode i.2.1 pc = .ok (.saload, 1)) (hn : pc + 1 = nxt) (hT : tm_at q ad m W0 L J A R f) (hk : tm_kd k = (4, n)) (hin : vp_in x n) (kk : tf_W l (tf_H D q) EX QB d i nxt lv (.int (A k x.toNatClampNeg) :: st) L f kc ks) : tf_W l (tf_H D q) EX QB d i pc lv (.int x :: .ref (ad k) :: st) L f kc ks :=
  tf_sald nxt 4 hd hn rfl (tm_arI hT hk (by decide) (by decide)).1 (tm_arI hT hk (by decide) (by decide)).2 hin kk
theorem tm_lald {x : Int32} (nxt : Nat) (hd : decode i.2.1 pc = .ok (.laload, 1)) (hn : pc + 1 = nxt) (hT : tm_at q ad m W0 L J A R f) (hin : vp_in x 40) (kk : tf_W l (tf_H D q) EX QB d i nxt lv (.long (R x.toNatClampNeg) :: st) L f kc ks) : tf_W l (tf_H D q) EX QB d i pc lv (.int x :: .ref (ad 45) :: st) L f kc ks :=
  tf_lald nxt 2 hd hn rfl (tm_arJ hT).1 (tm_arJ hT).2 hin kk
theorem tm_lastr {x : Int32} {v : Int64} (nxt : Nat) (hd : decode i.2.1 pc = .ok (.lastore, 1)) (hn : pc + 1 = nxt) (hT : tm_at q ad m W0 L J A R f) (hin : vp_in x 40) (kk : ∀ f2 : tf_F, tm_at q ad m W0 L J A (vp_updL R x.toNatClampNeg v) f2 → tf_W l (tf_H D q) EX QB d i nxt lv st L f2 kc ks) : tf_W l (tf_H D q) EX QB d i pc lv (.long v :: .int x :: .ref (ad 45) :: st) L f kc ks :=
  tf_last nxt 2 hd hn rfl (tm_arJ hT).1 (tm_arJ hT).2 hin (kk _ (tm_last_ok hT))
theorem tm_iast {n : Nat} {x v : Int32} (k nxt : Nat) (hd : decode i.2.1 pc = .ok (.iastore, 1)) (hn : pc + 1 = nxt) (hT : tm_at q ad m W0 L J A R f) (hk : tm_kd k = (0, n)) (hin : vp_in x n) (kk : ∀ f2 : tf_F, tm_at q ad m W0 L J (va_up A k (upd (A k) x.toNatClampNeg v)) R f2 → tf_W l (tf_H D q) EX QB d i nxt lv st L f2 kc ks) : tf_W l (tf_H D q) EX QB d i pc lv (.int v :: .int x :: .ref (ad k) :: st) L f kc ks := by
  refine tf_iast nxt 0 hd hn rfl (tm_arI hT hk (by decide) (by decide)).1 (tm_arI hT hk (by decide) (by decide)).2 hin ?_
  have h9 := tm_ast_ok hT (k := k) (by rw [hk]; exact (by decide : (0 : Nat) ≠ 9)) (by rw [hk]; exact (by decide : (0 : Nat) ≠ 2)) (g := upd (A k) x.toNatClampNeg v)
  have e9 : tm_ar q k (upd (A k) x.toNatClampNeg v) R = .inl (q 0, n, .inl (upd (A k) x.toNatClampNeg v)) := by
    unfold tm_ar
    rw [hk, if_neg (show ¬ (0 : Nat) = 2 by decide)]
  rw [e9] at h9
  exact kk _ h9
theorem tm_zast {n : Nat} {x v : Int32} (k nxt : Nat) (hd : decode i.2.1 pc = .ok (.bastore, 1)) (hn : pc + 1 = nxt) (hT : tm_at q ad m W0 L J A R f) (hk : tm_kd k = (1, n)) (hin : vp_in x n) (kk : ∀ f2 : tf_F, tm_at q ad m W0 L J (va_up A k (upd (A k) x.toNatClampNeg (vp_nar .boolean v))) R f2 → tf_W l (tf_H D q) EX QB d i nxt lv st L f2 kc ks) : tf_W l (tf_H D q) EX QB d i pc lv (.int v :: .int x :: .ref (ad k) :: st) L f kc ks := by
  refine tf_zast nxt 1 hd hn rfl (tm_arI hT hk (by decide) (by decide)).1 (tm_arI hT hk (by decide) (by decide)).2 hin ?_
  have h9 := tm_ast_ok hT (k := k) (by rw [hk]; exact (by decide : (1 : Nat) ≠ 9)) (by rw [hk]; exact (by decide : (1 : Nat) ≠ 2)) (g := upd (A k) x.toNatClampNeg (vp_nar .boolean v))
  have e9 : tm_ar q k (upd (A k) x.toNatClampNeg (vp_nar .boolean v)) R = .inl (q 1, n, .inl (upd (A k) x.toNatClampNeg (vp_nar .boolean v))) := by
    unfold tm_ar
    rw [hk, if_neg (show ¬ (1 : Nat) = 2 by decide)]
  rw [e9] at h9
  exact kk _ h9
theorem tm_bast {n : Nat} {x v : Int32} (k nxt : Nat) (hd : decode i.2.1 pc = .ok (.bastore, 1)) (hn : pc + 1 = nxt) (hT : tm_at q ad m W0 L J A R f) (hk : tm_kd k = (3, n)) (hin : vp_in x n) (kk : ∀ f2 : tf_F, tm_at q ad m W0 L J (va_up A k (upd (A k) x.toNatClampNeg (vp_nar .byte v))) R f2 → tf_W l (tf_H D q) EX QB d i nxt lv st L f2 kc ks) : tf_W l (tf_H D q) EX QB d i pc lv (.int v :: .int x :: .ref (ad k) :: st) L f kc ks := by
  refine tf_bast nxt 3 hd hn rfl (tm_arI hT hk (by decide) (by decide)).1 (tm_arI hT hk (by decide) (by decide)).2 hin ?_
  have h9 := tm_ast_ok hT (k := k) (by rw [hk]; exact (by decide : (3 : Nat) ≠ 9)) (by rw [hk]; exact (by decide : (3 : Nat) ≠ 2)) (g := upd (A k) x.toNatClampNeg (vp_nar .byte v))
  have e9 : tm_ar q k (upd (A k) x.toNatClampNeg (vp_nar .byte v)) R = .inl (q 3, n, .inl (upd (A k) x.toNatClampNeg (vp_nar .byte v))) := by
    unfold tm_ar
    rw [hk, if_neg (show ¬ (3 : Nat) = 2 by decide)]
  rw [e9] at h9
  exact kk _ h9
theorem tm_sast {n : Nat} {x v : Int32} (k nxt : Nat) (hd : decode i.2.1 pc = .ok (.sastore, 1)) (hn : pc + 1 = nxt) (hT : tm_at q ad m W0 L J A R f) (hk : tm_kd k = (4, n)) (hin : vp_in x n) (kk : ∀ f2 : tf_F, tm_at q ad m W0 L J (va_up A k (upd (A k) x.toNatClampNeg (vp_nar .short v))) R f2 → tf_W l (tf_H D q) EX QB d i nxt lv st L f2 kc ks) : tf_W l (tf_H D q) EX QB d i pc lv (.int v :: .int x :: .ref (ad k) :: st) L f kc ks := by
  refine tf_sast nxt 4 hd hn rfl (tm_arI hT hk (by decide) (by decide)).1 (tm_arI hT hk (by decide) (by decide)).2 hin ?_
  have h9 := tm_ast_ok hT (k := k) (by rw [hk]; exact (by decide : (4 : Nat) ≠ 9)) (by rw [hk]; exact (by decide : (4 : Nat) ≠ 2)) (g := upd (A k) x.toNatClampNeg (vp_nar .short v))
  have e9 : tm_ar q k (upd (A k) x.toNatClampNeg (vp_nar .short v)) R = .inl (q 4, n, .inl (upd (A k) x.toNatClampNeg (vp_nar .short v))) := by
    unfold tm_ar
    rw [hk, if_neg (show ¬ (4 : Nat) = 2 by decide)]
  rw [e9] at h9
  exact kk _ h9
end
end
