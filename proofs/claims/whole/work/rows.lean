section
-- ===== PART A: goes FIRST, ahead of the names: the tables' words, and 'selects' of the private methods out of them =====
/-- a private method of a class that the tables say can be made, by its rows of tables_1 -/
def lw_okq (q : MethodName × Nat) : Prop := (q.1.cls ≠ "java/lang/invoke/MethodHandle" ∧ q.1.cls ≠ "java/lang/invoke/VarHandle") ∧ Cond.instantiable q.1.cls q.2 ∈ tables_1 ∧ Cond.privateMethod q.1 ∈ tables_1 ∧ Cond.instanceMethod q.1 ∈ tables_1
theorem lw_p0 : lw_okq (⟨"Reelrescue$DirtMending", "isDirty", "(III)Z"⟩, 1) := ⟨⟨by decide +kernel, by decide +kernel⟩, List.mem_of_getElem? (i := 348) (by decide +kernel), List.mem_of_getElem? (i := 346) (by decide +kernel), List.mem_of_getElem? (i := 347) (by decide +kernel)⟩
theorem lw_p1 : lw_okq (⟨"Reelrescue$Edition", "change", "(IJ)Z"⟩, 4) := ⟨⟨by decide +kernel, by decide +kernel⟩, List.mem_of_getElem? (i := 69) (by decide +kernel), List.mem_of_getElem? (i := 374) (by decide +kernel), List.mem_of_getElem? (i := 375) (by decide +kernel)⟩
theorem lw_p2 : lw_okq (⟨"Reelrescue", "reelNumbered", "(I)LReelrescue$Reel;"⟩, 10) := ⟨⟨by decide +kernel, by decide +kernel⟩, List.mem_of_getElem? (i := 24) (by decide +kernel), List.mem_of_getElem? (i := 433) (by decide +kernel), List.mem_of_getElem? (i := 434) (by decide +kernel)⟩
theorem lw_p3 : lw_okq (⟨"java/lang/Throwable", "fillInStackTrace", "(I)Ljava/lang/Throwable;"⟩, 6) := ⟨⟨by decide +kernel, by decide +kernel⟩, List.mem_of_getElem? (i := 478) (by decide +kernel), List.mem_of_getElem? (i := 476) (by decide +kernel), List.mem_of_getElem? (i := 477) (by decide +kernel)⟩
theorem lw_p4 : lw_okq (⟨"Reelrescue", "guessedParent", "(I)I"⟩, 10) := ⟨⟨by decide +kernel, by decide +kernel⟩, List.mem_of_getElem? (i := 24) (by decide +kernel), List.mem_of_getElem? (i := 640) (by decide +kernel), List.mem_of_getElem? (i := 641) (by decide +kernel)⟩
theorem lw_p5 : lw_okq (⟨"Reelrescue", "versionNumbered", "(I)LReelrescue$Version;"⟩, 10) := ⟨⟨by decide +kernel, by decide +kernel⟩, List.mem_of_getElem? (i := 24) (by decide +kernel), List.mem_of_getElem? (i := 714) (by decide +kernel), List.mem_of_getElem? (i := 715) (by decide +kernel)⟩
theorem lw_p6 : lw_okq (⟨"Reelrescue", "codesThatCanBeRead", "(LReelrescue$Version;)I"⟩, 10) := ⟨⟨by decide +kernel, by decide +kernel⟩, List.mem_of_getElem? (i := 24) (by decide +kernel), List.mem_of_getElem? (i := 743) (by decide +kernel), List.mem_of_getElem? (i := 744) (by decide +kernel)⟩
theorem lw_p7 : lw_okq (⟨"Reelrescue", "bestReelWith", "(I)I"⟩, 10) := ⟨⟨by decide +kernel, by decide +kernel⟩, List.mem_of_getElem? (i := 24) (by decide +kernel), List.mem_of_getElem? (i := 747) (by decide +kernel), List.mem_of_getElem? (i := 748) (by decide +kernel)⟩
theorem lw_p8 : lw_okq (⟨"Reelrescue", "takeCode", "(I)V"⟩, 10) := ⟨⟨by decide +kernel, by decide +kernel⟩, List.mem_of_getElem? (i := 24) (by decide +kernel), List.mem_of_getElem? (i := 830) (by decide +kernel), List.mem_of_getElem? (i := 831) (by decide +kernel)⟩
theorem lw_p9 : lw_okq (⟨"Reelrescue", "editionFrameAt", "(I)LReelrescue$EditionFrame;"⟩, 10) := ⟨⟨by decide +kernel, by decide +kernel⟩, List.mem_of_getElem? (i := 24) (by decide +kernel), List.mem_of_getElem? (i := 854) (by decide +kernel), List.mem_of_getElem? (i := 855) (by decide +kernel)⟩
theorem lw_p10 : lw_okq (⟨"ReelrescueModel", "isReel", "(I)Z"⟩, 49) := ⟨⟨by decide +kernel, by decide +kernel⟩, List.mem_of_getElem? (i := 936) (by decide +kernel), List.mem_of_getElem? (i := 1099) (by decide +kernel), List.mem_of_getElem? (i := 1100) (by decide +kernel)⟩
theorem lw_p11 : lw_okq (⟨"ReelrescueModel", "in", "(III)Z"⟩, 49) := ⟨⟨by decide +kernel, by decide +kernel⟩, List.mem_of_getElem? (i := 936) (by decide +kernel), List.mem_of_getElem? (i := 1103) (by decide +kernel), List.mem_of_getElem? (i := 1104) (by decide +kernel)⟩
theorem lw_p12 : lw_okq (⟨"ReelrescueModel", "holds", "(I)Z"⟩, 49) := ⟨⟨by decide +kernel, by decide +kernel⟩, List.mem_of_getElem? (i := 936) (by decide +kernel), List.mem_of_getElem? (i := 1107) (by decide +kernel), List.mem_of_getElem? (i := 1108) (by decide +kernel)⟩
theorem lw_p13 : lw_okq (⟨"ReelrescueModel", "adds", "(IIIII)I"⟩, 49) := ⟨⟨by decide +kernel, by decide +kernel⟩, List.mem_of_getElem? (i := 936) (by decide +kernel), List.mem_of_getElem? (i := 1111) (by decide +kernel), List.mem_of_getElem? (i := 1112) (by decide +kernel)⟩
theorem lw_p14 : lw_okq (⟨"ReelrescueModel", "isFrame", "(II)Z"⟩, 49) := ⟨⟨by decide +kernel, by decide +kernel⟩, List.mem_of_getElem? (i := 936) (by decide +kernel), List.mem_of_getElem? (i := 1124) (by decide +kernel), List.mem_of_getElem? (i := 1125) (by decide +kernel)⟩
theorem lw_p15 : lw_okq (⟨"ReelrescueModel", "rate", "(I)I"⟩, 49) := ⟨⟨by decide +kernel, by decide +kernel⟩, List.mem_of_getElem? (i := 936) (by decide +kernel), List.mem_of_getElem? (i := 1132) (by decide +kernel), List.mem_of_getElem? (i := 1133) (by decide +kernel)⟩
def lw_privs_1 : List (MethodName × Nat) := [(⟨"Reelrescue$DirtMending", "isDirty", "(III)Z"⟩, 1), (⟨"Reelrescue$Edition", "change", "(IJ)Z"⟩, 4), (⟨"Reelrescue", "reelNumbered", "(I)LReelrescue$Reel;"⟩, 10), (⟨"java/lang/Throwable", "fillInStackTrace", "(I)Ljava/lang/Throwable;"⟩, 6), (⟨"Reelrescue", "guessedParent", "(I)I"⟩, 10), (⟨"Reelrescue", "versionNumbered", "(I)LReelrescue$Version;"⟩, 10), (⟨"Reelrescue", "codesThatCanBeRead", "(LReelrescue$Version;)I"⟩, 10), (⟨"Reelrescue", "bestReelWith", "(I)I"⟩, 10), (⟨"Reelrescue", "takeCode", "(I)V"⟩, 10), (⟨"Reelrescue", "editionFrameAt", "(I)LReelrescue$EditionFrame;"⟩, 10), (⟨"ReelrescueModel", "isReel", "(I)Z"⟩, 49), (⟨"ReelrescueModel", "in", "(III)Z"⟩, 49), (⟨"ReelrescueModel", "holds", "(I)Z"⟩, 49), (⟨"ReelrescueModel", "adds", "(IIIII)I"⟩, 49), (⟨"ReelrescueModel", "isFrame", "(II)Z"⟩, 49), (⟨"ReelrescueModel", "rate", "(I)I"⟩, 49)]
theorem lw_r1 : ∀ q ∈ lw_privs_1, lw_okq q := List.forall_mem_cons.mpr ⟨lw_p0, List.forall_mem_cons.mpr ⟨lw_p1, List.forall_mem_cons.mpr ⟨lw_p2, List.forall_mem_cons.mpr ⟨lw_p3, List.forall_mem_cons.mpr ⟨lw_p4, List.forall_mem_cons.mpr ⟨lw_p5, List.forall_mem_cons.mpr ⟨lw_p6, List.forall_mem_cons.mpr ⟨lw_p7, List.forall_mem_cons.mpr ⟨lw_p8, List.forall_mem_cons.mpr ⟨lw_p9, List.forall_mem_cons.mpr ⟨lw_p10, List.forall_mem_cons.mpr ⟨lw_p11, List.forall_mem_cons.mpr ⟨lw_p12, List.forall_mem_cons.mpr ⟨lw_p13, List.forall_mem_cons.mpr ⟨lw_p14, List.forall_mem_cons.mpr ⟨lw_p15, fun _ h => absurd h List.not_mem_nil⟩⟩⟩⟩⟩⟩⟩⟩⟩⟩⟩⟩⟩⟩⟩⟩
theorem lw_p16 : lw_okq (⟨"ReelrescueModel", "isGood", "(I)Z"⟩, 49) := ⟨⟨by decide +kernel, by decide +kernel⟩, List.mem_of_getElem? (i := 936) (by decide +kernel), List.mem_of_getElem? (i := 1140) (by decide +kernel), List.mem_of_getElem? (i := 1141) (by decide +kernel)⟩
theorem lw_p17 : lw_okq (⟨"ReelrescueModel", "jumps", "(I)I"⟩, 49) := ⟨⟨by decide +kernel, by decide +kernel⟩, List.mem_of_getElem? (i := 936) (by decide +kernel), List.mem_of_getElem? (i := 1148) (by decide +kernel), List.mem_of_getElem? (i := 1149) (by decide +kernel)⟩
theorem lw_p18 : lw_okq (⟨"ReelrescueModel", "missing", "(I)I"⟩, 49) := ⟨⟨by decide +kernel, by decide +kernel⟩, List.mem_of_getElem? (i := 936) (by decide +kernel), List.mem_of_getElem? (i := 1152) (by decide +kernel), List.mem_of_getElem? (i := 1153) (by decide +kernel)⟩
theorem lw_p19 : lw_okq (⟨"ReelrescueModel", "marks", "(I[Z)V"⟩, 49) := ⟨⟨by decide +kernel, by decide +kernel⟩, List.mem_of_getElem? (i := 936) (by decide +kernel), List.mem_of_getElem? (i := 1156) (by decide +kernel), List.mem_of_getElem? (i := 1157) (by decide +kernel)⟩
theorem lw_p20 : lw_okq (⟨"ReelrescueModel", "count", "([Z)I"⟩, 49) := ⟨⟨by decide +kernel, by decide +kernel⟩, List.mem_of_getElem? (i := 936) (by decide +kernel), List.mem_of_getElem? (i := 1160) (by decide +kernel), List.mem_of_getElem? (i := 1161) (by decide +kernel)⟩
theorem lw_p21 : lw_okq (⟨"ReelrescueModel", "faults", "(I)I"⟩, 49) := ⟨⟨by decide +kernel, by decide +kernel⟩, List.mem_of_getElem? (i := 936) (by decide +kernel), List.mem_of_getElem? (i := 1164) (by decide +kernel), List.mem_of_getElem? (i := 1165) (by decide +kernel)⟩
theorem lw_p22 : lw_okq (⟨"ReelrescueModel", "faulty", "(I[Z)V"⟩, 49) := ⟨⟨by decide +kernel, by decide +kernel⟩, List.mem_of_getElem? (i := 936) (by decide +kernel), List.mem_of_getElem? (i := 1168) (by decide +kernel), List.mem_of_getElem? (i := 1169) (by decide +kernel)⟩
theorem lw_p23 : lw_okq (⟨"ReelrescueModel", "parentOf", "(I)I"⟩, 49) := ⟨⟨by decide +kernel, by decide +kernel⟩, List.mem_of_getElem? (i := 936) (by decide +kernel), List.mem_of_getElem? (i := 1172) (by decide +kernel), List.mem_of_getElem? (i := 1173) (by decide +kernel)⟩
theorem lw_p24 : lw_okq (⟨"ReelrescueModel", "isWithin", "()Z"⟩, 49) := ⟨⟨by decide +kernel, by decide +kernel⟩, List.mem_of_getElem? (i := 936) (by decide +kernel), List.mem_of_getElem? (i := 1176) (by decide +kernel), List.mem_of_getElem? (i := 1177) (by decide +kernel)⟩
theorem lw_p25 : lw_okq (⟨"ReelrescueModel", "pairs", "(II)I"⟩, 49) := ⟨⟨by decide +kernel, by decide +kernel⟩, List.mem_of_getElem? (i := 936) (by decide +kernel), List.mem_of_getElem? (i := 1188) (by decide +kernel), List.mem_of_getElem? (i := 1189) (by decide +kernel)⟩
theorem lw_p26 : lw_okq (⟨"ReelrescueModel", "isPair", "(IIII)Z"⟩, 49) := ⟨⟨by decide +kernel, by decide +kernel⟩, List.mem_of_getElem? (i := 936) (by decide +kernel), List.mem_of_getElem? (i := 1192) (by decide +kernel), List.mem_of_getElem? (i := 1193) (by decide +kernel)⟩
theorem lw_p27 : lw_okq (⟨"ReelrescueModel", "apart", "(JJ)I"⟩, 49) := ⟨⟨by decide +kernel, by decide +kernel⟩, List.mem_of_getElem? (i := 936) (by decide +kernel), List.mem_of_getElem? (i := 1196) (by decide +kernel), List.mem_of_getElem? (i := 1197) (by decide +kernel)⟩
theorem lw_p28 : lw_okq (⟨"ReelrescueModel", "point", "(JI)I"⟩, 49) := ⟨⟨by decide +kernel, by decide +kernel⟩, List.mem_of_getElem? (i := 936) (by decide +kernel), List.mem_of_getElem? (i := 1200) (by decide +kernel), List.mem_of_getElem? (i := 1201) (by decide +kernel)⟩
theorem lw_p29 : lw_okq (⟨"ReelrescueModel", "isVersion", "(I)Z"⟩, 49) := ⟨⟨by decide +kernel, by decide +kernel⟩, List.mem_of_getElem? (i := 936) (by decide +kernel), List.mem_of_getElem? (i := 1222) (by decide +kernel), List.mem_of_getElem? (i := 1223) (by decide +kernel)⟩
theorem lw_p30 : lw_okq (⟨"ReelrescueModel", "codes", "(I)I"⟩, 49) := ⟨⟨by decide +kernel, by decide +kernel⟩, List.mem_of_getElem? (i := 936) (by decide +kernel), List.mem_of_getElem? (i := 1226) (by decide +kernel), List.mem_of_getElem? (i := 1227) (by decide +kernel)⟩
theorem lw_p31 : lw_okq (⟨"ReelrescueModel", "isShot", "(II)Z"⟩, 49) := ⟨⟨by decide +kernel, by decide +kernel⟩, List.mem_of_getElem? (i := 936) (by decide +kernel), List.mem_of_getElem? (i := 1238) (by decide +kernel), List.mem_of_getElem? (i := 1239) (by decide +kernel)⟩
def lw_privs_2 : List (MethodName × Nat) := [(⟨"ReelrescueModel", "isGood", "(I)Z"⟩, 49), (⟨"ReelrescueModel", "jumps", "(I)I"⟩, 49), (⟨"ReelrescueModel", "missing", "(I)I"⟩, 49), (⟨"ReelrescueModel", "marks", "(I[Z)V"⟩, 49), (⟨"ReelrescueModel", "count", "([Z)I"⟩, 49), (⟨"ReelrescueModel", "faults", "(I)I"⟩, 49), (⟨"ReelrescueModel", "faulty", "(I[Z)V"⟩, 49), (⟨"ReelrescueModel", "parentOf", "(I)I"⟩, 49), (⟨"ReelrescueModel", "isWithin", "()Z"⟩, 49), (⟨"ReelrescueModel", "pairs", "(II)I"⟩, 49), (⟨"ReelrescueModel", "isPair", "(IIII)Z"⟩, 49), (⟨"ReelrescueModel", "apart", "(JJ)I"⟩, 49), (⟨"ReelrescueModel", "point", "(JI)I"⟩, 49), (⟨"ReelrescueModel", "isVersion", "(I)Z"⟩, 49), (⟨"ReelrescueModel", "codes", "(I)I"⟩, 49), (⟨"ReelrescueModel", "isShot", "(II)Z"⟩, 49)]
theorem lw_r2 : ∀ q ∈ lw_privs_2, lw_okq q := List.forall_mem_cons.mpr ⟨lw_p16, List.forall_mem_cons.mpr ⟨lw_p17, List.forall_mem_cons.mpr ⟨lw_p18, List.forall_mem_cons.mpr ⟨lw_p19, List.forall_mem_cons.mpr ⟨lw_p20, List.forall_mem_cons.mpr ⟨lw_p21, List.forall_mem_cons.mpr ⟨lw_p22, List.forall_mem_cons.mpr ⟨lw_p23, List.forall_mem_cons.mpr ⟨lw_p24, List.forall_mem_cons.mpr ⟨lw_p25, List.forall_mem_cons.mpr ⟨lw_p26, List.forall_mem_cons.mpr ⟨lw_p27, List.forall_mem_cons.mpr ⟨lw_p28, List.forall_mem_cons.mpr ⟨lw_p29, List.forall_mem_cons.mpr ⟨lw_p30, List.forall_mem_cons.mpr ⟨lw_p31, fun _ h => absurd h List.not_mem_nil⟩⟩⟩⟩⟩⟩⟩⟩⟩⟩⟩⟩⟩⟩⟩⟩
theorem lw_p32 : lw_okq (⟨"ReelrescueModel", "had", "(I)I"⟩, 49) := ⟨⟨by decide +kernel, by decide +kernel⟩, List.mem_of_getElem? (i := 936) (by decide +kernel), List.mem_of_getElem? (i := 1246) (by decide +kernel), List.mem_of_getElem? (i := 1247) (by decide +kernel)⟩
theorem lw_p33 : lw_okq (⟨"ReelrescueModel", "reelFor", "(I)I"⟩, 49) := ⟨⟨by decide +kernel, by decide +kernel⟩, List.mem_of_getElem? (i := 936) (by decide +kernel), List.mem_of_getElem? (i := 1250) (by decide +kernel), List.mem_of_getElem? (i := 1251) (by decide +kernel)⟩
theorem lw_p34 : lw_okq (⟨"ReelrescueModel", "firstOf", "(II)I"⟩, 49) := ⟨⟨by decide +kernel, by decide +kernel⟩, List.mem_of_getElem? (i := 936) (by decide +kernel), List.mem_of_getElem? (i := 1254) (by decide +kernel), List.mem_of_getElem? (i := 1255) (by decide +kernel)⟩
theorem lw_p35 : lw_okq (⟨"ReelrescueModel", "lasts", "(I)I"⟩, 49) := ⟨⟨by decide +kernel, by decide +kernel⟩, List.mem_of_getElem? (i := 936) (by decide +kernel), List.mem_of_getElem? (i := 1258) (by decide +kernel), List.mem_of_getElem? (i := 1259) (by decide +kernel)⟩
theorem lw_p36 : lw_okq (⟨"ReelrescueModel", "isPlace", "(I)Z"⟩, 49) := ⟨⟨by decide +kernel, by decide +kernel⟩, List.mem_of_getElem? (i := 936) (by decide +kernel), List.mem_of_getElem? (i := 1290) (by decide +kernel), List.mem_of_getElem? (i := 1291) (by decide +kernel)⟩
theorem lw_p37 : lw_okq (⟨"ReelrescueModel", "keep", "()V"⟩, 49) := ⟨⟨by decide +kernel, by decide +kernel⟩, List.mem_of_getElem? (i := 936) (by decide +kernel), List.mem_of_getElem? (i := 1302) (by decide +kernel), List.mem_of_getElem? (i := 1303) (by decide +kernel)⟩
theorem lw_p38 : lw_okq (⟨"ReelrescueModel", "hasBoth", "(I)Z"⟩, 49) := ⟨⟨by decide +kernel, by decide +kernel⟩, List.mem_of_getElem? (i := 936) (by decide +kernel), List.mem_of_getElem? (i := 1306) (by decide +kernel), List.mem_of_getElem? (i := 1307) (by decide +kernel)⟩
theorem lw_p39 : lw_okq (⟨"ReelrescueModel", "isFree", "(I)Z"⟩, 49) := ⟨⟨by decide +kernel, by decide +kernel⟩, List.mem_of_getElem? (i := 936) (by decide +kernel), List.mem_of_getElem? (i := 1310) (by decide +kernel), List.mem_of_getElem? (i := 1311) (by decide +kernel)⟩
theorem lw_p40 : lw_okq (⟨"ReelrescueModel", "cleaned", "(II)J"⟩, 49) := ⟨⟨by decide +kernel, by decide +kernel⟩, List.mem_of_getElem? (i := 936) (by decide +kernel), List.mem_of_getElem? (i := 1314) (by decide +kernel), List.mem_of_getElem? (i := 1315) (by decide +kernel)⟩
theorem lw_p41 : lw_okq (⟨"ReelrescueModel", "between", "(II)I"⟩, 49) := ⟨⟨by decide +kernel, by decide +kernel⟩, List.mem_of_getElem? (i := 936) (by decide +kernel), List.mem_of_getElem? (i := 1318) (by decide +kernel), List.mem_of_getElem? (i := 1319) (by decide +kernel)⟩
theorem lw_p42 : lw_okq (⟨"ReelrescueModel", "set", "(JII)J"⟩, 49) := ⟨⟨by decide +kernel, by decide +kernel⟩, List.mem_of_getElem? (i := 936) (by decide +kernel), List.mem_of_getElem? (i := 1322) (by decide +kernel), List.mem_of_getElem? (i := 1323) (by decide +kernel)⟩
theorem lw_p43 : lw_okq (⟨"ReelrescueModel", "changes", "(IJ)I"⟩, 49) := ⟨⟨by decide +kernel, by decide +kernel⟩, List.mem_of_getElem? (i := 936) (by decide +kernel), List.mem_of_getElem? (i := 1328) (by decide +kernel), List.mem_of_getElem? (i := 1329) (by decide +kernel)⟩
theorem lw_p44 : lw_okq (⟨"ReelrescueModel", "unlike", "(JJ)I"⟩, 49) := ⟨⟨by decide +kernel, by decide +kernel⟩, List.mem_of_getElem? (i := 936) (by decide +kernel), List.mem_of_getElem? (i := 1332) (by decide +kernel), List.mem_of_getElem? (i := 1333) (by decide +kernel)⟩
theorem lw_p45 : lw_okq (⟨"ReelrescueModel", "levelled", "(I)J"⟩, 49) := ⟨⟨by decide +kernel, by decide +kernel⟩, List.mem_of_getElem? (i := 936) (by decide +kernel), List.mem_of_getElem? (i := 1344) (by decide +kernel), List.mem_of_getElem? (i := 1345) (by decide +kernel)⟩
theorem lw_p46 : lw_okq (⟨"ReelrescueModel", "sumOf", "(J)I"⟩, 49) := ⟨⟨by decide +kernel, by decide +kernel⟩, List.mem_of_getElem? (i := 936) (by decide +kernel), List.mem_of_getElem? (i := 1348) (by decide +kernel), List.mem_of_getElem? (i := 1349) (by decide +kernel)⟩
theorem lw_p47 : lw_okq (⟨"ReelrescueModel", "isLast", "(I)Z"⟩, 49) := ⟨⟨by decide +kernel, by decide +kernel⟩, List.mem_of_getElem? (i := 936) (by decide +kernel), List.mem_of_getElem? (i := 1356) (by decide +kernel), List.mem_of_getElem? (i := 1357) (by decide +kernel)⟩
def lw_privs_3 : List (MethodName × Nat) := [(⟨"ReelrescueModel", "had", "(I)I"⟩, 49), (⟨"ReelrescueModel", "reelFor", "(I)I"⟩, 49), (⟨"ReelrescueModel", "firstOf", "(II)I"⟩, 49), (⟨"ReelrescueModel", "lasts", "(I)I"⟩, 49), (⟨"ReelrescueModel", "isPlace", "(I)Z"⟩, 49), (⟨"ReelrescueModel", "keep", "()V"⟩, 49), (⟨"ReelrescueModel", "hasBoth", "(I)Z"⟩, 49), (⟨"ReelrescueModel", "isFree", "(I)Z"⟩, 49), (⟨"ReelrescueModel", "cleaned", "(II)J"⟩, 49), (⟨"ReelrescueModel", "between", "(II)I"⟩, 49), (⟨"ReelrescueModel", "set", "(JII)J"⟩, 49), (⟨"ReelrescueModel", "changes", "(IJ)I"⟩, 49), (⟨"ReelrescueModel", "unlike", "(JJ)I"⟩, 49), (⟨"ReelrescueModel", "levelled", "(I)J"⟩, 49), (⟨"ReelrescueModel", "sumOf", "(J)I"⟩, 49), (⟨"ReelrescueModel", "isLast", "(I)Z"⟩, 49)]
theorem lw_r3 : ∀ q ∈ lw_privs_3, lw_okq q := List.forall_mem_cons.mpr ⟨lw_p32, List.forall_mem_cons.mpr ⟨lw_p33, List.forall_mem_cons.mpr ⟨lw_p34, List.forall_mem_cons.mpr ⟨lw_p35, List.forall_mem_cons.mpr ⟨lw_p36, List.forall_mem_cons.mpr ⟨lw_p37, List.forall_mem_cons.mpr ⟨lw_p38, List.forall_mem_cons.mpr ⟨lw_p39, List.forall_mem_cons.mpr ⟨lw_p40, List.forall_mem_cons.mpr ⟨lw_p41, List.forall_mem_cons.mpr ⟨lw_p42, List.forall_mem_cons.mpr ⟨lw_p43, List.forall_mem_cons.mpr ⟨lw_p44, List.forall_mem_cons.mpr ⟨lw_p45, List.forall_mem_cons.mpr ⟨lw_p46, List.forall_mem_cons.mpr ⟨lw_p47, fun _ h => absurd h List.not_mem_nil⟩⟩⟩⟩⟩⟩⟩⟩⟩⟩⟩⟩⟩⟩⟩⟩
theorem lw_p48 : lw_okq (⟨"ReelrescueModel", "changesOf", "(I)I"⟩, 49) := ⟨⟨by decide +kernel, by decide +kernel⟩, List.mem_of_getElem? (i := 936) (by decide +kernel), List.mem_of_getElem? (i := 1364) (by decide +kernel), List.mem_of_getElem? (i := 1365) (by decide +kernel)⟩
def lw_privs_4 : List (MethodName × Nat) := [(⟨"ReelrescueModel", "changesOf", "(I)I"⟩, 49)]
theorem lw_r4 : ∀ q ∈ lw_privs_4, lw_okq q := List.forall_mem_cons.mpr ⟨lw_p48, fun _ h => absurd h List.not_mem_nil⟩
def lw_privs : List (MethodName × Nat) := lw_privs_1 ++ (lw_privs_2 ++ (lw_privs_3 ++ (lw_privs_4)))
def lw_tbl : List Cond := k2_sels lw_privs ++ tables_1
theorem lw_privs_ok : ∀ q ∈ lw_privs, lw_okq q := by
  show ∀ q ∈ lw_privs_1 ++ (lw_privs_2 ++ (lw_privs_3 ++ (lw_privs_4))), lw_okq q
  exact List.forall_mem_append.mpr ⟨lw_r1, List.forall_mem_append.mpr ⟨lw_r2, List.forall_mem_append.mpr ⟨lw_r3, lw_r4⟩⟩⟩
/-- the streams that the claim lets the run draw from -/
abbrev lw_cs : List Choice := [Jvm.Choice.named "NaN.bits"]
theorem lw_bits : nanBits ∈ lw_cs := by first | decide | exact List.mem_cons_self | simp [lw_cs, nanBits]
end
section
/-! ===== BEGIN words of one list among another's, by their places ===== -/
theorem goodIn_r {big : List Cond} (ws : List Cond) (ps : List Nat) (hp : ws = ps.filterMap (fun i => big[i]?)) (h : ws.all goodWord = true) : GoodIn big ws := by
  intro w hw
  have h1 := List.all_eq_true.mp h w hw
  rw [hp] at hw
  obtain ⟨i, -, hi⟩ := List.mem_filterMap.mp hw
  have hm : w ∈ big := by first | exact List.mem_of_getElem? hi | exact List.getElem?_mem hi
  exact ⟨hm, good_of_word h1⟩
theorem goodIn_app {big a b : List Cond} (ha : GoodIn big a) (hb : GoodIn big b) : GoodIn big (a ++ b) := fun w h => (List.mem_append.mp h).elim (ha w) (hb w)
theorem goodIn_ca {big a b : List Cond} {c : Cond} (ha : GoodIn big (c :: a)) (hb : GoodIn big b) : GoodIn big (c :: (a ++ b)) := fun w h => (List.mem_cons.mp h).elim (fun e => ha w (List.mem_cons.mpr (Or.inl e))) (fun h => (List.mem_append.mp h).elim (fun h => ha w (List.mem_cons.mpr (Or.inr h))) (hb w))
theorem goodIn_sub {big ws : List Cond} (hm : ∀ w ∈ ws, w ∈ big) (h : ws.all goodWord = true) : GoodIn big ws := fun w hw => ⟨hm w hw, good_of_word (List.all_eq_true.mp h w hw)⟩
/-! ===== END ===== -/
def va_AOA (t : FieldType) (U : State) : Prop := (Cond.arrayOver (.array t)).before #[] U = true
theorem va_AOA.of {t : FieldType} {A : Array Value} {U : State} (h : (Cond.arrayOver (.array t)).before A U = true) : va_AOA t U := h
theorem va_AOA.use {t : FieldType} {A : Array Value} {U : State} (h : va_AOA t U) : (Cond.arrayOver (.array t)).before A U = true := h

/-! ===== BEGIN new T[n][m]: the outer array a place, the inner ones among the pooled ===== -/
/-- f, but v at every address of l -/
def vr_up {α : Type} (f : Nat → α) (l : List Nat) (v : α) : Nat → α := fun a => if a ∈ l then v else f a
theorem vr_up_in {α : Type} {f : Nat → α} {l : List Nat} {v : α} {a : Nat} (h : a ∈ l) : vr_up f l v a = v := if_pos h
theorem vr_up_ne {α : Type} {f : Nat → α} {l : List Nat} {v : α} {a : Nat} (h : a ∉ l) : vr_up f l v a = f a := if_neg h
theorem vr_rows {L l : List Nat} {f : Nat → va_E} {e : va_E} (h : ∀ a, a ∈ l → a ∉ L) : va_pl L f ++ l.map (fun a => (a, e)) = va_pl (L ++ l) (vr_up f l e) := by
  unfold va_pl
  rw [List.map_append]
  congr 1
  · apply List.map_congr_left
    intro a ha
    rw [vr_up_ne (fun q => h a q ha)]
  · apply List.map_congr_left
    intro a ha
    rw [vr_up_in ha]
theorem vr_lay {X rows : va_W} {x : Nat × va_E} {pl : va_W} {D : va_G} {cl : List vw_C} {H : Heap} (hP : va_P D cl (((X ++ pl) ++ [x]) ++ rows) H) : va_P D cl ((X ++ [x]) ++ (pl ++ rows)) H := by
  rw [List.append_assoc (X ++ pl)] at hP
  have h := va_P.swap hP
  rw [← List.append_assoc X] at h
  have h2 := va_P.swap h
  rw [List.append_assoc (X ++ [x])] at h2
  exact h2
theorem vr_layD {X rows : va_W} {x : Nat × va_E} {pl : va_W} {A : Nat → Prop} (hD : va_D A (((X ++ pl) ++ [x]) ++ rows)) : va_D A ((X ++ [x]) ++ (pl ++ rows)) := by
  rw [List.append_assoc (X ++ pl)] at hD
  have h := va_D.swap hD
  rw [← List.append_assoc X] at h
  have h2 := va_D.swap h
  rw [List.append_assoc (X ++ [x])] at h2
  exact h2
theorem vr_outer (c : ClassId) (N h0 : Nat) : ∀ i : Nat, Jvm.Free.Multi.outerC c N h0 i = arrV c N (fun j => va_rf (if j < i then some (h0 + 1 + j) else none))
  | 0 => by
    show ({ cls := c, slots := Array.replicate N .null, vm := .none } : Cell) = _
    rw [arrV_new]
    refine congrArg (arrV c N) (funext fun j => ?_)
    simp [va_rf]
  | i + 1 => by
    show (Jvm.Free.Multi.outerC c N h0 i).setSlot i (.ref (h0 + 1 + i)) = _
    rw [vr_outer c N h0 i, arrV_store]
    refine congrArg (arrV c N) (funext fun j => ?_)
    by_cases e : j = i
    · subst e
      simp [updV, va_rf]
    · by_cases h : j < i
      · simp [updV, e, h, Nat.lt_succ_of_lt h]
      · simp [updV, e, h, show ¬ j < i + 1 by omega]
section VGM
variable {p : Program} {l : Launch} {e : Env} {R : Room} {s : State} {m : MethodId} {args : Array Value} {below : List Frame} {meth : Method} {c : Code} {H : Heap} {locs : List Loc} {cells slots : Nat} {Q : State → Prop}
variable {cc : ByteArray} {pc : Nat} {ls : Array Slot} {rest : List Value} {D : va_G} {cl : List vw_C} {A : Nat → Prop} {a : Nat} {tys : List (ClassId × FieldType)} {ws : va_W} {H0 : Heap}
theorem va_mna {X : va_W} {L : List Nat} {f : Nat → va_E} {cc : ByteArray} (hexec : p.tables.exec = Jvm.exec) (hb : c.code = cc) {own : String} {index : Nat} {ty : FieldType} {cy : ClassId} (hown : s.vm.findClass own = some m.cls) (hclink : (Cond.classLink own index ("[" ++ (FieldType.array ty).toString)).before args s = true) (hover : va_AOA ty s) (harr : (Cond.arrayClass ty).before args s = true) (hcy : s.vm.findClass (FieldType.array ty).toString = some cy)
    (hK : va_K D cl tys s) (hP : va_P D cl (X ++ va_pl L f) H) (hD : va_D A (X ++ va_pl L f)) (hS : va_S A H0 H locs) (hA : ∀ q, H0.size ≤ q → A q) {n k : Int32} {N' K' : Nat} {z : vp_A} (hn : ¬ n < 0) (hk : ¬ k < 0) (hN : n.toNatClampNeg = N') (hM : k.toNatClampNeg = K')
    (hb1 : N' * 4 ≤ 536870912) (hb2 : K' * componentBytes ty ≤ 536870912) (hb3 : K' ≤ 536870912) (hdf : fits ty (defaultValue ty) = true) (hdd : (defaultValue ty).isDefault = true) (hcells : cells + (1 + N') ≤ R.cells) (hslots : slots + (N' + N' * K') ≤ R.slots) (hz : ∀ c : ClassId, Jvm.Free.Multi.innerC c K' (defaultValue ty) = vp_cell c z) (hdg : decode cc pc = .ok (.multianewarray index 2, 4))
    (kk : ∀ (q : Nat) (r : Nat → Nat) (cA : ClassId) (H1 : Heap), (∀ i j : Nat, i < N' → j < N' → r i = r j → i = j) → (∀ i : Nat, i < N' → r i ∉ L) → va_K D cl (tys ++ [(cA, .array ty)]) s →
      va_P D cl ((X ++ [(q, .inl (cA, N', .inr (.inr (.inr (.inr (fun i => if i < N' then some (r i) else none))))))]) ++ va_pl (L ++ (List.range N').map r) (vr_up f ((List.range N').map r) (.inl (cy, z)))) H1 → va_D A ((X ++ [(q, .inl (cA, N', .inr (.inr (.inr (.inr (fun i => if i < N' then some (r i) else none))))))]) ++ va_pl (L ++ (List.range N').map r) (vr_up f ((List.range N').map r) (.inl (cy, z)))) → va_S A H0 H1 locs →
      W p l e R s m args below meth c H1 locs (cells + 1 + N') (slots + N' + N' * K') Q (F0 m (pc + 4) ls (.ref q :: rest))) : W p l e R s m args below meth c H locs cells slots Q (F0 m pc ls (.int k :: .int n :: rest)) := by
  subst hN
  subst hM
  intro T hT Xs
  obtain ⟨vm₁, cA, comp, -, fA, fC, hO, -, X', step⟩ := Xs.multianewarray2F hexec hown hclink (va_AOA.use hover) harr (g := F0 m pc ls (.int k :: .int n :: rest)) rfl (by rw [hb]; exact hdg) rfl hn hk hb1 hb2 hb3 hdf hdd hcells hslots
  have ec : some cy = some comp := hcy.symm.trans fC
  cases ec
  generalize hF : Jvm.Free.Multi.fill (T.setVm vm₁) cA cy n.toNatClampNeg k.toNatClampNeg (defaultValue ty) n.toNatClampNeg = F at X' step
  have hTh : (T.setVm vm₁).heap = H := hT
  obtain ⟨f1, f2, -, -⟩ := Jvm.Free.Multi.fill_facts (T.setVm vm₁) cA cy n.toNatClampNeg k.toNatClampNeg (defaultValue ty) n.toNatClampNeg
  rw [hF, hTh] at f1 f2
  have hold : ∀ x : Nat, x < H.size → F.heap[x]? = H[x]? := fun x hx => by
    have := Jvm.Free.Multi.fill_old (T.setVm vm₁) cA cy n.toNatClampNeg k.toNatClampNeg (defaultValue ty) (a := x) (by rw [hTh]; exact hx) n.toNatClampNeg
    rw [hF, hTh] at this
    exact this
  have hrow : ∀ j : Nat, j < n.toNatClampNeg → F.heap[H.size + 1 + j]? = some (vp_cell cy z) := fun j hj => by
    have := Jvm.Free.Multi.fill_inner (T.setVm vm₁) cA cy n.toNatClampNeg k.toNatClampNeg (defaultValue ty) n.toNatClampNeg j hj
    rw [hF, hTh, hz] at this
    exact this
  have hout : Jvm.Free.Multi.outerC cA n.toNatClampNeg H.size n.toNatClampNeg = vp_cell cA (n.toNatClampNeg, .inr (.inr (.inr (.inr (fun i => if i < n.toNatClampNeg then some (H.size + 1 + i) else none))))) := by
    rw [vp_cell_q]
    exact vr_outer cA n.toNatClampNeg H.size n.toNatClampNeg
  rw [hout] at f2
  have hlt : ∀ a, a ∈ L → a < H.size := fun a ha => by
    obtain ⟨k9, hk9⟩ := va_pl_get (X := X) (f := f) ha
    exact (hP k9 _ hk9).lt
  have hnl : ∀ i : Nat, i < n.toNatClampNeg → H.size + 1 + i ∉ L := fun i _ h => by
    have := hlt _ h
    omega
  have hnm : ∀ a, a ∈ (List.range n.toNatClampNeg).map (fun i => H.size + 1 + i) → a ∉ L := fun a ha h => by
    obtain ⟨i, -, rfl⟩ := List.mem_map.mp ha
    have := hlt _ h
    omega
  have hP0 : va_P D cl (X ++ va_pl L f) F.heap := hP.kept (fun k9 x hx => hold x.1 ((hP k9 x hx).lt))
  have hP1 : va_P D cl ((X ++ va_pl L f) ++ [(H.size, .inl (cA, n.toNatClampNeg, .inr (.inr (.inr (.inr (fun i => if i < n.toNatClampNeg then some (H.size + 1 + i) else none))))))]) F.heap := hP0.app (fun k9 x hx => by
    have h0 : k9 < 1 := (List.getElem?_eq_some_iff.mp hx).1
    rw [show k9 = 0 by omega] at hx
    cases hx
    exact f2)
  have hP2 : va_P D cl (((X ++ va_pl L f) ++ [(H.size, .inl (cA, n.toNatClampNeg, .inr (.inr (.inr (.inr (fun i => if i < n.toNatClampNeg then some (H.size + 1 + i) else none))))))]) ++ ((List.range n.toNatClampNeg).map (fun i => H.size + 1 + i)).map (fun a => (a, .inl (cy, z)))) F.heap := hP1.app (fun k9 x hx => by
    obtain ⟨a, ha, rfl⟩ := List.mem_map.mp (List.mem_of_getElem? hx)
    obtain ⟨i, hi, rfl⟩ := List.mem_map.mp ha
    exact hrow i (List.mem_range.mp hi))
  have hD2 : va_D A (((X ++ va_pl L f) ++ [(H.size, .inl (cA, n.toNatClampNeg, .inr (.inr (.inr (.inr (fun i => if i < n.toNatClampNeg then some (H.size + 1 + i) else none))))))]) ++ ((List.range n.toNatClampNeg).map (fun i => H.size + 1 + i)).map (fun a => (a, .inl (cy, z)))) := by
    have hD1 := hD.push (e := .inl (cA, n.toNatClampNeg, .inr (.inr (.inr (.inr (fun i => if i < n.toNatClampNeg then some (H.size + 1 + i) else none)))))) hP rfl (hA _ hS.1)
    generalize hW1 : (X ++ va_pl L f) ++ [(H.size, .inl (cA, n.toNatClampNeg, .inr (.inr (.inr (.inr (fun i => if i < n.toNatClampNeg then some (H.size + 1 + i) else none))))))] = W1 at hD1 hP1 ⊢
    have hle : ∀ (k9 : Nat) (x : Nat × va_E), W1[k9]? = some x → x.1 ≤ H.size := fun k9 x hx => by
      rw [← hW1] at hx
      by_cases hl : k9 < (X ++ va_pl L f).length
      · rw [List.getElem?_append_left hl] at hx
        exact Nat.le_of_lt ((hP k9 x hx).lt)
      · rw [List.getElem?_append_right (by omega)] at hx
        have h0 : k9 - (X ++ va_pl L f).length < 1 := (List.getElem?_eq_some_iff.mp hx).1
        rw [show k9 - (X ++ va_pl L f).length = 0 by omega] at hx
        cases hx
        exact Nat.le_refl _
    have hr : ∀ (k9 : Nat) (x : Nat × va_E), (((List.range n.toNatClampNeg).map (fun i => H.size + 1 + i)).map (fun a => ((a, .inl (cy, z)) : Nat × va_E)))[k9]? = some x → x.1 = H.size + 1 + k9 := fun k9 x hx => by
      rw [List.getElem?_map, List.getElem?_map] at hx
      by_cases h9 : k9 < n.toNatClampNeg
      · rw [List.getElem?_range h9] at hx
        cases hx
        rfl
      · have hn0 : (List.range n.toNatClampNeg)[k9]? = none := List.getElem?_eq_none (by rw [List.length_range]; omega)
        rw [hn0] at hx
        cases hx
    refine ⟨fun i j x y hi hj hxy => ?_, fun k9 x hx => ?_⟩
    · by_cases h1 : i < W1.length <;> by_cases h2 : j < W1.length
      · rw [List.getElem?_append_left h1] at hi
        rw [List.getElem?_append_left h2] at hj
        exact hD1.1 i j x y hi hj hxy
      · rw [List.getElem?_append_left h1] at hi
        rw [List.getElem?_append_right (by omega)] at hj
        have := hle _ _ hi
        have := hr _ _ hj
        omega
      · rw [List.getElem?_append_right (by omega)] at hi
        rw [List.getElem?_append_left h2] at hj
        have := hle _ _ hj
        have := hr _ _ hi
        omega
      · rw [List.getElem?_append_right (by omega)] at hi hj
        have := hr _ _ hi
        have := hr _ _ hj
        omega
    · by_cases h1 : k9 < W1.length
      · rw [List.getElem?_append_left h1] at hx
        exact hD1.2 k9 x hx
      · rw [List.getElem?_append_right (by omega)] at hx
        have := hr _ _ hx
        exact hA _ (by have := hS.1; omega)
  have hAr : ArrOfT s cA (.array ty) := fun N9 z9 => by
    obtain ⟨-, k9, hk9, cm9, hkk9⟩ := (hO 0 0 0).1
    exact ⟨(fun q hq => by cases hq), k9, hk9, cm9, hkk9⟩
  have hK2 : va_K D cl (tys ++ [(cA, .array ty)]) s := ⟨hK.1, fun k9 x hx => by
    by_cases hl : k9 < tys.length
    · rw [List.getElem?_append_left hl] at hx
      exact hK.2 k9 x hx
    · rw [List.getElem?_append_right (by omega)] at hx
      have h0 : k9 - tys.length < 1 := (List.getElem?_eq_some_iff.mp hx).1
      rw [show k9 - tys.length = 0 by omega] at hx
      cases hx
      exact ⟨hAr, fA⟩⟩
  obtain ⟨t, a1, b1⟩ := kk H.size (fun i => H.size + 1 + i) cA F.heap (fun i j _ _ h => by have h9 : H.size + 1 + i = H.size + 1 + j := h; omega) hnl hK2 (by rw [← vr_rows hnm]; exact vr_lay hP2) (by rw [← vr_rows hnm]; exact vr_layD hD2) ⟨by rw [f1]; have := hS.1; omega, fun x h1 h2 => (hold x (Nat.lt_of_lt_of_le h1 hS.1)).trans (hS.2.1 x h1 h2), hS.2.2⟩ F rfl X'
  refine ⟨t, step t ?_, b1⟩
  have e : T.heap.size = H.size := by rw [hT]
  rw [e]
  exact a1
end VGM
/-! ===== END ===== -/

/-! ===== BEGIN exceptions that leave a method, and their catching by the caller (launches without stack traces) ===== -/
section VXA
/-! The laws vx_back, vx_callV, vx_callS, vx_callSW, vx_throw0, vx_throwS follow proofs of the library, with one case more: JvmDerived/Free/Laws.lean (Back.of_free), Shelf42/LK1.lean (callV, callS), Shelf/KitTraced.lean (throwNew0V, throwNewS). -/
/-- where a method has thrown q: the class by its name, the cell, what was written, the world -/
def vx_T (XC : String → State → State → Prop) (st : State) (q : Addr) (t : State) (mc ms : Nat) (free : Addr → Prop) : Prop :=
  ∃ (E : String) (ce : Cell) (L : List Loc), XC E st t ∧ t.heap[q]? = some ce ∧ ce.vm = .none ∧ st.vm.findClass E = some ce.cls ∧ st.WarmedH t.vm ∧ st.sameButNew ({ t with vm := st.vm } : State) L mc ms ∧ ∀ z ∈ L, free z.base
def vx_Q (Qc : Array Value → State → Outcome → State → Prop) (XC : String → State → State → Prop) (mc ms : Nat) (free : Addr → Prop) : Array Value → State → Outcome → State → Prop := fun a st o t =>
  (Qc a st o t ∧ ∃ L, FrameEnd st o t L mc ms ∧ ∀ q ∈ L, free q.base) ∨ ∃ q, o = .threw q ∧ vx_T XC st q t mc ms free
/-- a callee that returns or throws -/
def vx_Met (l : Launch) (y : MethodName) (ws : List Cond) (rm : Room) (Pc : Array Value → State → Prop) (Qc : Array Value → State → Outcome → State → Prop) (XC : String → State → State → Prop) (mc ms : Nat) (free : Addr → Prop) : Prop :=
  MetFree l y (headSpec ws rm) Pc (fun _ _ _ _ _ => True) (vx_Q Qc XC mc ms free)
def vx_Post (XC : String → State → State → Prop) (mc ms : Nat) (free : Addr → Prop) : Pt → Array Value → Addr → Pt → Prop := fun A a q B =>
  ∃ (g : JFrame) (mk : MethodId) (t : State) (L : List Loc) (E : String) (ce : Cell), B.U.heap = t.heap ∧ B.U.vm = t.vm ∧ XC E (A.U.calling g mk a) t ∧ t.heap[q]? = some ce ∧ ce.vm = .none ∧ A.U.vm.findClass E = some ce.cls ∧ B.locs = A.locs ++ L ∧ (∀ z ∈ L, free z.base) ∧ B.cells = A.cells + mc ∧ B.slots = A.slots + ms
def vx_Back (l : Launch) (R : Room) (p : Program) (e : Env) (below : List Frame) (s : State) (sargs : Array Value) (y : MethodName) (len W9 : Nat)
    (Pre : Pt → Array Value → Prop) (Post : Pt → Array Value → Option Value → Pt → Prop) (PostX : Pt → Array Value → Addr → Pt → Prop) : Prop :=
  ∀ (m : MethodId) (meth : Method) (c : Code) (A : Pt) (g : JFrame) (ig : Instr) (mk : MethodId) (a : Array Value),
    Stand p l e R s m sargs below meth c A.U A.locs A.cells A.slots → g.method = m → g.locals.size = c.maxLocals → decode c.code g.pc = .ok (ig, len) →
    2 * g.monitorRoom + (g.stack.map fun v => v.category).sum ≤ W9 → A.U.methodNamed? y = some mk → Pre A a →
    (∃ (v : Option Value) (B : Pt), Stand p l e R s m sargs below meth c B.U B.locs B.cells B.slots ∧ Post A a v B ∧
      Steps p.tables e below (doInvoke e (A.U.setTop g) [] mk a).1 (B.U.setTop { g with pc := g.pc + len, stack := v.toList ++ g.stack })) ∨
    (∃ (q : Addr) (B : Pt), Stand p l e R s m sargs below meth c B.U B.locs B.cells B.slots ∧ PostX A a q B ∧
      Steps p.tables e below (doInvoke e (A.U.setTop g) [] mk a).1 ((B.U.setTop g).pushFrame (.throwing q)))
section Payer
variable {l : Launch} {R : Room} {p : Program} {e : Env} {below : List Frame} {s : State} {sargs : Array Value} {y : MethodName} {len W9 : Nat}
theorem vx_back {ws : List Cond} {rm : Room} {Pc : Array Value → State → Prop} {Qc : Array Value → State → Outcome → State → Prop} {XC : String → State → State → Prop} {mc ms : Nat} {free : Addr → Prop} {bytes : ByteArray} {maxL : Nat} {ret : Option FieldType}
    (hM : vx_Met l y ws rm Pc Qc XC mc ms free) (hblind : FrameBlind Pc) (hrc : rm.cells = mc) (hrs : rm.slots = ms)
    (hframes : rm.frames + 1 ≤ R.frames) (hlocals : W9 + (maxL + 11) + rm.locals ≤ R.locals)
    (hws : ∀ w ∈ ws, ∀ a' U, s.WarmedH U.vm → w.before a' U = true) (hcode : Cond.code y bytes maxL ret ∈ ws) (hinit : ∀ a' U, s.WarmedH U.vm → (Cond.initialized y.cls).before a' U = true) :
    vx_Back l R p e below s sargs y len W9 (PreOf R mc ms Pc) (PostOf Qc mc ms free) (vx_Post XC mc ms free) := by
  intro m meth c A g ig mk a X hg hsize hdg hW hn hp
  have h1 : (headSpec ws rm).pre.before a A.U = true := atoms_intro fun w hw => hws w hw _ _ X.warmed
  have h2 : (Cond.code y bytes maxL ret).before a A.U = true := hws _ hcode _ _ X.warmed
  have h3 : (Cond.initialized y.cls).before a A.U = true := hinit _ _ X.warmed
  have h4 : A.cells + (headSpec ws rm).room.cells ≤ R.cells := by rw [show (headSpec ws rm).room.cells = mc from hrc]; exact hp.1
  have h5 : A.slots + (headSpec ws rm).room.slots ≤ R.slots := by rw [show (headSpec ws rm).room.slots = ms from hrs]; exact hp.2.1
  have hPc : Pc a (A.U.calling g mk a) := hblind _ _ _ _ hp.2.2
  obtain ⟨U, Ls, c0, s0⟩ := A
  dsimp only [Pt.U, Pt.locs, Pt.cells, Pt.slots] at h1 h2 h3 h4 h5 X hn hPc ⊢
  obtain ⟨methY, cY, hmY, hcY, -, hlY, -, -, -, -⟩ := Cond.code_spec hn h2
  obtain ⟨kY, hkY, -⟩ := className_of_methodNamed hn
  have hinitY : kY.init = .initialized := Cond.initialized_spec (findClass_of_methodNamed hn) hkY h3
  have h : At U g.method c below := by rw [hg]; exact X.here
  have hlocals9 : W9 + (maxL + 11) + (headSpec ws rm).room.locals ≤ R.locals := hlocals
  have happ : (headSpec ws rm).appliesLoose y e.platform (U.calling g mk a) = true :=
    Spec.appliesLoose_calling (g := g) h hdg hn hkY hinitY
      (X.room_calling (g := g) (R' := (headSpec ws rm).room) hsize hmY hcY hframes (by rw [hlY]; omega) h4 h5) h1
  obtain ⟨mid, hmid⟩ := h.above
  have hfr : (U.setTop g).frames = (.java g :: mid) ++ below := by rw [State.frames_setTop' g h.top, hmid]; rfl
  obtain ⟨o, s₂, hsteps, -, hend, hq⟩ := Steps.callFree hM p X.admits X.cas X.clock (acts := []) hfr happ hPc trivial
  have hq' : vx_Q Qc XC mc ms free a (U.calling g mk a) o s₂ := hq
  rw [State.frames_setTop' g h.top] at hend
  obtain ⟨g₀, hg0⟩ := Option.isSome_iff_exists.mp h.top
  obtain ⟨r, hr⟩ := State.topJava?_eq_some.mp hg0
  have hr' : (({ U with heap := s₂.heap, slotsUsed := s₂.slotsUsed } : State).setVm s₂.vm).frames = .java g₀ :: r := hr
  rcases hq' with ⟨hqc, L, hfe, hL⟩ | ⟨q, rfl, E, ce, L, hx, hce, hcv, hcl, hW₂, hsm, hL⟩
  · obtain ⟨⟨v, rfl⟩, hW₂, e2, q2, q3, q4, q5, q6⟩ := id hfe
    have e3 : s₂ = ({ (U.calling g mk a).setFrames s₂.frames with heap := s₂.heap, slotsUsed := s₂.slotsUsed } : State).setVm s₂.vm := by
      have : s₂ = ({ s₂ with vm := (U.calling g mk a).vm } : State).setVm s₂.vm := rfl
      rw [e2] at this
      exact this
    obtain ⟨c₂, i₂, len₂, hc₂, hd₂, hf₂⟩ := hend
    have hW' : U.WarmedH s₂.vm := hW₂
    have hcc : c₂ = c := by
      have h1 : s₂.code? g.method = U.code? g.method := by
        rw [State.code?_eq, State.code?_eq, hW'.alike.method?]
      exact Option.some.inj (hc₂.symm.trans (h1.trans h.code))
    subst hcc
    have hlen : len₂ = len := by rw [hdg] at hd₂; cases hd₂; rfl
    subst hlen
    have hs₂ : s₂ = (({ U with heap := s₂.heap, slotsUsed := s₂.slotsUsed } : State).setVm s₂.vm).setTop { g with pc := g.pc + len₂, stack := v.toList ++ g.stack } := by
      refine e3.trans ?_
      rw [hf₂, State.calling_eq h.top, State.setFrames_setFrames, State.setTop_of_frames _ hr', hr]
      rfl
    have hsame : U.sameButNew ({ U with heap := s₂.heap, slotsUsed := s₂.slotsUsed } : State) L mc ms := by
      refine ⟨?_, q2, q3, q4, q5, q6⟩
      obtain ⟨t, ht, -⟩ := State.frames_cons hr
      show ({ U with heap := s₂.heap, slotsUsed := s₂.slotsUsed } : State) = { U.setFrames U.frames with heap := s₂.heap, slotsUsed := s₂.slotsUsed }
      rw [State.setFrames_self ht]
    subst hg
    refine Or.inl ⟨v, ⟨(({ U with heap := s₂.heap, slotsUsed := s₂.slotsUsed } : State).setVm s₂.vm), Ls ++ L, c0 + mc, s0 + ms⟩,
      ⟨X.admits, X.cas, X.clock, X.frames, X.room, X.hears, X.method, X.code, (X.here.setHeapUsed s₂.heap s₂.slotsUsed).setVm hW'.alike, X.tail, State.WarmedH.trans X.warmed hW', X.limits, X.bytes, X.same.trans (hsame.setVm s.vm)⟩,
      ⟨g, mk, s₂, L, rfl, rfl, hqc, rfl, hL, rfl, rfl⟩, ?_⟩
    show Steps p.tables e below _ ((({ U with heap := s₂.heap, slotsUsed := s₂.slotsUsed } : State).setVm s₂.vm).setTop { g with pc := g.pc + len₂, stack := v.toList ++ g.stack })
    rw [← hs₂]
    exact hsteps
  · obtain ⟨e2, q2, q3, q4, q5, q6⟩ := id hsm
    have e3 : s₂ = ({ (U.calling g mk a).setFrames s₂.frames with heap := s₂.heap, slotsUsed := s₂.slotsUsed } : State).setVm s₂.vm := by
      have : s₂ = ({ s₂ with vm := (U.calling g mk a).vm } : State).setVm s₂.vm := rfl
      rw [e2] at this
      exact this
    have hf₂ : s₂.frames = .throwing q :: .java g :: U.frames.tail := hend
    have hW' : U.WarmedH s₂.vm := hW₂
    have hs₂ : s₂ = ((({ U with heap := s₂.heap, slotsUsed := s₂.slotsUsed } : State).setVm s₂.vm).setTop g).pushFrame (.throwing q) := by
      refine e3.trans ?_
      rw [hf₂, State.calling_eq h.top, State.setFrames_setFrames, State.pushFrame, State.frames_setTop _ hr', State.setTop_of_frames _ hr', State.setFrames_setFrames, hr]
      rfl
    have hsame : U.sameButNew ({ U with heap := s₂.heap, slotsUsed := s₂.slotsUsed } : State) L mc ms := by
      refine ⟨?_, q2, q3, q4, q5, q6⟩
      obtain ⟨t, ht, -⟩ := State.frames_cons hr
      show ({ U with heap := s₂.heap, slotsUsed := s₂.slotsUsed } : State) = { U.setFrames U.frames with heap := s₂.heap, slotsUsed := s₂.slotsUsed }
      rw [State.setFrames_self ht]
    subst hg
    refine Or.inr ⟨q, ⟨(({ U with heap := s₂.heap, slotsUsed := s₂.slotsUsed } : State).setVm s₂.vm), Ls ++ L, c0 + mc, s0 + ms⟩,
      ⟨X.admits, X.cas, X.clock, X.frames, X.room, X.hears, X.method, X.code, (X.here.setHeapUsed s₂.heap s₂.slotsUsed).setVm hW'.alike, X.tail, State.WarmedH.trans X.warmed hW', X.limits, X.bytes, X.same.trans (hsame.setVm s.vm)⟩,
      ⟨g, mk, s₂, L, E, ce, rfl, rfl, hx, hce, hcv, hcl, rfl, hL, rfl, rfl⟩, ?_⟩
    show Steps p.tables e below _ (((({ U with heap := s₂.heap, slotsUsed := s₂.slotsUsed } : State).setVm s₂.vm).setTop g).pushFrame (.throwing q))
    rw [← hs₂]
    exact hsteps
end Payer
section Calls
variable {p : Program} {l : Launch} {e : Env} {R : Room} {s : State} {m : MethodId} {args : Array Value} {below : List Frame} {meth : Method} {c : Code} {T : State} {locs : List Loc} {cells slots : Nat}
theorem vx_callV (X : Stand p l e R s m args below meth c T locs cells slots) (hexec : p.tables.exec = Jvm.exec) {own C : String} {index : Nat} {y : MethodName} {bytes : ByteArray} {maxL : Nat} {ret : Option FieldType}
    (hown : s.vm.findClass own = some m.cls) (hlink : (Cond.methodLink own index y).before args s = true) (hinst : (Cond.instanceMethod y).before args s = true) (hsel : (Cond.selects C y y).before args s = true)
    (hcode : (Cond.code y bytes maxL ret).before args s = true) (hy : y.cls ≠ "java/lang/invoke/MethodHandle" ∧ y.cls ≠ "java/lang/invoke/VarHandle")
    {W9 : Nat} {Pre : Pt → Array Value → Prop} {Post : Pt → Array Value → Option Value → Pt → Prop} {PostX : Pt → Array Value → Addr → Pt → Prop} (hK : vx_Back l R p e below s args y 3 W9 Pre Post PostX)
    {b : Addr} {cellB : Cell} (hcell : T.heap[b]? = some cellB) (hobj : cellB.vm.isStatics = false) (hcls : s.vm.findClass C = some cellB.cls)
    {g : JFrame} (hg : g.method = m) (hsize : g.locals.size = c.maxLocals) {argsL rest : List Value} (hlen : ∀ sig, parseMethodDescriptor y.desc = some sig → argsL.length = sig.parameters.length)
    (hstack : g.stack = argsL.reverse ++ .ref b :: rest) (hW : 2 * g.monitorRoom + (rest.map fun v => v.category).sum ≤ W9) (hdg : decode c.code g.pc = .ok (.invokevirtual index, 3))
    (hpre : ∀ vm₁, s.WarmedH vm₁ → Pre ⟨T.setVm vm₁, locs, cells, slots⟩ (Value.ref b :: argsL).toArray) :
    (∃ (v : Option Value) (vm₁ : Vm) (B : Pt), s.WarmedH vm₁ ∧ Stand p l e R s m args below meth c B.U B.locs B.cells B.slots ∧ Post ⟨T.setVm vm₁, locs, cells, slots⟩ (Value.ref b :: argsL).toArray v B ∧
      ∀ target, Steps p.tables e below (B.U.setTop { g with pc := g.pc + 3, stack := v.toList ++ rest }) target → Steps p.tables e below (T.setTop g) target) ∨
    (∃ (q : Addr) (vm₁ : Vm) (B : Pt), s.WarmedH vm₁ ∧ Stand p l e R s m args below meth c B.U B.locs B.cells B.slots ∧ PostX ⟨T.setVm vm₁, locs, cells, slots⟩ (Value.ref b :: argsL).toArray q B ∧
      Steps p.tables e below (T.setTop g) ((B.U.setTop { g with stack := rest }).pushFrame (.throwing q))) := by
  obtain ⟨mk, methM, hnamed, hmethM, hstM, habM⟩ := Cond.instanceMethod_spec hinst
  obtain ⟨methM', cM, hmethM', -, -, -, -, -, -, hsigM⟩ := Cond.code_spec hnamed hcode
  cases hmethM.symm.trans hmethM'
  obtain ⟨c2, r2, m2, q1, q2, q3, q4, kP, hkP, hkPi⟩ := Cond.selects_spec hsel
  cases hcls.symm.trans q1
  cases (State.methodFound?_of_named hnamed hy).symm.trans q2
  cases hnamed.symm.trans q3
  have hselP : selectMethod e.platform s.vm cellB.cls mk = .method mk := by rw [Launch.admits_selectMethod X.admits]; exact q4
  obtain ⟨vm₁, X₁, hstep₁⟩ := X.invokevirtual hexec hown hlink hnamed hmethM hstM hkP hkPi hy (a := b) (cell := cellB) hcell
    (fun z h => by rw [h] at hobj; cases hobj) hselP hmethM habM hkP hkPi (g := g) hg (argsL := argsL) (rest := rest) (hlen _ hsigM) hstack hdg
  rcases hK m meth c ⟨T.setVm vm₁, locs, cells, slots⟩ { g with stack := rest } (.invokevirtual index) mk (Value.ref b :: argsL).toArray X₁ hg hsize hdg hW (X₁.named hnamed) (hpre vm₁ X₁.warmed) with ⟨v, B, X', hpost, hsteps⟩ | ⟨q, B, X', hpost, hsteps⟩
  · exact Or.inl ⟨v, vm₁, B, X₁.warmed, X', hpost, fun target h => hstep₁ _ fun acts => by rw [doInvoke_state]; exact hsteps.trans h⟩
  · exact Or.inr ⟨q, vm₁, B, X₁.warmed, X', hpost, hstep₁ _ fun acts => by rw [doInvoke_state]; exact hsteps⟩
theorem vx_callS (X : Stand p l e R s m args below meth c T locs cells slots) (hexec : p.tables.exec = Jvm.exec) {own : String} {index : Nat} {y : MethodName} {bytes : ByteArray} {maxL : Nat} {ret : Option FieldType}
    (hown : s.vm.findClass own = some m.cls) (hlink : (Cond.methodLink own index y).before args s = true) (hstat : (Cond.static y).before args s = true) (hinit : (Cond.initialized y.cls).before args s = true)
    (hcode : (Cond.code y bytes maxL ret).before args s = true) (hy : y.cls ≠ "java/lang/invoke/MethodHandle" ∧ y.cls ≠ "java/lang/invoke/VarHandle")
    {W9 : Nat} {Pre : Pt → Array Value → Prop} {Post : Pt → Array Value → Option Value → Pt → Prop} {PostX : Pt → Array Value → Addr → Pt → Prop} (hK : vx_Back l R p e below s args y 3 W9 Pre Post PostX)
    {g : JFrame} (hg : g.method = m) (hsize : g.locals.size = c.maxLocals) {argsL rest : List Value} (hlen : ∀ sig, parseMethodDescriptor y.desc = some sig → argsL.length = sig.parameters.length)
    (hstack : g.stack = argsL.reverse ++ rest) (hW : 2 * g.monitorRoom + (rest.map fun v => v.category).sum ≤ W9) (hdg : decode c.code g.pc = .ok (.invokestatic index, 3))
    (hpre : ∀ vm₁, s.WarmedH vm₁ → Pre ⟨T.setVm vm₁, locs, cells, slots⟩ argsL.toArray) :
    (∃ (v : Option Value) (vm₁ : Vm) (B : Pt), s.WarmedH vm₁ ∧ Stand p l e R s m args below meth c B.U B.locs B.cells B.slots ∧ Post ⟨T.setVm vm₁, locs, cells, slots⟩ argsL.toArray v B ∧
      ∀ target, Steps p.tables e below (B.U.setTop { g with pc := g.pc + 3, stack := v.toList ++ rest }) target → Steps p.tables e below (T.setTop g) target) ∨
    (∃ (q : Addr) (vm₁ : Vm) (B : Pt), s.WarmedH vm₁ ∧ Stand p l e R s m args below meth c B.U B.locs B.cells B.slots ∧ PostX ⟨T.setVm vm₁, locs, cells, slots⟩ argsL.toArray q B ∧
      Steps p.tables e below (T.setTop g) ((B.U.setTop { g with stack := rest }).pushFrame (.throwing q))) := by
  obtain ⟨mk, hnamed⟩ := Cond.code_named hcode
  obtain ⟨methM, cM, hmethM, -, -, -, -, -, -, hsigM⟩ := Cond.code_spec hnamed hcode
  have hstatic : methM.isStatic = true := Cond.static_spec hnamed hmethM hstat
  obtain ⟨kP, hkP, -⟩ := className_of_methodNamed hnamed
  have hinitP : kP.init = .initialized := Cond.initialized_spec (findClass_of_methodNamed hnamed) hkP hinit
  obtain ⟨vm₁, X₁, hstep₁⟩ := X.invokestatic hexec hown hlink hnamed hmethM hstatic hkP hinitP hy (g := g) hg (argsL := argsL) (rest := rest) (hlen _ hsigM) hstack hdg
  rcases hK m meth c ⟨T.setVm vm₁, locs, cells, slots⟩ { g with stack := rest } (.invokestatic index) mk argsL.toArray X₁ hg hsize hdg hW (X₁.named hnamed) (hpre vm₁ X₁.warmed) with ⟨v, B, X', hpost, hsteps⟩ | ⟨q, B, X', hpost, hsteps⟩
  · exact Or.inl ⟨v, vm₁, B, X₁.warmed, X', hpost, fun target h => hstep₁ _ fun acts => by rw [doInvoke_state]; exact hsteps.trans h⟩
  · exact Or.inr ⟨q, vm₁, B, X₁.warmed, X', hpost, hstep₁ _ fun acts => by rw [doInvoke_state]; exact hsteps⟩
end Calls
theorem vx_cls {s : State} {T : State} {vm₁ : Vm} {E : String} {k : ClassId} (hW : s.WarmedH vm₁) (h : (T.setVm vm₁).vm.findClass E = some k) : s.vm.findClass E = some k := by
  have h1 : vm₁.findClass E = some k := h
  rw [hW.alike.findClass] at h1
  exact h1
/-- the method's frame g, with q thrown over it -/
def vx_W (p : Program) (l : Launch) (e : Env) (R : Room) (s : State) (m : MethodId) (args : Array Value) (below : List Frame) (meth : Method) (c : Code) (H : Heap) (locs : List Loc) (cells slots : Nat) (Q : State → Prop) (g : JFrame) (q : Addr) : Prop :=
  ∀ T : State, T.heap = H → Stand p l e R s m args below meth c T locs cells slots → ∃ t, Steps p.tables e below ((T.setTop g).pushFrame (.throwing q)) t ∧ Q t
def vx_Run (p : Program) (l : Launch) (e : Env) (R : Room) (s : State) (m : MethodId) (args : Array Value) (below : List Frame) (meth : Method) (c : Code) (H : Heap) (locs : List Loc) (cells slots mc ms : Nat) (g : JFrame) (rest : List Value) (Qa : State → Outcome → State → Prop) (XC : String → State → State → Prop) (free : Addr → Prop) : Prop :=
  ∀ T : State, T.heap = H → Stand p l e R s m args below meth c T locs cells slots →
    (∃ (v : Option Value) (st₀ t T' : State) (L : List Loc), st₀.heap = H ∧ Stand p l e R s m args below meth c T' (locs ++ L) (cells + mc) (slots + ms) ∧ (∀ q ∈ L, free q.base) ∧ T'.heap = t.heap ∧ T'.vm = t.vm ∧ Qa st₀ (.returned v) t ∧
      Goes p e below T g T' { g with pc := g.pc + 3, stack := v.toList ++ rest }) ∨
    (∃ (q : Addr) (st₀ t T' : State) (L : List Loc) (E : String) (ce : Cell), st₀.heap = H ∧ Stand p l e R s m args below meth c T' (locs ++ L) (cells + mc) (slots + ms) ∧ (∀ z ∈ L, free z.base) ∧ T'.heap = t.heap ∧ T'.vm = t.vm ∧ XC E st₀ t ∧ t.heap[q]? = some ce ∧ ce.vm = .none ∧ s.vm.findClass E = some ce.cls ∧
      Steps p.tables e below (T.setTop g) ((T'.setTop { g with stack := rest }).pushFrame (.throwing q)))
def vx_X {S : Type} (px : S → Prop) (B : String → S → State → Prop) (A : Nat → Prop) : String → State → State → Prop := fun E st t => ∃ u : S, px u ∧ B E u t ∧ va_F A st t
section Runs
variable {p : Program} {l : Launch} {e : Env} {R : Room} {s : State} {m : MethodId} {args : Array Value} {below : List Frame} {meth : Method} {c : Code} {H : Heap} {locs : List Loc} {cells slots : Nat}
variable {y : MethodName} {bytes cc : ByteArray} {maxL nL mc ms n index : Nat} {ret : Option FieldType} {ws : List Cond} {rm : Room} {Pc : Array Value → State → Prop} {Qc : Array Value → State → Outcome → State → Prop} {XC : String → State → State → Prop} {free : Addr → Prop} {Ts : List Cond} {own C : String} {b : Addr} {As rest : List Value} {g : JFrame}
theorem vx_callBack (cb : CallB R s args own index y bytes maxL ret ws rm mc ms n) (hM : vx_Met l y ws rm Pc Qc XC mc ms free) (hbl : FrameBlind Pc) : vx_Back l R p e below s args y 3 8 (PreOf R mc ms Pc) (PostOf Qc mc ms free) (vx_Post XC mc ms free) := by
  obtain ⟨hrc, hrs, hfr, hlo, hws, hcw, -, hini, -⟩ := cb
  exact vx_back (bytes := bytes) (maxL := maxL) (ret := ret) hM hbl hrc hrs hfr hlo hws hcw (fun a' U hW => word_at hW (Or.inl (by first | rfl | simp [Cond.onTables, Cond.keeps, Cond.steady])) hini)
theorem vx_runV (S : CallFix p m c cc nL s args Ts own) (hM : vx_Met l y ws rm Pc Qc XC mc ms free) (cw : CallW R s args own C index y bytes maxL ret ws rm mc ms n) (hp : PreV s H C b Pc As)
    (hg : g.method = m) (hn : As.length = n) (hsize : g.locals.size = nL) (hstack : g.stack = As.reverse ++ .ref b :: rest) (hW : 2 * g.monitorRoom + (rest.map fun v => v.category).sum ≤ 8) (hdg : decode cc g.pc = .ok (.invokevirtual index, 3)) (hf : cells + mc ≤ R.cells ∧ slots + ms ≤ R.slots) :
    vx_Run p l e R s m args below meth c H locs cells slots mc ms g rest (Qc (Value.ref b :: As).toArray) XC free := by
  have hK : vx_Back l R p e below s args y 3 8 (PreOf R mc ms Pc) (PostOf Qc mc ms free) (vx_Post XC mc ms free) := vx_callBack cw.1 hM hp.1
  obtain ⟨⟨-, -, -, -, -, -, hcode, -, hy, hlen, hl⟩, hin, hse⟩ := cw
  obtain ⟨hx, hb, hml, ho, -⟩ := S
  obtain ⟨-, ⟨cellB, hcB, hoB, hclB⟩, hPc⟩ := hp
  intro T hT X
  rcases vx_callV X hx (C := C) (bytes := bytes) (maxL := maxL) (ret := ret) ho hl hin hse hcode hy hK (by rw [hT]; exact hcB) hoB hclB hg (hsize.trans hml.symm) (argsL := As) (rest := rest) (fun sig h => hn.trans (hlen sig h)) hstack hW (by rw [hb]; exact hdg)
    (fun vm₁ hW₁ => ⟨hf.1, hf.2, hPc (T.setVm vm₁) hT hW₁⟩) with ⟨v, vm₁, ⟨U', l2, c2, s2⟩, hW₁, X', ⟨g', mk, t, L, e1, e2, hq, h1, hL, h2, h3⟩, st⟩ | ⟨q, vm₁, ⟨U', l2, c2, s2⟩, hW₁, X', ⟨g', mk, t, L, E, ce, e1, e2, hq, hce, hcv, hcl, h1, hL, h2, h3⟩, st⟩
  · dsimp only [Pt.U, Pt.locs, Pt.cells, Pt.slots] at X' e1 e2 h1 h2 h3 st
    subst h1; subst h2; subst h3
    exact Or.inl ⟨v, (T.setVm vm₁).calling g' mk (Value.ref b :: As).toArray, t, U', L, hT, X', hL, e1, e2, hq, st⟩
  · dsimp only [Pt.U, Pt.locs, Pt.cells, Pt.slots] at X' e1 e2 h1 h2 h3 st hcl
    subst h1; subst h2; subst h3
    exact Or.inr ⟨q, (T.setVm vm₁).calling g' mk (Value.ref b :: As).toArray, t, U', L, E, ce, hT, X', hL, e1, e2, hq, hce, hcv, vx_cls hW₁ hcl, st⟩
theorem vx_runS (S : CallFix p m c cc nL s args Ts own) (hM : vx_Met l y ws rm Pc Qc XC mc ms free) (cw : CallB R s args own index y bytes maxL ret ws rm mc ms n ∧ (Cond.static y).before args s = true) (hp : PreS s H Pc As)
    (hg : g.method = m) (hn : As.length = n) (hsize : g.locals.size = nL) (hstack : g.stack = As.reverse ++ rest) (hW : 2 * g.monitorRoom + (rest.map fun v => v.category).sum ≤ 8) (hdg : decode cc g.pc = .ok (.invokestatic index, 3)) (hf : cells + mc ≤ R.cells ∧ slots + ms ≤ R.slots) :
    vx_Run p l e R s m args below meth c H locs cells slots mc ms g rest (Qc As.toArray) XC free := by
  have hK : vx_Back l R p e below s args y 3 8 (PreOf R mc ms Pc) (PostOf Qc mc ms free) (vx_Post XC mc ms free) := vx_callBack cw.1 hM hp.1
  obtain ⟨⟨-, -, -, -, -, -, hcode, hini, hy, hlen, hl⟩, hstt⟩ := cw
  obtain ⟨hx, hb, hml, ho, -⟩ := S
  intro T hT X
  rcases vx_callS X hx (bytes := bytes) (maxL := maxL) (ret := ret) ho hl hstt hini hcode hy hK hg (hsize.trans hml.symm) (argsL := As) (rest := rest) (fun sig h => hn.trans (hlen sig h)) hstack hW (by rw [hb]; exact hdg)
    (fun vm₁ hW₁ => ⟨hf.1, hf.2, hp.2 (T.setVm vm₁) hT hW₁⟩) with ⟨v, vm₁, ⟨U', l2, c2, s2⟩, hW₁, X', ⟨g', mk, t, L, e1, e2, hq, h1, hL, h2, h3⟩, st⟩ | ⟨q, vm₁, ⟨U', l2, c2, s2⟩, hW₁, X', ⟨g', mk, t, L, E, ce, e1, e2, hq, hce, hcv, hcl, h1, hL, h2, h3⟩, st⟩
  · dsimp only [Pt.U, Pt.locs, Pt.cells, Pt.slots] at X' e1 e2 h1 h2 h3 st
    subst h1; subst h2; subst h3
    exact Or.inl ⟨v, (T.setVm vm₁).calling g' mk As.toArray, t, U', L, hT, X', hL, e1, e2, hq, st⟩
  · dsimp only [Pt.U, Pt.locs, Pt.cells, Pt.slots] at X' e1 e2 h1 h2 h3 st hcl
    subst h1; subst h2; subst h3
    exact Or.inr ⟨q, (T.setVm vm₁).calling g' mk As.toArray, t, U', L, E, ce, hT, X', hL, e1, e2, hq, hce, hcv, vx_cls hW₁ hcl, st⟩
end Runs
section Rows
variable {p : Program} {l : Launch} {e : Env} {R : Room} {s : State} {m : MethodId} {args : Array Value} {below : List Frame} {meth : Method} {c : Code} {H : Heap} {locs : List Loc} {cells slots : Nat} {Q : State → Prop}
variable {mc ms : Nat} {free : Addr → Prop} {A0 A1 : Nat → Prop} {H0 : Heap} {a : Array Value} {pc : Nat} {ls : Array Slot} {st0 rest : List Value}
theorem vx_keep {st₀ t T' : State} {L : List Loc} (h0 : st₀.heap = H) (e1 : T'.heap = t.heap) (hS : va_S A0 H0 H locs) (hA : ∀ q, q < H.size → A1 q → A0 q) (hf : ∀ q, free q → A0 q) (hL : ∀ q ∈ L, free q.base) (hF : va_F A1 st₀ t) :
    H.size ≤ T'.heap.size ∧ (∀ q : Nat, q < H.size → ¬ A1 q → T'.heap[q]? = H[q]?) ∧ va_S A0 H0 T'.heap (locs ++ L) := by
  obtain ⟨hz, hk⟩ := hF
  rw [h0] at hz hk
  exact ⟨by rw [e1]; exact hz, fun q h1 h2 => by rw [e1]; exact hk q h1 h2,
    ⟨Nat.le_trans hS.1 (by rw [e1]; exact hz), fun q h1 h2 => by rw [e1, hk q (Nat.lt_of_lt_of_le h1 hS.1) (fun z => h2 (hA q (Nat.lt_of_lt_of_le h1 hS.1) z))]; exact hS.2.1 q h1 h2, fun q hq => by
      rcases List.mem_append.mp hq with h | h
      · exact hS.2.2 q h
      · exact hf _ (hL q h)⟩⟩
theorem vx_calli {S SX : Type} {post : Int32 → S → Prop} {px : SX → Prop} {B : S → State → Prop} {BX : String → SX → State → Prop} {AX : Nat → Prop} (hr : vx_Run p l e R s m args below meth c H locs cells slots mc ms (F0 m pc ls st0) rest (va_Qi post B A1 a) (vx_X px BX AX) free) (hS : va_S A0 H0 H locs) (hA : ∀ q, q < H.size → A1 q → A0 q) (hf : ∀ q, free q → A0 q) (hAX : ∀ q, q < H.size → AX q → A0 q)
    (kx : ∀ (E : String) (ce : Cell) (q9 : Addr) (u : SX) (t : State) (H1 : Heap) (locs1 : List Loc), t.heap = H1 → s.vm.Alike t.vm → px u → BX E u t → H.size ≤ H1.size → (∀ q : Nat, q < H.size → ¬ AX q → H1[q]? = H[q]?) → va_S A0 H0 H1 locs1 → H1[q9]? = some ce → ce.vm = .none → s.vm.findClass E = some ce.cls → vx_W p l e R s m args below meth c H1 locs1 (cells + mc) (slots + ms) Q (F0 m pc ls rest) q9)
    (kk : ∀ (r : Int32) (u : S) (t : State) (H1 : Heap) (locs1 : List Loc), t.heap = H1 → s.vm.Alike t.vm → post r u → B u t → H.size ≤ H1.size → (∀ q : Nat, q < H.size → ¬ A1 q → H1[q]? = H[q]?) → va_S A0 H0 H1 locs1 → W p l e R s m args below meth c H1 locs1 (cells + mc) (slots + ms) Q (F0 m (pc + 3) ls (.int r :: rest))) : W p l e R s m args below meth c H locs cells slots Q (F0 m pc ls st0) := by
  intro T hT X
  rcases hr T hT X with ⟨v, st₀, t, T', L, h0, X', hL, e1, e2, ⟨⟨r, u, hv, hp, hb⟩, hF⟩, st⟩ | ⟨q, st₀, t, T', L, E, ce, h0, X', hL, e1, e2, ⟨u, hp, hb, hF⟩, hce, hcv, hcl, st⟩
  · cases hv
    obtain ⟨k1, k2, k3⟩ := vx_keep h0 e1 hS hA hf hL hF
    obtain ⟨t2, a1, b1⟩ := kk r u t T'.heap (locs ++ L) e1.symm (by rw [← e2]; exact X'.warmed.alike) hp hb k1 k2 k3 T' rfl X'
    exact ⟨t2, st t2 a1, b1⟩
  · obtain ⟨k1, k2, k3⟩ := vx_keep h0 e1 hS hAX hf hL hF
    obtain ⟨t2, a1, b1⟩ := kx E ce q u t T'.heap (locs ++ L) e1.symm (by rw [← e2]; exact X'.warmed.alike) hp hb k1 k2 k3 (by rw [e1]; exact hce) hcv hcl T' rfl X'
    exact ⟨t2, st.trans a1, b1⟩
theorem vx_calll {S SX : Type} {post : Int64 → S → Prop} {px : SX → Prop} {B : S → State → Prop} {BX : String → SX → State → Prop} {AX : Nat → Prop} (hr : vx_Run p l e R s m args below meth c H locs cells slots mc ms (F0 m pc ls st0) rest (va_Ql post B A1 a) (vx_X px BX AX) free) (hS : va_S A0 H0 H locs) (hA : ∀ q, q < H.size → A1 q → A0 q) (hf : ∀ q, free q → A0 q) (hAX : ∀ q, q < H.size → AX q → A0 q)
    (kx : ∀ (E : String) (ce : Cell) (q9 : Addr) (u : SX) (t : State) (H1 : Heap) (locs1 : List Loc), t.heap = H1 → s.vm.Alike t.vm → px u → BX E u t → H.size ≤ H1.size → (∀ q : Nat, q < H.size → ¬ AX q → H1[q]? = H[q]?) → va_S A0 H0 H1 locs1 → H1[q9]? = some ce → ce.vm = .none → s.vm.findClass E = some ce.cls → vx_W p l e R s m args below meth c H1 locs1 (cells + mc) (slots + ms) Q (F0 m pc ls rest) q9)
    (kk : ∀ (r : Int64) (u : S) (t : State) (H1 : Heap) (locs1 : List Loc), t.heap = H1 → s.vm.Alike t.vm → post r u → B u t → H.size ≤ H1.size → (∀ q : Nat, q < H.size → ¬ A1 q → H1[q]? = H[q]?) → va_S A0 H0 H1 locs1 → W p l e R s m args below meth c H1 locs1 (cells + mc) (slots + ms) Q (F0 m (pc + 3) ls (.long r :: rest))) : W p l e R s m args below meth c H locs cells slots Q (F0 m pc ls st0) := by
  intro T hT X
  rcases hr T hT X with ⟨v, st₀, t, T', L, h0, X', hL, e1, e2, ⟨⟨r, u, hv, hp, hb⟩, hF⟩, st⟩ | ⟨q, st₀, t, T', L, E, ce, h0, X', hL, e1, e2, ⟨u, hp, hb, hF⟩, hce, hcv, hcl, st⟩
  · cases hv
    obtain ⟨k1, k2, k3⟩ := vx_keep h0 e1 hS hA hf hL hF
    obtain ⟨t2, a1, b1⟩ := kk r u t T'.heap (locs ++ L) e1.symm (by rw [← e2]; exact X'.warmed.alike) hp hb k1 k2 k3 T' rfl X'
    exact ⟨t2, st t2 a1, b1⟩
  · obtain ⟨k1, k2, k3⟩ := vx_keep h0 e1 hS hAX hf hL hF
    obtain ⟨t2, a1, b1⟩ := kx E ce q u t T'.heap (locs ++ L) e1.symm (by rw [← e2]; exact X'.warmed.alike) hp hb k1 k2 k3 (by rw [e1]; exact hce) hcv hcl T' rfl X'
    exact ⟨t2, st.trans a1, b1⟩
theorem vx_callf {S SX : Type} {post : UInt32 → S → Prop} {px : SX → Prop} {B : S → State → Prop} {BX : String → SX → State → Prop} {AX : Nat → Prop} (hr : vx_Run p l e R s m args below meth c H locs cells slots mc ms (F0 m pc ls st0) rest (va_Qf post B A1 a) (vx_X px BX AX) free) (hS : va_S A0 H0 H locs) (hA : ∀ q, q < H.size → A1 q → A0 q) (hf : ∀ q, free q → A0 q) (hAX : ∀ q, q < H.size → AX q → A0 q)
    (kx : ∀ (E : String) (ce : Cell) (q9 : Addr) (u : SX) (t : State) (H1 : Heap) (locs1 : List Loc), t.heap = H1 → s.vm.Alike t.vm → px u → BX E u t → H.size ≤ H1.size → (∀ q : Nat, q < H.size → ¬ AX q → H1[q]? = H[q]?) → va_S A0 H0 H1 locs1 → H1[q9]? = some ce → ce.vm = .none → s.vm.findClass E = some ce.cls → vx_W p l e R s m args below meth c H1 locs1 (cells + mc) (slots + ms) Q (F0 m pc ls rest) q9)
    (kk : ∀ (r : UInt32) (u : S) (t : State) (H1 : Heap) (locs1 : List Loc), t.heap = H1 → s.vm.Alike t.vm → post r u → B u t → H.size ≤ H1.size → (∀ q : Nat, q < H.size → ¬ A1 q → H1[q]? = H[q]?) → va_S A0 H0 H1 locs1 → W p l e R s m args below meth c H1 locs1 (cells + mc) (slots + ms) Q (F0 m (pc + 3) ls (.float r :: rest))) : W p l e R s m args below meth c H locs cells slots Q (F0 m pc ls st0) := by
  intro T hT X
  rcases hr T hT X with ⟨v, st₀, t, T', L, h0, X', hL, e1, e2, ⟨⟨r, u, hv, hp, hb⟩, hF⟩, st⟩ | ⟨q, st₀, t, T', L, E, ce, h0, X', hL, e1, e2, ⟨u, hp, hb, hF⟩, hce, hcv, hcl, st⟩
  · cases hv
    obtain ⟨k1, k2, k3⟩ := vx_keep h0 e1 hS hA hf hL hF
    obtain ⟨t2, a1, b1⟩ := kk r u t T'.heap (locs ++ L) e1.symm (by rw [← e2]; exact X'.warmed.alike) hp hb k1 k2 k3 T' rfl X'
    exact ⟨t2, st t2 a1, b1⟩
  · obtain ⟨k1, k2, k3⟩ := vx_keep h0 e1 hS hAX hf hL hF
    obtain ⟨t2, a1, b1⟩ := kx E ce q u t T'.heap (locs ++ L) e1.symm (by rw [← e2]; exact X'.warmed.alike) hp hb k1 k2 k3 (by rw [e1]; exact hce) hcv hcl T' rfl X'
    exact ⟨t2, st.trans a1, b1⟩
theorem vx_calld {S SX : Type} {post : UInt64 → S → Prop} {px : SX → Prop} {B : S → State → Prop} {BX : String → SX → State → Prop} {AX : Nat → Prop} (hr : vx_Run p l e R s m args below meth c H locs cells slots mc ms (F0 m pc ls st0) rest (va_Qd post B A1 a) (vx_X px BX AX) free) (hS : va_S A0 H0 H locs) (hA : ∀ q, q < H.size → A1 q → A0 q) (hf : ∀ q, free q → A0 q) (hAX : ∀ q, q < H.size → AX q → A0 q)
    (kx : ∀ (E : String) (ce : Cell) (q9 : Addr) (u : SX) (t : State) (H1 : Heap) (locs1 : List Loc), t.heap = H1 → s.vm.Alike t.vm → px u → BX E u t → H.size ≤ H1.size → (∀ q : Nat, q < H.size → ¬ AX q → H1[q]? = H[q]?) → va_S A0 H0 H1 locs1 → H1[q9]? = some ce → ce.vm = .none → s.vm.findClass E = some ce.cls → vx_W p l e R s m args below meth c H1 locs1 (cells + mc) (slots + ms) Q (F0 m pc ls rest) q9)
    (kk : ∀ (r : UInt64) (u : S) (t : State) (H1 : Heap) (locs1 : List Loc), t.heap = H1 → s.vm.Alike t.vm → post r u → B u t → H.size ≤ H1.size → (∀ q : Nat, q < H.size → ¬ A1 q → H1[q]? = H[q]?) → va_S A0 H0 H1 locs1 → W p l e R s m args below meth c H1 locs1 (cells + mc) (slots + ms) Q (F0 m (pc + 3) ls (.double r :: rest))) : W p l e R s m args below meth c H locs cells slots Q (F0 m pc ls st0) := by
  intro T hT X
  rcases hr T hT X with ⟨v, st₀, t, T', L, h0, X', hL, e1, e2, ⟨⟨r, u, hv, hp, hb⟩, hF⟩, st⟩ | ⟨q, st₀, t, T', L, E, ce, h0, X', hL, e1, e2, ⟨u, hp, hb, hF⟩, hce, hcv, hcl, st⟩
  · cases hv
    obtain ⟨k1, k2, k3⟩ := vx_keep h0 e1 hS hA hf hL hF
    obtain ⟨t2, a1, b1⟩ := kk r u t T'.heap (locs ++ L) e1.symm (by rw [← e2]; exact X'.warmed.alike) hp hb k1 k2 k3 T' rfl X'
    exact ⟨t2, st t2 a1, b1⟩
  · obtain ⟨k1, k2, k3⟩ := vx_keep h0 e1 hS hAX hf hL hF
    obtain ⟨t2, a1, b1⟩ := kx E ce q u t T'.heap (locs ++ L) e1.symm (by rw [← e2]; exact X'.warmed.alike) hp hb k1 k2 k3 (by rw [e1]; exact hce) hcv hcl T' rfl X'
    exact ⟨t2, st.trans a1, b1⟩
theorem vx_callv {S SX : Type} {post : S → Prop} {px : SX → Prop} {B : S → State → Prop} {BX : String → SX → State → Prop} {AX : Nat → Prop} (hr : vx_Run p l e R s m args below meth c H locs cells slots mc ms (F0 m pc ls st0) rest (va_Qv post B A1 a) (vx_X px BX AX) free) (hS : va_S A0 H0 H locs) (hA : ∀ q, q < H.size → A1 q → A0 q) (hf : ∀ q, free q → A0 q) (hAX : ∀ q, q < H.size → AX q → A0 q)
    (kx : ∀ (E : String) (ce : Cell) (q9 : Addr) (u : SX) (t : State) (H1 : Heap) (locs1 : List Loc), t.heap = H1 → s.vm.Alike t.vm → px u → BX E u t → H.size ≤ H1.size → (∀ q : Nat, q < H.size → ¬ AX q → H1[q]? = H[q]?) → va_S A0 H0 H1 locs1 → H1[q9]? = some ce → ce.vm = .none → s.vm.findClass E = some ce.cls → vx_W p l e R s m args below meth c H1 locs1 (cells + mc) (slots + ms) Q (F0 m pc ls rest) q9)
    (kk : ∀ (u : S) (t : State) (H1 : Heap) (locs1 : List Loc), t.heap = H1 → s.vm.Alike t.vm → post u → B u t → H.size ≤ H1.size → (∀ q : Nat, q < H.size → ¬ A1 q → H1[q]? = H[q]?) → va_S A0 H0 H1 locs1 → W p l e R s m args below meth c H1 locs1 (cells + mc) (slots + ms) Q (F0 m (pc + 3) ls (rest))) : W p l e R s m args below meth c H locs cells slots Q (F0 m pc ls st0) := by
  intro T hT X
  rcases hr T hT X with ⟨v, st₀, t, T', L, h0, X', hL, e1, e2, ⟨⟨u, hv, hp, hb⟩, hF⟩, st⟩ | ⟨q, st₀, t, T', L, E, ce, h0, X', hL, e1, e2, ⟨u, hp, hb, hF⟩, hce, hcv, hcl, st⟩
  · cases hv
    obtain ⟨k1, k2, k3⟩ := vx_keep h0 e1 hS hA hf hL hF
    obtain ⟨t2, a1, b1⟩ := kk u t T'.heap (locs ++ L) e1.symm (by rw [← e2]; exact X'.warmed.alike) hp hb k1 k2 k3 T' rfl X'
    exact ⟨t2, st t2 a1, b1⟩
  · obtain ⟨k1, k2, k3⟩ := vx_keep h0 e1 hS hAX hf hL hF
    obtain ⟨t2, a1, b1⟩ := kx E ce q u t T'.heap (locs ++ L) e1.symm (by rw [← e2]; exact X'.warmed.alike) hp hb k1 k2 k3 (by rw [e1]; exact hce) hcv hcl T' rfl X'
    exact ⟨t2, st.trans a1, b1⟩
/-- caught by the row x of this method's table; the rows ahead don't take it -/
theorem vx_catch {own name : String} {E : String} {ce : Cell} {q : Addr} (hown : s.vm.findClass own = some m.cls) (pre : List ExceptionTableEntry) (x : ExceptionTableEntry) (suf : List ExceptionTableEntry) (hsplit : c.exceptionTable.toList = pre ++ x :: suf)
    (hpass : ∀ z ∈ pre, covers z pc = false ∨ (z.catchType ≠ 0 ∧ ∃ nm : String, (Cond.classLink own z.catchType nm).before args s = true ∧ va_Nc E nm s)) (hx : covers x pc = true) (h0 : x.catchType ≠ 0)
    (hlink : (Cond.classLink own x.catchType name).before args s = true) (hcast : (Cond.castable E name).before args s = true) (hcell : H[q]? = some ce) (hv : ce.vm = .none) (hcl : s.vm.findClass E = some ce.cls)
    (kk : W p l e R s m args below meth c H locs cells slots Q (F0 m x.handlerPc ls [.ref q])) : vx_W p l e R s m args below meth c H locs cells slots Q (F0 m pc ls rest) q := by
  intro T hT X
  have hpl : e.platform.magicAccessors = ({} : Platform).magicAccessors := by rw [X.admits.platform]
  obtain ⟨c3, c4, hc3, hc4, hasg⟩ := Cond.castable_spec hcast
  cases Option.some.inj (hc3.symm.trans hcl)
  obtain ⟨c5, hc5, hcl5⟩ := Cond.classLink_spec hown hlink e.platform hpl
  cases Option.some.inj (hc4.symm.trans hc5)
  obtain ⟨vm', X', st⟩ := X.thenCaughtThrough q (g := F0 m pc ls rest) rfl (Steps.refl _) (by rw [hT]; exact hcell) (by rw [hv]; rfl) (by obtain ⟨k9, h9, -⟩ := Vm.findClass_spec hcl; exact ⟨k9, h9⟩) pre x suf hsplit
    (fun z hz => by
      rcases hpass z hz with h | ⟨hz0, nm, hl1, hn1⟩
      · exact Or.inl h
      · obtain ⟨c6, hc6, hcl6⟩ := Cond.classLink_spec hown hl1 e.platform hpl
        obtain ⟨a8, b8, h1, h2, h3⟩ := hn1
        cases Option.some.inj (h1.symm.trans hcl)
        cases Option.some.inj (h2.symm.trans hc6)
        exact Or.inr ⟨hz0, _, hcl6, h3⟩) hx (Or.inr ⟨h0, c4, hcl5, hasg⟩)
  obtain ⟨t, a1, b1⟩ := kk (T.setVm vm') hT X'
  exact ⟨t, st.trans a1, b1⟩
end Rows
section Ends
variable {p : Program} {l : Launch} {e : Env} {R : Room} {s : State} {m : MethodId} {args : Array Value} {below : List Frame} {meth : Method} {c : Code} {H : Heap} {locs : List Loc} {cells slots : Nat} {Q : State → Prop}
variable {mc ms : Nat} {free : Addr → Prop} {A0 A1 : Nat → Prop} {H0 : Heap} {a : Array Value} {ls : Array Slot} {st0 rest : List Value}
variable {Qc : Array Value → State → Outcome → State → Prop} {XC : String → State → State → Prop}
/-- what a body that may throw owes at its end -/
def vx_MQ (below : List Frame) (Qc : Array Value → State → Outcome → State → Prop) (XC : String → State → State → Prop) (a : Array Value) (s : State) (mc ms : Nat) (free : Addr → Prop) : State → Prop := fun t =>
  ∃ o, t.status = .running ∧ Ended t below o ∧ vx_Q Qc XC mc ms free a s o t
theorem vx_ret {g : JFrame} {mc ms : Nat} (k : W p l e R s m args below meth c H locs cells slots (MQ below Qc args s mc ms free) g) : W p l e R s m args below meth c H locs cells slots (vx_MQ below Qc XC args s mc ms free) g := by
  intro T hT X
  obtain ⟨t, a1, o, b1, b2, b3, b4⟩ := k T hT X
  exact ⟨t, a1, o, b1, b2, Or.inl ⟨b3, b4⟩⟩
/-- not caught here: it goes on to the caller -/
theorem vx_widen {g : JFrame} {q : Addr} {k n : Nat} (h1 : cells ≤ k) (h2 : slots ≤ n) (kk : vx_W p l e R s m args below meth c H locs k n Q g q) : vx_W p l e R s m args below meth c H locs cells slots Q g q := fun T hT X => kk T hT (stand_widen X h1 h2)
theorem vx_out {pc : Nat} {E : String} {ce : Cell} {q : Addr} {mc ms : Nat} (hout : ∀ x ∈ c.exceptionTable.toList, covers x pc = false) (hlocks : meth.locks = false) (hcell : H[q]? = some ce) (hv : ce.vm = .none) (hcl : s.vm.findClass E = some ce.cls)
    (hx : ∀ t : State, t.heap = H → s.vm.Alike t.vm → XC E s t) (hf : ∀ z ∈ locs, free z.base) (hc : cells ≤ mc) (hs : slots ≤ ms) :
    vx_W p l e R s m args below meth c H locs cells slots (vx_MQ below Qc XC args s mc ms free) (F0 m pc ls rest) q := by
  intro T hT X
  obtain ⟨st1, hrun, hend, hW, hsm⟩ := X.leaveThrown q (g := F0 m pc ls rest) rfl rfl rfl hout hlocks
  have hcell9 : (T.setFrames (.throwing q :: below)).heap[q]? = some ce := by
    show T.heap[q]? = some ce
    rw [hT]; exact hcell
  exact ⟨_, st1, .threw q, hrun, hend, Or.inr ⟨q, rfl, E, ce, locs, hx _ hT hW.alike, hcell9, hv, hcl, hW, hsm.mono hc hs, hf⟩⟩
theorem vx_frame {U : State} {k n : Nat} (h : s.sameButNew ({ U with vm := s.vm } : State) locs k n) : s.heap.size ≤ U.heap.size ∧ ∀ q : Nat, q < s.heap.size → (∀ z ∈ locs, z.base ≠ q) → U.heap[q]? = s.heap[q]? := by
  obtain ⟨-, h2, -, -, -, h6⟩ := h
  refine ⟨h2, fun q hq hz => ?_⟩
  obtain ⟨c9, e1, e2, e3, e4⟩ := h6 q _ (Array.getElem?_eq_getElem hq)
  have hs : c9.slots = (s.heap[q]).slots := Array.ext_getElem? fun i => e4 i fun hm => hz _ hm rfl
  have h9 : c9 = s.heap[q] := by
    rw [hs] at e2
    exact e2
  have e5 : U.heap[q]? = some c9 := e1
  rw [e5, h9, Array.getElem?_eq_getElem hq]
/-- the words of a throw but the four that speak of the heap -/
def vx_no (w : Cond) : Bool := decide (w ≠ .isRef (.static Bundle.tN "UNASSIGNED_STACK" Bundle.steD)) && decide (w ≠ .isRef (.static Bundle.tN "SUPPRESSED_SENTINEL" Bundle.listD)) && decide (w ≠ .laysStatic Bundle.tN "UNASSIGNED_STACK" Bundle.steD) && decide (w ≠ .laysStatic Bundle.tN "SUPPRESSED_SENTINEL" Bundle.listD)
def vx_at0 (own : String) (ic : Nat) (X : String) (names : List String) : List Cond := (Bundle.ownAtoms0 own ic X names).filter vx_no
def vx_atS (own : String) (ic : Nat) (X : String) (names : List String) : List Cond := (Bundle.ownAtoms own ic X names).filter vx_no
/-- a word that the tables alone decide, or a good one -/
def vx_ot (w : Cond) : Bool := w.onTables || goodWord w
theorem vx_ot_at {args a' : Array Value} {s U : State} {w : Cond} (hW : s.WarmedH U.vm) (hvm : s.vm = U.vm) (hg : vx_ot w = true) (h : w.before args s = true) : w.before a' U = true := by
  simp only [vx_ot, Bool.or_eq_true] at hg
  rcases hg with hg | hg
  · exact va_tabs hg hvm h
  · exact word_at hW (good_of_word hg) h
/-- a list's words: the good ones out of the method's own list, the others by premises of their own -/
theorem vx_hat {args : Array Value} {s : State} {L B : List Cond} (h1 : ∀ w ∈ L.filter goodWord, w.before args s = true) (h2 : ∀ w ∈ L.filter (fun w => !goodWord w), w ∈ B) (h3 : ∀ w ∈ B, w.before args s = true) : ∀ w ∈ L, w.before args s = true := by
  intro w hw
  by_cases g : goodWord w = true
  · exact h1 w (List.mem_filter.mpr ⟨hw, g⟩)
  · refine h3 w (h2 w (List.mem_filter.mpr ⟨hw, ?_⟩))
    show (!goodWord w) = true
    cases hgw : goodWord w
    · rfl
    · exact absurd hgw g
theorem vx_c {args : Array Value} {s : State} {w : Cond} {B : List Cond} (h : w.before args s = true) (t : ∀ w ∈ B, w.before args s = true) : ∀ w' ∈ w :: B, w'.before args s = true := fun w' h' => (List.mem_cons.mp h').elim (fun e => by rw [e]; exact h) (t w')
theorem vx_n {args : Array Value} {s : State} : ∀ w ∈ ([] : List Cond), w.before args s = true := fun _ h => nomatch h
theorem vx_own {args : Array Value} {s : State} {L : List Cond} (h1 : ∀ w ∈ L.filter vx_no, w.before args s = true)
    (hU : (Cond.isRef (.static Bundle.tN "UNASSIGNED_STACK" Bundle.steD)).before args s = true) (hN : (Cond.isRef (.static Bundle.tN "SUPPRESSED_SENTINEL" Bundle.listD)).before args s = true)
    (lU : (Cond.laysStatic Bundle.tN "UNASSIGNED_STACK" Bundle.steD).before args s = true) (lN : (Cond.laysStatic Bundle.tN "SUPPRESSED_SENTINEL" Bundle.listD).before args s = true) : ∀ w ∈ L, w.before args s = true := by
  intro w hw
  by_cases e1 : w = .isRef (.static Bundle.tN "UNASSIGNED_STACK" Bundle.steD)
  · rw [e1]; exact hU
  · by_cases e2 : w = .isRef (.static Bundle.tN "SUPPRESSED_SENTINEL" Bundle.listD)
    · rw [e2]; exact hN
    · by_cases e3 : w = .laysStatic Bundle.tN "UNASSIGNED_STACK" Bundle.steD
      · rw [e3]; exact lU
      · by_cases e4 : w = .laysStatic Bundle.tN "SUPPRESSED_SENTINEL" Bundle.listD
        · rw [e4]; exact lN
        · exact h1 w (List.mem_filter.mpr ⟨hw, by unfold vx_no; rw [decide_eq_true e1, decide_eq_true e2, decide_eq_true e3, decide_eq_true e4]; rfl⟩)
/-- where a static field lies, its class's statics cell in H -/
def vx_L (C n d : String) (A : Nat → Prop) (U : State) (H : Heap) : Prop := ∃ (c : ClassId) (k : Class) (i : Nat) (f : Field) (a : Nat) (cell : Cell), U.vm.findClass C = some c ∧ U.fieldFound? C n d = some (c, k, i, f) ∧ f.isStatic = true ∧ k.statics = some a ∧ H[a]? = some cell ∧ cell.vm.isStatics = true ∧ cell.cls = c ∧ f.slot < cell.slots.size ∧ k.staticTypes[f.slot]? = some f.type ∧ ¬ A a
theorem vx_L.moved {C n d : String} {A : Nat → Prop} {u U : State} {H : Heap} (hvm : u.vm.Alike U.vm) (h : vx_L C n d A u H) : vx_L C n d A U H := by
  obtain ⟨c, k, i, f, a, cell, h1, h2, h3, h4, h5, h6, h7, h8, h9, h10⟩ := h
  obtain ⟨k', hi', he⟩ := State.fieldFound?_setVm hvm h2
  exact ⟨c, k', i, f, a, cell, by rw [hvm.findClass]; exact h1, hi', h3, by rw [he]; exact h4, h5, h6, h7, h8, by rw [he]; exact h9, h10⟩
theorem vx_L.kept {C n d : String} {A : Nat → Prop} {U : State} {H H1 : Heap} (h : vx_L C n d A U H) (hq : ∀ a : Nat, a < H.size → ¬ A a → H1[a]? = H[a]?) : vx_L C n d A U H1 := by
  obtain ⟨c, k, i, f, a, cell, h1, h2, h3, h4, h5, h6, h7, h8, h9, h10⟩ := h
  exact ⟨c, k, i, f, a, cell, h1, h2, h3, h4, by rw [hq a (Array.getElem?_eq_some_iff.mp h5).1 h10]; exact h5, h6, h7, h8, h9, h10⟩
theorem vx_L.narrow {C n d : String} {A B : Nat → Prop} {U : State} {H : Heap} (h : vx_L C n d A U H) (hAB : ∀ q, B q → A q) : vx_L C n d B U H := by
  obtain ⟨c, k, i, f, a, cell, h1, h2, h3, h4, h5, h6, h7, h8, h9, h10⟩ := h
  exact ⟨c, k, i, f, a, cell, h1, h2, h3, h4, h5, h6, h7, h8, h9, fun z => h10 (hAB _ z)⟩
theorem vx_L.word {C n d : String} {A : Nat → Prop} {s : State} {args : Array Value} (h : vx_L C n d A s s.heap) : (Cond.laysStatic C n d).before args s = true := by
  obtain ⟨c, k, i, f, a, cell, h1, h2, h3, h4, h5, h6, h7, h8, h9, -⟩ := h
  show (Cond.laysStatic C n d).holds args s none s [] = true
  exact Cond.laysStatic_of h1 h2 h3 h4 h5 h6 h7 h8 h9
/-- .. and what it holds: null or some reference -/
def vx_Zq (C n d : String) (A : Nat → Prop) (U : State) (H : Heap) : Prop := va_Zq C n d A U H ∧ vx_L C n d A U H
theorem vx_Zq.moved {C n d : String} {A : Nat → Prop} {u U : State} {H : Heap} (hvm : u.vm.Alike U.vm) (h : vx_Zq C n d A u H) : vx_Zq C n d A U H := ⟨va_Zq.moved hvm h.1, vx_L.moved hvm h.2⟩
theorem vx_Zq.kept {C n d : String} {A : Nat → Prop} {U : State} {H H1 : Heap} (h : vx_Zq C n d A U H) (hq : ∀ a : Nat, a < H.size → ¬ A a → H1[a]? = H[a]?) : vx_Zq C n d A U H1 := ⟨va_Zq.kept h.1 hq, vx_L.kept h.2 hq⟩
theorem vx_Zq.narrow {C n d : String} {A B : Nat → Prop} {U : State} {H : Heap} (h : vx_Zq C n d A U H) (hAB : ∀ q, B q → A q) : vx_Zq C n d B U H := ⟨va_Zq.narrow h.1 hAB, vx_L.narrow h.2 hAB⟩
theorem vx_Zqof {args : Array Value} {s : State} {C n d : String} {A : Nat → Prop} (hl : (Cond.laysStatic C n d).before args s = true) (hini : (Cond.initialized C).before args s = true) (h : (Cond.isRef (.static C n d)).before args s = true) (hA : ∀ a : Nat, a < s.heap.size → ¬ A a) : vx_Zq C n d A s s.heap := by
  refine ⟨va_Zqof hl hini h hA, ?_⟩
  obtain ⟨c, k, i, f, a, cell, h1, h2, h3, h4, h5, h6, h7, h8, h9⟩ := Cond.laysStatic_spec hl
  exact ⟨c, k, i, f, a, cell, h1, h2, h3, h4, h5, h6, h7, h8, h9, hA a (Array.getElem?_eq_some_iff.mp h5).1⟩
theorem vx_isRef {C n d : String} {v : Value} {A : Nat → Prop} {s : State} {args : Array Value} (h : va_Z C n d v A s s.heap) (hv : v.isRef = true) : (Cond.isRef (.static C n d)).before args s = true := by
  obtain ⟨cf, kf, fi, f, a, cell, h1, h2, h3, h4, h5, h6, h7, -⟩ := h
  have he : (Term.static C n d).eval args s none [] s = some v := by
    simp [Term.eval, State.fieldNamed?, h1, h2, h4, h5, h6, h7]
  simp only [Cond.before, Cond.holds, Cond.value, he]
  cases v <;> simp_all [Value.isRef]
theorem vx_isRefq {C n d : String} {A : Nat → Prop} {s : State} {args : Array Value} (h : va_Zq C n d A s s.heap) : (Cond.isRef (.static C n d)).before args s = true := by
  rcases h with h | ⟨t, h⟩
  · exact vx_isRef h rfl
  · exact vx_isRef h rfl
/-- the same frame, seen from here: as if the method were called anew in this heap -/
theorem vx_rebase {T : State} (X : Stand p l e R s m args below meth c T locs cells slots) {R' : Room} (hf : R'.frames ≤ R.frames) (hl : R'.locals ≤ R.locals) (hc : cells + R'.cells ≤ R.cells) (hs : slots + R'.slots ≤ R.slots) :
    Stand p l e R' ((T.setVm s.vm).setFrames (.invoking m args :: below)) m args below meth c T [] 0 0 := by
  have htop : (T.setVm s.vm).topJava?.isSome := X.here.top
  have hF : ((T.setVm s.vm).setFrames (.invoking m args :: below)).frames = .invoking m args :: below := State.frames_setFrames _ (State.cur_lt_of_top htop)
  obtain ⟨g₀, hg0⟩ := Option.isSome_iff_exists.mp htop
  obtain ⟨r, hr⟩ := State.topJava?_eq_some.mp hg0
  have hl9 : e.platform.stackLimits (T.setVm s.vm).me = e.platform.stackLimits s.me := X.limits
  have hb9 : (T.setVm s.vm).me.stackBytes = s.me.stackBytes := X.bytes
  refine ⟨X.admits, X.cas, X.clock, hF, ?_, X.hears, X.method, X.code, X.here, X.tail, X.warmed, ?_, ?_, ?_⟩
  · have h := X.room
    have hU : ((T.setVm s.vm).setFrames (.invoking m args :: below)).localsInUse = s.localsInUse := by
      rw [State.localsInUse_invoking hF (meth := meth) (c := c) X.method X.code, State.localsInUse_invoking X.frames X.method X.code]
    simp only [State.hasRoom, Bool.and_eq_true, decide_eq_true_eq] at h ⊢
    obtain ⟨⟨⟨⟨h1, h2, h3, h4, h5, h6⟩, h7⟩, h8⟩, h9⟩ := h
    rw [X.frames, List.length_cons] at h2 h3
    have q1 := X.heapSize
    have q2 := X.used
    simp only [hF, hU, List.length_cons, State.stackLimits_setFrames, State.stackBytes_setFrames, hl9, hb9]
    refine ⟨⟨⟨⟨by omega, by omega, by omega, by omega, by omega, h6⟩, ?_⟩, ?_⟩, X.book⟩
    · show T.heap.size + R'.cells ≤ e.platform.maxCells
      omega
    · show T.slotsUsed + R'.slots ≤ e.platform.maxSlots
      omega
  · rw [State.stackLimits_setFrames]; rfl
  · rw [State.stackBytes_setFrames]; rfl
  · refine ⟨?_, Nat.le_refl _, Nat.le_refl _, ?_, ?_, fun a c9 h9 => ⟨c9, h9, rfl, rfl, fun _ _ => rfl⟩⟩
    · obtain ⟨t, ht, -⟩ := State.frames_cons hr
      show T.setVm s.vm = { ((T.setVm s.vm).setFrames (.invoking m args :: below)).setFrames (T.setVm s.vm).frames with heap := T.heap, slotsUsed := T.slotsUsed }
      rw [State.setFrames_setFrames, State.setFrames_self ht]
      rfl
    · show T.slotsUsed = T.slotsUsed + ((T.heap.toList.drop T.heap.size).map (·.slots.size)).sum
      rw [List.drop_eq_nil_of_le (Nat.le_of_eq Array.length_toList)]
      rfl
    · show ((T.heap.toList.drop T.heap.size).map (·.slots.size)).sum ≤ 0
      rw [List.drop_eq_nil_of_le (Nat.le_of_eq Array.length_toList)]
      exact Nat.le_refl _
/-- 'throw new E()': new; dup; invokespecial; athrow -/
theorem vx_throw0 {cc : ByteArray} {pc : Nat} (hexec : p.tables.exec = Jvm.exec) (hb : c.code = cc) (hl : l.stackTraces = false) {own cls : String} {names : List String} {ik ic mc ms : Nat} {A : Nat → Prop}
    (hown : s.vm.findClass own = some m.cls) (hcls : Bundle.fit cls = true) (hnames : ∀ n ∈ names, Bundle.fit n = true)
    (hk : (Cond.classLink own ik cls).before args s = true) (hini : (Cond.initialized cls).before args s = true) (hat : ∀ w ∈ vx_at0 own ic cls names, w.before args s = true)
    (hgood : ∀ w ∈ Cond.classLink own ik cls :: Cond.initialized cls :: vx_at0 own ic cls names, vx_ot w = true)
    (hU : vx_Zq Bundle.tN "UNASSIGNED_STACK" Bundle.steD A s s.heap) (hN : vx_Zq Bundle.tN "SUPPRESSED_SENTINEL" Bundle.listD A s s.heap) (hS : va_S A s.heap H locs) (hsize : ls.size = c.maxLocals)
    (d0 : decode cc pc = .ok (.new ik, 3)) (d3 : decode cc (pc + 3) = .ok (.dup, 1)) (d4 : decode cc (pc + 4) = .ok (.invokespecial ic, 3)) (d7 : decode cc (pc + 7) = .ok (.athrow, 1))
    (hout : ∀ x ∈ c.exceptionTable.toList, covers x (pc + 7) = false)
    (hRframes : names.length + 3 < R.frames) (hRlocals : (rest.map fun v => v.category).sum + (13 * (names.length + 1) + 42) ≤ R.locals) (hRcells : cells + 1 ≤ R.cells) (hRslots : slots + 6 ≤ R.slots) (hlocks : meth.locks = false)
    (hx : ∀ t : State, s.vm.Alike t.vm → H.size ≤ t.heap.size → (∀ q : Nat, q < H.size → t.heap[q]? = H[q]?) → XC cls s t)
    (hf : ∀ z ∈ locs, free z.base) (hc : cells + 1 ≤ mc) (hs : slots + 6 ≤ ms) :
    W p l e R s m args below meth c H locs cells slots (vx_MQ below Qc XC args s mc ms free) (F0 m pc ls rest) := by
  intro T hT X
  have htr : e.platform.stackTraces = false := (show e.platform.stackTraces = l.stackTraces by rw [X.admits.platform]).trans hl
  have Y := vx_rebase X (R' := { frames := R.frames, locals := R.locals, cells := 1, slots := 6 }) (Nat.le_refl _) (Nat.le_refl _) hRcells hRslots
  obtain ⟨s', hA⟩ : ∃ z, z = (T.setVm s.vm).setFrames (.invoking m args :: below) := ⟨_, rfl⟩
  rw [← hA] at Y
  have hvm : s'.vm = s.vm := by rw [hA]; rfl
  have hhp : s'.heap = H := by rw [hA]; exact hT
  have hW0 : s.WarmedH s'.vm := by rw [hvm]; exact State.WarmedH.refl s
  have hat' : ∀ w ∈ vx_at0 own ic cls names, w.before args s' = true := fun w hw => vx_ot_at hW0 hvm.symm (hgood w (List.mem_cons_of_mem _ (List.mem_cons_of_mem _ hw))) (hat w hw)
  have hk' : (Cond.classLink own ik cls).before args s' = true := vx_ot_at hW0 hvm.symm (hgood _ List.mem_cons_self) hk
  have hini' : (Cond.initialized cls).before args s' = true := vx_ot_at hW0 hvm.symm (hgood _ (List.mem_cons_of_mem _ List.mem_cons_self)) hini
  have hU' : vx_Zq Bundle.tN "UNASSIGNED_STACK" Bundle.steD A s' s'.heap := by rw [hhp]; exact vx_Zq.moved hW0.alike (hU.kept hS.2.1)
  have hN' : vx_Zq Bundle.tN "SUPPRESSED_SENTINEL" Bundle.listD A s' s'.heap := by rw [hhp]; exact vx_Zq.moved hW0.alike (hN.kept hS.2.1)
  have h : ∀ w ∈ Bundle.ownAtoms0 own ic cls names, w.before args s' = true := vx_own hat' (vx_isRefq hU'.1) (vx_isRefq hN'.1) hU'.2.word hN'.2.word
  have hown' : s'.vm.findClass own = some m.cls := by rw [hvm]; exact hown
  have hins : (Cond.instantiable cls 6).before args s' = true := h _ (by simp [Bundle.ownAtoms0])
  obtain ⟨vm₁, cX, kX, hfX, hkX, -, -, X₁, st1⟩ := Y.newCold hexec (own := own) (C := cls) (index := ik) (n := 6) hown' hk' hins hini'
    (g := F0 m pc ls rest) rfl (by rw [hb]; exact d0) (Nat.le_refl _) (Nat.le_refl _)
  generalize hT1 : (T.setVm vm₁).pushCell { cls := cX, slots := kX.instanceTypes.map defaultValue, vm := .none } = T1 at X₁ st1
  have hcat : (Value.ref T.heap.size).category = 1 := rfl
  have hcellA : T1.heap[T.heap.size]? = some (freshCell cX kX) := by rw [← hT1]; exact State.heap_pushCell_size _ _
  have d3' : decode c.code (pc + 3) = .ok (.dup, 1) := by rw [hb]; exact d3
  obtain ⟨U, hsteps, hrun, hend, hW, hsame, ce, hce, hO⟩ := X₁.ctorThrow0 hexec htr (own := own) (cls := cls) (names := names) (ic := ic) hown' hcls hnames h (fun x hx => nomatch hx) hfX hkX hcellA (by rw [hhp, hT]; exact Nat.le_refl _)
    (g := { method := m, pc := pc + 4, locals := ls, stack := .ref T.heap.size :: .ref T.heap.size :: rest, locked := none }) rfl hsize rfl rfl (rest := rest) rfl
    (by rw [hb]; exact d4) (by rw [hb]; exact d7) hout hRframes (by simp only [List.map_cons, List.sum_cons, hcat]; omega) hlocks
  obtain ⟨f1, f2⟩ := vx_frame hsame
  rw [hhp] at f1 f2
  have hWs : s.WarmedH U.vm := State.WarmedH.trans hW0 hW
  have hcl : s.vm.findClass cls = some ce.cls := by
    have h9 := hO.cls
    rw [hvm] at h9
    exact h9
  have hall : s.sameButNew ({ U with vm := s.vm } : State) locs mc ms := by
    subst hA
    obtain ⟨e1, e2⟩ := hsame
    rw [State.setFrames_setFrames] at e1
    have h2 : (T.setVm s.vm).sameButNew ({ U with vm := s.vm } : State) [] (0 + 1) (0 + 6) := ⟨e1, e2⟩
    have h3 := X.same.trans h2
    rw [List.append_nil] at h3
    exact h3.mono hc hs
  refine ⟨U, ?_, .threw T.heap.size, hrun, hend, Or.inr ⟨T.heap.size, rfl, cls, ce, locs, hx U hWs.alike f1 (fun q hq => f2 q hq (fun z hz => nomatch hz)), hce, hO.vm, hcl, hWs, hall, hf⟩⟩
  refine st1 _ ?_
  show Steps p.tables e below (T1.setTop { method := m, pc := pc + 3, locals := ls, stack := .ref T.heap.size :: rest, locked := none }) _
  jvm_step X₁.here [X₁.here.top, hexec, d3', Value.category]
  exact hsteps
/-- 'throw new E("text")': new; dup; ldc; invokespecial; athrow -/
theorem vx_throwS {cc : ByteArray} {pc : Nat} (hexec : p.tables.exec = Jvm.exec) (hb : c.code = cc) (hl : l.stackTraces = false) {own cls text : String} {names : List String} {ik is ic mc ms sa : Nat} {A : Nat → Prop}
    (hown : s.vm.findClass own = some m.cls) (hcls : Bundle.fit cls = true) (hnames : ∀ n ∈ names, Bundle.fit n = true)
    (hk : (Cond.classLink own ik cls).before args s = true) (hini : (Cond.initialized cls).before args s = true) (hstr : vk_R own is text sa s) (hat : ∀ w ∈ vx_atS own ic cls names, w.before args s = true)
    (hgood : ∀ w ∈ Cond.classLink own ik cls :: Cond.initialized cls :: vx_atS own ic cls names, vx_ot w = true)
    (hU : vx_Zq Bundle.tN "UNASSIGNED_STACK" Bundle.steD A s s.heap) (hN : vx_Zq Bundle.tN "SUPPRESSED_SENTINEL" Bundle.listD A s s.heap) (hS : va_S A s.heap H locs) (hsize : ls.size = c.maxLocals)
    (d0 : decode cc pc = .ok (.new ik, 3)) (d3 : decode cc (pc + 3) = .ok (.dup, 1)) (d4 : decode cc (pc + 4) = .ok (.ldc is, 2)) (d6 : decode cc (pc + 6) = .ok (.invokespecial ic, 3)) (d9 : decode cc (pc + 9) = .ok (.athrow, 1))
    (hout : ∀ x ∈ c.exceptionTable.toList, covers x (pc + 9) = false)
    (hRframes : names.length + 3 < R.frames) (hRlocals : (rest.map fun v => v.category).sum + (13 * (names.length + 1) + 43) ≤ R.locals) (hRcells : cells + 1 ≤ R.cells) (hRslots : slots + 6 ≤ R.slots) (hlocks : meth.locks = false)
    (hx : ∀ t : State, s.vm.Alike t.vm → H.size ≤ t.heap.size → (∀ q : Nat, q < H.size → t.heap[q]? = H[q]?) → XC cls s t)
    (hf : ∀ z ∈ locs, free z.base) (hc : cells + 1 ≤ mc) (hs : slots + 6 ≤ ms) :
    W p l e R s m args below meth c H locs cells slots (vx_MQ below Qc XC args s mc ms free) (F0 m pc ls rest) := by
  intro T hT X
  have htr : e.platform.stackTraces = false := (show e.platform.stackTraces = l.stackTraces by rw [X.admits.platform]).trans hl
  have Y := vx_rebase X (R' := { frames := R.frames, locals := R.locals, cells := 1, slots := 6 }) (Nat.le_refl _) (Nat.le_refl _) hRcells hRslots
  obtain ⟨s', hA⟩ : ∃ z, z = (T.setVm s.vm).setFrames (.invoking m args :: below) := ⟨_, rfl⟩
  rw [← hA] at Y
  have hvm : s'.vm = s.vm := by rw [hA]; rfl
  have hhp : s'.heap = H := by rw [hA]; exact hT
  have hW0 : s.WarmedH s'.vm := by rw [hvm]; exact State.WarmedH.refl s
  have hat' : ∀ w ∈ vx_atS own ic cls names, w.before args s' = true := fun w hw => vx_ot_at hW0 hvm.symm (hgood w (List.mem_cons_of_mem _ (List.mem_cons_of_mem _ hw))) (hat w hw)
  have hk' : (Cond.classLink own ik cls).before args s' = true := vx_ot_at hW0 hvm.symm (hgood _ List.mem_cons_self) hk
  have hini' : (Cond.initialized cls).before args s' = true := vx_ot_at hW0 hvm.symm (hgood _ (List.mem_cons_of_mem _ List.mem_cons_self)) hini
  have hU' : vx_Zq Bundle.tN "UNASSIGNED_STACK" Bundle.steD A s' s'.heap := by rw [hhp]; exact vx_Zq.moved hW0.alike (hU.kept hS.2.1)
  have hN' : vx_Zq Bundle.tN "SUPPRESSED_SENTINEL" Bundle.listD A s' s'.heap := by rw [hhp]; exact vx_Zq.moved hW0.alike (hN.kept hS.2.1)
  have h : ∀ w ∈ Bundle.ownAtoms own ic cls names, w.before args s' = true := vx_own hat' (vx_isRefq hU'.1) (vx_isRefq hN'.1) hU'.2.word hN'.2.word
  have hown' : s'.vm.findClass own = some m.cls := by rw [hvm]; exact hown
  have hins : (Cond.instantiable cls 6).before args s' = true := h _ (by simp [Bundle.ownAtoms])
  obtain ⟨vm₁, cX, kX, hfX, hkX, -, -, X₁, st1⟩ := Y.newCold hexec (own := own) (C := cls) (index := ik) (n := 6) hown' hk' hins hini'
    (g := F0 m pc ls rest) rfl (by rw [hb]; exact d0) (Nat.le_refl _) (Nat.le_refl _)
  generalize hT1 : (T.setVm vm₁).pushCell { cls := cX, slots := kX.instanceTypes.map defaultValue, vm := .none } = T1 at X₁ st1
  have hcat : (Value.ref T.heap.size).category = 1 := rfl
  have hcellA : T1.heap[T.heap.size]? = some (freshCell cX kX) := by rw [← hT1]; exact State.heap_pushCell_size _ _
  have d3' : decode c.code (pc + 3) = .ok (.dup, 1) := by rw [hb]; exact d3
  have d4' : decode c.code (pc + 4) = .ok (.ldc is, 2) := by rw [hb]; exact d4
  have hstr' : vk_R own is text sa s' := vk_R.warm hW0 hstr
  obtain ⟨U, hsteps, hrun, hend, hW, hsame, ce, hce, hO⟩ := X₁.ctorThrowS hexec htr (own := own) (cls := cls) (names := names) (ic := ic) hown' hcls hnames h (fun x hx => nomatch hx) hfX hkX hcellA (by rw [hhp, hT]; exact Nat.le_refl _) (msg := .ref sa) rfl
    (g := { method := m, pc := pc + 6, locals := ls, stack := .ref sa :: .ref T.heap.size :: .ref T.heap.size :: rest, locked := none }) rfl hsize rfl rfl (rest := rest) rfl
    (by rw [hb]; exact d6) (by rw [hb]; exact d9) hout hRframes (by simp only [List.map_cons, List.sum_cons, hcat]; omega) hlocks
  obtain ⟨f1, f2⟩ := vx_frame hsame
  rw [hhp] at f1 f2
  have hWs : s.WarmedH U.vm := State.WarmedH.trans hW0 hW
  have hcl : s.vm.findClass cls = some ce.cls := by
    have h9 := hO.cls
    rw [hvm] at h9
    exact h9
  have hall : s.sameButNew ({ U with vm := s.vm } : State) locs mc ms := by
    subst hA
    obtain ⟨e1, e2⟩ := hsame
    rw [State.setFrames_setFrames] at e1
    have h2 : (T.setVm s.vm).sameButNew ({ U with vm := s.vm } : State) [] (0 + 1) (0 + 6) := ⟨e1, e2⟩
    have h3 := X.same.trans h2
    rw [List.append_nil] at h3
    exact h3.mono hc hs
  refine ⟨U, ?_, .threw T.heap.size, hrun, hend, Or.inr ⟨T.heap.size, rfl, cls, ce, locs, hx U hWs.alike f1 (fun q hq => f2 q hq (fun z hz => nomatch hz)), hce, hO.vm, hcl, hWs, hall, hf⟩⟩
  refine st1 _ ?_
  show Steps p.tables e below (T1.setTop { method := m, pc := pc + 3, locals := ls, stack := .ref T.heap.size :: rest, locked := none }) _
  jvm_step X₁.here [X₁.here.top, hexec, d3', Value.category]
  exact X₁.ldcString hexec (own := own) (text := text) (index := is) (a := sa) hown' hstr'.1 hstr'.2
    (g := { method := m, pc := pc + 4, locals := ls, stack := .ref T.heap.size :: .ref T.heap.size :: rest, locked := none }) rfl d4' _ hsteps
/-- 'throw new E("text")', the text by a wide index -/
theorem vx_throwSW {cc : ByteArray} {pc : Nat} (hexec : p.tables.exec = Jvm.exec) (hb : c.code = cc) (hl : l.stackTraces = false) {own cls text : String} {names : List String} {ik is ic mc ms sa : Nat} {A : Nat → Prop}
    (hown : s.vm.findClass own = some m.cls) (hcls : Bundle.fit cls = true) (hnames : ∀ n ∈ names, Bundle.fit n = true)
    (hk : (Cond.classLink own ik cls).before args s = true) (hini : (Cond.initialized cls).before args s = true) (hstr : vk_R own is text sa s) (hat : ∀ w ∈ vx_atS own ic cls names, w.before args s = true)
    (hgood : ∀ w ∈ Cond.classLink own ik cls :: Cond.initialized cls :: vx_atS own ic cls names, vx_ot w = true)
    (hU : vx_Zq Bundle.tN "UNASSIGNED_STACK" Bundle.steD A s s.heap) (hN : vx_Zq Bundle.tN "SUPPRESSED_SENTINEL" Bundle.listD A s s.heap) (hS : va_S A s.heap H locs) (hsize : ls.size = c.maxLocals)
    (d0 : decode cc pc = .ok (.new ik, 3)) (d3 : decode cc (pc + 3) = .ok (.dup, 1)) (d4 : decode cc (pc + 4) = .ok (.ldc_w is, 3)) (d7 : decode cc (pc + 7) = .ok (.invokespecial ic, 3)) (d10 : decode cc (pc + 10) = .ok (.athrow, 1))
    (hout : ∀ x ∈ c.exceptionTable.toList, covers x (pc + 10) = false)
    (hRframes : names.length + 3 < R.frames) (hRlocals : (rest.map fun v => v.category).sum + (13 * (names.length + 1) + 43) ≤ R.locals) (hRcells : cells + 1 ≤ R.cells) (hRslots : slots + 6 ≤ R.slots) (hlocks : meth.locks = false)
    (hx : ∀ t : State, s.vm.Alike t.vm → H.size ≤ t.heap.size → (∀ q : Nat, q < H.size → t.heap[q]? = H[q]?) → XC cls s t)
    (hf : ∀ z ∈ locs, free z.base) (hc : cells + 1 ≤ mc) (hs : slots + 6 ≤ ms) :
    W p l e R s m args below meth c H locs cells slots (vx_MQ below Qc XC args s mc ms free) (F0 m pc ls rest) := by
  intro T hT X
  have htr : e.platform.stackTraces = false := (show e.platform.stackTraces = l.stackTraces by rw [X.admits.platform]).trans hl
  have Y := vx_rebase X (R' := { frames := R.frames, locals := R.locals, cells := 1, slots := 6 }) (Nat.le_refl _) (Nat.le_refl _) hRcells hRslots
  obtain ⟨s', hA⟩ : ∃ z, z = (T.setVm s.vm).setFrames (.invoking m args :: below) := ⟨_, rfl⟩
  rw [← hA] at Y
  have hvm : s'.vm = s.vm := by rw [hA]; rfl
  have hhp : s'.heap = H := by rw [hA]; exact hT
  have hW0 : s.WarmedH s'.vm := by rw [hvm]; exact State.WarmedH.refl s
  have hat' : ∀ w ∈ vx_atS own ic cls names, w.before args s' = true := fun w hw => vx_ot_at hW0 hvm.symm (hgood w (List.mem_cons_of_mem _ (List.mem_cons_of_mem _ hw))) (hat w hw)
  have hk' : (Cond.classLink own ik cls).before args s' = true := vx_ot_at hW0 hvm.symm (hgood _ List.mem_cons_self) hk
  have hini' : (Cond.initialized cls).before args s' = true := vx_ot_at hW0 hvm.symm (hgood _ (List.mem_cons_of_mem _ List.mem_cons_self)) hini
  have hU' : vx_Zq Bundle.tN "UNASSIGNED_STACK" Bundle.steD A s' s'.heap := by rw [hhp]; exact vx_Zq.moved hW0.alike (hU.kept hS.2.1)
  have hN' : vx_Zq Bundle.tN "SUPPRESSED_SENTINEL" Bundle.listD A s' s'.heap := by rw [hhp]; exact vx_Zq.moved hW0.alike (hN.kept hS.2.1)
  have h : ∀ w ∈ Bundle.ownAtoms own ic cls names, w.before args s' = true := vx_own hat' (vx_isRefq hU'.1) (vx_isRefq hN'.1) hU'.2.word hN'.2.word
  have hown' : s'.vm.findClass own = some m.cls := by rw [hvm]; exact hown
  have hins : (Cond.instantiable cls 6).before args s' = true := h _ (by simp [Bundle.ownAtoms])
  obtain ⟨vm₁, cX, kX, hfX, hkX, -, -, X₁, st1⟩ := Y.newCold hexec (own := own) (C := cls) (index := ik) (n := 6) hown' hk' hins hini'
    (g := F0 m pc ls rest) rfl (by rw [hb]; exact d0) (Nat.le_refl _) (Nat.le_refl _)
  generalize hT1 : (T.setVm vm₁).pushCell { cls := cX, slots := kX.instanceTypes.map defaultValue, vm := .none } = T1 at X₁ st1
  have hcat : (Value.ref T.heap.size).category = 1 := rfl
  have hcellA : T1.heap[T.heap.size]? = some (freshCell cX kX) := by rw [← hT1]; exact State.heap_pushCell_size _ _
  have d3' : decode c.code (pc + 3) = .ok (.dup, 1) := by rw [hb]; exact d3
  have d4' : decode c.code (pc + 4) = .ok (.ldc_w is, 3) := by rw [hb]; exact d4
  have hstr' : vk_R own is text sa s' := vk_R.warm hW0 hstr
  obtain ⟨U, hsteps, hrun, hend, hW, hsame, ce, hce, hO⟩ := X₁.ctorThrowS hexec htr (own := own) (cls := cls) (names := names) (ic := ic) hown' hcls hnames h (fun x hx => nomatch hx) hfX hkX hcellA (by rw [hhp, hT]; exact Nat.le_refl _) (msg := .ref sa) rfl
    (g := { method := m, pc := pc + 7, locals := ls, stack := .ref sa :: .ref T.heap.size :: .ref T.heap.size :: rest, locked := none }) rfl hsize rfl rfl (rest := rest) rfl
    (by rw [hb]; exact d7) (by rw [hb]; exact d10) hout hRframes (by simp only [List.map_cons, List.sum_cons, hcat]; omega) hlocks
  obtain ⟨f1, f2⟩ := vx_frame hsame
  rw [hhp] at f1 f2
  have hWs : s.WarmedH U.vm := State.WarmedH.trans hW0 hW
  have hcl : s.vm.findClass cls = some ce.cls := by
    have h9 := hO.cls
    rw [hvm] at h9
    exact h9
  have hall : s.sameButNew ({ U with vm := s.vm } : State) locs mc ms := by
    subst hA
    obtain ⟨e1, e2⟩ := hsame
    rw [State.setFrames_setFrames] at e1
    have h2 : (T.setVm s.vm).sameButNew ({ U with vm := s.vm } : State) [] (0 + 1) (0 + 6) := ⟨e1, e2⟩
    have h3 := X.same.trans h2
    rw [List.append_nil] at h3
    exact h3.mono hc hs
  refine ⟨U, ?_, .threw T.heap.size, hrun, hend, Or.inr ⟨T.heap.size, rfl, cls, ce, locs, hx U hWs.alike f1 (fun q hq => f2 q hq (fun z hz => nomatch hz)), hce, hO.vm, hcl, hWs, hall, hf⟩⟩
  refine st1 _ ?_
  show Steps p.tables e below (T1.setTop { method := m, pc := pc + 3, locals := ls, stack := .ref T.heap.size :: rest, locked := none }) _
  jvm_step X₁.here [X₁.here.top, hexec, d3', Value.category]
  exact X₁.ldcStringW hexec (own := own) (text := text) (index := is) (a := sa) hown' hstr'.1 hstr'.2
    (g := { method := m, pc := pc + 4, locals := ls, stack := .ref T.heap.size :: .ref T.heap.size :: rest, locked := none }) rfl d4' _ hsteps
end Ends
section Bodies
variable {l : Launch}
theorem vx_ofW {y : MethodName} {ws ws' : List Cond} {rm : Room} {Pc : Array Value → State → Prop} {Qc : Array Value → State → Outcome → State → Prop} {XC : String → State → State → Prop} {mc ms : Nat} {free : Addr → Prop} {cc : ByteArray} {maxL : Nat} {ret : Option FieldType}
    (hy : plainName y.cls = true) (hw : ws = Cond.code y cc maxL ret :: ws')
    (body : ∀ p e s m args below meth c s₁, BodyLoose p l y (headSpec ws rm) cc maxL ret e s m args below meth c s₁ → c.maxLocals = maxL → (∀ x ∈ c.exceptionTable.toList, False) → Pc args s →
      W p l e (headSpec ws rm).room s m args below meth c s.heap [] 0 0 (vx_MQ below Qc XC args s mc ms free) (entryFrame m args maxL)) : vx_Met l y ws rm Pc Qc XC mc ms free := by
  refine MetFree.of_bodyS (code := cc) (maxLocals := maxL) (ret := ret) hy ?_ ?_
  · intro args s m h hn
    obtain ⟨meth, c, h1, h2, h3, h4, h5, h6, -, -⟩ := Cond.code_spec hn (atoms_spec (ws := ws) h _ (by rw [hw]; exact List.mem_cons_self))
    exact ⟨meth, c, h1, h2, h3, h4, h5, h6⟩
  · intro p e s m args below meth c s₁ B hml hP _
    have hh0 : s₁.heap = s.heap := by rw [B.state]; rfl
    have ht : ∀ x ∈ c.exceptionTable.toList, False := by
      obtain ⟨meth9, c9, h1, h2, -, -, -, -, h7, -⟩ := Cond.code_spec B.named (atoms_spec (ws := ws) B.pre _ (by rw [hw]; exact List.mem_cons_self))
      cases Option.some.inj (h1.symm.trans B.method)
      cases Option.some.inj (h2.symm.trans (Stand.of_body B).code)
      intro x hx
      rw [Array.isEmpty_iff.mp h7] at hx
      cases hx
    obtain ⟨t, a1, o, b1, b2, b3⟩ := body p e s m args below meth c s₁ B hml ht hP s₁ hh0 (Stand.of_body B)
    exact ⟨t, o, a1, b1, b2, b3⟩
/-- the table of a body with handlers -/
theorem vx_table {p : Program} {x y : MethodName} {S : Spec} {cc bytes : ByteArray} {maxL maxL' : Nat} {ret ret' : Option FieldType} {e : Env} {s s₁ : State} {m : MethodId} {args : Array Value} {below : List Frame} {meth : Method} {c : Code} {hh : List (Nat × Nat × Nat × Nat)}
    (B : BodyLoose p l y S cc maxL ret e s m args below meth c s₁) (h : (Cond.codeWith y bytes maxL' ret' hh).before args s = true) : c.exceptionTable.toList = tableOf hh := by
  obtain ⟨m9, meth9, c9, hn9, h1, h2, -, -, h6, -⟩ := Cond.codeWith_spec h
  cases Option.some.inj (hn9.symm.trans B.named)
  cases Option.some.inj (h1.symm.trans B.method)
  cases Option.some.inj (h2.symm.trans (Stand.of_body B).code)
  rw [← h6, table_eq]
end Bodies
end VXA
/-! ===== END ===== -/
/-! ===== BEGIN a static call of a method with an exception table ===== -/
section VXS
variable {p : Program} {l : Launch} {e : Env} {R : Room} {s : State} {m : MethodId} {args : Array Value} {below : List Frame} {meth : Method} {c : Code} {T : State} {H : Heap} {locs : List Loc} {cells slots : Nat}
abbrev vx_CSW (R : Room) (s : State) (args : Array Value) (own : String) (index : Nat) (y : MethodName) (bytes : ByteArray) (maxL : Nat) (ret : Option FieldType) (hh : List (Nat × Nat × Nat × Nat)) (ws : List Cond) (rm : Room) (mc ms n : Nat) : Prop :=
  (rm.cells = mc ∧ rm.slots = ms ∧ rm.frames + 1 ≤ R.frames ∧ 8 + (maxL + 11) + rm.locals ≤ R.locals ∧ (∀ w ∈ ws, ∀ (a' : Array Value) (U : State), s.WarmedH U.vm → w.before a' U = true) ∧ Cond.codeWith y bytes maxL ret hh ∈ ws) ∧
  (Cond.codeWith y bytes maxL ret hh).before args s = true ∧ (Cond.initialized y.cls).before args s = true ∧ (y.cls ≠ "java/lang/invoke/MethodHandle" ∧ y.cls ≠ "java/lang/invoke/VarHandle") ∧
  (∀ sig, parseMethodDescriptor y.desc = some sig → n = sig.parameters.length) ∧ (Cond.methodLink own index y).before args s = true ∧ (Cond.static y).before args s = true
theorem vx_cwSW {own : String} {index maxL mc ms : Nat} {y : MethodName} {bytes : ByteArray} {ret : Option FieldType} {hh : List (Nat × Nat × Nat × Nat)} {Ts ws ws' : List Cond} {rm : Room} (n : Nat) (ht : ∀ w ∈ Ts, w.before args s = true) (hT : GoodIn Ts (va_wsS own index y ws)) (hw : ws = Cond.codeWith y bytes maxL ret hh :: ws') (hrc : rm.cells = mc) (hrs : rm.slots = ms)
    (hd : y.cls ≠ "java/lang/invoke/MethodHandle" ∧ y.cls ≠ "java/lang/invoke/VarHandle" ∧ (parseMethodDescriptor y.desc).map (fun d => d.parameters.length) = some n) (hR : rm.frames + 1 ≤ R.frames ∧ 8 + (maxL + 11) + rm.locals ≤ R.locals) :
    vx_CSW R s args own index y bytes maxL ret hh ws rm mc ms n := by
  have ok : ∀ w ∈ va_wsS own index y ws, w.before args s = true := fun w h => ht w (hT w h).1
  have hG : GoodIn Ts ws := fun w h => hT w (by unfold va_wsS; exact List.mem_append_right _ h)
  have hc : Cond.codeWith y bytes maxL ret hh ∈ ws := by rw [hw]; exact List.mem_cons_self
  refine ⟨⟨hrc, hrs, hR.1, hR.2, pay_in ht hG, hc⟩, ht _ (hG _ hc).1, ok _ (by simp [va_wsS]), ⟨hd.1, hd.2.1⟩, fun sig h => ?_, ok _ (by simp [va_wsS]), ok _ (by simp [va_wsS])⟩
  have h2 := hd.2.2
  rw [h] at h2
  exact (Option.some.inj h2).symm
theorem vx_callSW (X : Stand p l e R s m args below meth c T locs cells slots) (hexec : p.tables.exec = Jvm.exec) {own : String} {index : Nat} {y : MethodName} {bytes : ByteArray} {maxL : Nat} {ret : Option FieldType} {hh : List (Nat × Nat × Nat × Nat)}
    (hown : s.vm.findClass own = some m.cls) (hlink : (Cond.methodLink own index y).before args s = true) (hstat : (Cond.static y).before args s = true) (hinit : (Cond.initialized y.cls).before args s = true)
    (hcode : (Cond.codeWith y bytes maxL ret hh).before args s = true) (hy : y.cls ≠ "java/lang/invoke/MethodHandle" ∧ y.cls ≠ "java/lang/invoke/VarHandle")
    {W9 : Nat} {Pre : Pt → Array Value → Prop} {Post : Pt → Array Value → Option Value → Pt → Prop} (hK : Back l R p e below s args y 3 W9 Pre Post)
    {g : JFrame} (hg : g.method = m) (hsize : g.locals.size = c.maxLocals) {argsL rest : List Value} (hlen : ∀ sig, parseMethodDescriptor y.desc = some sig → argsL.length = sig.parameters.length)
    (hstack : g.stack = argsL.reverse ++ rest) (hW : 2 * g.monitorRoom + (rest.map fun v => v.category).sum ≤ W9) (hdg : decode c.code g.pc = .ok (.invokestatic index, 3))
    (hpre : ∀ vm₁, s.WarmedH vm₁ → Pre ⟨T.setVm vm₁, locs, cells, slots⟩ argsL.toArray) :
    ∃ (v : Option Value) (vm₁ : Vm) (B : Pt), s.WarmedH vm₁ ∧ Stand p l e R s m args below meth c B.U B.locs B.cells B.slots ∧ Post ⟨T.setVm vm₁, locs, cells, slots⟩ argsL.toArray v B ∧
      ∀ target, Steps p.tables e below (B.U.setTop { g with pc := g.pc + 3, stack := v.toList ++ rest }) target → Steps p.tables e below (T.setTop g) target := by
  obtain ⟨mk, methM, cM, hnamed, hmethM, -, -, -, -, -, -, hsigM⟩ := Cond.codeWith_spec hcode
  have hstatic : methM.isStatic = true := Cond.static_spec hnamed hmethM hstat
  obtain ⟨kP, hkP, -⟩ := className_of_methodNamed hnamed
  have hinitP : kP.init = .initialized := Cond.initialized_spec (findClass_of_methodNamed hnamed) hkP hinit
  obtain ⟨vm₁, X₁, hstep₁⟩ := X.invokestatic hexec hown hlink hnamed hmethM hstatic hkP hinitP hy (g := g) hg (argsL := argsL) (rest := rest) (hlen _ hsigM) hstack hdg
  obtain ⟨v, B, X', hpost, hsteps⟩ := hK m meth c ⟨T.setVm vm₁, locs, cells, slots⟩ { g with stack := rest } (.invokestatic index) mk argsL.toArray X₁ hg hsize hdg hW (X₁.named hnamed) (hpre vm₁ X₁.warmed)
  exact ⟨v, vm₁, B, X₁.warmed, X', hpost, fun target h => hstep₁ _ fun acts => by rw [doInvoke_state]; exact hsteps.trans h⟩
theorem vx_runSW {y : MethodName} {bytes cc : ByteArray} {maxL nL mc ms n index : Nat} {ret : Option FieldType} {hh : List (Nat × Nat × Nat × Nat)} {ws : List Cond} {rm : Room} {Pc : Array Value → State → Prop} {Qc : Array Value → State → Outcome → State → Prop} {free : Addr → Prop} {Ts : List Cond} {own : String} {As rest : List Value} {g : JFrame}
    (S : CallFix p m c cc nL s args Ts own) (hM : Met l y ws rm Pc Qc mc ms free) (cw : vx_CSW R s args own index y bytes maxL ret hh ws rm mc ms n) (hp : PreS s H Pc As)
    (hg : g.method = m) (hn : As.length = n) (hsize : g.locals.size = nL) (hstack : g.stack = As.reverse ++ rest) (hW : 2 * g.monitorRoom + (rest.map fun v => v.category).sum ≤ 8) (hdg : decode cc g.pc = .ok (.invokestatic index, 3)) (hf : cells + mc ≤ R.cells ∧ slots + ms ≤ R.slots) :
    va_Run p l e R s m args below meth c H locs cells slots mc ms g rest (Qc As.toArray) (free) := by
  obtain ⟨⟨hrc, hrs, hfr, hlo, hws, hcw⟩, hcode, hini, hy, hlen, hl, hstt⟩ := cw
  have hK : Back l R p e below s args y 3 8 (PreOf R mc ms Pc) (PostOf Qc mc ms free) := va_backW (hh := hh) (bytes := bytes) (maxL := maxL) (ret := ret) hM hp.1 hrc hrs hfr hlo hws hcw (fun a' U hW => word_at hW (Or.inl (by first | rfl | simp [Cond.onTables, Cond.keeps, Cond.steady])) hini)
  obtain ⟨hx, hb, hml, ho, -⟩ := S
  intro T hT X
  obtain ⟨v, vm₁, ⟨U', l2, c2, s2⟩, hW₁, X', ⟨g', mk, t, L, e1, e2, hq, h1, hL, h2, h3⟩, st⟩ := vx_callSW X hx (hh := hh) (bytes := bytes) (maxL := maxL) (ret := ret) ho hl hstt hini hcode hy hK hg (hsize.trans hml.symm) (argsL := As) (rest := rest) (fun sig h => hn.trans (hlen sig h)) hstack hW (by rw [hb]; exact hdg)
    (fun vm₁ hW₁ => ⟨hf.1, hf.2, hp.2 (T.setVm vm₁) hT hW₁⟩)
  dsimp only [Pt.U, Pt.locs, Pt.cells, Pt.slots] at X' e1 e2 h1 h2 h3 st
  subst h1; subst h2; subst h3
  exact ⟨v, (T.setVm vm₁).calling g' mk As.toArray, t, U', L, hT, X', hL, e1, e2, hq, st⟩
/-- not caught here, past rows that name other classes: it goes on to the caller -/
theorem vx_outP {p : Program} {l : Launch} {e : Env} {R : Room} {s : State} {m : MethodId} {args : Array Value} {below : List Frame} {meth : Method} {c : Code} {H : Heap} {locs : List Loc} {cells slots : Nat} {free : Addr → Prop} {ls : Array Slot} {rest : List Value} {Qc : Array Value → State → Outcome → State → Prop} {XC : String → State → State → Prop}
    {pc : Nat} {own E : String} {ce : Cell} {q : Addr} {mc ms : Nat} (hown : s.vm.findClass own = some m.cls) (hlocks : meth.locks = false)
    (hpass : ∀ z ∈ c.exceptionTable.toList, covers z pc = false ∨ (z.catchType ≠ 0 ∧ ∃ nm : String, (Cond.classLink own z.catchType nm).before args s = true ∧ va_Nc E nm s)) (hcell : H[q]? = some ce) (hv : ce.vm = .none) (hcl : s.vm.findClass E = some ce.cls)
    (hx : ∀ t : State, t.heap = H → s.vm.Alike t.vm → XC E s t) (hf : ∀ z ∈ locs, free z.base) (hc : cells ≤ mc) (hs : slots ≤ ms) :
    vx_W p l e R s m args below meth c H locs cells slots (vx_MQ below Qc XC args s mc ms free) (F0 m pc ls rest) q := by
  intro T hT X
  have hpl : e.platform.magicAccessors = ({} : Platform).magicAccessors := by rw [X.admits.platform]
  obtain ⟨vm', hW', X', st⟩ := X.outThrough hlocks q (g := F0 m pc ls rest) rfl rfl rfl (cell := ce) (by rw [hT]; exact hcell) (by rw [hv]; rfl)
    (by obtain ⟨k9, h9, -⟩ := Vm.findClass_spec hcl; exact ⟨k9, h9⟩) (fun z hz => by
      rcases hpass z hz with h | ⟨hz0, nm, hl1, hn1⟩
      · exact Or.inl h
      · obtain ⟨c6, hc6, hcl6⟩ := Cond.classLink_spec hown hl1 e.platform hpl
        obtain ⟨a8, b8, h1, h2, h3⟩ := hn1
        cases Option.some.inj (h1.symm.trans hcl)
        cases Option.some.inj (h2.symm.trans hc6)
        exact Or.inr ⟨hz0, _, hcl6, h3⟩)
  obtain ⟨g₀, hfr⟩ := X'.frames_eq
  have hcell9 : ((T.setVm vm').setFrames (.throwing q :: below)).heap[q]? = some ce := by
    show T.heap[q]? = some ce
    rw [hT]; exact hcell
  have hend : Ended ((T.setVm vm').setFrames (.throwing q :: below)) below (.threw q) := State.frames_setFrames _ (State.cur_lt_of_frames hfr)
  refine ⟨(T.setVm vm').setFrames (.throwing q :: below), ?_, .threw q, X'.here.running, hend, Or.inr ⟨q, rfl, E, ce, locs, hx _ hT (X'.ends _).1.alike, hcell9, hv, hcl, (X'.ends _).1, (X'.ends _).2.mono hc hs, hf⟩⟩
  rw [X.pushThrowing_eq]
  exact st
/-- a thing of a world lies in the heap -/
theorem vx_lt {D : va_G} {cl : List vw_C} {ws : va_W} {H1 : Heap} (h : va_P D cl ws H1) {k : Nat} {q : Nat × va_E} (hk : ws[k]? = some q) : q.1 < H1.size := (h k q hk).lt
end VXS
/-! ===== END ===== -/
/-! ===== BEGIN methods with a table of their own: called by a name, returning or throwing ===== -/
section VXH
/-! vx_backW, vx_callVX, vx_callSX, vx_callVW, vx_runVW, vx_runVX, vx_runSX, vx_ofWH follow the same proofs as their sisters above (Free/Laws.lean, Shelf42/LK1.lean); vx_outP calls Shelf42/NT130.lean (outThrough). -/
section
variable {l : Launch} {R : Room} {p : Program} {e : Env} {below : List Frame} {s : State} {sargs : Array Value} {y : MethodName} {len W9 : Nat}
theorem vx_backW {ws : List Cond} {rm : Room} {Pc : Array Value → State → Prop} {Qc : Array Value → State → Outcome → State → Prop} {XC : String → State → State → Prop} {mc ms : Nat} {free : Addr → Prop} {bytes : ByteArray} {maxL : Nat} {ret : Option FieldType} {hh : List (Nat × Nat × Nat × Nat)}
    (hM : vx_Met l y ws rm Pc Qc XC mc ms free) (hblind : FrameBlind Pc) (hrc : rm.cells = mc) (hrs : rm.slots = ms)
    (hframes : rm.frames + 1 ≤ R.frames) (hlocals : W9 + (maxL + 11) + rm.locals ≤ R.locals)
    (hws : ∀ w ∈ ws, ∀ a' U, s.WarmedH U.vm → w.before a' U = true) (hcode : Cond.codeWith y bytes maxL ret hh ∈ ws) (hinit : ∀ a' U, s.WarmedH U.vm → (Cond.initialized y.cls).before a' U = true) :
    vx_Back l R p e below s sargs y len W9 (PreOf R mc ms Pc) (PostOf Qc mc ms free) (vx_Post XC mc ms free) := by
  intro m meth c A g ig mk a X hg hsize hdg hW hn hp
  have h1 : (headSpec ws rm).pre.before a A.U = true := atoms_intro fun w hw => hws w hw _ _ X.warmed
  have h2 : (Cond.codeWith y bytes maxL ret hh).before a A.U = true := hws _ hcode _ _ X.warmed
  have h3 : (Cond.initialized y.cls).before a A.U = true := hinit _ _ X.warmed
  have h4 : A.cells + (headSpec ws rm).room.cells ≤ R.cells := by rw [show (headSpec ws rm).room.cells = mc from hrc]; exact hp.1
  have h5 : A.slots + (headSpec ws rm).room.slots ≤ R.slots := by rw [show (headSpec ws rm).room.slots = ms from hrs]; exact hp.2.1
  have hPc : Pc a (A.U.calling g mk a) := hblind _ _ _ _ hp.2.2
  obtain ⟨U, Ls, c0, s0⟩ := A
  dsimp only [Pt.U, Pt.locs, Pt.cells, Pt.slots] at h1 h2 h3 h4 h5 X hn hPc ⊢
  obtain ⟨m9, methY, cY, hn9, hmY, hcY, -, hlY, -⟩ := Cond.codeWith_spec h2
  cases Option.some.inj (hn9.symm.trans hn)
  obtain ⟨kY, hkY, -⟩ := className_of_methodNamed hn
  have hinitY : kY.init = .initialized := Cond.initialized_spec (findClass_of_methodNamed hn) hkY h3
  have h : At U g.method c below := by rw [hg]; exact X.here
  have hlocals9 : W9 + (maxL + 11) + (headSpec ws rm).room.locals ≤ R.locals := hlocals
  have happ : (headSpec ws rm).appliesLoose y e.platform (U.calling g mk a) = true :=
    Spec.appliesLoose_calling (g := g) h hdg hn hkY hinitY
      (X.room_calling (g := g) (R' := (headSpec ws rm).room) hsize hmY hcY hframes (by rw [hlY]; omega) h4 h5) h1
  obtain ⟨mid, hmid⟩ := h.above
  have hfr : (U.setTop g).frames = (.java g :: mid) ++ below := by rw [State.frames_setTop' g h.top, hmid]; rfl
  obtain ⟨o, s₂, hsteps, -, hend, hq⟩ := Steps.callFree hM p X.admits X.cas X.clock (acts := []) hfr happ hPc trivial
  have hq' : vx_Q Qc XC mc ms free a (U.calling g mk a) o s₂ := hq
  rw [State.frames_setTop' g h.top] at hend
  obtain ⟨g₀, hg0⟩ := Option.isSome_iff_exists.mp h.top
  obtain ⟨r, hr⟩ := State.topJava?_eq_some.mp hg0
  have hr' : (({ U with heap := s₂.heap, slotsUsed := s₂.slotsUsed } : State).setVm s₂.vm).frames = .java g₀ :: r := hr
  rcases hq' with ⟨hqc, L, hfe, hL⟩ | ⟨q, rfl, E, ce, L, hx, hce, hcv, hcl, hW₂, hsm, hL⟩
  · obtain ⟨⟨v, rfl⟩, hW₂, e2, q2, q3, q4, q5, q6⟩ := id hfe
    have e3 : s₂ = ({ (U.calling g mk a).setFrames s₂.frames with heap := s₂.heap, slotsUsed := s₂.slotsUsed } : State).setVm s₂.vm := by
      have : s₂ = ({ s₂ with vm := (U.calling g mk a).vm } : State).setVm s₂.vm := rfl
      rw [e2] at this
      exact this
    obtain ⟨c₂, i₂, len₂, hc₂, hd₂, hf₂⟩ := hend
    have hW' : U.WarmedH s₂.vm := hW₂
    have hcc : c₂ = c := by
      have h1 : s₂.code? g.method = U.code? g.method := by
        rw [State.code?_eq, State.code?_eq, hW'.alike.method?]
      exact Option.some.inj (hc₂.symm.trans (h1.trans h.code))
    subst hcc
    have hlen : len₂ = len := by rw [hdg] at hd₂; cases hd₂; rfl
    subst hlen
    have hs₂ : s₂ = (({ U with heap := s₂.heap, slotsUsed := s₂.slotsUsed } : State).setVm s₂.vm).setTop { g with pc := g.pc + len₂, stack := v.toList ++ g.stack } := by
      refine e3.trans ?_
      rw [hf₂, State.calling_eq h.top, State.setFrames_setFrames, State.setTop_of_frames _ hr', hr]
      rfl
    have hsame : U.sameButNew ({ U with heap := s₂.heap, slotsUsed := s₂.slotsUsed } : State) L mc ms := by
      refine ⟨?_, q2, q3, q4, q5, q6⟩
      obtain ⟨t, ht, -⟩ := State.frames_cons hr
      show ({ U with heap := s₂.heap, slotsUsed := s₂.slotsUsed } : State) = { U.setFrames U.frames with heap := s₂.heap, slotsUsed := s₂.slotsUsed }
      rw [State.setFrames_self ht]
    subst hg
    refine Or.inl ⟨v, ⟨(({ U with heap := s₂.heap, slotsUsed := s₂.slotsUsed } : State).setVm s₂.vm), Ls ++ L, c0 + mc, s0 + ms⟩,
      ⟨X.admits, X.cas, X.clock, X.frames, X.room, X.hears, X.method, X.code, (X.here.setHeapUsed s₂.heap s₂.slotsUsed).setVm hW'.alike, X.tail, State.WarmedH.trans X.warmed hW', X.limits, X.bytes, X.same.trans (hsame.setVm s.vm)⟩,
      ⟨g, mk, s₂, L, rfl, rfl, hqc, rfl, hL, rfl, rfl⟩, ?_⟩
    show Steps p.tables e below _ ((({ U with heap := s₂.heap, slotsUsed := s₂.slotsUsed } : State).setVm s₂.vm).setTop { g with pc := g.pc + len₂, stack := v.toList ++ g.stack })
    rw [← hs₂]
    exact hsteps
  · obtain ⟨e2, q2, q3, q4, q5, q6⟩ := id hsm
    have e3 : s₂ = ({ (U.calling g mk a).setFrames s₂.frames with heap := s₂.heap, slotsUsed := s₂.slotsUsed } : State).setVm s₂.vm := by
      have : s₂ = ({ s₂ with vm := (U.calling g mk a).vm } : State).setVm s₂.vm := rfl
      rw [e2] at this
      exact this
    have hf₂ : s₂.frames = .throwing q :: .java g :: U.frames.tail := hend
    have hW' : U.WarmedH s₂.vm := hW₂
    have hs₂ : s₂ = ((({ U with heap := s₂.heap, slotsUsed := s₂.slotsUsed } : State).setVm s₂.vm).setTop g).pushFrame (.throwing q) := by
      refine e3.trans ?_
      rw [hf₂, State.calling_eq h.top, State.setFrames_setFrames, State.pushFrame, State.frames_setTop _ hr', State.setTop_of_frames _ hr', State.setFrames_setFrames, hr]
      rfl
    have hsame : U.sameButNew ({ U with heap := s₂.heap, slotsUsed := s₂.slotsUsed } : State) L mc ms := by
      refine ⟨?_, q2, q3, q4, q5, q6⟩
      obtain ⟨t, ht, -⟩ := State.frames_cons hr
      show ({ U with heap := s₂.heap, slotsUsed := s₂.slotsUsed } : State) = { U.setFrames U.frames with heap := s₂.heap, slotsUsed := s₂.slotsUsed }
      rw [State.setFrames_self ht]
    subst hg
    refine Or.inr ⟨q, ⟨(({ U with heap := s₂.heap, slotsUsed := s₂.slotsUsed } : State).setVm s₂.vm), Ls ++ L, c0 + mc, s0 + ms⟩,
      ⟨X.admits, X.cas, X.clock, X.frames, X.room, X.hears, X.method, X.code, (X.here.setHeapUsed s₂.heap s₂.slotsUsed).setVm hW'.alike, X.tail, State.WarmedH.trans X.warmed hW', X.limits, X.bytes, X.same.trans (hsame.setVm s.vm)⟩,
      ⟨g, mk, s₂, L, E, ce, rfl, rfl, hx, hce, hcv, hcl, rfl, hL, rfl, rfl⟩, ?_⟩
    show Steps p.tables e below _ (((({ U with heap := s₂.heap, slotsUsed := s₂.slotsUsed } : State).setVm s₂.vm).setTop g).pushFrame (.throwing q))
    rw [← hs₂]
    exact hsteps
end
variable {p : Program} {l : Launch} {e : Env} {R : Room} {s : State} {m : MethodId} {args : Array Value} {below : List Frame} {meth : Method} {c : Code} {T : State} {H : Heap} {locs : List Loc} {cells slots : Nat}
theorem vx_callVX (X : Stand p l e R s m args below meth c T locs cells slots) (hexec : p.tables.exec = Jvm.exec) {own C : String} {index : Nat} {y : MethodName} {bytes : ByteArray} {maxL : Nat} {ret : Option FieldType} {hh : List (Nat × Nat × Nat × Nat)}
    (hown : s.vm.findClass own = some m.cls) (hlink : (Cond.methodLink own index y).before args s = true) (hinst : (Cond.instanceMethod y).before args s = true) (hsel : (Cond.selects C y y).before args s = true)
    (hcode : (Cond.codeWith y bytes maxL ret hh).before args s = true) (hy : y.cls ≠ "java/lang/invoke/MethodHandle" ∧ y.cls ≠ "java/lang/invoke/VarHandle")
    {W9 : Nat} {Pre : Pt → Array Value → Prop} {Post : Pt → Array Value → Option Value → Pt → Prop} {PostX : Pt → Array Value → Addr → Pt → Prop} (hK : vx_Back l R p e below s args y 3 W9 Pre Post PostX)
    {b : Addr} {cellB : Cell} (hcell : T.heap[b]? = some cellB) (hobj : cellB.vm.isStatics = false) (hcls : s.vm.findClass C = some cellB.cls)
    {g : JFrame} (hg : g.method = m) (hsize : g.locals.size = c.maxLocals) {argsL rest : List Value} (hlen : ∀ sig, parseMethodDescriptor y.desc = some sig → argsL.length = sig.parameters.length)
    (hstack : g.stack = argsL.reverse ++ .ref b :: rest) (hW : 2 * g.monitorRoom + (rest.map fun v => v.category).sum ≤ W9) (hdg : decode c.code g.pc = .ok (.invokevirtual index, 3))
    (hpre : ∀ vm₁, s.WarmedH vm₁ → Pre ⟨T.setVm vm₁, locs, cells, slots⟩ (Value.ref b :: argsL).toArray) :
    (∃ (v : Option Value) (vm₁ : Vm) (B : Pt), s.WarmedH vm₁ ∧ Stand p l e R s m args below meth c B.U B.locs B.cells B.slots ∧ Post ⟨T.setVm vm₁, locs, cells, slots⟩ (Value.ref b :: argsL).toArray v B ∧
      ∀ target, Steps p.tables e below (B.U.setTop { g with pc := g.pc + 3, stack := v.toList ++ rest }) target → Steps p.tables e below (T.setTop g) target) ∨
    (∃ (q : Addr) (vm₁ : Vm) (B : Pt), s.WarmedH vm₁ ∧ Stand p l e R s m args below meth c B.U B.locs B.cells B.slots ∧ PostX ⟨T.setVm vm₁, locs, cells, slots⟩ (Value.ref b :: argsL).toArray q B ∧
      Steps p.tables e below (T.setTop g) ((B.U.setTop { g with stack := rest }).pushFrame (.throwing q))) := by
  obtain ⟨mk, methM, hnamed, hmethM, hstM, habM⟩ := Cond.instanceMethod_spec hinst
  obtain ⟨m8, methM', cM, hn8, hmethM', -, -, -, -, -, -, hsigM⟩ := Cond.codeWith_spec hcode
  cases Option.some.inj (hn8.symm.trans hnamed)
  cases hmethM.symm.trans hmethM'
  obtain ⟨c2, r2, m2, q1, q2, q3, q4, kP, hkP, hkPi⟩ := Cond.selects_spec hsel
  cases hcls.symm.trans q1
  cases (State.methodFound?_of_named hnamed hy).symm.trans q2
  cases hnamed.symm.trans q3
  have hselP : selectMethod e.platform s.vm cellB.cls mk = .method mk := by rw [Launch.admits_selectMethod X.admits]; exact q4
  obtain ⟨vm₁, X₁, hstep₁⟩ := X.invokevirtual hexec hown hlink hnamed hmethM hstM hkP hkPi hy (a := b) (cell := cellB) hcell
    (fun z h => by rw [h] at hobj; cases hobj) hselP hmethM habM hkP hkPi (g := g) hg (argsL := argsL) (rest := rest) (hlen _ hsigM) hstack hdg
  rcases hK m meth c ⟨T.setVm vm₁, locs, cells, slots⟩ { g with stack := rest } (.invokevirtual index) mk (Value.ref b :: argsL).toArray X₁ hg hsize hdg hW (X₁.named hnamed) (hpre vm₁ X₁.warmed) with ⟨v, B, X', hpost, hsteps⟩ | ⟨q, B, X', hpost, hsteps⟩
  · exact Or.inl ⟨v, vm₁, B, X₁.warmed, X', hpost, fun target h => hstep₁ _ fun acts => by rw [doInvoke_state]; exact hsteps.trans h⟩
  · exact Or.inr ⟨q, vm₁, B, X₁.warmed, X', hpost, hstep₁ _ fun acts => by rw [doInvoke_state]; exact hsteps⟩
theorem vx_callSX (X : Stand p l e R s m args below meth c T locs cells slots) (hexec : p.tables.exec = Jvm.exec) {own : String} {index : Nat} {y : MethodName} {bytes : ByteArray} {maxL : Nat} {ret : Option FieldType} {hh : List (Nat × Nat × Nat × Nat)}
    (hown : s.vm.findClass own = some m.cls) (hlink : (Cond.methodLink own index y).before args s = true) (hstat : (Cond.static y).before args s = true) (hinit : (Cond.initialized y.cls).before args s = true)
    (hcode : (Cond.codeWith y bytes maxL ret hh).before args s = true) (hy : y.cls ≠ "java/lang/invoke/MethodHandle" ∧ y.cls ≠ "java/lang/invoke/VarHandle")
    {W9 : Nat} {Pre : Pt → Array Value → Prop} {Post : Pt → Array Value → Option Value → Pt → Prop} {PostX : Pt → Array Value → Addr → Pt → Prop} (hK : vx_Back l R p e below s args y 3 W9 Pre Post PostX)
    {g : JFrame} (hg : g.method = m) (hsize : g.locals.size = c.maxLocals) {argsL rest : List Value} (hlen : ∀ sig, parseMethodDescriptor y.desc = some sig → argsL.length = sig.parameters.length)
    (hstack : g.stack = argsL.reverse ++ rest) (hW : 2 * g.monitorRoom + (rest.map fun v => v.category).sum ≤ W9) (hdg : decode c.code g.pc = .ok (.invokestatic index, 3))
    (hpre : ∀ vm₁, s.WarmedH vm₁ → Pre ⟨T.setVm vm₁, locs, cells, slots⟩ argsL.toArray) :
    (∃ (v : Option Value) (vm₁ : Vm) (B : Pt), s.WarmedH vm₁ ∧ Stand p l e R s m args below meth c B.U B.locs B.cells B.slots ∧ Post ⟨T.setVm vm₁, locs, cells, slots⟩ argsL.toArray v B ∧
      ∀ target, Steps p.tables e below (B.U.setTop { g with pc := g.pc + 3, stack := v.toList ++ rest }) target → Steps p.tables e below (T.setTop g) target) ∨
    (∃ (q : Addr) (vm₁ : Vm) (B : Pt), s.WarmedH vm₁ ∧ Stand p l e R s m args below meth c B.U B.locs B.cells B.slots ∧ PostX ⟨T.setVm vm₁, locs, cells, slots⟩ argsL.toArray q B ∧
      Steps p.tables e below (T.setTop g) ((B.U.setTop { g with stack := rest }).pushFrame (.throwing q))) := by
  obtain ⟨mk, methM, cM, hnamed, hmethM, -, -, -, -, -, -, hsigM⟩ := Cond.codeWith_spec hcode
  have hstatic : methM.isStatic = true := Cond.static_spec hnamed hmethM hstat
  obtain ⟨kP, hkP, -⟩ := className_of_methodNamed hnamed
  have hinitP : kP.init = .initialized := Cond.initialized_spec (findClass_of_methodNamed hnamed) hkP hinit
  obtain ⟨vm₁, X₁, hstep₁⟩ := X.invokestatic hexec hown hlink hnamed hmethM hstatic hkP hinitP hy (g := g) hg (argsL := argsL) (rest := rest) (hlen _ hsigM) hstack hdg
  rcases hK m meth c ⟨T.setVm vm₁, locs, cells, slots⟩ { g with stack := rest } (.invokestatic index) mk argsL.toArray X₁ hg hsize hdg hW (X₁.named hnamed) (hpre vm₁ X₁.warmed) with ⟨v, B, X', hpost, hsteps⟩ | ⟨q, B, X', hpost, hsteps⟩
  · exact Or.inl ⟨v, vm₁, B, X₁.warmed, X', hpost, fun target h => hstep₁ _ fun acts => by rw [doInvoke_state]; exact hsteps.trans h⟩
  · exact Or.inr ⟨q, vm₁, B, X₁.warmed, X', hpost, hstep₁ _ fun acts => by rw [doInvoke_state]; exact hsteps⟩
theorem vx_callVW (X : Stand p l e R s m args below meth c T locs cells slots) (hexec : p.tables.exec = Jvm.exec) {own C : String} {index : Nat} {y : MethodName} {bytes : ByteArray} {maxL : Nat} {ret : Option FieldType} {hh : List (Nat × Nat × Nat × Nat)}
    (hown : s.vm.findClass own = some m.cls) (hlink : (Cond.methodLink own index y).before args s = true) (hinst : (Cond.instanceMethod y).before args s = true) (hsel : (Cond.selects C y y).before args s = true)
    (hcode : (Cond.codeWith y bytes maxL ret hh).before args s = true) (hy : y.cls ≠ "java/lang/invoke/MethodHandle" ∧ y.cls ≠ "java/lang/invoke/VarHandle")
    {W9 : Nat} {Pre : Pt → Array Value → Prop} {Post : Pt → Array Value → Option Value → Pt → Prop} (hK : Back l R p e below s args y 3 W9 Pre Post)
    {b : Addr} {cellB : Cell} (hcell : T.heap[b]? = some cellB) (hobj : cellB.vm.isStatics = false) (hcls : s.vm.findClass C = some cellB.cls)
    {g : JFrame} (hg : g.method = m) (hsize : g.locals.size = c.maxLocals) {argsL rest : List Value} (hlen : ∀ sig, parseMethodDescriptor y.desc = some sig → argsL.length = sig.parameters.length)
    (hstack : g.stack = argsL.reverse ++ .ref b :: rest) (hW : 2 * g.monitorRoom + (rest.map fun v => v.category).sum ≤ W9) (hdg : decode c.code g.pc = .ok (.invokevirtual index, 3))
    (hpre : ∀ vm₁, s.WarmedH vm₁ → Pre ⟨T.setVm vm₁, locs, cells, slots⟩ (Value.ref b :: argsL).toArray) :
    ∃ (v : Option Value) (vm₁ : Vm) (B : Pt), s.WarmedH vm₁ ∧ Stand p l e R s m args below meth c B.U B.locs B.cells B.slots ∧ Post ⟨T.setVm vm₁, locs, cells, slots⟩ (Value.ref b :: argsL).toArray v B ∧
      ∀ target, Steps p.tables e below (B.U.setTop { g with pc := g.pc + 3, stack := v.toList ++ rest }) target → Steps p.tables e below (T.setTop g) target := by
  obtain ⟨mk, methM, hnamed, hmethM, hstM, habM⟩ := Cond.instanceMethod_spec hinst
  obtain ⟨m8, methM', cM, hn8, hmethM', -, -, -, -, -, -, hsigM⟩ := Cond.codeWith_spec hcode
  cases Option.some.inj (hn8.symm.trans hnamed)
  cases hmethM.symm.trans hmethM'
  obtain ⟨c2, r2, m2, q1, q2, q3, q4, kP, hkP, hkPi⟩ := Cond.selects_spec hsel
  cases hcls.symm.trans q1
  cases (State.methodFound?_of_named hnamed hy).symm.trans q2
  cases hnamed.symm.trans q3
  have hselP : selectMethod e.platform s.vm cellB.cls mk = .method mk := by rw [Launch.admits_selectMethod X.admits]; exact q4
  obtain ⟨vm₁, X₁, hstep₁⟩ := X.invokevirtual hexec hown hlink hnamed hmethM hstM hkP hkPi hy (a := b) (cell := cellB) hcell
    (fun z h => by rw [h] at hobj; cases hobj) hselP hmethM habM hkP hkPi (g := g) hg (argsL := argsL) (rest := rest) (hlen _ hsigM) hstack hdg
  obtain ⟨v, B, X', hpost, hsteps⟩ := hK m meth c ⟨T.setVm vm₁, locs, cells, slots⟩ { g with stack := rest } (.invokevirtual index) mk (Value.ref b :: argsL).toArray X₁ hg hsize hdg hW (X₁.named hnamed) (hpre vm₁ X₁.warmed)
  exact ⟨v, vm₁, B, X₁.warmed, X', hpost, fun target h => hstep₁ _ fun acts => by rw [doInvoke_state]; exact hsteps.trans h⟩
abbrev vx_CVW (R : Room) (s : State) (args : Array Value) (own C : String) (index : Nat) (y : MethodName) (bytes : ByteArray) (maxL : Nat) (ret : Option FieldType) (hh : List (Nat × Nat × Nat × Nat)) (ws : List Cond) (rm : Room) (mc ms n : Nat) : Prop :=
  (rm.cells = mc ∧ rm.slots = ms ∧ rm.frames + 1 ≤ R.frames ∧ 8 + (maxL + 11) + rm.locals ≤ R.locals ∧ (∀ w ∈ ws, ∀ (a' : Array Value) (U : State), s.WarmedH U.vm → w.before a' U = true) ∧ Cond.codeWith y bytes maxL ret hh ∈ ws) ∧
  (Cond.codeWith y bytes maxL ret hh).before args s = true ∧ (Cond.initialized y.cls).before args s = true ∧ (y.cls ≠ "java/lang/invoke/MethodHandle" ∧ y.cls ≠ "java/lang/invoke/VarHandle") ∧
  (∀ sig, parseMethodDescriptor y.desc = some sig → n = sig.parameters.length) ∧ (Cond.methodLink own index y).before args s = true ∧ (Cond.instanceMethod y).before args s = true ∧ (Cond.selects C y y).before args s = true
theorem vx_cwVW {own C : String} {index maxL mc ms : Nat} {y : MethodName} {bytes : ByteArray} {ret : Option FieldType} {hh : List (Nat × Nat × Nat × Nat)} {Ts ws ws' : List Cond} {rm : Room} (n : Nat) (ht : ∀ w ∈ Ts, w.before args s = true) (hT : GoodIn Ts (wsV own index C y ws)) (hw : ws = Cond.codeWith y bytes maxL ret hh :: ws') (hrc : rm.cells = mc) (hrs : rm.slots = ms)
    (hd : y.cls = C ∧ y.cls ≠ "java/lang/invoke/MethodHandle" ∧ y.cls ≠ "java/lang/invoke/VarHandle" ∧ (parseMethodDescriptor y.desc).map (fun d => d.parameters.length) = some n) (hR : rm.frames + 1 ≤ R.frames ∧ 8 + (maxL + 11) + rm.locals ≤ R.locals) :
    vx_CVW R s args own C index y bytes maxL ret hh ws rm mc ms n := by
  obtain ⟨hC, hd⟩ := hd
  subst hC
  have ok : ∀ w ∈ wsV own index y.cls y ws, w.before args s = true := fun w h => ht w (hT w h).1
  have hG : GoodIn Ts ws := fun w h => hT w (by unfold wsV; exact List.mem_append_right _ h)
  have hc : Cond.codeWith y bytes maxL ret hh ∈ ws := by rw [hw]; exact List.mem_cons_self
  refine ⟨⟨hrc, hrs, hR.1, hR.2, pay_in ht hG, hc⟩, ht _ (hG _ hc).1, ok _ (by simp [wsV]), ⟨hd.1, hd.2.1⟩, fun sig h => ?_, ok _ (by simp [wsV]), ok _ (by simp [wsV]), ok _ (by simp [wsV])⟩
  have h2 := hd.2.2
  rw [h] at h2
  exact (Option.some.inj h2).symm
theorem vx_runVW {y : MethodName} {bytes cc : ByteArray} {maxL nL mc ms n index : Nat} {ret : Option FieldType} {hh : List (Nat × Nat × Nat × Nat)} {ws : List Cond} {rm : Room} {Pc : Array Value → State → Prop} {Qc : Array Value → State → Outcome → State → Prop} {free : Addr → Prop} {Ts : List Cond} {own C : String} {b : Addr} {As rest : List Value} {g : JFrame}
    (S : CallFix p m c cc nL s args Ts own) (hM : Met l y ws rm Pc Qc mc ms free) (cw : vx_CVW R s args own C index y bytes maxL ret hh ws rm mc ms n) (hp : PreV s H C b Pc As)
    (hg : g.method = m) (hn : As.length = n) (hsize : g.locals.size = nL) (hstack : g.stack = As.reverse ++ .ref b :: rest) (hW : 2 * g.monitorRoom + (rest.map fun v => v.category).sum ≤ 8) (hdg : decode cc g.pc = .ok (.invokevirtual index, 3)) (hf : cells + mc ≤ R.cells ∧ slots + ms ≤ R.slots) :
    va_Run p l e R s m args below meth c H locs cells slots mc ms g rest (Qc (Value.ref b :: As).toArray) free := by
  obtain ⟨⟨hrc, hrs, hfr, hlo, hws, hcw⟩, hcode, hini, hy, hlen, hl, hin, hse⟩ := cw
  have hK : Back l R p e below s args y 3 8 (PreOf R mc ms Pc) (PostOf Qc mc ms free) := va_backW (hh := hh) (bytes := bytes) (maxL := maxL) (ret := ret) hM hp.1 hrc hrs hfr hlo hws hcw (fun a' U hW => word_at hW (Or.inl (by first | rfl | simp [Cond.onTables, Cond.keeps, Cond.steady])) hini)
  obtain ⟨hx, hb, hml, ho, -⟩ := S
  obtain ⟨-, ⟨cellB, hcB, hoB, hclB⟩, hPc⟩ := hp
  intro T hT X
  obtain ⟨v, vm₁, ⟨U', l2, c2, s2⟩, hW₁, X', ⟨g', mk, t, L, e1, e2, hq, h1, hL, h2, h3⟩, st⟩ := vx_callVW X hx (C := C) (hh := hh) (bytes := bytes) (maxL := maxL) (ret := ret) ho hl hin hse hcode hy hK (by rw [hT]; exact hcB) hoB hclB hg (hsize.trans hml.symm) (argsL := As) (rest := rest) (fun sig h => hn.trans (hlen sig h)) hstack hW (by rw [hb]; exact hdg)
    (fun vm₁ hW₁ => ⟨hf.1, hf.2, hPc (T.setVm vm₁) hT hW₁⟩)
  dsimp only [Pt.U, Pt.locs, Pt.cells, Pt.slots] at X' e1 e2 h1 h2 h3 st
  subst h1; subst h2; subst h3
  exact ⟨v, (T.setVm vm₁).calling g' mk (Value.ref b :: As).toArray, t, U', L, hT, X', hL, e1, e2, hq, st⟩
section
variable {y : MethodName} {bytes cc : ByteArray} {maxL nL mc ms n index : Nat} {ret : Option FieldType} {ws : List Cond} {rm : Room} {Pc : Array Value → State → Prop} {Qc : Array Value → State → Outcome → State → Prop} {XC : String → State → State → Prop} {free : Addr → Prop} {Ts : List Cond} {own C : String} {b : Addr} {As rest : List Value} {g : JFrame}
theorem vx_runVX {hh : List (Nat × Nat × Nat × Nat)} (S : CallFix p m c cc nL s args Ts own) (hM : vx_Met l y ws rm Pc Qc XC mc ms free) (cw : vx_CVW R s args own C index y bytes maxL ret hh ws rm mc ms n) (hp : PreV s H C b Pc As)
    (hg : g.method = m) (hn : As.length = n) (hsize : g.locals.size = nL) (hstack : g.stack = As.reverse ++ .ref b :: rest) (hW : 2 * g.monitorRoom + (rest.map fun v => v.category).sum ≤ 8) (hdg : decode cc g.pc = .ok (.invokevirtual index, 3)) (hf : cells + mc ≤ R.cells ∧ slots + ms ≤ R.slots) :
    vx_Run p l e R s m args below meth c H locs cells slots mc ms g rest (Qc (Value.ref b :: As).toArray) XC free := by
  obtain ⟨⟨hrc, hrs, hfr, hlo, hws, hcw⟩, hcode, hini, hy, hlen, hl, hin, hse⟩ := cw
  have hK : vx_Back l R p e below s args y 3 8 (PreOf R mc ms Pc) (PostOf Qc mc ms free) (vx_Post XC mc ms free) := vx_backW (hh := hh) (bytes := bytes) (maxL := maxL) (ret := ret) hM hp.1 hrc hrs hfr hlo hws hcw (fun a' U hW => word_at hW (Or.inl (by first | rfl | simp [Cond.onTables, Cond.keeps, Cond.steady])) hini)
  obtain ⟨hx, hb, hml, ho, -⟩ := S
  obtain ⟨-, ⟨cellB, hcB, hoB, hclB⟩, hPc⟩ := hp
  intro T hT X
  rcases vx_callVX X hx (C := C) (hh := hh) (bytes := bytes) (maxL := maxL) (ret := ret) ho hl hin hse hcode hy hK (by rw [hT]; exact hcB) hoB hclB hg (hsize.trans hml.symm) (argsL := As) (rest := rest) (fun sig h => hn.trans (hlen sig h)) hstack hW (by rw [hb]; exact hdg)
    (fun vm₁ hW₁ => ⟨hf.1, hf.2, hPc (T.setVm vm₁) hT hW₁⟩) with ⟨v, vm₁, ⟨U', l2, c2, s2⟩, hW₁, X', ⟨g', mk, t, L, e1, e2, hq, h1, hL, h2, h3⟩, st⟩ | ⟨q, vm₁, ⟨U', l2, c2, s2⟩, hW₁, X', ⟨g', mk, t, L, E, ce, e1, e2, hq, hce, hcv, hcl, h1, hL, h2, h3⟩, st⟩
  · dsimp only [Pt.U, Pt.locs, Pt.cells, Pt.slots] at X' e1 e2 h1 h2 h3 st
    subst h1; subst h2; subst h3
    exact Or.inl ⟨v, (T.setVm vm₁).calling g' mk (Value.ref b :: As).toArray, t, U', L, hT, X', hL, e1, e2, hq, st⟩
  · dsimp only [Pt.U, Pt.locs, Pt.cells, Pt.slots] at X' e1 e2 h1 h2 h3 st hcl
    subst h1; subst h2; subst h3
    exact Or.inr ⟨q, (T.setVm vm₁).calling g' mk (Value.ref b :: As).toArray, t, U', L, E, ce, hT, X', hL, e1, e2, hq, hce, hcv, vx_cls hW₁ hcl, st⟩
theorem vx_runSX {hh : List (Nat × Nat × Nat × Nat)} (S : CallFix p m c cc nL s args Ts own) (hM : vx_Met l y ws rm Pc Qc XC mc ms free) (cw : vx_CSW R s args own index y bytes maxL ret hh ws rm mc ms n) (hp : PreS s H Pc As)
    (hg : g.method = m) (hn : As.length = n) (hsize : g.locals.size = nL) (hstack : g.stack = As.reverse ++ rest) (hW : 2 * g.monitorRoom + (rest.map fun v => v.category).sum ≤ 8) (hdg : decode cc g.pc = .ok (.invokestatic index, 3)) (hf : cells + mc ≤ R.cells ∧ slots + ms ≤ R.slots) :
    vx_Run p l e R s m args below meth c H locs cells slots mc ms g rest (Qc As.toArray) XC free := by
  obtain ⟨⟨hrc, hrs, hfr, hlo, hws, hcw⟩, hcode, hini, hy, hlen, hl, hstt⟩ := cw
  have hK : vx_Back l R p e below s args y 3 8 (PreOf R mc ms Pc) (PostOf Qc mc ms free) (vx_Post XC mc ms free) := vx_backW (hh := hh) (bytes := bytes) (maxL := maxL) (ret := ret) hM hp.1 hrc hrs hfr hlo hws hcw (fun a' U hW => word_at hW (Or.inl (by first | rfl | simp [Cond.onTables, Cond.keeps, Cond.steady])) hini)
  obtain ⟨hx, hb, hml, ho, -⟩ := S
  intro T hT X
  rcases vx_callSX X hx (hh := hh) (bytes := bytes) (maxL := maxL) (ret := ret) ho hl hstt hini hcode hy hK hg (hsize.trans hml.symm) (argsL := As) (rest := rest) (fun sig h => hn.trans (hlen sig h)) hstack hW (by rw [hb]; exact hdg)
    (fun vm₁ hW₁ => ⟨hf.1, hf.2, hp.2 (T.setVm vm₁) hT hW₁⟩) with ⟨v, vm₁, ⟨U', l2, c2, s2⟩, hW₁, X', ⟨g', mk, t, L, e1, e2, hq, h1, hL, h2, h3⟩, st⟩ | ⟨q, vm₁, ⟨U', l2, c2, s2⟩, hW₁, X', ⟨g', mk, t, L, E, ce, e1, e2, hq, hce, hcv, hcl, h1, hL, h2, h3⟩, st⟩
  · dsimp only [Pt.U, Pt.locs, Pt.cells, Pt.slots] at X' e1 e2 h1 h2 h3 st
    subst h1; subst h2; subst h3
    exact Or.inl ⟨v, (T.setVm vm₁).calling g' mk As.toArray, t, U', L, hT, X', hL, e1, e2, hq, st⟩
  · dsimp only [Pt.U, Pt.locs, Pt.cells, Pt.slots] at X' e1 e2 h1 h2 h3 st hcl
    subst h1; subst h2; subst h3
    exact Or.inr ⟨q, (T.setVm vm₁).calling g' mk As.toArray, t, U', L, E, ce, hT, X', hL, e1, e2, hq, hce, hcv, vx_cls hW₁ hcl, st⟩
end
end VXH
theorem vx_ofWH {l : Launch} {y : MethodName} {ws ws' : List Cond} {rm : Room} {Pc : Array Value → State → Prop} {Qc : Array Value → State → Outcome → State → Prop} {XC : String → State → State → Prop} {mc ms : Nat} {free : Addr → Prop} {cc : ByteArray} {maxL : Nat} {ret : Option FieldType} {hh : List (Nat × Nat × Nat × Nat)}
    (hy : plainName y.cls = true) (hw : ws = Cond.codeWith y cc maxL ret hh :: ws')
    (body : ∀ p e s m args below meth c s₁, BodyLoose p l y (headSpec ws rm) cc maxL ret e s m args below meth c s₁ → c.maxLocals = maxL → Pc args s →
      W p l e (headSpec ws rm).room s m args below meth c s.heap [] 0 0 (vx_MQ below Qc XC args s mc ms free) (entryFrame m args maxL)) : vx_Met l y ws rm Pc Qc XC mc ms free := by
  refine MetFree.of_bodyS (code := cc) (maxLocals := maxL) (ret := ret) hy ?_ ?_
  · intro args s m h hn
    obtain ⟨m9, meth, c, hn9, h1, h2, h3, h4, -, h5, h6, -⟩ := Cond.codeWith_spec (atoms_spec (ws := ws) h _ (by rw [hw]; exact List.mem_cons_self))
    cases hn.symm.trans hn9
    exact ⟨meth, c, h1, h2, h3, h4, h5, h6⟩
  · intro p e s m args below meth c s₁ B hml hP _
    have hh0 : s₁.heap = s.heap := by rw [B.state]; rfl
    obtain ⟨t, a1, o, b1, b2, b3⟩ := body p e s m args below meth c s₁ B hml hP s₁ hh0 (Stand.of_body B)
    exact ⟨t, o, a1, b1, b2, b3⟩
/-! ===== END ===== -/
end
section
/-! ===== BEGIN printed: names, fields, word lists, decode rows ===== -/
def RX0 : String := "Reelrescue$Changes"
def TX0 : u_T := fun k => match k with
  | 0 => ("Reelrescue$Changes", "count", "I", false)
  | 1 => ("Reelrescue$Changes", "places", "[I", false)
  | 2 => ("Reelrescue$Changes", "before", "[J", false)
  | _ => ("Reelrescue$Changes", "below", "[I", false)
def tyX0 : Nat → FieldType := fun k => match k with
  | 0 => .int
  | 1 => .array .int
  | 2 => .array .long
  | _ => .array .int
abbrev wsX00 : List Cond := u_ws RX0 TX0 4
theorem nmX0 : ∀ a, a < 4 → ∀ b, b < 4 → a ≠ b → (TX0 a).2.1 ≠ (TX0 b).2.1 := by decide +kernel
theorem tyX0_ok : ∀ k, k < 4 → parseFieldDescriptor (TX0 k).2.2.1 = some (tyX0 k) := by decide +kernel
abbrev cX0_init : ByteArray := prog_2_method_1_code
def yX0_init : MethodName := ⟨RX0, "<init>", "()V"⟩
abbrev cX0_isFull : ByteArray := prog_2_method_2_code
def yX0_isFull : MethodName := ⟨RX0, "isFull", "()Z"⟩
abbrev cX0_add : ByteArray := prog_2_method_3_code
def yX0_add : MethodName := ⟨RX0, "add", "(IJI)I"⟩
def RX1 : String := "Reelrescue$DirtMending"
def TX1 : u_T := fun k => match k with
  | _ => ("Reelrescue$DirtMending", "threshold", "I", true)
def tyX1 : Nat → FieldType := fun k => match k with
  | _ => .int
abbrev wsX10 : List Cond := u_ws RX1 TX1 1
theorem nmX1 : ∀ a, a < 1 → ∀ b, b < 1 → a ≠ b → (TX1 a).2.1 ≠ (TX1 b).2.1 := by decide +kernel
theorem tyX1_ok : ∀ k, k < 1 → parseFieldDescriptor (TX1 k).2.2.1 = some (tyX1 k) := by decide +kernel
abbrev cX1_init : ByteArray := prog_3_method_1_code
def yX1_init : MethodName := ⟨RX1, "<init>", "(I)V"⟩
abbrev cX1_mended : ByteArray := prog_3_method_2_code
def yX1_mended : MethodName := ⟨RX1, "mended", "(JJJ)J"⟩
abbrev cX1_isDirty : ByteArray := prog_3_method_3_code
def yX1_isDirty : MethodName := ⟨RX1, "isDirty", "(III)Z"⟩
def RX2 : String := "Reelrescue$Edition"
def TX2 : u_T := fun k => match k with
  | 0 => ("Reelrescue$Edition", "count", "I", false)
  | 1 => ("Reelrescue$Edition", "limit", "I", false)
  | 2 => ("Reelrescue$Edition", "frames", "[LReelrescue$EditionFrame;", true)
  | _ => ("Reelrescue$Edition", "changes", "LReelrescue$Changes;", true)
def tyX2 : Nat → FieldType := fun k => match k with
  | 0 => .int
  | 1 => .int
  | 2 => .array (.object "Reelrescue$EditionFrame")
  | _ => .object "Reelrescue$Changes"
abbrev wsX20 : List Cond := u_ws RX2 TX2 4
theorem nmX2 : ∀ a, a < 4 → ∀ b, b < 4 → a ≠ b → (TX2 a).2.1 ≠ (TX2 b).2.1 := by decide +kernel
theorem tyX2_ok : ∀ k, k < 4 → parseFieldDescriptor (TX2 k).2.2.1 = some (tyX2 k) := by decide +kernel
abbrev cX2_init : ByteArray := prog_4_method_1_code
def yX2_init : MethodName := ⟨RX2, "<init>", "()V"⟩
abbrev cX2_begin : ByteArray := prog_4_method_2_code
def yX2_begin : MethodName := ⟨RX2, "begin", "()V"⟩
abbrev cX2_take : ByteArray := prog_4_method_3_code
def yX2_take : MethodName := ⟨RX2, "take", "(IIIJ)V"⟩
abbrev cX2_gaps : ByteArray := prog_4_method_4_code
def yX2_gaps : MethodName := ⟨RX2, "gaps", "()I"⟩
abbrev cX2_mendByNeighbours : ByteArray := prog_4_method_5_code
def yX2_mendByNeighbours : MethodName := ⟨RX2, "mendByNeighbours", "(LReelrescue$NeighbourMending;)I"⟩
abbrev cX2_mendScratch : ByteArray := prog_4_method_6_code
def yX2_mendScratch : MethodName := ⟨RX2, "mendScratch", "(IIII)I"⟩
abbrev cX2_isScratched : ByteArray := prog_4_method_7_code
def yX2_isScratched : MethodName := ⟨RX2, "isScratched", "(JII)Z"⟩
abbrev cX2_change : ByteArray := prog_4_method_8_code
def yX2_change : MethodName := ⟨RX2, "change", "(IJ)Z"⟩
abbrev cX2_isOnTop : ByteArray := prog_4_method_9_code
def yX2_isOnTop : MethodName := ⟨RX2, "isOnTop", "(I)Z"⟩
abbrev cX2_undo : ByteArray := prog_4_method_10_code
def yX2_undo : MethodName := ⟨RX2, "undo", "(I)I"⟩
abbrev cX2_checksum : ByteArray := prog_4_method_11_code
def yX2_checksum : MethodName := ⟨RX2, "checksum", "(Z)J"⟩
def RX3 : String := "Reelrescue$EditionFrame"
def TX3 : u_T := fun k => match k with
  | 0 => ("Reelrescue$EditionFrame", "code", "I", false)
  | 1 => ("Reelrescue$EditionFrame", "reel", "I", false)
  | 2 => ("Reelrescue$EditionFrame", "place", "I", false)
  | 3 => ("Reelrescue$EditionFrame", "taken", "J", false)
  | 4 => ("Reelrescue$EditionFrame", "now", "J", false)
  | 5 => ("Reelrescue$EditionFrame", "isProtected", "Z", false)
  | 6 => ("Reelrescue$EditionFrame", "changeCount", "I", false)
  | _ => ("Reelrescue$EditionFrame", "topChange", "I", false)
def tyX3 : Nat → FieldType := fun k => match k with
  | 0 => .int
  | 1 => .int
  | 2 => .int
  | 3 => .long
  | 4 => .long
  | 5 => .boolean
  | 6 => .int
  | _ => .int
abbrev wsX30 : List Cond := u_ws RX3 TX3 8
theorem nmX3 : ∀ a, a < 8 → ∀ b, b < 8 → a ≠ b → (TX3 a).2.1 ≠ (TX3 b).2.1 := by decide +kernel
theorem tyX3_ok : ∀ k, k < 8 → parseFieldDescriptor (TX3 k).2.2.1 = some (tyX3 k) := by decide +kernel
abbrev cX3_init : ByteArray := prog_5_method_1_code
def yX3_init : MethodName := ⟨RX3, "<init>", "()V"⟩
abbrev cX3_begin : ByteArray := prog_5_method_2_code
def yX3_begin : MethodName := ⟨RX3, "begin", "(IIIJ)V"⟩
abbrev cX3_isGap : ByteArray := prog_5_method_3_code
def yX3_isGap : MethodName := ⟨RX3, "isGap", "()Z"⟩
abbrev cX3_mayBeMended : ByteArray := prog_5_method_4_code
def yX3_mayBeMended : MethodName := ⟨RX3, "mayBeMended", "()Z"⟩
def RX4 : String := "Reelrescue$FlickerMending"
def TX4 : u_T := fun k => match k with
  | _ => ("", "", "", false)
def tyX4 : Nat → FieldType := fun k => match k with
  | _ => .int
abbrev wsX40 : List Cond := u_ws RX4 TX4 0
theorem nmX4 : ∀ a, a < 0 → ∀ b, b < 0 → a ≠ b → (TX4 a).2.1 ≠ (TX4 b).2.1 := by decide +kernel
theorem tyX4_ok : ∀ k, k < 0 → parseFieldDescriptor (TX4 k).2.2.1 = some (tyX4 k) := by decide +kernel
abbrev cX4_init : ByteArray := prog_6_method_1_code
def yX4_init : MethodName := ⟨RX4, "<init>", "()V"⟩
abbrev cX4_mended : ByteArray := prog_6_method_2_code
def yX4_mended : MethodName := ⟨RX4, "mended", "(JJJ)J"⟩
def RX5 : String := "Reelrescue$NeighbourMending"
def TX5 : u_T := fun k => match k with
  | _ => ("", "", "", false)
def tyX5 : Nat → FieldType := fun k => match k with
  | _ => .int
abbrev wsX50 : List Cond := u_ws RX5 TX5 0
theorem nmX5 : ∀ a, a < 0 → ∀ b, b < 0 → a ≠ b → (TX5 a).2.1 ≠ (TX5 b).2.1 := by decide +kernel
theorem tyX5_ok : ∀ k, k < 0 → parseFieldDescriptor (TX5 k).2.2.1 = some (tyX5 k) := by decide +kernel
abbrev cX5_init : ByteArray := prog_7_method_1_code
def yX5_init : MethodName := ⟨RX5, "<init>", "()V"⟩
def RX6 : String := "Reelrescue$Pairing"
def TX6 : u_T := fun k => match k with
  | _ => ("Reelrescue$Pairing", "most", "[[I", true)
def tyX6 : Nat → FieldType := fun k => match k with
  | _ => .array (.array .int)
abbrev wsX60 : List Cond := u_ws RX6 TX6 1
theorem nmX6 : ∀ a, a < 1 → ∀ b, b < 1 → a ≠ b → (TX6 a).2.1 ≠ (TX6 b).2.1 := by decide +kernel
theorem tyX6_ok : ∀ k, k < 1 → parseFieldDescriptor (TX6 k).2.2.1 = some (tyX6 k) := by decide +kernel
abbrev cX6_init : ByteArray := prog_8_method_1_code
def yX6_init : MethodName := ⟨RX6, "<init>", "()V"⟩
abbrev cX6_mostPairs : ByteArray := prog_8_method_2_code
def yX6_mostPairs : MethodName := ⟨RX6, "mostPairs", "(LReelrescue$Reel;LReelrescue$Reel;I)I"⟩
abbrev cX6_partner : ByteArray := prog_8_method_3_code
def yX6_partner : MethodName := ⟨RX6, "partner", "(LReelrescue$Reel;ILReelrescue$Reel;I)I"⟩
abbrev cX6_canPair : ByteArray := prog_8_method_4_code
def yX6_canPair : MethodName := ⟨RX6, "canPair", "(LReelrescue$Reel;ILReelrescue$Reel;II)Z"⟩
def RX7 : String := "Reelrescue$Points"
def TX7 : u_T := fun k => match k with
  | _ => ("", "", "", false)
def tyX7 : Nat → FieldType := fun k => match k with
  | _ => .int
abbrev wsX70 : List Cond := u_ws RX7 TX7 0
theorem nmX7 : ∀ a, a < 0 → ∀ b, b < 0 → a ≠ b → (TX7 a).2.1 ≠ (TX7 b).2.1 := by decide +kernel
theorem tyX7_ok : ∀ k, k < 0 → parseFieldDescriptor (TX7 k).2.2.1 = some (tyX7 k) := by decide +kernel
abbrev cX7_at : ByteArray := prog_9_method_2_code
def yX7_at : MethodName := ⟨RX7, "at", "(JI)I"⟩
abbrev cX7_with : ByteArray := prog_9_method_3_code
def yX7_with : MethodName := ⟨RX7, "with", "(JII)J"⟩
abbrev cX7_distance : ByteArray := prog_9_method_4_code
def yX7_distance : MethodName := ⟨RX7, "distance", "(JJ)I"⟩
abbrev cX7_unlike : ByteArray := prog_9_method_5_code
def yX7_unlike : MethodName := ⟨RX7, "unlike", "(JJ)I"⟩
abbrev cX7_total : ByteArray := prog_9_method_6_code
def yX7_total : MethodName := ⟨RX7, "total", "(J)I"⟩
def RX8 : String := "Reelrescue$Reel"
def TX8 : u_T := fun k => match k with
  | 0 => ("Reelrescue$Reel", "base", "I", false)
  | 1 => ("Reelrescue$Reel", "year", "I", false)
  | 2 => ("Reelrescue$Reel", "land", "I", false)
  | 3 => ("Reelrescue$Reel", "generation", "I", false)
  | 4 => ("Reelrescue$Reel", "decay", "I", false)
  | 5 => ("Reelrescue$Reel", "isCold", "Z", false)
  | 6 => ("Reelrescue$Reel", "frameCount", "I", false)
  | 7 => ("Reelrescue$Reel", "spliceCount", "I", false)
  | 8 => ("Reelrescue$Reel", "leastCode", "I", false)
  | 9 => ("Reelrescue$Reel", "greatestCode", "I", false)
  | 10 => ("Reelrescue$Reel", "codes", "[I", true)
  | 11 => ("Reelrescue$Reel", "frames", "[J", true)
  | 12 => ("Reelrescue$Reel", "spliced", "[Z", true)
  | 13 => ("Reelrescue$Reel", "firstPlaces", "[I", true)
  | _ => ("Reelrescue$Reel", "splicedCodes", "[Z", true)
def tyX8 : Nat → FieldType := fun k => match k with
  | 0 => .int
  | 1 => .int
  | 2 => .int
  | 3 => .int
  | 4 => .int
  | 5 => .boolean
  | 6 => .int
  | 7 => .int
  | 8 => .int
  | 9 => .int
  | 10 => .array .int
  | 11 => .array .long
  | 12 => .array .boolean
  | 13 => .array .int
  | _ => .array .boolean
abbrev wsX80 : List Cond := u_ws RX8 TX8 15
theorem nmX8 : ∀ a, a < 15 → ∀ b, b < 15 → a ≠ b → (TX8 a).2.1 ≠ (TX8 b).2.1 := by decide +kernel
theorem tyX8_ok : ∀ k, k < 15 → parseFieldDescriptor (TX8 k).2.2.1 = some (tyX8 k) := by decide +kernel
abbrev cX8_init : ByteArray := prog_10_method_1_code
def yX8_init : MethodName := ⟨RX8, "<init>", "()V"⟩
abbrev cX8_begin : ByteArray := prog_10_method_2_code
def yX8_begin : MethodName := ⟨RX8, "begin", "(IIIII)V"⟩
abbrev cX8_addFrame : ByteArray := prog_10_method_3_code
def yX8_addFrame : MethodName := ⟨RX8, "addFrame", "(IJ)V"⟩
abbrev cX8_addSplice : ByteArray := prog_10_method_4_code
def yX8_addSplice : MethodName := ⟨RX8, "addSplice", "(I)V"⟩
abbrev cX8_printFrom : ByteArray := prog_10_method_5_code
def yX8_printFrom : MethodName := ⟨RX8, "printFrom", "(LReelrescue$Reel;)V"⟩
abbrev cX8_yearlyDecay : ByteArray := prog_10_method_6_code
def yX8_yearlyDecay : MethodName := ⟨RX8, "yearlyDecay", "()I"⟩
abbrev cX8_canBeRead : ByteArray := prog_10_method_7_code
def yX8_canBeRead : MethodName := ⟨RX8, "canBeRead", "()Z"⟩
abbrev cX8_yearToCopy : ByteArray := prog_10_method_8_code
def yX8_yearToCopy : MethodName := ⟨RX8, "yearToCopy", "(I)I"⟩
abbrev cX8_hasCode : ByteArray := prog_10_method_9_code
def yX8_hasCode : MethodName := ⟨RX8, "hasCode", "(I)Z"⟩
abbrev cX8_isBetterThan : ByteArray := prog_10_method_10_code
def yX8_isBetterThan : MethodName := ⟨RX8, "isBetterThan", "(LReelrescue$Reel;)Z"⟩
abbrev cX8_jumps : ByteArray := prog_10_method_11_code
def yX8_jumps : MethodName := ⟨RX8, "jumps", "()I"⟩
abbrev cX8_missingCodes : ByteArray := prog_10_method_12_code
def yX8_missingCodes : MethodName := ⟨RX8, "missingCodes", "()I"⟩
abbrev cX8_isFault : ByteArray := prog_10_method_13_code
def yX8_isFault : MethodName := ⟨RX8, "isFault", "(I)Z"⟩
abbrev cX8_faults : ByteArray := prog_10_method_14_code
def yX8_faults : MethodName := ⟨RX8, "faults", "()I"⟩
abbrev cX8_hasFaultsOf : ByteArray := prog_10_method_15_code
def yX8_hasFaultsOf : MethodName := ⟨RX8, "hasFaultsOf", "(LReelrescue$Reel;)Z"⟩
def RX9 : String := "Reelrescue$Scraps"
def TX9 : u_T := fun k => match k with
  | 0 => ("Reelrescue$Scraps", "count", "I", false)
  | 1 => ("Reelrescue$Scraps", "codes", "[I", true)
  | 2 => ("Reelrescue$Scraps", "tints", "[I", true)
  | _ => ("Reelrescue$Scraps", "votes", "[I", true)
def tyX9 : Nat → FieldType := fun k => match k with
  | 0 => .int
  | 1 => .array .int
  | 2 => .array .int
  | _ => .array .int
abbrev wsX90 : List Cond := u_ws RX9 TX9 4
theorem nmX9 : ∀ a, a < 4 → ∀ b, b < 4 → a ≠ b → (TX9 a).2.1 ≠ (TX9 b).2.1 := by decide +kernel
theorem tyX9_ok : ∀ k, k < 4 → parseFieldDescriptor (TX9 k).2.2.1 = some (tyX9 k) := by decide +kernel
abbrev cX9_init : ByteArray := prog_11_method_1_code
def yX9_init : MethodName := ⟨RX9, "<init>", "()V"⟩
abbrev cX9_add : ByteArray := prog_11_method_2_code
def yX9_add : MethodName := ⟨RX9, "add", "(II)V"⟩
abbrev cX9_withCode : ByteArray := prog_11_method_3_code
def yX9_withCode : MethodName := ⟨RX9, "withCode", "(I)I"⟩
abbrev cX9_tintOfCodes : ByteArray := prog_11_method_4_code
def yX9_tintOfCodes : MethodName := ⟨RX9, "tintOfCodes", "(II)I"⟩
def RX10 : String := "Reelrescue$Version"
def TX10 : u_T := fun k => match k with
  | 0 => ("Reelrescue$Version", "land", "I", false)
  | 1 => ("Reelrescue$Version", "year", "I", false)
  | 2 => ("Reelrescue$Version", "proofs", "I", false)
  | 3 => ("Reelrescue$Version", "shotCount", "I", false)
  | 4 => ("Reelrescue$Version", "codeCount", "I", false)
  | 5 => ("Reelrescue$Version", "froms", "[I", true)
  | 6 => ("Reelrescue$Version", "tos", "[I", true)
  | 7 => ("Reelrescue$Version", "speeds", "[I", true)
  | 8 => ("Reelrescue$Version", "rightCount", "I", false)
  | 9 => ("Reelrescue$Version", "rightHolders", "[I", true)
  | 10 => ("Reelrescue$Version", "rightLands", "[I", true)
  | 11 => ("Reelrescue$Version", "rightFroms", "[I", true)
  | 12 => ("Reelrescue$Version", "rightTos", "[I", true)
  | _ => ("Reelrescue$Version", "allowed", "[Z", true)
def tyX10 : Nat → FieldType := fun k => match k with
  | 0 => .int
  | 1 => .int
  | 2 => .int
  | 3 => .int
  | 4 => .int
  | 5 => .array .int
  | 6 => .array .int
  | 7 => .array .int
  | 8 => .int
  | 9 => .array .int
  | 10 => .array .int
  | 11 => .array .int
  | 12 => .array .int
  | _ => .array .boolean
abbrev wsX100 : List Cond := u_ws RX10 TX10 14
theorem nmX10 : ∀ a, a < 14 → ∀ b, b < 14 → a ≠ b → (TX10 a).2.1 ≠ (TX10 b).2.1 := by decide +kernel
theorem tyX10_ok : ∀ k, k < 14 → parseFieldDescriptor (TX10 k).2.2.1 = some (tyX10 k) := by decide +kernel
abbrev cX10_init : ByteArray := prog_12_method_1_code
def yX10_init : MethodName := ⟨RX10, "<init>", "()V"⟩
abbrev cX10_begin : ByteArray := prog_12_method_2_code
def yX10_begin : MethodName := ⟨RX10, "begin", "(II)V"⟩
abbrev cX10_addShot : ByteArray := prog_12_method_3_code
def yX10_addShot : MethodName := ⟨RX10, "addShot", "(II)V"⟩
abbrev cX10_duration : ByteArray := prog_12_method_4_code
def yX10_duration : MethodName := ⟨RX10, "duration", "()I"⟩
abbrev cX10_addRight : ByteArray := prog_12_method_5_code
def yX10_addRight : MethodName := ⟨RX10, "addRight", "(IIII)V"⟩
abbrev cX10_isFreeIn : ByteArray := prog_12_method_6_code
def yX10_isFreeIn : MethodName := ⟨RX10, "isFreeIn", "(II)Z"⟩
def RX11 : String := "Reelrescue"
def TX11 : u_T := fun k => match k with
  | 0 => ("Reelrescue", "reels", "[LReelrescue$Reel;", true)
  | 1 => ("Reelrescue", "reelCount", "I", false)
  | 2 => ("Reelrescue", "yearNow", "I", false)
  | 3 => ("Reelrescue", "tolerance", "I", false)
  | 4 => ("Reelrescue", "pairing", "LReelrescue$Pairing;", true)
  | 5 => ("Reelrescue", "versions", "[LReelrescue$Version;", true)
  | 6 => ("Reelrescue", "versionCount", "I", false)
  | 7 => ("Reelrescue", "rightCount", "I", false)
  | 8 => ("Reelrescue", "scraps", "LReelrescue$Scraps;", true)
  | _ => ("Reelrescue", "edition", "LReelrescue$Edition;", true)
def tyX11 : Nat → FieldType := fun k => match k with
  | 0 => .array (.object "Reelrescue$Reel")
  | 1 => .int
  | 2 => .int
  | 3 => .int
  | 4 => .object "Reelrescue$Pairing"
  | 5 => .array (.object "Reelrescue$Version")
  | 6 => .int
  | 7 => .int
  | 8 => .object "Reelrescue$Scraps"
  | _ => .object "Reelrescue$Edition"
abbrev wsX110 : List Cond := u_ws RX11 TX11 10
theorem nmX11 : ∀ a, a < 10 → ∀ b, b < 10 → a ≠ b → (TX11 a).2.1 ≠ (TX11 b).2.1 := by decide +kernel
theorem tyX11_ok : ∀ k, k < 10 → parseFieldDescriptor (TX11 k).2.2.1 = some (tyX11 k) := by decide +kernel
abbrev cX11_init : ByteArray := prog_1_method_1_code
def yX11_init : MethodName := ⟨RX11, "<init>", "()V"⟩
abbrev cX11_reel : ByteArray := prog_1_method_2_code
def yX11_reel : MethodName := ⟨RX11, "reel", "(IIIII)I"⟩
abbrev cX11_frame : ByteArray := prog_1_method_3_code
def yX11_frame : MethodName := ⟨RX11, "frame", "(IIII)I"⟩
abbrev cX11_splice : ByteArray := prog_1_method_4_code
def yX11_splice : MethodName := ⟨RX11, "splice", "(II)I"⟩
abbrev cX11_cold : ByteArray := prog_1_method_5_code
def yX11_cold : MethodName := ⟨RX11, "cold", "(IZ)I"⟩
abbrev cX11_copy : ByteArray := prog_1_method_6_code
def yX11_copy : MethodName := ⟨RX11, "copy", "(I)I"⟩
abbrev cX11_ofReel : ByteArray := prog_1_method_7_code
def yX11_ofReel : MethodName := ⟨RX11, "ofReel", "(II)I"⟩
abbrev cX11_tolerance : ByteArray := prog_1_method_8_code
def yX11_tolerance : MethodName := ⟨RX11, "tolerance", "(I)I"⟩
abbrev cX11_align : ByteArray := prog_1_method_9_code
def yX11_align : MethodName := ⟨RX11, "align", "(II)I"⟩
abbrev cX11_pairOf : ByteArray := prog_1_method_10_code
def yX11_pairOf : MethodName := ⟨RX11, "pairOf", "(III)I"⟩
abbrev cX11_alike : ByteArray := prog_1_method_11_code
def yX11_alike : MethodName := ⟨RX11, "alike", "(IIII)F"⟩
abbrev cX11_version : ByteArray := prog_1_method_12_code
def yX11_version : MethodName := ⟨RX11, "version", "(II)I"⟩
abbrev cX11_shot : ByteArray := prog_1_method_13_code
def yX11_shot : MethodName := ⟨RX11, "shot", "(III)I"⟩
abbrev cX11_proof : ByteArray := prog_1_method_14_code
def yX11_proof : MethodName := ⟨RX11, "proof", "(I)I"⟩
abbrev cX11_speed : ByteArray := prog_1_method_15_code
def yX11_speed : MethodName := ⟨RX11, "speed", "(III)I"⟩
abbrev cX11_ofVersion : ByteArray := prog_1_method_16_code
def yX11_ofVersion : MethodName := ⟨RX11, "ofVersion", "(II)I"⟩
abbrev cX11_scrap : ByteArray := prog_1_method_17_code
def yX11_scrap : MethodName := ⟨RX11, "scrap", "(II)I"⟩
abbrev cX11_tint : ByteArray := prog_1_method_18_code
def yX11_tint : MethodName := ⟨RX11, "tint", "(II)I"⟩
abbrev cX11_right : ByteArray := prog_1_method_19_code
def yX11_right : MethodName := ⟨RX11, "right", "(IIIII)I"⟩
abbrev cX11_allow : ByteArray := prog_1_method_20_code
def yX11_allow : MethodName := ⟨RX11, "allow", "(IIZ)Z"⟩
abbrev cX11_mayShow : ByteArray := prog_1_method_21_code
def yX11_mayShow : MethodName := ⟨RX11, "mayShow", "(III)Z"⟩
abbrev cX11_edition : ByteArray := prog_1_method_22_code
def yX11_edition : MethodName := ⟨RX11, "edition", "(I)I"⟩
abbrev cX11_protect : ByteArray := prog_1_method_23_code
def yX11_protect : MethodName := ⟨RX11, "protect", "(IZ)Z"⟩
abbrev cX11_limit : ByteArray := prog_1_method_24_code
def yX11_limit : MethodName := ⟨RX11, "limit", "(I)I"⟩
abbrev cX11_dirt : ByteArray := prog_1_method_25_code
def yX11_dirt : MethodName := ⟨RX11, "dirt", "(I)I"⟩
abbrev cX11_scratch : ByteArray := prog_1_method_26_code
def yX11_scratch : MethodName := ⟨RX11, "scratch", "(IIII)I"⟩
abbrev cX11_flicker : ByteArray := prog_1_method_27_code
def yX11_flicker : MethodName := ⟨RX11, "flicker", "()I"⟩
abbrev cX11_takeBack : ByteArray := prog_1_method_28_code
def yX11_takeBack : MethodName := ⟨RX11, "takeBack", "(I)I"⟩
abbrev cX11_ofFrame : ByteArray := prog_1_method_29_code
def yX11_ofFrame : MethodName := ⟨RX11, "ofFrame", "(II)I"⟩
abbrev cX11_seen : ByteArray := prog_1_method_30_code
def yX11_seen : MethodName := ⟨RX11, "seen", "(I)J"⟩
abbrev cX11_sum : ByteArray := prog_1_method_31_code
def yX11_sum : MethodName := ⟨RX11, "sum", "(Z)J"⟩
abbrev cX11_pass : ByteArray := prog_1_method_32_code
def yX11_pass : MethodName := ⟨RX11, "pass", "(I)I"⟩
abbrev cX11_isWithin : ByteArray := prog_1_method_33_code
def yX11_isWithin : MethodName := ⟨RX11, "isWithin", "(III)Z"⟩
abbrev cX11_needInRange : ByteArray := prog_1_method_34_code
def yX11_needInRange : MethodName := ⟨RX11, "needInRange", "(Z)V"⟩
abbrev cX11_needPossible : ByteArray := prog_1_method_35_code
def yX11_needPossible : MethodName := ⟨RX11, "needPossible", "(Z)V"⟩
abbrev cX11_needPlace : ByteArray := prog_1_method_36_code
def yX11_needPlace : MethodName := ⟨RX11, "needPlace", "(II)V"⟩
abbrev cX11_reelNumbered : ByteArray := prog_1_method_37_code
def yX11_reelNumbered : MethodName := ⟨RX11, "reelNumbered", "(I)LReelrescue$Reel;"⟩
abbrev cX11_versionNumbered : ByteArray := prog_1_method_38_code
def yX11_versionNumbered : MethodName := ⟨RX11, "versionNumbered", "(I)LReelrescue$Version;"⟩
abbrev cX11_editionFrameAt : ByteArray := prog_1_method_39_code
def yX11_editionFrameAt : MethodName := ⟨RX11, "editionFrameAt", "(I)LReelrescue$EditionFrame;"⟩
abbrev cX11_guessedParent : ByteArray := prog_1_method_40_code
def yX11_guessedParent : MethodName := ⟨RX11, "guessedParent", "(I)I"⟩
abbrev cX11_bestReelWith : ByteArray := prog_1_method_41_code
def yX11_bestReelWith : MethodName := ⟨RX11, "bestReelWith", "(I)I"⟩
abbrev cX11_codesThatCanBeRead : ByteArray := prog_1_method_42_code
def yX11_codesThatCanBeRead : MethodName := ⟨RX11, "codesThatCanBeRead", "(LReelrescue$Version;)I"⟩
abbrev cX11_takeCode : ByteArray := prog_1_method_43_code
def yX11_takeCode : MethodName := ⟨RX11, "takeCode", "(I)V"⟩
def RX12 : String := "ReelrescueModel"
def TX12 : u_T := fun k => match k with
  | 0 => ("ReelrescueModel", "rb", "[I", true)
  | 1 => ("ReelrescueModel", "ry", "[I", true)
  | 2 => ("ReelrescueModel", "rl", "[I", true)
  | 3 => ("ReelrescueModel", "rg", "[I", true)
  | 4 => ("ReelrescueModel", "rd", "[I", true)
  | 5 => ("ReelrescueModel", "rc", "[I", true)
  | 6 => ("ReelrescueModel", "rn", "[I", true)
  | 7 => ("ReelrescueModel", "fc", "[I", true)
  | 8 => ("ReelrescueModel", "fp", "[J", true)
  | 9 => ("ReelrescueModel", "fs", "[I", true)
  | 10 => ("ReelrescueModel", "reels", "I", false)
  | 11 => ("ReelrescueModel", "tolerance", "I", false)
  | 12 => ("ReelrescueModel", "year", "I", false)
  | 13 => ("ReelrescueModel", "best", "[I", true)
  | 14 => ("ReelrescueModel", "vl", "[I", true)
  | 15 => ("ReelrescueModel", "vy", "[I", true)
  | 16 => ("ReelrescueModel", "vp", "[I", true)
  | 17 => ("ReelrescueModel", "vn", "[I", true)
  | 18 => ("ReelrescueModel", "sf", "[I", true)
  | 19 => ("ReelrescueModel", "st", "[I", true)
  | 20 => ("ReelrescueModel", "ss", "[I", true)
  | 21 => ("ReelrescueModel", "va", "[I", true)
  | 22 => ("ReelrescueModel", "versions", "I", false)
  | 23 => ("ReelrescueModel", "zc", "[I", true)
  | 24 => ("ReelrescueModel", "zt", "[I", true)
  | 25 => ("ReelrescueModel", "scraps", "I", false)
  | 26 => ("ReelrescueModel", "hv", "[I", true)
  | 27 => ("ReelrescueModel", "hh", "[I", true)
  | 28 => ("ReelrescueModel", "hl", "[I", true)
  | 29 => ("ReelrescueModel", "hf", "[I", true)
  | 30 => ("ReelrescueModel", "ht", "[I", true)
  | 31 => ("ReelrescueModel", "rights", "I", false)
  | 32 => ("ReelrescueModel", "ec", "[I", true)
  | 33 => ("ReelrescueModel", "er", "[I", true)
  | 34 => ("ReelrescueModel", "ep", "[I", true)
  | 35 => ("ReelrescueModel", "et", "[J", true)
  | 36 => ("ReelrescueModel", "en", "[J", true)
  | 37 => ("ReelrescueModel", "eg", "[I", true)
  | 38 => ("ReelrescueModel", "eb", "[J", true)
  | 39 => ("ReelrescueModel", "frames", "I", false)
  | 40 => ("ReelrescueModel", "limit", "I", false)
  | 41 => ("ReelrescueModel", "cf", "[I", true)
  | 42 => ("ReelrescueModel", "cb", "[J", true)
  | 43 => ("ReelrescueModel", "cu", "[I", true)
  | 44 => ("ReelrescueModel", "changes", "I", false)
  | 45 => ("ReelrescueModel", "counts", "[I", true)
  | 46 => ("ReelrescueModel", "thrown", "I", false)
  | 47 => ("ReelrescueModel", "mine", "[Z", true)
  | _ => ("ReelrescueModel", "theirs", "[Z", true)
def tyX12 : Nat → FieldType := fun k => match k with
  | 0 => .array .int
  | 1 => .array .int
  | 2 => .array .int
  | 3 => .array .int
  | 4 => .array .int
  | 5 => .array .int
  | 6 => .array .int
  | 7 => .array .int
  | 8 => .array .long
  | 9 => .array .int
  | 10 => .int
  | 11 => .int
  | 12 => .int
  | 13 => .array .int
  | 14 => .array .int
  | 15 => .array .int
  | 16 => .array .int
  | 17 => .array .int
  | 18 => .array .int
  | 19 => .array .int
  | 20 => .array .int
  | 21 => .array .int
  | 22 => .int
  | 23 => .array .int
  | 24 => .array .int
  | 25 => .int
  | 26 => .array .int
  | 27 => .array .int
  | 28 => .array .int
  | 29 => .array .int
  | 30 => .array .int
  | 31 => .int
  | 32 => .array .int
  | 33 => .array .int
  | 34 => .array .int
  | 35 => .array .long
  | 36 => .array .long
  | 37 => .array .int
  | 38 => .array .long
  | 39 => .int
  | 40 => .int
  | 41 => .array .int
  | 42 => .array .long
  | 43 => .array .int
  | 44 => .int
  | 45 => .array .int
  | 46 => .int
  | 47 => .array .boolean
  | _ => .array .boolean
abbrev wsX120 : List Cond := u_ws RX12 TX12 49
theorem nmX12 : ∀ a, a < 49 → ∀ b, b < 49 → a ≠ b → (TX12 a).2.1 ≠ (TX12 b).2.1 := by decide +kernel
theorem tyX12_ok : ∀ k, k < 49 → parseFieldDescriptor (TX12 k).2.2.1 = some (tyX12 k) := by decide +kernel
abbrev cX12_init : ByteArray := prog_14_method_1_code
def yX12_init : MethodName := ⟨RX12, "<init>", "()V"⟩
abbrev cX12_thrown : ByteArray := prog_14_method_2_code
def yX12_thrown : MethodName := ⟨RX12, "thrown", "()I"⟩
abbrev cX12_holds : ByteArray := prog_14_method_3_code
def yX12_holds : MethodName := ⟨RX12, "holds", "(I)Z"⟩
abbrev cX12_in : ByteArray := prog_14_method_4_code
def yX12_in : MethodName := ⟨RX12, "in", "(III)Z"⟩
abbrev cX12_isReel : ByteArray := prog_14_method_5_code
def yX12_isReel : MethodName := ⟨RX12, "isReel", "(I)Z"⟩
abbrev cX12_point : ByteArray := prog_14_method_6_code
def yX12_point : MethodName := ⟨RX12, "point", "(JI)I"⟩
abbrev cX12_apart : ByteArray := prog_14_method_7_code
def yX12_apart : MethodName := ⟨RX12, "apart", "(JJ)I"⟩
abbrev cX12_adds : ByteArray := prog_14_method_8_code
def yX12_adds : MethodName := ⟨RX12, "adds", "(IIIII)I"⟩
abbrev cX12_reel : ByteArray := prog_14_method_9_code
def yX12_reel : MethodName := ⟨RX12, "reel", "(IIIII)I"⟩
abbrev cX12_frame : ByteArray := prog_14_method_10_code
def yX12_frame : MethodName := ⟨RX12, "frame", "(IIII)I"⟩
abbrev cX12_isFrame : ByteArray := prog_14_method_11_code
def yX12_isFrame : MethodName := ⟨RX12, "isFrame", "(II)Z"⟩
abbrev cX12_splice : ByteArray := prog_14_method_12_code
def yX12_splice : MethodName := ⟨RX12, "splice", "(II)I"⟩
abbrev cX12_rate : ByteArray := prog_14_method_13_code
def yX12_rate : MethodName := ⟨RX12, "rate", "(I)I"⟩
abbrev cX12_isGood : ByteArray := prog_14_method_14_code
def yX12_isGood : MethodName := ⟨RX12, "isGood", "(I)Z"⟩
abbrev cX12_cold : ByteArray := prog_14_method_15_code
def yX12_cold : MethodName := ⟨RX12, "cold", "(IZ)I"⟩
abbrev cX12_copy : ByteArray := prog_14_method_16_code
def yX12_copy : MethodName := ⟨RX12, "copy", "(I)I"⟩
abbrev cX12_firstOf : ByteArray := prog_14_method_17_code
def yX12_firstOf : MethodName := ⟨RX12, "firstOf", "(II)I"⟩
abbrev cX12_marks : ByteArray := prog_14_method_18_code
def yX12_marks : MethodName := ⟨RX12, "marks", "(I[Z)V"⟩
abbrev cX12_faulty : ByteArray := prog_14_method_19_code
def yX12_faulty : MethodName := ⟨RX12, "faulty", "(I[Z)V"⟩
abbrev cX12_count : ByteArray := prog_14_method_20_code
def yX12_count : MethodName := ⟨RX12, "count", "([Z)I"⟩
abbrev cX12_missing : ByteArray := prog_14_method_21_code
def yX12_missing : MethodName := ⟨RX12, "missing", "(I)I"⟩
abbrev cX12_faults : ByteArray := prog_14_method_22_code
def yX12_faults : MethodName := ⟨RX12, "faults", "(I)I"⟩
abbrev cX12_jumps : ByteArray := prog_14_method_23_code
def yX12_jumps : MethodName := ⟨RX12, "jumps", "(I)I"⟩
abbrev cX12_isWithin : ByteArray := prog_14_method_24_code
def yX12_isWithin : MethodName := ⟨RX12, "isWithin", "()Z"⟩
abbrev cX12_parentOf : ByteArray := prog_14_method_25_code
def yX12_parentOf : MethodName := ⟨RX12, "parentOf", "(I)I"⟩
abbrev cX12_ofReel : ByteArray := prog_14_method_26_code
def yX12_ofReel : MethodName := ⟨RX12, "ofReel", "(II)I"⟩
abbrev cX12_tolerance : ByteArray := prog_14_method_27_code
def yX12_tolerance : MethodName := ⟨RX12, "tolerance", "(I)I"⟩
abbrev cX12_isPair : ByteArray := prog_14_method_28_code
def yX12_isPair : MethodName := ⟨RX12, "isPair", "(IIII)Z"⟩
abbrev cX12_pairs : ByteArray := prog_14_method_29_code
def yX12_pairs : MethodName := ⟨RX12, "pairs", "(II)I"⟩
abbrev cX12_align : ByteArray := prog_14_method_30_code
def yX12_align : MethodName := ⟨RX12, "align", "(II)I"⟩
abbrev cX12_pairOf : ByteArray := prog_14_method_31_code
def yX12_pairOf : MethodName := ⟨RX12, "pairOf", "(III)I"⟩
abbrev cX12_alike : ByteArray := prog_14_method_32_code
def yX12_alike : MethodName := ⟨RX12, "alike", "(IIII)F"⟩
abbrev cX12_isVersion : ByteArray := prog_14_method_33_code
def yX12_isVersion : MethodName := ⟨RX12, "isVersion", "(I)Z"⟩
abbrev cX12_version : ByteArray := prog_14_method_34_code
def yX12_version : MethodName := ⟨RX12, "version", "(II)I"⟩
abbrev cX12_codes : ByteArray := prog_14_method_35_code
def yX12_codes : MethodName := ⟨RX12, "codes", "(I)I"⟩
abbrev cX12_shot : ByteArray := prog_14_method_36_code
def yX12_shot : MethodName := ⟨RX12, "shot", "(III)I"⟩
abbrev cX12_proof : ByteArray := prog_14_method_37_code
def yX12_proof : MethodName := ⟨RX12, "proof", "(I)I"⟩
abbrev cX12_isShot : ByteArray := prog_14_method_38_code
def yX12_isShot : MethodName := ⟨RX12, "isShot", "(II)Z"⟩
abbrev cX12_speed : ByteArray := prog_14_method_39_code
def yX12_speed : MethodName := ⟨RX12, "speed", "(III)I"⟩
abbrev cX12_reelFor : ByteArray := prog_14_method_40_code
def yX12_reelFor : MethodName := ⟨RX12, "reelFor", "(I)I"⟩
abbrev cX12_had : ByteArray := prog_14_method_41_code
def yX12_had : MethodName := ⟨RX12, "had", "(I)I"⟩
abbrev cX12_lasts : ByteArray := prog_14_method_42_code
def yX12_lasts : MethodName := ⟨RX12, "lasts", "(I)I"⟩
abbrev cX12_ofVersion : ByteArray := prog_14_method_43_code
def yX12_ofVersion : MethodName := ⟨RX12, "ofVersion", "(II)I"⟩
abbrev cX12_scrap : ByteArray := prog_14_method_44_code
def yX12_scrap : MethodName := ⟨RX12, "scrap", "(II)I"⟩
abbrev cX12_tint : ByteArray := prog_14_method_45_code
def yX12_tint : MethodName := ⟨RX12, "tint", "(II)I"⟩
abbrev cX12_right : ByteArray := prog_14_method_46_code
def yX12_right : MethodName := ⟨RX12, "right", "(IIIII)I"⟩
abbrev cX12_allow : ByteArray := prog_14_method_47_code
def yX12_allow : MethodName := ⟨RX12, "allow", "(IIZ)Z"⟩
abbrev cX12_mayShow : ByteArray := prog_14_method_48_code
def yX12_mayShow : MethodName := ⟨RX12, "mayShow", "(III)Z"⟩
abbrev cX12_edition : ByteArray := prog_14_method_49_code
def yX12_edition : MethodName := ⟨RX12, "edition", "(I)I"⟩
abbrev cX12_isPlace : ByteArray := prog_14_method_50_code
def yX12_isPlace : MethodName := ⟨RX12, "isPlace", "(I)Z"⟩
abbrev cX12_protect : ByteArray := prog_14_method_51_code
def yX12_protect : MethodName := ⟨RX12, "protect", "(IZ)Z"⟩
abbrev cX12_limit : ByteArray := prog_14_method_52_code
def yX12_limit : MethodName := ⟨RX12, "limit", "(I)I"⟩
abbrev cX12_isFree : ByteArray := prog_14_method_53_code
def yX12_isFree : MethodName := ⟨RX12, "isFree", "(I)Z"⟩
abbrev cX12_hasBoth : ByteArray := prog_14_method_54_code
def yX12_hasBoth : MethodName := ⟨RX12, "hasBoth", "(I)Z"⟩
abbrev cX12_unlike : ByteArray := prog_14_method_55_code
def yX12_unlike : MethodName := ⟨RX12, "unlike", "(JJ)I"⟩
abbrev cX12_changes : ByteArray := prog_14_method_56_code
def yX12_changes : MethodName := ⟨RX12, "changes", "(IJ)I"⟩
abbrev cX12_keep : ByteArray := prog_14_method_57_code
def yX12_keep : MethodName := ⟨RX12, "keep", "()V"⟩
abbrev cX12_between : ByteArray := prog_14_method_58_code
def yX12_between : MethodName := ⟨RX12, "between", "(II)I"⟩
abbrev cX12_set : ByteArray := prog_14_method_59_code
def yX12_set : MethodName := ⟨RX12, "set", "(JII)J"⟩
abbrev cX12_cleaned : ByteArray := prog_14_method_60_code
def yX12_cleaned : MethodName := ⟨RX12, "cleaned", "(II)J"⟩
abbrev cX12_dirt : ByteArray := prog_14_method_61_code
def yX12_dirt : MethodName := ⟨RX12, "dirt", "(I)I"⟩
abbrev cX12_scratch : ByteArray := prog_14_method_62_code
def yX12_scratch : MethodName := ⟨RX12, "scratch", "(IIII)I"⟩
abbrev cX12_sumOf : ByteArray := prog_14_method_63_code
def yX12_sumOf : MethodName := ⟨RX12, "sumOf", "(J)I"⟩
abbrev cX12_levelled : ByteArray := prog_14_method_64_code
def yX12_levelled : MethodName := ⟨RX12, "levelled", "(I)J"⟩
abbrev cX12_flicker : ByteArray := prog_14_method_65_code
def yX12_flicker : MethodName := ⟨RX12, "flicker", "()I"⟩
abbrev cX12_isLast : ByteArray := prog_14_method_66_code
def yX12_isLast : MethodName := ⟨RX12, "isLast", "(I)Z"⟩
abbrev cX12_takeBack : ByteArray := prog_14_method_67_code
def yX12_takeBack : MethodName := ⟨RX12, "takeBack", "(I)I"⟩
abbrev cX12_changesOf : ByteArray := prog_14_method_68_code
def yX12_changesOf : MethodName := ⟨RX12, "changesOf", "(I)I"⟩
abbrev cX12_ofFrame : ByteArray := prog_14_method_69_code
def yX12_ofFrame : MethodName := ⟨RX12, "ofFrame", "(II)I"⟩
abbrev cX12_seen : ByteArray := prog_14_method_70_code
def yX12_seen : MethodName := ⟨RX12, "seen", "(I)J"⟩
abbrev cX12_sum : ByteArray := prog_14_method_71_code
def yX12_sum : MethodName := ⟨RX12, "sum", "(Z)J"⟩
abbrev cX12_pass : ByteArray := prog_14_method_72_code
def yX12_pass : MethodName := ⟨RX12, "pass", "(I)I"⟩
def RJx145de : String := "java/io/Serializable"
def TJx145de : u_T := fun k => match k with
  | _ => ("", "", "", false)
def tyJx145de : Nat → FieldType := fun k => match k with
  | _ => .int
abbrev wsJx145de0 : List Cond := u_ws RJx145de TJx145de 0
theorem nmJx145de : ∀ a, a < 0 → ∀ b, b < 0 → a ≠ b → (TJx145de a).2.1 ≠ (TJx145de b).2.1 := by decide +kernel
theorem tyJx145de_ok : ∀ k, k < 0 → parseFieldDescriptor (TJx145de k).2.2.1 = some (tyJx145de k) := by decide +kernel
def RJx8e188 : String := "java/lang/Cloneable"
def TJx8e188 : u_T := fun k => match k with
  | _ => ("", "", "", false)
def tyJx8e188 : Nat → FieldType := fun k => match k with
  | _ => .int
abbrev wsJx8e1880 : List Cond := u_ws RJx8e188 TJx8e188 0
theorem nmJx8e188 : ∀ a, a < 0 → ∀ b, b < 0 → a ≠ b → (TJx8e188 a).2.1 ≠ (TJx8e188 b).2.1 := by decide +kernel
theorem tyJx8e188_ok : ∀ k, k < 0 → parseFieldDescriptor (TJx8e188 k).2.2.1 = some (tyJx8e188 k) := by decide +kernel
def RJ9 : String := "java/lang/Math"
def TJ9 : u_T := fun k => match k with
  | _ => ("", "", "", false)
def tyJ9 : Nat → FieldType := fun k => match k with
  | _ => .int
abbrev wsJ90 : List Cond := u_ws RJ9 TJ9 0
theorem nmJ9 : ∀ a, a < 0 → ∀ b, b < 0 → a ≠ b → (TJ9 a).2.1 ≠ (TJ9 b).2.1 := by decide +kernel
theorem tyJ9_ok : ∀ k, k < 0 → parseFieldDescriptor (TJ9 k).2.2.1 = some (tyJ9 k) := by decide +kernel
abbrev cJ9_abs_0f7a4 : ByteArray := prog_20_method_59_code
def yJ9_abs_0f7a4 : MethodName := ⟨RJ9, "abs", "(I)I"⟩
abbrev cJ9_max_7cf53 : ByteArray := prog_20_method_65_code
def yJ9_max_7cf53 : MethodName := ⟨RJ9, "max", "(II)I"⟩
abbrev cJ9_min_7cf53 : ByteArray := prog_20_method_69_code
def yJ9_min_7cf53 : MethodName := ⟨RJ9, "min", "(II)I"⟩
def RJ0 : String := "java/lang/String"
def TJ0 : u_T := fun k => match k with
  | _ => ("", "", "", false)
def tyJ0 : Nat → FieldType := fun k => match k with
  | _ => .int
abbrev wsJ00 : List Cond := u_ws RJ0 TJ0 0
theorem nmJ0 : ∀ a, a < 0 → ∀ b, b < 0 → a ≠ b → (TJ0 a).2.1 ≠ (TJ0 b).2.1 := by decide +kernel
theorem tyJ0_ok : ∀ k, k < 0 → parseFieldDescriptor (TJ0 k).2.2.1 = some (tyJ0 k) := by decide +kernel
def RJ10 : String := "java/lang/System"
def TJ10 : u_T := fun k => match k with
  | _ => ("", "", "", false)
def tyJ10 : Nat → FieldType := fun k => match k with
  | _ => .int
abbrev wsJ100 : List Cond := u_ws RJ10 TJ10 0
theorem nmJ10 : ∀ a, a < 0 → ∀ b, b < 0 → a ≠ b → (TJ10 a).2.1 ≠ (TJ10 b).2.1 := by decide +kernel
theorem tyJ10_ok : ∀ k, k < 0 → parseFieldDescriptor (TJ10 k).2.2.1 = some (tyJ10 k) := by decide +kernel
def RJ7 : String := "java/util/Arrays"
def TJ7 : u_T := fun k => match k with
  | _ => ("", "", "", false)
def tyJ7 : Nat → FieldType := fun k => match k with
  | _ => .int
abbrev wsJ70 : List Cond := u_ws RJ7 TJ7 0
theorem nmJ7 : ∀ a, a < 0 → ∀ b, b < 0 → a ≠ b → (TJ7 a).2.1 ≠ (TJ7 b).2.1 := by decide +kernel
theorem tyJ7_ok : ∀ k, k < 0 → parseFieldDescriptor (TJ7 k).2.2.1 = some (tyJ7 k) := by decide +kernel
abbrev cJ7_fill_53178 : ByteArray := prog_25_method_103_code
def yJ7_fill_53178 : MethodName := ⟨RJ7, "fill", "([II)V"⟩
abbrev cJ7_copyOf_59c91 : ByteArray := prog_25_method_123_code
def yJ7_copyOf_59c91 : MethodName := ⟨RJ7, "copyOf", "([II)[I"⟩
abbrev cJ7_copyOf_c38d5 : ByteArray := prog_25_method_124_code
def yJ7_copyOf_c38d5 : MethodName := ⟨RJ7, "copyOf", "([JI)[J"⟩
def RL : String := "ReelrescueLaw"
abbrev cL_reel : ByteArray := method_3_code
def yL_reel : MethodName := ⟨RL, "reel", "(LReelrescue;IIIII[J)I"⟩
abbrev cL_frame : ByteArray := method_4_code
def yL_frame : MethodName := ⟨RL, "frame", "(LReelrescue;IIII[J)I"⟩
abbrev cL_splice : ByteArray := method_5_code
def yL_splice : MethodName := ⟨RL, "splice", "(LReelrescue;II[J)I"⟩
abbrev cL_cold : ByteArray := method_6_code
def yL_cold : MethodName := ⟨RL, "cold", "(LReelrescue;IZ[J)I"⟩
abbrev cL_copy : ByteArray := method_7_code
def yL_copy : MethodName := ⟨RL, "copy", "(LReelrescue;I[J)I"⟩
abbrev cL_ofReel : ByteArray := method_8_code
def yL_ofReel : MethodName := ⟨RL, "ofReel", "(LReelrescue;II[J)I"⟩
abbrev cL_tolerance : ByteArray := method_9_code
def yL_tolerance : MethodName := ⟨RL, "tolerance", "(LReelrescue;I[J)I"⟩
abbrev cL_align : ByteArray := method_10_code
def yL_align : MethodName := ⟨RL, "align", "(LReelrescue;II[J)I"⟩
abbrev cL_pairOf : ByteArray := method_11_code
def yL_pairOf : MethodName := ⟨RL, "pairOf", "(LReelrescue;III[J)I"⟩
abbrev cL_alike : ByteArray := method_12_code
def yL_alike : MethodName := ⟨RL, "alike", "(LReelrescue;IIII[D)I"⟩
abbrev cL_version : ByteArray := method_13_code
def yL_version : MethodName := ⟨RL, "version", "(LReelrescue;II[J)I"⟩
abbrev cL_shot : ByteArray := method_14_code
def yL_shot : MethodName := ⟨RL, "shot", "(LReelrescue;III[J)I"⟩
abbrev cL_proof : ByteArray := method_15_code
def yL_proof : MethodName := ⟨RL, "proof", "(LReelrescue;I[J)I"⟩
abbrev cL_speed : ByteArray := method_16_code
def yL_speed : MethodName := ⟨RL, "speed", "(LReelrescue;III[J)I"⟩
abbrev cL_ofVersion : ByteArray := method_17_code
def yL_ofVersion : MethodName := ⟨RL, "ofVersion", "(LReelrescue;II[J)I"⟩
abbrev cL_scrap : ByteArray := method_18_code
def yL_scrap : MethodName := ⟨RL, "scrap", "(LReelrescue;II[J)I"⟩
abbrev cL_tint : ByteArray := method_19_code
def yL_tint : MethodName := ⟨RL, "tint", "(LReelrescue;II[J)I"⟩
abbrev cL_right : ByteArray := method_20_code
def yL_right : MethodName := ⟨RL, "right", "(LReelrescue;IIIII[J)I"⟩
abbrev cL_allow : ByteArray := method_21_code
def yL_allow : MethodName := ⟨RL, "allow", "(LReelrescue;IIZ[J)I"⟩
abbrev cL_mayShow : ByteArray := method_22_code
def yL_mayShow : MethodName := ⟨RL, "mayShow", "(LReelrescue;III[J)I"⟩
abbrev cL_edition : ByteArray := method_23_code
def yL_edition : MethodName := ⟨RL, "edition", "(LReelrescue;I[J)I"⟩
abbrev cL_protect : ByteArray := method_24_code
def yL_protect : MethodName := ⟨RL, "protect", "(LReelrescue;IZ[J)I"⟩
abbrev cL_limit : ByteArray := method_25_code
def yL_limit : MethodName := ⟨RL, "limit", "(LReelrescue;I[J)I"⟩
abbrev cL_dirt : ByteArray := method_26_code
def yL_dirt : MethodName := ⟨RL, "dirt", "(LReelrescue;I[J)I"⟩
abbrev cL_scratch : ByteArray := method_27_code
def yL_scratch : MethodName := ⟨RL, "scratch", "(LReelrescue;IIII[J)I"⟩
abbrev cL_takeBack : ByteArray := method_28_code
def yL_takeBack : MethodName := ⟨RL, "takeBack", "(LReelrescue;I[J)I"⟩
abbrev cL_ofFrame : ByteArray := method_29_code
def yL_ofFrame : MethodName := ⟨RL, "ofFrame", "(LReelrescue;II[J)I"⟩
abbrev cL_seen : ByteArray := method_30_code
def yL_seen : MethodName := ⟨RL, "seen", "(LReelrescue;I[J)I"⟩
abbrev cL_pass : ByteArray := method_31_code
def yL_pass : MethodName := ⟨RL, "pass", "(LReelrescue;I[J)I"⟩
abbrev cL_law : ByteArray := code
def yL_law : MethodName := ⟨RL, "law", "([I)Z"⟩
end
section
theorem dX0_init_0 : decode cX0_init 0 = .ok (.aload_n 0, 1) := by decide +kernel
theorem dX0_init_1 : decode cX0_init 1 = .ok (.invokespecial 3, 3) := by decide +kernel
theorem dX0_init_4 : decode cX0_init 4 = .ok (.aload_n 0, 1) := by decide +kernel
theorem dX0_init_5 : decode cX0_init 5 = .ok (.bipush 120, 2) := by decide +kernel
theorem dX0_init_7 : decode cX0_init 7 = .ok (.newarray .int, 2) := by decide +kernel
theorem dX0_init_9 : decode cX0_init 9 = .ok (.putfield 9, 3) := by decide +kernel
theorem dX0_init_12 : decode cX0_init 12 = .ok (.aload_n 0, 1) := by decide +kernel
theorem dX0_init_13 : decode cX0_init 13 = .ok (.bipush 120, 2) := by decide +kernel
theorem dX0_init_15 : decode cX0_init 15 = .ok (.newarray .long, 2) := by decide +kernel
theorem dX0_init_17 : decode cX0_init 17 = .ok (.putfield 15, 3) := by decide +kernel
theorem dX0_init_20 : decode cX0_init 20 = .ok (.aload_n 0, 1) := by decide +kernel
theorem dX0_init_21 : decode cX0_init 21 = .ok (.bipush 120, 2) := by decide +kernel
theorem dX0_init_23 : decode cX0_init 23 = .ok (.newarray .int, 2) := by decide +kernel
theorem dX0_init_25 : decode cX0_init 25 = .ok (.putfield 19, 3) := by decide +kernel
theorem dX0_init_28 : decode cX0_init 28 = .ok (.return_, 1) := by decide +kernel
theorem dX0_isFull_0 : decode cX0_isFull 0 = .ok (.aload_n 0, 1) := by decide +kernel
theorem dX0_isFull_1 : decode cX0_isFull 1 = .ok (.getfield 22, 3) := by decide +kernel
theorem dX0_isFull_4 : decode cX0_isFull 4 = .ok (.ldc 26, 2) := by decide +kernel
theorem dX0_isFull_6 : decode cX0_isFull 6 = .ok (.if_icmp .lt 7, 3) := by decide +kernel
theorem dX0_isFull_9 : decode cX0_isFull 9 = .ok (.iconst 1, 1) := by decide +kernel
theorem dX0_isFull_10 : decode cX0_isFull 10 = .ok (.goto 4, 3) := by decide +kernel
theorem dX0_isFull_13 : decode cX0_isFull 13 = .ok (.iconst 0, 1) := by decide +kernel
theorem dX0_isFull_14 : decode cX0_isFull 14 = .ok (.ireturn, 1) := by decide +kernel
theorem dX0_add_0 : decode cX0_add 0 = .ok (.aload_n 0, 1) := by decide +kernel
theorem dX0_add_1 : decode cX0_add 1 = .ok (.getfield 22, 3) := by decide +kernel
theorem dX0_add_4 : decode cX0_add 4 = .ok (.aload_n 0, 1) := by decide +kernel
theorem dX0_add_5 : decode cX0_add 5 = .ok (.getfield 9, 3) := by decide +kernel
theorem dX0_add_8 : decode cX0_add 8 = .ok (.arraylength, 1) := by decide +kernel
theorem dX0_add_9 : decode cX0_add 9 = .ok (.if_icmp .lt 55, 3) := by decide +kernel
theorem dX0_add_12 : decode cX0_add 12 = .ok (.iconst 2, 1) := by decide +kernel
theorem dX0_add_13 : decode cX0_add 13 = .ok (.aload_n 0, 1) := by decide +kernel
theorem dX0_add_14 : decode cX0_add 14 = .ok (.getfield 22, 3) := by decide +kernel
theorem dX0_add_17 : decode cX0_add 17 = .ok (.imul, 1) := by decide +kernel
theorem dX0_add_18 : decode cX0_add 18 = .ok (.ldc 26, 2) := by decide +kernel
theorem dX0_add_20 : decode cX0_add 20 = .ok (.invokestatic 27, 3) := by decide +kernel
theorem dX0_add_23 : decode cX0_add 23 = .ok (.istore 5, 2) := by decide +kernel
theorem dX0_add_25 : decode cX0_add 25 = .ok (.aload_n 0, 1) := by decide +kernel
theorem dX0_add_26 : decode cX0_add 26 = .ok (.aload_n 0, 1) := by decide +kernel
theorem dX0_add_27 : decode cX0_add 27 = .ok (.getfield 9, 3) := by decide +kernel
theorem dX0_add_30 : decode cX0_add 30 = .ok (.iload 5, 2) := by decide +kernel
theorem dX0_add_32 : decode cX0_add 32 = .ok (.invokestatic 33, 3) := by decide +kernel
theorem dX0_add_35 : decode cX0_add 35 = .ok (.putfield 9, 3) := by decide +kernel
theorem dX0_add_38 : decode cX0_add 38 = .ok (.aload_n 0, 1) := by decide +kernel
theorem dX0_add_39 : decode cX0_add 39 = .ok (.aload_n 0, 1) := by decide +kernel
theorem dX0_add_40 : decode cX0_add 40 = .ok (.getfield 15, 3) := by decide +kernel
theorem dX0_add_43 : decode cX0_add 43 = .ok (.iload 5, 2) := by decide +kernel
theorem dX0_add_45 : decode cX0_add 45 = .ok (.invokestatic 39, 3) := by decide +kernel
theorem dX0_add_48 : decode cX0_add 48 = .ok (.putfield 15, 3) := by decide +kernel
theorem dX0_add_51 : decode cX0_add 51 = .ok (.aload_n 0, 1) := by decide +kernel
theorem dX0_add_52 : decode cX0_add 52 = .ok (.aload_n 0, 1) := by decide +kernel
theorem dX0_add_53 : decode cX0_add 53 = .ok (.getfield 19, 3) := by decide +kernel
theorem dX0_add_56 : decode cX0_add 56 = .ok (.iload 5, 2) := by decide +kernel
theorem dX0_add_58 : decode cX0_add 58 = .ok (.invokestatic 33, 3) := by decide +kernel
theorem dX0_add_61 : decode cX0_add 61 = .ok (.putfield 19, 3) := by decide +kernel
theorem dX0_add_64 : decode cX0_add 64 = .ok (.aload_n 0, 1) := by decide +kernel
theorem dX0_add_65 : decode cX0_add 65 = .ok (.getfield 9, 3) := by decide +kernel
theorem dX0_add_68 : decode cX0_add 68 = .ok (.aload_n 0, 1) := by decide +kernel
theorem dX0_add_69 : decode cX0_add 69 = .ok (.getfield 22, 3) := by decide +kernel
theorem dX0_add_72 : decode cX0_add 72 = .ok (.iload_n 1, 1) := by decide +kernel
theorem dX0_add_73 : decode cX0_add 73 = .ok (.iastore, 1) := by decide +kernel
theorem dX0_add_74 : decode cX0_add 74 = .ok (.aload_n 0, 1) := by decide +kernel
theorem dX0_add_75 : decode cX0_add 75 = .ok (.getfield 15, 3) := by decide +kernel
theorem dX0_add_78 : decode cX0_add 78 = .ok (.aload_n 0, 1) := by decide +kernel
theorem dX0_add_79 : decode cX0_add 79 = .ok (.getfield 22, 3) := by decide +kernel
theorem dX0_add_82 : decode cX0_add 82 = .ok (.lload_n 2, 1) := by decide +kernel
theorem dX0_add_83 : decode cX0_add 83 = .ok (.lastore, 1) := by decide +kernel
theorem dX0_add_84 : decode cX0_add 84 = .ok (.aload_n 0, 1) := by decide +kernel
theorem dX0_add_85 : decode cX0_add 85 = .ok (.getfield 19, 3) := by decide +kernel
theorem dX0_add_88 : decode cX0_add 88 = .ok (.aload_n 0, 1) := by decide +kernel
theorem dX0_add_89 : decode cX0_add 89 = .ok (.getfield 22, 3) := by decide +kernel
theorem dX0_add_92 : decode cX0_add 92 = .ok (.iload 4, 2) := by decide +kernel
theorem dX0_add_94 : decode cX0_add 94 = .ok (.iastore, 1) := by decide +kernel
theorem dX0_add_95 : decode cX0_add 95 = .ok (.aload_n 0, 1) := by decide +kernel
theorem dX0_add_96 : decode cX0_add 96 = .ok (.dup, 1) := by decide +kernel
theorem dX0_add_97 : decode cX0_add 97 = .ok (.getfield 22, 3) := by decide +kernel
theorem dX0_add_100 : decode cX0_add 100 = .ok (.iconst 1, 1) := by decide +kernel
theorem dX0_add_101 : decode cX0_add 101 = .ok (.iadd, 1) := by decide +kernel
theorem dX0_add_102 : decode cX0_add 102 = .ok (.putfield 22, 3) := by decide +kernel
theorem dX0_add_105 : decode cX0_add 105 = .ok (.aload_n 0, 1) := by decide +kernel
theorem dX0_add_106 : decode cX0_add 106 = .ok (.getfield 22, 3) := by decide +kernel
theorem dX0_add_109 : decode cX0_add 109 = .ok (.iconst 1, 1) := by decide +kernel
theorem dX0_add_110 : decode cX0_add 110 = .ok (.isub, 1) := by decide +kernel
theorem dX0_add_111 : decode cX0_add 111 = .ok (.ireturn, 1) := by decide +kernel
theorem dX1_init_0 : decode cX1_init 0 = .ok (.aload_n 0, 1) := by decide +kernel
theorem dX1_init_1 : decode cX1_init 1 = .ok (.invokespecial 3, 3) := by decide +kernel
theorem dX1_init_4 : decode cX1_init 4 = .ok (.aload_n 0, 1) := by decide +kernel
theorem dX1_init_5 : decode cX1_init 5 = .ok (.iload_n 1, 1) := by decide +kernel
theorem dX1_init_6 : decode cX1_init 6 = .ok (.putfield 9, 3) := by decide +kernel
theorem dX1_init_9 : decode cX1_init 9 = .ok (.return_, 1) := by decide +kernel
theorem dX1_mended_0 : decode cX1_mended 0 = .ok (.lload_n 3, 1) := by decide +kernel
theorem dX1_mended_1 : decode cX1_mended 1 = .ok (.lstore 7, 2) := by decide +kernel
theorem dX1_mended_3 : decode cX1_mended 3 = .ok (.iconst 0, 1) := by decide +kernel
theorem dX1_mended_4 : decode cX1_mended 4 = .ok (.istore 9, 2) := by decide +kernel
theorem dX1_mended_6 : decode cX1_mended 6 = .ok (.iload 9, 2) := by decide +kernel
theorem dX1_mended_8 : decode cX1_mended 8 = .ok (.bipush 8, 2) := by decide +kernel
theorem dX1_mended_10 : decode cX1_mended 10 = .ok (.if_icmp .ge 59, 3) := by decide +kernel
theorem dX1_mended_13 : decode cX1_mended 13 = .ok (.lload_n 1, 1) := by decide +kernel
theorem dX1_mended_14 : decode cX1_mended 14 = .ok (.iload 9, 2) := by decide +kernel
theorem dX1_mended_16 : decode cX1_mended 16 = .ok (.invokestatic 15, 3) := by decide +kernel
theorem dX1_mended_19 : decode cX1_mended 19 = .ok (.istore 10, 2) := by decide +kernel
theorem dX1_mended_21 : decode cX1_mended 21 = .ok (.lload 5, 2) := by decide +kernel
theorem dX1_mended_23 : decode cX1_mended 23 = .ok (.iload 9, 2) := by decide +kernel
theorem dX1_mended_25 : decode cX1_mended 25 = .ok (.invokestatic 15, 3) := by decide +kernel
theorem dX1_mended_28 : decode cX1_mended 28 = .ok (.istore 11, 2) := by decide +kernel
theorem dX1_mended_30 : decode cX1_mended 30 = .ok (.aload_n 0, 1) := by decide +kernel
theorem dX1_mended_31 : decode cX1_mended 31 = .ok (.iload 10, 2) := by decide +kernel
theorem dX1_mended_33 : decode cX1_mended 33 = .ok (.lload_n 3, 1) := by decide +kernel
theorem dX1_mended_34 : decode cX1_mended 34 = .ok (.iload 9, 2) := by decide +kernel
theorem dX1_mended_36 : decode cX1_mended 36 = .ok (.invokestatic 15, 3) := by decide +kernel
theorem dX1_mended_39 : decode cX1_mended 39 = .ok (.iload 11, 2) := by decide +kernel
theorem dX1_mended_41 : decode cX1_mended 41 = .ok (.invokevirtual 21, 3) := by decide +kernel
theorem dX1_mended_44 : decode cX1_mended 44 = .ok (.ifCond .eq 19, 3) := by decide +kernel
theorem dX1_mended_47 : decode cX1_mended 47 = .ok (.lload 7, 2) := by decide +kernel
theorem dX1_mended_49 : decode cX1_mended 49 = .ok (.iload 9, 2) := by decide +kernel
theorem dX1_mended_51 : decode cX1_mended 51 = .ok (.iload 10, 2) := by decide +kernel
theorem dX1_mended_53 : decode cX1_mended 53 = .ok (.iload 11, 2) := by decide +kernel
theorem dX1_mended_55 : decode cX1_mended 55 = .ok (.iadd, 1) := by decide +kernel
theorem dX1_mended_56 : decode cX1_mended 56 = .ok (.iconst 2, 1) := by decide +kernel
theorem dX1_mended_57 : decode cX1_mended 57 = .ok (.idiv, 1) := by decide +kernel
theorem dX1_mended_58 : decode cX1_mended 58 = .ok (.invokestatic 25, 3) := by decide +kernel
theorem dX1_mended_61 : decode cX1_mended 61 = .ok (.lstore 7, 2) := by decide +kernel
theorem dX1_mended_63 : decode cX1_mended 63 = .ok (.iinc 9 1, 3) := by decide +kernel
theorem dX1_mended_66 : decode cX1_mended 66 = .ok (.goto (-60), 3) := by decide +kernel
theorem dX1_mended_69 : decode cX1_mended 69 = .ok (.lload 7, 2) := by decide +kernel
theorem dX1_mended_71 : decode cX1_mended 71 = .ok (.lreturn, 1) := by decide +kernel
theorem dX1_isDirty_0 : decode cX1_isDirty 0 = .ok (.iload_n 2, 1) := by decide +kernel
theorem dX1_isDirty_1 : decode cX1_isDirty 1 = .ok (.iload_n 1, 1) := by decide +kernel
theorem dX1_isDirty_2 : decode cX1_isDirty 2 = .ok (.isub, 1) := by decide +kernel
theorem dX1_isDirty_3 : decode cX1_isDirty 3 = .ok (.invokestatic 29, 3) := by decide +kernel
theorem dX1_isDirty_6 : decode cX1_isDirty 6 = .ok (.aload_n 0, 1) := by decide +kernel
theorem dX1_isDirty_7 : decode cX1_isDirty 7 = .ok (.getfield 9, 3) := by decide +kernel
theorem dX1_isDirty_10 : decode cX1_isDirty 10 = .ok (.if_icmp .le 33, 3) := by decide +kernel
theorem dX1_isDirty_13 : decode cX1_isDirty 13 = .ok (.iload_n 2, 1) := by decide +kernel
theorem dX1_isDirty_14 : decode cX1_isDirty 14 = .ok (.iload_n 3, 1) := by decide +kernel
theorem dX1_isDirty_15 : decode cX1_isDirty 15 = .ok (.isub, 1) := by decide +kernel
theorem dX1_isDirty_16 : decode cX1_isDirty 16 = .ok (.invokestatic 29, 3) := by decide +kernel
theorem dX1_isDirty_19 : decode cX1_isDirty 19 = .ok (.aload_n 0, 1) := by decide +kernel
theorem dX1_isDirty_20 : decode cX1_isDirty 20 = .ok (.getfield 9, 3) := by decide +kernel
theorem dX1_isDirty_23 : decode cX1_isDirty 23 = .ok (.if_icmp .le 20, 3) := by decide +kernel
theorem dX1_isDirty_26 : decode cX1_isDirty 26 = .ok (.iload_n 1, 1) := by decide +kernel
theorem dX1_isDirty_27 : decode cX1_isDirty 27 = .ok (.iload_n 3, 1) := by decide +kernel
theorem dX1_isDirty_28 : decode cX1_isDirty 28 = .ok (.isub, 1) := by decide +kernel
theorem dX1_isDirty_29 : decode cX1_isDirty 29 = .ok (.invokestatic 29, 3) := by decide +kernel
theorem dX1_isDirty_32 : decode cX1_isDirty 32 = .ok (.aload_n 0, 1) := by decide +kernel
theorem dX1_isDirty_33 : decode cX1_isDirty 33 = .ok (.getfield 9, 3) := by decide +kernel
theorem dX1_isDirty_36 : decode cX1_isDirty 36 = .ok (.if_icmp .gt 7, 3) := by decide +kernel
theorem dX1_isDirty_39 : decode cX1_isDirty 39 = .ok (.iconst 1, 1) := by decide +kernel
theorem dX1_isDirty_40 : decode cX1_isDirty 40 = .ok (.goto 4, 3) := by decide +kernel
theorem dX1_isDirty_43 : decode cX1_isDirty 43 = .ok (.iconst 0, 1) := by decide +kernel
theorem dX1_isDirty_44 : decode cX1_isDirty 44 = .ok (.ireturn, 1) := by decide +kernel
theorem dX2_init_0 : decode cX2_init 0 = .ok (.aload_n 0, 1) := by decide +kernel
theorem dX2_init_1 : decode cX2_init 1 = .ok (.invokespecial 3, 3) := by decide +kernel
theorem dX2_init_4 : decode cX2_init 4 = .ok (.aload_n 0, 1) := by decide +kernel
theorem dX2_init_5 : decode cX2_init 5 = .ok (.iconst 4, 1) := by decide +kernel
theorem dX2_init_6 : decode cX2_init 6 = .ok (.putfield 9, 3) := by decide +kernel
theorem dX2_init_9 : decode cX2_init 9 = .ok (.aload_n 0, 1) := by decide +kernel
theorem dX2_init_10 : decode cX2_init 10 = .ok (.bipush 120, 2) := by decide +kernel
theorem dX2_init_12 : decode cX2_init 12 = .ok (.anewarray 15, 3) := by decide +kernel
theorem dX2_init_15 : decode cX2_init 15 = .ok (.putfield 17, 3) := by decide +kernel
theorem dX2_init_18 : decode cX2_init 18 = .ok (.aload_n 0, 1) := by decide +kernel
theorem dX2_init_19 : decode cX2_init 19 = .ok (.new 21, 3) := by decide +kernel
theorem dX2_init_22 : decode cX2_init 22 = .ok (.dup, 1) := by decide +kernel
theorem dX2_init_23 : decode cX2_init 23 = .ok (.invokespecial 23, 3) := by decide +kernel
theorem dX2_init_26 : decode cX2_init 26 = .ok (.putfield 24, 3) := by decide +kernel
theorem dX2_init_29 : decode cX2_init 29 = .ok (.iconst 0, 1) := by decide +kernel
theorem dX2_init_30 : decode cX2_init 30 = .ok (.istore_n 1, 1) := by decide +kernel
theorem dX2_init_31 : decode cX2_init 31 = .ok (.iload_n 1, 1) := by decide +kernel
theorem dX2_init_32 : decode cX2_init 32 = .ok (.bipush 120, 2) := by decide +kernel
theorem dX2_init_34 : decode cX2_init 34 = .ok (.if_icmp .ge 22, 3) := by decide +kernel
theorem dX2_init_37 : decode cX2_init 37 = .ok (.aload_n 0, 1) := by decide +kernel
theorem dX2_init_38 : decode cX2_init 38 = .ok (.getfield 17, 3) := by decide +kernel
theorem dX2_init_41 : decode cX2_init 41 = .ok (.iload_n 1, 1) := by decide +kernel
theorem dX2_init_42 : decode cX2_init 42 = .ok (.new 15, 3) := by decide +kernel
theorem dX2_init_45 : decode cX2_init 45 = .ok (.dup, 1) := by decide +kernel
theorem dX2_init_46 : decode cX2_init 46 = .ok (.invokespecial 28, 3) := by decide +kernel
theorem dX2_init_49 : decode cX2_init 49 = .ok (.aastore, 1) := by decide +kernel
theorem dX2_init_50 : decode cX2_init 50 = .ok (.iinc 1 1, 3) := by decide +kernel
theorem dX2_init_53 : decode cX2_init 53 = .ok (.goto (-22), 3) := by decide +kernel
theorem dX2_init_56 : decode cX2_init 56 = .ok (.return_, 1) := by decide +kernel
theorem dX2_begin_0 : decode cX2_begin 0 = .ok (.aload_n 0, 1) := by decide +kernel
theorem dX2_begin_1 : decode cX2_begin 1 = .ok (.iconst 0, 1) := by decide +kernel
theorem dX2_begin_2 : decode cX2_begin 2 = .ok (.putfield 29, 3) := by decide +kernel
theorem dX2_begin_5 : decode cX2_begin 5 = .ok (.aload_n 0, 1) := by decide +kernel
theorem dX2_begin_6 : decode cX2_begin 6 = .ok (.getfield 24, 3) := by decide +kernel
theorem dX2_begin_9 : decode cX2_begin 9 = .ok (.iconst 0, 1) := by decide +kernel
theorem dX2_begin_10 : decode cX2_begin 10 = .ok (.putfield 32, 3) := by decide +kernel
theorem dX2_begin_13 : decode cX2_begin 13 = .ok (.return_, 1) := by decide +kernel
theorem dX2_take_0 : decode cX2_take 0 = .ok (.aload_n 0, 1) := by decide +kernel
theorem dX2_take_1 : decode cX2_take 1 = .ok (.getfield 29, 3) := by decide +kernel
theorem dX2_take_4 : decode cX2_take 4 = .ok (.bipush 120, 2) := by decide +kernel
theorem dX2_take_6 : decode cX2_take 6 = .ok (.if_icmp .ge 30, 3) := by decide +kernel
theorem dX2_take_9 : decode cX2_take 9 = .ok (.aload_n 0, 1) := by decide +kernel
theorem dX2_take_10 : decode cX2_take 10 = .ok (.getfield 17, 3) := by decide +kernel
theorem dX2_take_13 : decode cX2_take 13 = .ok (.aload_n 0, 1) := by decide +kernel
theorem dX2_take_14 : decode cX2_take 14 = .ok (.getfield 29, 3) := by decide +kernel
theorem dX2_take_17 : decode cX2_take 17 = .ok (.aaload, 1) := by decide +kernel
theorem dX2_take_18 : decode cX2_take 18 = .ok (.iload_n 1, 1) := by decide +kernel
theorem dX2_take_19 : decode cX2_take 19 = .ok (.iload_n 2, 1) := by decide +kernel
theorem dX2_take_20 : decode cX2_take 20 = .ok (.iload_n 3, 1) := by decide +kernel
theorem dX2_take_21 : decode cX2_take 21 = .ok (.lload 4, 2) := by decide +kernel
theorem dX2_take_23 : decode cX2_take 23 = .ok (.invokevirtual 33, 3) := by decide +kernel
theorem dX2_take_26 : decode cX2_take 26 = .ok (.aload_n 0, 1) := by decide +kernel
theorem dX2_take_27 : decode cX2_take 27 = .ok (.dup, 1) := by decide +kernel
theorem dX2_take_28 : decode cX2_take 28 = .ok (.getfield 29, 3) := by decide +kernel
theorem dX2_take_31 : decode cX2_take 31 = .ok (.iconst 1, 1) := by decide +kernel
theorem dX2_take_32 : decode cX2_take 32 = .ok (.iadd, 1) := by decide +kernel
theorem dX2_take_33 : decode cX2_take 33 = .ok (.putfield 29, 3) := by decide +kernel
theorem dX2_take_36 : decode cX2_take 36 = .ok (.return_, 1) := by decide +kernel
theorem dX2_gaps_0 : decode cX2_gaps 0 = .ok (.iconst 0, 1) := by decide +kernel
theorem dX2_gaps_1 : decode cX2_gaps 1 = .ok (.istore_n 1, 1) := by decide +kernel
theorem dX2_gaps_2 : decode cX2_gaps 2 = .ok (.iconst 0, 1) := by decide +kernel
theorem dX2_gaps_3 : decode cX2_gaps 3 = .ok (.istore_n 2, 1) := by decide +kernel
theorem dX2_gaps_4 : decode cX2_gaps 4 = .ok (.iload_n 2, 1) := by decide +kernel
theorem dX2_gaps_5 : decode cX2_gaps 5 = .ok (.aload_n 0, 1) := by decide +kernel
theorem dX2_gaps_6 : decode cX2_gaps 6 = .ok (.getfield 29, 3) := by decide +kernel
theorem dX2_gaps_9 : decode cX2_gaps 9 = .ok (.if_icmp .ge 24, 3) := by decide +kernel
theorem dX2_gaps_12 : decode cX2_gaps 12 = .ok (.aload_n 0, 1) := by decide +kernel
theorem dX2_gaps_13 : decode cX2_gaps 13 = .ok (.getfield 17, 3) := by decide +kernel
theorem dX2_gaps_16 : decode cX2_gaps 16 = .ok (.iload_n 2, 1) := by decide +kernel
theorem dX2_gaps_17 : decode cX2_gaps 17 = .ok (.aaload, 1) := by decide +kernel
theorem dX2_gaps_18 : decode cX2_gaps 18 = .ok (.invokevirtual 37, 3) := by decide +kernel
theorem dX2_gaps_21 : decode cX2_gaps 21 = .ok (.ifCond .eq 6, 3) := by decide +kernel
theorem dX2_gaps_24 : decode cX2_gaps 24 = .ok (.iinc 1 1, 3) := by decide +kernel
theorem dX2_gaps_27 : decode cX2_gaps 27 = .ok (.iinc 2 1, 3) := by decide +kernel
theorem dX2_gaps_30 : decode cX2_gaps 30 = .ok (.goto (-26), 3) := by decide +kernel
theorem dX2_gaps_33 : decode cX2_gaps 33 = .ok (.iload_n 1, 1) := by decide +kernel
theorem dX2_gaps_34 : decode cX2_gaps 34 = .ok (.ireturn, 1) := by decide +kernel
theorem dX2_mendByNeighbours_0 : decode cX2_mendByNeighbours 0 = .ok (.iconst 0, 1) := by decide +kernel
theorem dX2_mendByNeighbours_1 : decode cX2_mendByNeighbours 1 = .ok (.istore_n 2, 1) := by decide +kernel
theorem dX2_mendByNeighbours_2 : decode cX2_mendByNeighbours 2 = .ok (.aload_n 0, 1) := by decide +kernel
theorem dX2_mendByNeighbours_3 : decode cX2_mendByNeighbours 3 = .ok (.getfield 17, 3) := by decide +kernel
theorem dX2_mendByNeighbours_6 : decode cX2_mendByNeighbours 6 = .ok (.iconst 0, 1) := by decide +kernel
theorem dX2_mendByNeighbours_7 : decode cX2_mendByNeighbours 7 = .ok (.aaload, 1) := by decide +kernel
theorem dX2_mendByNeighbours_8 : decode cX2_mendByNeighbours 8 = .ok (.getfield 41, 3) := by decide +kernel
theorem dX2_mendByNeighbours_11 : decode cX2_mendByNeighbours 11 = .ok (.lstore_n 3, 1) := by decide +kernel
theorem dX2_mendByNeighbours_12 : decode cX2_mendByNeighbours 12 = .ok (.iconst 1, 1) := by decide +kernel
theorem dX2_mendByNeighbours_13 : decode cX2_mendByNeighbours 13 = .ok (.istore 5, 2) := by decide +kernel
theorem dX2_mendByNeighbours_15 : decode cX2_mendByNeighbours 15 = .ok (.iload 5, 2) := by decide +kernel
theorem dX2_mendByNeighbours_17 : decode cX2_mendByNeighbours 17 = .ok (.aload_n 0, 1) := by decide +kernel
theorem dX2_mendByNeighbours_18 : decode cX2_mendByNeighbours 18 = .ok (.getfield 29, 3) := by decide +kernel
theorem dX2_mendByNeighbours_21 : decode cX2_mendByNeighbours 21 = .ok (.iconst 1, 1) := by decide +kernel
theorem dX2_mendByNeighbours_22 : decode cX2_mendByNeighbours 22 = .ok (.isub, 1) := by decide +kernel
theorem dX2_mendByNeighbours_23 : decode cX2_mendByNeighbours 23 = .ok (.if_icmp .ge 98, 3) := by decide +kernel
theorem dX2_mendByNeighbours_26 : decode cX2_mendByNeighbours 26 = .ok (.aload_n 0, 1) := by decide +kernel
theorem dX2_mendByNeighbours_27 : decode cX2_mendByNeighbours 27 = .ok (.getfield 17, 3) := by decide +kernel
theorem dX2_mendByNeighbours_30 : decode cX2_mendByNeighbours 30 = .ok (.iload 5, 2) := by decide +kernel
theorem dX2_mendByNeighbours_32 : decode cX2_mendByNeighbours 32 = .ok (.aaload, 1) := by decide +kernel
theorem dX2_mendByNeighbours_33 : decode cX2_mendByNeighbours 33 = .ok (.getfield 41, 3) := by decide +kernel
theorem dX2_mendByNeighbours_36 : decode cX2_mendByNeighbours 36 = .ok (.lstore 6, 2) := by decide +kernel
theorem dX2_mendByNeighbours_38 : decode cX2_mendByNeighbours 38 = .ok (.aload_n 0, 1) := by decide +kernel
theorem dX2_mendByNeighbours_39 : decode cX2_mendByNeighbours 39 = .ok (.getfield 17, 3) := by decide +kernel
theorem dX2_mendByNeighbours_42 : decode cX2_mendByNeighbours 42 = .ok (.iload 5, 2) := by decide +kernel
theorem dX2_mendByNeighbours_44 : decode cX2_mendByNeighbours 44 = .ok (.iconst 1, 1) := by decide +kernel
theorem dX2_mendByNeighbours_45 : decode cX2_mendByNeighbours 45 = .ok (.isub, 1) := by decide +kernel
theorem dX2_mendByNeighbours_46 : decode cX2_mendByNeighbours 46 = .ok (.aaload, 1) := by decide +kernel
theorem dX2_mendByNeighbours_47 : decode cX2_mendByNeighbours 47 = .ok (.invokevirtual 45, 3) := by decide +kernel
theorem dX2_mendByNeighbours_50 : decode cX2_mendByNeighbours 50 = .ok (.ifCond .eq 62, 3) := by decide +kernel
theorem dX2_mendByNeighbours_53 : decode cX2_mendByNeighbours 53 = .ok (.aload_n 0, 1) := by decide +kernel
theorem dX2_mendByNeighbours_54 : decode cX2_mendByNeighbours 54 = .ok (.getfield 17, 3) := by decide +kernel
theorem dX2_mendByNeighbours_57 : decode cX2_mendByNeighbours 57 = .ok (.iload 5, 2) := by decide +kernel
theorem dX2_mendByNeighbours_59 : decode cX2_mendByNeighbours 59 = .ok (.aaload, 1) := by decide +kernel
theorem dX2_mendByNeighbours_60 : decode cX2_mendByNeighbours 60 = .ok (.invokevirtual 45, 3) := by decide +kernel
theorem dX2_mendByNeighbours_63 : decode cX2_mendByNeighbours 63 = .ok (.ifCond .eq 49, 3) := by decide +kernel
theorem dX2_mendByNeighbours_66 : decode cX2_mendByNeighbours 66 = .ok (.aload_n 0, 1) := by decide +kernel
theorem dX2_mendByNeighbours_67 : decode cX2_mendByNeighbours 67 = .ok (.getfield 17, 3) := by decide +kernel
theorem dX2_mendByNeighbours_70 : decode cX2_mendByNeighbours 70 = .ok (.iload 5, 2) := by decide +kernel
theorem dX2_mendByNeighbours_72 : decode cX2_mendByNeighbours 72 = .ok (.iconst 1, 1) := by decide +kernel
theorem dX2_mendByNeighbours_73 : decode cX2_mendByNeighbours 73 = .ok (.iadd, 1) := by decide +kernel
theorem dX2_mendByNeighbours_74 : decode cX2_mendByNeighbours 74 = .ok (.aaload, 1) := by decide +kernel
theorem dX2_mendByNeighbours_75 : decode cX2_mendByNeighbours 75 = .ok (.invokevirtual 45, 3) := by decide +kernel
theorem dX2_mendByNeighbours_78 : decode cX2_mendByNeighbours 78 = .ok (.ifCond .eq 34, 3) := by decide +kernel
theorem dX2_mendByNeighbours_81 : decode cX2_mendByNeighbours 81 = .ok (.aload_n 0, 1) := by decide +kernel
theorem dX2_mendByNeighbours_82 : decode cX2_mendByNeighbours 82 = .ok (.iload 5, 2) := by decide +kernel
theorem dX2_mendByNeighbours_84 : decode cX2_mendByNeighbours 84 = .ok (.aload_n 1, 1) := by decide +kernel
theorem dX2_mendByNeighbours_85 : decode cX2_mendByNeighbours 85 = .ok (.lload_n 3, 1) := by decide +kernel
theorem dX2_mendByNeighbours_86 : decode cX2_mendByNeighbours 86 = .ok (.lload 6, 2) := by decide +kernel
theorem dX2_mendByNeighbours_88 : decode cX2_mendByNeighbours 88 = .ok (.aload_n 0, 1) := by decide +kernel
theorem dX2_mendByNeighbours_89 : decode cX2_mendByNeighbours 89 = .ok (.getfield 17, 3) := by decide +kernel
theorem dX2_mendByNeighbours_92 : decode cX2_mendByNeighbours 92 = .ok (.iload 5, 2) := by decide +kernel
theorem dX2_mendByNeighbours_94 : decode cX2_mendByNeighbours 94 = .ok (.iconst 1, 1) := by decide +kernel
theorem dX2_mendByNeighbours_95 : decode cX2_mendByNeighbours 95 = .ok (.iadd, 1) := by decide +kernel
theorem dX2_mendByNeighbours_96 : decode cX2_mendByNeighbours 96 = .ok (.aaload, 1) := by decide +kernel
theorem dX2_mendByNeighbours_97 : decode cX2_mendByNeighbours 97 = .ok (.getfield 41, 3) := by decide +kernel
theorem dX2_mendByNeighbours_100 : decode cX2_mendByNeighbours 100 = .ok (.invokevirtual 48, 3) := by decide +kernel
theorem dX2_mendByNeighbours_103 : decode cX2_mendByNeighbours 103 = .ok (.invokevirtual 54, 3) := by decide +kernel
theorem dX2_mendByNeighbours_106 : decode cX2_mendByNeighbours 106 = .ok (.ifCond .eq 6, 3) := by decide +kernel
theorem dX2_mendByNeighbours_109 : decode cX2_mendByNeighbours 109 = .ok (.iinc 2 1, 3) := by decide +kernel
theorem dX2_mendByNeighbours_112 : decode cX2_mendByNeighbours 112 = .ok (.lload 6, 2) := by decide +kernel
theorem dX2_mendByNeighbours_114 : decode cX2_mendByNeighbours 114 = .ok (.lstore_n 3, 1) := by decide +kernel
theorem dX2_mendByNeighbours_115 : decode cX2_mendByNeighbours 115 = .ok (.iinc 5 1, 3) := by decide +kernel
theorem dX2_mendByNeighbours_118 : decode cX2_mendByNeighbours 118 = .ok (.goto (-103), 3) := by decide +kernel
theorem dX2_mendByNeighbours_121 : decode cX2_mendByNeighbours 121 = .ok (.iload_n 2, 1) := by decide +kernel
theorem dX2_mendByNeighbours_122 : decode cX2_mendByNeighbours 122 = .ok (.ireturn, 1) := by decide +kernel
theorem dX2_mendScratch_0 : decode cX2_mendScratch 0 = .ok (.iload_n 2, 1) := by decide +kernel
theorem dX2_mendScratch_1 : decode cX2_mendScratch 1 = .ok (.istore 5, 2) := by decide +kernel
theorem dX2_mendScratch_3 : decode cX2_mendScratch 3 = .ok (.iload 5, 2) := by decide +kernel
theorem dX2_mendScratch_5 : decode cX2_mendScratch 5 = .ok (.iload_n 3, 1) := by decide +kernel
theorem dX2_mendScratch_6 : decode cX2_mendScratch 6 = .ok (.if_icmp .gt 43, 3) := by decide +kernel
theorem dX2_mendScratch_9 : decode cX2_mendScratch 9 = .ok (.aload_n 0, 1) := by decide +kernel
theorem dX2_mendScratch_10 : decode cX2_mendScratch 10 = .ok (.getfield 17, 3) := by decide +kernel
theorem dX2_mendScratch_13 : decode cX2_mendScratch 13 = .ok (.iload 5, 2) := by decide +kernel
theorem dX2_mendScratch_15 : decode cX2_mendScratch 15 = .ok (.aaload, 1) := by decide +kernel
theorem dX2_mendScratch_16 : decode cX2_mendScratch 16 = .ok (.invokevirtual 45, 3) := by decide +kernel
theorem dX2_mendScratch_19 : decode cX2_mendScratch 19 = .ok (.ifCond .eq 24, 3) := by decide +kernel
theorem dX2_mendScratch_22 : decode cX2_mendScratch 22 = .ok (.aload_n 0, 1) := by decide +kernel
theorem dX2_mendScratch_23 : decode cX2_mendScratch 23 = .ok (.getfield 17, 3) := by decide +kernel
theorem dX2_mendScratch_26 : decode cX2_mendScratch 26 = .ok (.iload 5, 2) := by decide +kernel
theorem dX2_mendScratch_28 : decode cX2_mendScratch 28 = .ok (.aaload, 1) := by decide +kernel
theorem dX2_mendScratch_29 : decode cX2_mendScratch 29 = .ok (.getfield 41, 3) := by decide +kernel
theorem dX2_mendScratch_32 : decode cX2_mendScratch 32 = .ok (.iload_n 1, 1) := by decide +kernel
theorem dX2_mendScratch_33 : decode cX2_mendScratch 33 = .ok (.iload 4, 2) := by decide +kernel
theorem dX2_mendScratch_35 : decode cX2_mendScratch 35 = .ok (.invokestatic 58, 3) := by decide +kernel
theorem dX2_mendScratch_38 : decode cX2_mendScratch 38 = .ok (.ifCond .ne 5, 3) := by decide +kernel
theorem dX2_mendScratch_41 : decode cX2_mendScratch 41 = .ok (.iconst 0, 1) := by decide +kernel
theorem dX2_mendScratch_42 : decode cX2_mendScratch 42 = .ok (.ireturn, 1) := by decide +kernel
theorem dX2_mendScratch_43 : decode cX2_mendScratch 43 = .ok (.iinc 5 1, 3) := by decide +kernel
theorem dX2_mendScratch_46 : decode cX2_mendScratch 46 = .ok (.goto (-43), 3) := by decide +kernel
theorem dX2_mendScratch_49 : decode cX2_mendScratch 49 = .ok (.iconst 0, 1) := by decide +kernel
theorem dX2_mendScratch_50 : decode cX2_mendScratch 50 = .ok (.istore 5, 2) := by decide +kernel
theorem dX2_mendScratch_52 : decode cX2_mendScratch 52 = .ok (.iload_n 2, 1) := by decide +kernel
theorem dX2_mendScratch_53 : decode cX2_mendScratch 53 = .ok (.istore 6, 2) := by decide +kernel
theorem dX2_mendScratch_55 : decode cX2_mendScratch 55 = .ok (.iload 6, 2) := by decide +kernel
theorem dX2_mendScratch_57 : decode cX2_mendScratch 57 = .ok (.iload_n 3, 1) := by decide +kernel
theorem dX2_mendScratch_58 : decode cX2_mendScratch 58 = .ok (.if_icmp .gt 75, 3) := by decide +kernel
theorem dX2_mendScratch_61 : decode cX2_mendScratch 61 = .ok (.aload_n 0, 1) := by decide +kernel
theorem dX2_mendScratch_62 : decode cX2_mendScratch 62 = .ok (.getfield 17, 3) := by decide +kernel
theorem dX2_mendScratch_65 : decode cX2_mendScratch 65 = .ok (.iload 6, 2) := by decide +kernel
theorem dX2_mendScratch_67 : decode cX2_mendScratch 67 = .ok (.aaload, 1) := by decide +kernel
theorem dX2_mendScratch_68 : decode cX2_mendScratch 68 = .ok (.getfield 41, 3) := by decide +kernel
theorem dX2_mendScratch_71 : decode cX2_mendScratch 71 = .ok (.lstore 7, 2) := by decide +kernel
theorem dX2_mendScratch_73 : decode cX2_mendScratch 73 = .ok (.lload 7, 2) := by decide +kernel
theorem dX2_mendScratch_75 : decode cX2_mendScratch 75 = .ok (.iload_n 1, 1) := by decide +kernel
theorem dX2_mendScratch_76 : decode cX2_mendScratch 76 = .ok (.iconst 1, 1) := by decide +kernel
theorem dX2_mendScratch_77 : decode cX2_mendScratch 77 = .ok (.isub, 1) := by decide +kernel
theorem dX2_mendScratch_78 : decode cX2_mendScratch 78 = .ok (.invokestatic 62, 3) := by decide +kernel
theorem dX2_mendScratch_81 : decode cX2_mendScratch 81 = .ok (.lload 7, 2) := by decide +kernel
theorem dX2_mendScratch_83 : decode cX2_mendScratch 83 = .ok (.iload_n 1, 1) := by decide +kernel
theorem dX2_mendScratch_84 : decode cX2_mendScratch 84 = .ok (.iconst 1, 1) := by decide +kernel
theorem dX2_mendScratch_85 : decode cX2_mendScratch 85 = .ok (.iadd, 1) := by decide +kernel
theorem dX2_mendScratch_86 : decode cX2_mendScratch 86 = .ok (.invokestatic 62, 3) := by decide +kernel
theorem dX2_mendScratch_89 : decode cX2_mendScratch 89 = .ok (.iadd, 1) := by decide +kernel
theorem dX2_mendScratch_90 : decode cX2_mendScratch 90 = .ok (.iconst 2, 1) := by decide +kernel
theorem dX2_mendScratch_91 : decode cX2_mendScratch 91 = .ok (.idiv, 1) := by decide +kernel
theorem dX2_mendScratch_92 : decode cX2_mendScratch 92 = .ok (.istore 9, 2) := by decide +kernel
theorem dX2_mendScratch_94 : decode cX2_mendScratch 94 = .ok (.aload_n 0, 1) := by decide +kernel
theorem dX2_mendScratch_95 : decode cX2_mendScratch 95 = .ok (.getfield 17, 3) := by decide +kernel
theorem dX2_mendScratch_98 : decode cX2_mendScratch 98 = .ok (.iload 6, 2) := by decide +kernel
theorem dX2_mendScratch_100 : decode cX2_mendScratch 100 = .ok (.aaload, 1) := by decide +kernel
theorem dX2_mendScratch_101 : decode cX2_mendScratch 101 = .ok (.invokevirtual 45, 3) := by decide +kernel
theorem dX2_mendScratch_104 : decode cX2_mendScratch 104 = .ok (.ifCond .eq 23, 3) := by decide +kernel
theorem dX2_mendScratch_107 : decode cX2_mendScratch 107 = .ok (.aload_n 0, 1) := by decide +kernel
theorem dX2_mendScratch_108 : decode cX2_mendScratch 108 = .ok (.iload 6, 2) := by decide +kernel
theorem dX2_mendScratch_110 : decode cX2_mendScratch 110 = .ok (.lload 7, 2) := by decide +kernel
theorem dX2_mendScratch_112 : decode cX2_mendScratch 112 = .ok (.iload_n 1, 1) := by decide +kernel
theorem dX2_mendScratch_113 : decode cX2_mendScratch 113 = .ok (.iload 9, 2) := by decide +kernel
theorem dX2_mendScratch_115 : decode cX2_mendScratch 115 = .ok (.invokestatic 68, 3) := by decide +kernel
theorem dX2_mendScratch_118 : decode cX2_mendScratch 118 = .ok (.invokevirtual 54, 3) := by decide +kernel
theorem dX2_mendScratch_121 : decode cX2_mendScratch 121 = .ok (.ifCond .eq 6, 3) := by decide +kernel
theorem dX2_mendScratch_124 : decode cX2_mendScratch 124 = .ok (.iinc 5 1, 3) := by decide +kernel
theorem dX2_mendScratch_127 : decode cX2_mendScratch 127 = .ok (.iinc 6 1, 3) := by decide +kernel
theorem dX2_mendScratch_130 : decode cX2_mendScratch 130 = .ok (.goto (-75), 3) := by decide +kernel
theorem dX2_mendScratch_133 : decode cX2_mendScratch 133 = .ok (.iload 5, 2) := by decide +kernel
theorem dX2_mendScratch_135 : decode cX2_mendScratch 135 = .ok (.ireturn, 1) := by decide +kernel
theorem dX2_isScratched_0 : decode cX2_isScratched 0 = .ok (.lload_n 0, 1) := by decide +kernel
theorem dX2_isScratched_1 : decode cX2_isScratched 1 = .ok (.iload_n 2, 1) := by decide +kernel
theorem dX2_isScratched_2 : decode cX2_isScratched 2 = .ok (.iconst 1, 1) := by decide +kernel
theorem dX2_isScratched_3 : decode cX2_isScratched 3 = .ok (.isub, 1) := by decide +kernel
theorem dX2_isScratched_4 : decode cX2_isScratched 4 = .ok (.invokestatic 62, 3) := by decide +kernel
theorem dX2_isScratched_7 : decode cX2_isScratched 7 = .ok (.lload_n 0, 1) := by decide +kernel
theorem dX2_isScratched_8 : decode cX2_isScratched 8 = .ok (.iload_n 2, 1) := by decide +kernel
theorem dX2_isScratched_9 : decode cX2_isScratched 9 = .ok (.iconst 1, 1) := by decide +kernel
theorem dX2_isScratched_10 : decode cX2_isScratched 10 = .ok (.iadd, 1) := by decide +kernel
theorem dX2_isScratched_11 : decode cX2_isScratched 11 = .ok (.invokestatic 62, 3) := by decide +kernel
theorem dX2_isScratched_14 : decode cX2_isScratched 14 = .ok (.invokestatic 72, 3) := by decide +kernel
theorem dX2_isScratched_17 : decode cX2_isScratched 17 = .ok (.istore 4, 2) := by decide +kernel
theorem dX2_isScratched_19 : decode cX2_isScratched 19 = .ok (.lload_n 0, 1) := by decide +kernel
theorem dX2_isScratched_20 : decode cX2_isScratched 20 = .ok (.iload_n 2, 1) := by decide +kernel
theorem dX2_isScratched_21 : decode cX2_isScratched 21 = .ok (.invokestatic 62, 3) := by decide +kernel
theorem dX2_isScratched_24 : decode cX2_isScratched 24 = .ok (.iload 4, 2) := by decide +kernel
theorem dX2_isScratched_26 : decode cX2_isScratched 26 = .ok (.isub, 1) := by decide +kernel
theorem dX2_isScratched_27 : decode cX2_isScratched 27 = .ok (.iload_n 3, 1) := by decide +kernel
theorem dX2_isScratched_28 : decode cX2_isScratched 28 = .ok (.if_icmp .le 7, 3) := by decide +kernel
theorem dX2_isScratched_31 : decode cX2_isScratched 31 = .ok (.iconst 1, 1) := by decide +kernel
theorem dX2_isScratched_32 : decode cX2_isScratched 32 = .ok (.goto 4, 3) := by decide +kernel
theorem dX2_isScratched_35 : decode cX2_isScratched 35 = .ok (.iconst 0, 1) := by decide +kernel
theorem dX2_isScratched_36 : decode cX2_isScratched 36 = .ok (.ireturn, 1) := by decide +kernel
theorem dX2_change_0 : decode cX2_change 0 = .ok (.aload_n 0, 1) := by decide +kernel
theorem dX2_change_1 : decode cX2_change 1 = .ok (.getfield 17, 3) := by decide +kernel
theorem dX2_change_4 : decode cX2_change 4 = .ok (.iload_n 1, 1) := by decide +kernel
theorem dX2_change_5 : decode cX2_change 5 = .ok (.aaload, 1) := by decide +kernel
theorem dX2_change_6 : decode cX2_change 6 = .ok (.astore 4, 2) := by decide +kernel
theorem dX2_change_8 : decode cX2_change 8 = .ok (.lload_n 2, 1) := by decide +kernel
theorem dX2_change_9 : decode cX2_change 9 = .ok (.aload 4, 2) := by decide +kernel
theorem dX2_change_11 : decode cX2_change 11 = .ok (.getfield 41, 3) := by decide +kernel
theorem dX2_change_14 : decode cX2_change 14 = .ok (.lcmp, 1) := by decide +kernel
theorem dX2_change_15 : decode cX2_change 15 = .ok (.ifCond .eq 29, 3) := by decide +kernel
theorem dX2_change_18 : decode cX2_change 18 = .ok (.lload_n 2, 1) := by decide +kernel
theorem dX2_change_19 : decode cX2_change 19 = .ok (.aload 4, 2) := by decide +kernel
theorem dX2_change_21 : decode cX2_change 21 = .ok (.getfield 78, 3) := by decide +kernel
theorem dX2_change_24 : decode cX2_change 24 = .ok (.invokestatic 81, 3) := by decide +kernel
theorem dX2_change_27 : decode cX2_change 27 = .ok (.aload_n 0, 1) := by decide +kernel
theorem dX2_change_28 : decode cX2_change 28 = .ok (.getfield 9, 3) := by decide +kernel
theorem dX2_change_31 : decode cX2_change 31 = .ok (.if_icmp .gt 13, 3) := by decide +kernel
theorem dX2_change_34 : decode cX2_change 34 = .ok (.aload_n 0, 1) := by decide +kernel
theorem dX2_change_35 : decode cX2_change 35 = .ok (.getfield 24, 3) := by decide +kernel
theorem dX2_change_38 : decode cX2_change 38 = .ok (.invokevirtual 85, 3) := by decide +kernel
theorem dX2_change_41 : decode cX2_change 41 = .ok (.ifCond .eq 5, 3) := by decide +kernel
theorem dX2_change_44 : decode cX2_change 44 = .ok (.iconst 0, 1) := by decide +kernel
theorem dX2_change_45 : decode cX2_change 45 = .ok (.ireturn, 1) := by decide +kernel
theorem dX2_change_46 : decode cX2_change 46 = .ok (.aload 4, 2) := by decide +kernel
theorem dX2_change_48 : decode cX2_change 48 = .ok (.aload_n 0, 1) := by decide +kernel
theorem dX2_change_49 : decode cX2_change 49 = .ok (.getfield 24, 3) := by decide +kernel
theorem dX2_change_52 : decode cX2_change 52 = .ok (.iload_n 1, 1) := by decide +kernel
theorem dX2_change_53 : decode cX2_change 53 = .ok (.aload 4, 2) := by decide +kernel
theorem dX2_change_55 : decode cX2_change 55 = .ok (.getfield 41, 3) := by decide +kernel
theorem dX2_change_58 : decode cX2_change 58 = .ok (.aload 4, 2) := by decide +kernel
theorem dX2_change_60 : decode cX2_change 60 = .ok (.getfield 88, 3) := by decide +kernel
theorem dX2_change_63 : decode cX2_change 63 = .ok (.invokevirtual 91, 3) := by decide +kernel
theorem dX2_change_66 : decode cX2_change 66 = .ok (.putfield 88, 3) := by decide +kernel
theorem dX2_change_69 : decode cX2_change 69 = .ok (.aload 4, 2) := by decide +kernel
theorem dX2_change_71 : decode cX2_change 71 = .ok (.dup, 1) := by decide +kernel
theorem dX2_change_72 : decode cX2_change 72 = .ok (.getfield 95, 3) := by decide +kernel
theorem dX2_change_75 : decode cX2_change 75 = .ok (.iconst 1, 1) := by decide +kernel
theorem dX2_change_76 : decode cX2_change 76 = .ok (.iadd, 1) := by decide +kernel
theorem dX2_change_77 : decode cX2_change 77 = .ok (.putfield 95, 3) := by decide +kernel
theorem dX2_change_80 : decode cX2_change 80 = .ok (.aload 4, 2) := by decide +kernel
theorem dX2_change_82 : decode cX2_change 82 = .ok (.lload_n 2, 1) := by decide +kernel
theorem dX2_change_83 : decode cX2_change 83 = .ok (.putfield 41, 3) := by decide +kernel
theorem dX2_change_86 : decode cX2_change 86 = .ok (.iconst 1, 1) := by decide +kernel
theorem dX2_change_87 : decode cX2_change 87 = .ok (.ireturn, 1) := by decide +kernel
theorem dX2_isOnTop_0 : decode cX2_isOnTop 0 = .ok (.aload_n 0, 1) := by decide +kernel
theorem dX2_isOnTop_1 : decode cX2_isOnTop 1 = .ok (.getfield 17, 3) := by decide +kernel
theorem dX2_isOnTop_4 : decode cX2_isOnTop 4 = .ok (.aload_n 0, 1) := by decide +kernel
theorem dX2_isOnTop_5 : decode cX2_isOnTop 5 = .ok (.getfield 24, 3) := by decide +kernel
theorem dX2_isOnTop_8 : decode cX2_isOnTop 8 = .ok (.getfield 98, 3) := by decide +kernel
theorem dX2_isOnTop_11 : decode cX2_isOnTop 11 = .ok (.iload_n 1, 1) := by decide +kernel
theorem dX2_isOnTop_12 : decode cX2_isOnTop 12 = .ok (.iaload, 1) := by decide +kernel
theorem dX2_isOnTop_13 : decode cX2_isOnTop 13 = .ok (.aaload, 1) := by decide +kernel
theorem dX2_isOnTop_14 : decode cX2_isOnTop 14 = .ok (.getfield 88, 3) := by decide +kernel
theorem dX2_isOnTop_17 : decode cX2_isOnTop 17 = .ok (.iload_n 1, 1) := by decide +kernel
theorem dX2_isOnTop_18 : decode cX2_isOnTop 18 = .ok (.if_icmp .ne 7, 3) := by decide +kernel
theorem dX2_isOnTop_21 : decode cX2_isOnTop 21 = .ok (.iconst 1, 1) := by decide +kernel
theorem dX2_isOnTop_22 : decode cX2_isOnTop 22 = .ok (.goto 4, 3) := by decide +kernel
theorem dX2_isOnTop_25 : decode cX2_isOnTop 25 = .ok (.iconst 0, 1) := by decide +kernel
theorem dX2_isOnTop_26 : decode cX2_isOnTop 26 = .ok (.ireturn, 1) := by decide +kernel
theorem dX2_undo_0 : decode cX2_undo 0 = .ok (.aload_n 0, 1) := by decide +kernel
theorem dX2_undo_1 : decode cX2_undo 1 = .ok (.getfield 24, 3) := by decide +kernel
theorem dX2_undo_4 : decode cX2_undo 4 = .ok (.getfield 98, 3) := by decide +kernel
theorem dX2_undo_7 : decode cX2_undo 7 = .ok (.iload_n 1, 1) := by decide +kernel
theorem dX2_undo_8 : decode cX2_undo 8 = .ok (.iaload, 1) := by decide +kernel
theorem dX2_undo_9 : decode cX2_undo 9 = .ok (.istore_n 2, 1) := by decide +kernel
theorem dX2_undo_10 : decode cX2_undo 10 = .ok (.aload_n 0, 1) := by decide +kernel
theorem dX2_undo_11 : decode cX2_undo 11 = .ok (.getfield 17, 3) := by decide +kernel
theorem dX2_undo_14 : decode cX2_undo 14 = .ok (.iload_n 2, 1) := by decide +kernel
theorem dX2_undo_15 : decode cX2_undo 15 = .ok (.aaload, 1) := by decide +kernel
theorem dX2_undo_16 : decode cX2_undo 16 = .ok (.astore_n 3, 1) := by decide +kernel
theorem dX2_undo_17 : decode cX2_undo 17 = .ok (.aload_n 3, 1) := by decide +kernel
theorem dX2_undo_18 : decode cX2_undo 18 = .ok (.aload_n 0, 1) := by decide +kernel
theorem dX2_undo_19 : decode cX2_undo 19 = .ok (.getfield 24, 3) := by decide +kernel
theorem dX2_undo_22 : decode cX2_undo 22 = .ok (.getfield 102, 3) := by decide +kernel
theorem dX2_undo_25 : decode cX2_undo 25 = .ok (.iload_n 1, 1) := by decide +kernel
theorem dX2_undo_26 : decode cX2_undo 26 = .ok (.laload, 1) := by decide +kernel
theorem dX2_undo_27 : decode cX2_undo 27 = .ok (.putfield 41, 3) := by decide +kernel
theorem dX2_undo_30 : decode cX2_undo 30 = .ok (.aload_n 3, 1) := by decide +kernel
theorem dX2_undo_31 : decode cX2_undo 31 = .ok (.aload_n 0, 1) := by decide +kernel
theorem dX2_undo_32 : decode cX2_undo 32 = .ok (.getfield 24, 3) := by decide +kernel
theorem dX2_undo_35 : decode cX2_undo 35 = .ok (.getfield 106, 3) := by decide +kernel
theorem dX2_undo_38 : decode cX2_undo 38 = .ok (.iload_n 1, 1) := by decide +kernel
theorem dX2_undo_39 : decode cX2_undo 39 = .ok (.iaload, 1) := by decide +kernel
theorem dX2_undo_40 : decode cX2_undo 40 = .ok (.putfield 88, 3) := by decide +kernel
theorem dX2_undo_43 : decode cX2_undo 43 = .ok (.aload_n 3, 1) := by decide +kernel
theorem dX2_undo_44 : decode cX2_undo 44 = .ok (.dup, 1) := by decide +kernel
theorem dX2_undo_45 : decode cX2_undo 45 = .ok (.getfield 95, 3) := by decide +kernel
theorem dX2_undo_48 : decode cX2_undo 48 = .ok (.iconst 1, 1) := by decide +kernel
theorem dX2_undo_49 : decode cX2_undo 49 = .ok (.isub, 1) := by decide +kernel
theorem dX2_undo_50 : decode cX2_undo 50 = .ok (.putfield 95, 3) := by decide +kernel
theorem dX2_undo_53 : decode cX2_undo 53 = .ok (.iload_n 2, 1) := by decide +kernel
theorem dX2_undo_54 : decode cX2_undo 54 = .ok (.ireturn, 1) := by decide +kernel
theorem dX2_checksum_0 : decode cX2_checksum 0 = .ok (.ldc2_w 109, 3) := by decide +kernel
theorem dX2_checksum_3 : decode cX2_checksum 3 = .ok (.lstore_n 2, 1) := by decide +kernel
theorem dX2_checksum_4 : decode cX2_checksum 4 = .ok (.iconst 0, 1) := by decide +kernel
theorem dX2_checksum_5 : decode cX2_checksum 5 = .ok (.istore 4, 2) := by decide +kernel
theorem dX2_checksum_7 : decode cX2_checksum 7 = .ok (.iload 4, 2) := by decide +kernel
theorem dX2_checksum_9 : decode cX2_checksum 9 = .ok (.aload_n 0, 1) := by decide +kernel
theorem dX2_checksum_10 : decode cX2_checksum 10 = .ok (.getfield 29, 3) := by decide +kernel
theorem dX2_checksum_13 : decode cX2_checksum 13 = .ok (.if_icmp .ge 43, 3) := by decide +kernel
theorem dX2_checksum_16 : decode cX2_checksum 16 = .ok (.lload_n 2, 1) := by decide +kernel
theorem dX2_checksum_17 : decode cX2_checksum 17 = .ok (.iload_n 1, 1) := by decide +kernel
theorem dX2_checksum_18 : decode cX2_checksum 18 = .ok (.ifCond .eq 16, 3) := by decide +kernel
theorem dX2_checksum_21 : decode cX2_checksum 21 = .ok (.aload_n 0, 1) := by decide +kernel
theorem dX2_checksum_22 : decode cX2_checksum 22 = .ok (.getfield 17, 3) := by decide +kernel
theorem dX2_checksum_25 : decode cX2_checksum 25 = .ok (.iload 4, 2) := by decide +kernel
theorem dX2_checksum_27 : decode cX2_checksum 27 = .ok (.aaload, 1) := by decide +kernel
theorem dX2_checksum_28 : decode cX2_checksum 28 = .ok (.getfield 41, 3) := by decide +kernel
theorem dX2_checksum_31 : decode cX2_checksum 31 = .ok (.goto 13, 3) := by decide +kernel
theorem dX2_checksum_34 : decode cX2_checksum 34 = .ok (.aload_n 0, 1) := by decide +kernel
theorem dX2_checksum_35 : decode cX2_checksum 35 = .ok (.getfield 17, 3) := by decide +kernel
theorem dX2_checksum_38 : decode cX2_checksum 38 = .ok (.iload 4, 2) := by decide +kernel
theorem dX2_checksum_40 : decode cX2_checksum 40 = .ok (.aaload, 1) := by decide +kernel
theorem dX2_checksum_41 : decode cX2_checksum 41 = .ok (.getfield 78, 3) := by decide +kernel
theorem dX2_checksum_44 : decode cX2_checksum 44 = .ok (.lxor, 1) := by decide +kernel
theorem dX2_checksum_45 : decode cX2_checksum 45 = .ok (.ldc2_w 111, 3) := by decide +kernel
theorem dX2_checksum_48 : decode cX2_checksum 48 = .ok (.lmul, 1) := by decide +kernel
theorem dX2_checksum_49 : decode cX2_checksum 49 = .ok (.lstore_n 2, 1) := by decide +kernel
theorem dX2_checksum_50 : decode cX2_checksum 50 = .ok (.iinc 4 1, 3) := by decide +kernel
theorem dX2_checksum_53 : decode cX2_checksum 53 = .ok (.goto (-46), 3) := by decide +kernel
theorem dX2_checksum_56 : decode cX2_checksum 56 = .ok (.lload_n 2, 1) := by decide +kernel
theorem dX2_checksum_57 : decode cX2_checksum 57 = .ok (.lreturn, 1) := by decide +kernel
theorem dX3_init_0 : decode cX3_init 0 = .ok (.aload_n 0, 1) := by decide +kernel
theorem dX3_init_1 : decode cX3_init 1 = .ok (.invokespecial 3, 3) := by decide +kernel
theorem dX3_init_4 : decode cX3_init 4 = .ok (.return_, 1) := by decide +kernel
theorem dX3_begin_0 : decode cX3_begin 0 = .ok (.aload_n 0, 1) := by decide +kernel
theorem dX3_begin_1 : decode cX3_begin 1 = .ok (.iload_n 1, 1) := by decide +kernel
theorem dX3_begin_2 : decode cX3_begin 2 = .ok (.putfield 9, 3) := by decide +kernel
theorem dX3_begin_5 : decode cX3_begin 5 = .ok (.aload_n 0, 1) := by decide +kernel
theorem dX3_begin_6 : decode cX3_begin 6 = .ok (.iload_n 2, 1) := by decide +kernel
theorem dX3_begin_7 : decode cX3_begin 7 = .ok (.putfield 15, 3) := by decide +kernel
theorem dX3_begin_10 : decode cX3_begin 10 = .ok (.aload_n 0, 1) := by decide +kernel
theorem dX3_begin_11 : decode cX3_begin 11 = .ok (.iload_n 3, 1) := by decide +kernel
theorem dX3_begin_12 : decode cX3_begin 12 = .ok (.putfield 18, 3) := by decide +kernel
theorem dX3_begin_15 : decode cX3_begin 15 = .ok (.aload_n 0, 1) := by decide +kernel
theorem dX3_begin_16 : decode cX3_begin 16 = .ok (.lload 4, 2) := by decide +kernel
theorem dX3_begin_18 : decode cX3_begin 18 = .ok (.putfield 21, 3) := by decide +kernel
theorem dX3_begin_21 : decode cX3_begin 21 = .ok (.aload_n 0, 1) := by decide +kernel
theorem dX3_begin_22 : decode cX3_begin 22 = .ok (.lload 4, 2) := by decide +kernel
theorem dX3_begin_24 : decode cX3_begin 24 = .ok (.putfield 25, 3) := by decide +kernel
theorem dX3_begin_27 : decode cX3_begin 27 = .ok (.aload_n 0, 1) := by decide +kernel
theorem dX3_begin_28 : decode cX3_begin 28 = .ok (.iconst 0, 1) := by decide +kernel
theorem dX3_begin_29 : decode cX3_begin 29 = .ok (.putfield 28, 3) := by decide +kernel
theorem dX3_begin_32 : decode cX3_begin 32 = .ok (.aload_n 0, 1) := by decide +kernel
theorem dX3_begin_33 : decode cX3_begin 33 = .ok (.iconst 0, 1) := by decide +kernel
theorem dX3_begin_34 : decode cX3_begin 34 = .ok (.putfield 32, 3) := by decide +kernel
theorem dX3_begin_37 : decode cX3_begin 37 = .ok (.aload_n 0, 1) := by decide +kernel
theorem dX3_begin_38 : decode cX3_begin 38 = .ok (.iconst (-1), 1) := by decide +kernel
theorem dX3_begin_39 : decode cX3_begin 39 = .ok (.putfield 35, 3) := by decide +kernel
theorem dX3_begin_42 : decode cX3_begin 42 = .ok (.return_, 1) := by decide +kernel
theorem dX3_isGap_0 : decode cX3_isGap 0 = .ok (.aload_n 0, 1) := by decide +kernel
theorem dX3_isGap_1 : decode cX3_isGap 1 = .ok (.getfield 15, 3) := by decide +kernel
theorem dX3_isGap_4 : decode cX3_isGap 4 = .ok (.iconst (-1), 1) := by decide +kernel
theorem dX3_isGap_5 : decode cX3_isGap 5 = .ok (.if_icmp .ne 7, 3) := by decide +kernel
theorem dX3_isGap_8 : decode cX3_isGap 8 = .ok (.iconst 1, 1) := by decide +kernel
theorem dX3_isGap_9 : decode cX3_isGap 9 = .ok (.goto 4, 3) := by decide +kernel
theorem dX3_isGap_12 : decode cX3_isGap 12 = .ok (.iconst 0, 1) := by decide +kernel
theorem dX3_isGap_13 : decode cX3_isGap 13 = .ok (.ireturn, 1) := by decide +kernel
theorem dX3_mayBeMended_0 : decode cX3_mayBeMended 0 = .ok (.aload_n 0, 1) := by decide +kernel
theorem dX3_mayBeMended_1 : decode cX3_mayBeMended 1 = .ok (.getfield 28, 3) := by decide +kernel
theorem dX3_mayBeMended_4 : decode cX3_mayBeMended 4 = .ok (.ifCond .ne 14, 3) := by decide +kernel
theorem dX3_mayBeMended_7 : decode cX3_mayBeMended 7 = .ok (.aload_n 0, 1) := by decide +kernel
theorem dX3_mayBeMended_8 : decode cX3_mayBeMended 8 = .ok (.invokevirtual 38, 3) := by decide +kernel
theorem dX3_mayBeMended_11 : decode cX3_mayBeMended 11 = .ok (.ifCond .ne 7, 3) := by decide +kernel
theorem dX3_mayBeMended_14 : decode cX3_mayBeMended 14 = .ok (.iconst 1, 1) := by decide +kernel
theorem dX3_mayBeMended_15 : decode cX3_mayBeMended 15 = .ok (.goto 4, 3) := by decide +kernel
theorem dX3_mayBeMended_18 : decode cX3_mayBeMended 18 = .ok (.iconst 0, 1) := by decide +kernel
theorem dX3_mayBeMended_19 : decode cX3_mayBeMended 19 = .ok (.ireturn, 1) := by decide +kernel
theorem dX4_init_0 : decode cX4_init 0 = .ok (.aload_n 0, 1) := by decide +kernel
theorem dX4_init_1 : decode cX4_init 1 = .ok (.invokespecial 3, 3) := by decide +kernel
theorem dX4_init_4 : decode cX4_init 4 = .ok (.return_, 1) := by decide +kernel
theorem dX4_mended_0 : decode cX4_mended 0 = .ok (.lload_n 1, 1) := by decide +kernel
theorem dX4_mended_1 : decode cX4_mended 1 = .ok (.invokestatic 9, 3) := by decide +kernel
theorem dX4_mended_4 : decode cX4_mended 4 = .ok (.lload 5, 2) := by decide +kernel
theorem dX4_mended_6 : decode cX4_mended 6 = .ok (.invokestatic 9, 3) := by decide +kernel
theorem dX4_mended_9 : decode cX4_mended 9 = .ok (.iadd, 1) := by decide +kernel
theorem dX4_mended_10 : decode cX4_mended 10 = .ok (.iconst 2, 1) := by decide +kernel
theorem dX4_mended_11 : decode cX4_mended 11 = .ok (.idiv, 1) := by decide +kernel
theorem dX4_mended_12 : decode cX4_mended 12 = .ok (.istore 7, 2) := by decide +kernel
theorem dX4_mended_14 : decode cX4_mended 14 = .ok (.iload 7, 2) := by decide +kernel
theorem dX4_mended_16 : decode cX4_mended 16 = .ok (.lload_n 3, 1) := by decide +kernel
theorem dX4_mended_17 : decode cX4_mended 17 = .ok (.invokestatic 9, 3) := by decide +kernel
theorem dX4_mended_20 : decode cX4_mended 20 = .ok (.isub, 1) := by decide +kernel
theorem dX4_mended_21 : decode cX4_mended 21 = .ok (.bipush 8, 2) := by decide +kernel
theorem dX4_mended_23 : decode cX4_mended 23 = .ok (.idiv, 1) := by decide +kernel
theorem dX4_mended_24 : decode cX4_mended 24 = .ok (.istore 8, 2) := by decide +kernel
theorem dX4_mended_26 : decode cX4_mended 26 = .ok (.lload_n 3, 1) := by decide +kernel
theorem dX4_mended_27 : decode cX4_mended 27 = .ok (.lstore 9, 2) := by decide +kernel
theorem dX4_mended_29 : decode cX4_mended 29 = .ok (.iconst 0, 1) := by decide +kernel
theorem dX4_mended_30 : decode cX4_mended 30 = .ok (.istore 11, 2) := by decide +kernel
theorem dX4_mended_32 : decode cX4_mended 32 = .ok (.iload 11, 2) := by decide +kernel
theorem dX4_mended_34 : decode cX4_mended 34 = .ok (.bipush 8, 2) := by decide +kernel
theorem dX4_mended_36 : decode cX4_mended 36 = .ok (.if_icmp .ge 41, 3) := by decide +kernel
theorem dX4_mended_39 : decode cX4_mended 39 = .ok (.iconst 0, 1) := by decide +kernel
theorem dX4_mended_40 : decode cX4_mended 40 = .ok (.sipush 255, 3) := by decide +kernel
theorem dX4_mended_43 : decode cX4_mended 43 = .ok (.lload_n 3, 1) := by decide +kernel
theorem dX4_mended_44 : decode cX4_mended 44 = .ok (.iload 11, 2) := by decide +kernel
theorem dX4_mended_46 : decode cX4_mended 46 = .ok (.invokestatic 15, 3) := by decide +kernel
theorem dX4_mended_49 : decode cX4_mended 49 = .ok (.iload 8, 2) := by decide +kernel
theorem dX4_mended_51 : decode cX4_mended 51 = .ok (.iadd, 1) := by decide +kernel
theorem dX4_mended_52 : decode cX4_mended 52 = .ok (.invokestatic 19, 3) := by decide +kernel
theorem dX4_mended_55 : decode cX4_mended 55 = .ok (.invokestatic 25, 3) := by decide +kernel
theorem dX4_mended_58 : decode cX4_mended 58 = .ok (.istore 12, 2) := by decide +kernel
theorem dX4_mended_60 : decode cX4_mended 60 = .ok (.lload 9, 2) := by decide +kernel
theorem dX4_mended_62 : decode cX4_mended 62 = .ok (.iload 11, 2) := by decide +kernel
theorem dX4_mended_64 : decode cX4_mended 64 = .ok (.iload 12, 2) := by decide +kernel
theorem dX4_mended_66 : decode cX4_mended 66 = .ok (.invokestatic 28, 3) := by decide +kernel
theorem dX4_mended_69 : decode cX4_mended 69 = .ok (.lstore 9, 2) := by decide +kernel
theorem dX4_mended_71 : decode cX4_mended 71 = .ok (.iinc 11 1, 3) := by decide +kernel
theorem dX4_mended_74 : decode cX4_mended 74 = .ok (.goto (-42), 3) := by decide +kernel
theorem dX4_mended_77 : decode cX4_mended 77 = .ok (.lload 9, 2) := by decide +kernel
theorem dX4_mended_79 : decode cX4_mended 79 = .ok (.lreturn, 1) := by decide +kernel
theorem dX5_init_0 : decode cX5_init 0 = .ok (.aload_n 0, 1) := by decide +kernel
theorem dX5_init_1 : decode cX5_init 1 = .ok (.invokespecial 1, 3) := by decide +kernel
theorem dX5_init_4 : decode cX5_init 4 = .ok (.return_, 1) := by decide +kernel
theorem dX6_init_0 : decode cX6_init 0 = .ok (.aload_n 0, 1) := by decide +kernel
theorem dX6_init_1 : decode cX6_init 1 = .ok (.invokespecial 3, 3) := by decide +kernel
theorem dX6_init_4 : decode cX6_init 4 = .ok (.aload_n 0, 1) := by decide +kernel
theorem dX6_init_5 : decode cX6_init 5 = .ok (.bipush 61, 2) := by decide +kernel
theorem dX6_init_7 : decode cX6_init 7 = .ok (.bipush 61, 2) := by decide +kernel
theorem dX6_init_9 : decode cX6_init 9 = .ok (.multianewarray 9 2, 4) := by decide +kernel
theorem dX6_init_13 : decode cX6_init 13 = .ok (.putfield 11, 3) := by decide +kernel
theorem dX6_init_16 : decode cX6_init 16 = .ok (.return_, 1) := by decide +kernel
theorem dX6_mostPairs_0 : decode cX6_mostPairs 0 = .ok (.iconst 1, 1) := by decide +kernel
theorem dX6_mostPairs_1 : decode cX6_mostPairs 1 = .ok (.istore 4, 2) := by decide +kernel
theorem dX6_mostPairs_3 : decode cX6_mostPairs 3 = .ok (.iload 4, 2) := by decide +kernel
theorem dX6_mostPairs_5 : decode cX6_mostPairs 5 = .ok (.aload_n 1, 1) := by decide +kernel
theorem dX6_mostPairs_6 : decode cX6_mostPairs 6 = .ok (.getfield 16, 3) := by decide +kernel
theorem dX6_mostPairs_9 : decode cX6_mostPairs 9 = .ok (.if_icmp .gt 100, 3) := by decide +kernel
theorem dX6_mostPairs_12 : decode cX6_mostPairs 12 = .ok (.iconst 1, 1) := by decide +kernel
theorem dX6_mostPairs_13 : decode cX6_mostPairs 13 = .ok (.istore 5, 2) := by decide +kernel
theorem dX6_mostPairs_15 : decode cX6_mostPairs 15 = .ok (.iload 5, 2) := by decide +kernel
theorem dX6_mostPairs_17 : decode cX6_mostPairs 17 = .ok (.aload_n 2, 1) := by decide +kernel
theorem dX6_mostPairs_18 : decode cX6_mostPairs 18 = .ok (.getfield 16, 3) := by decide +kernel
theorem dX6_mostPairs_21 : decode cX6_mostPairs 21 = .ok (.if_icmp .gt 82, 3) := by decide +kernel
theorem dX6_mostPairs_24 : decode cX6_mostPairs 24 = .ok (.aload_n 0, 1) := by decide +kernel
theorem dX6_mostPairs_25 : decode cX6_mostPairs 25 = .ok (.getfield 11, 3) := by decide +kernel
theorem dX6_mostPairs_28 : decode cX6_mostPairs 28 = .ok (.iload 4, 2) := by decide +kernel
theorem dX6_mostPairs_30 : decode cX6_mostPairs 30 = .ok (.aaload, 1) := by decide +kernel
theorem dX6_mostPairs_31 : decode cX6_mostPairs 31 = .ok (.iload 5, 2) := by decide +kernel
theorem dX6_mostPairs_33 : decode cX6_mostPairs 33 = .ok (.aload_n 1, 1) := by decide +kernel
theorem dX6_mostPairs_34 : decode cX6_mostPairs 34 = .ok (.iload 4, 2) := by decide +kernel
theorem dX6_mostPairs_36 : decode cX6_mostPairs 36 = .ok (.iconst 1, 1) := by decide +kernel
theorem dX6_mostPairs_37 : decode cX6_mostPairs 37 = .ok (.isub, 1) := by decide +kernel
theorem dX6_mostPairs_38 : decode cX6_mostPairs 38 = .ok (.aload_n 2, 1) := by decide +kernel
theorem dX6_mostPairs_39 : decode cX6_mostPairs 39 = .ok (.iload 5, 2) := by decide +kernel
theorem dX6_mostPairs_41 : decode cX6_mostPairs 41 = .ok (.iconst 1, 1) := by decide +kernel
theorem dX6_mostPairs_42 : decode cX6_mostPairs 42 = .ok (.isub, 1) := by decide +kernel
theorem dX6_mostPairs_43 : decode cX6_mostPairs 43 = .ok (.iload_n 3, 1) := by decide +kernel
theorem dX6_mostPairs_44 : decode cX6_mostPairs 44 = .ok (.invokestatic 22, 3) := by decide +kernel
theorem dX6_mostPairs_47 : decode cX6_mostPairs 47 = .ok (.ifCond .eq 22, 3) := by decide +kernel
theorem dX6_mostPairs_50 : decode cX6_mostPairs 50 = .ok (.aload_n 0, 1) := by decide +kernel
theorem dX6_mostPairs_51 : decode cX6_mostPairs 51 = .ok (.getfield 11, 3) := by decide +kernel
theorem dX6_mostPairs_54 : decode cX6_mostPairs 54 = .ok (.iload 4, 2) := by decide +kernel
theorem dX6_mostPairs_56 : decode cX6_mostPairs 56 = .ok (.iconst 1, 1) := by decide +kernel
theorem dX6_mostPairs_57 : decode cX6_mostPairs 57 = .ok (.isub, 1) := by decide +kernel
theorem dX6_mostPairs_58 : decode cX6_mostPairs 58 = .ok (.aaload, 1) := by decide +kernel
theorem dX6_mostPairs_59 : decode cX6_mostPairs 59 = .ok (.iload 5, 2) := by decide +kernel
theorem dX6_mostPairs_61 : decode cX6_mostPairs 61 = .ok (.iconst 1, 1) := by decide +kernel
theorem dX6_mostPairs_62 : decode cX6_mostPairs 62 = .ok (.isub, 1) := by decide +kernel
theorem dX6_mostPairs_63 : decode cX6_mostPairs 63 = .ok (.iaload, 1) := by decide +kernel
theorem dX6_mostPairs_64 : decode cX6_mostPairs 64 = .ok (.iconst 1, 1) := by decide +kernel
theorem dX6_mostPairs_65 : decode cX6_mostPairs 65 = .ok (.iadd, 1) := by decide +kernel
theorem dX6_mostPairs_66 : decode cX6_mostPairs 66 = .ok (.goto 30, 3) := by decide +kernel
theorem dX6_mostPairs_69 : decode cX6_mostPairs 69 = .ok (.aload_n 0, 1) := by decide +kernel
theorem dX6_mostPairs_70 : decode cX6_mostPairs 70 = .ok (.getfield 11, 3) := by decide +kernel
theorem dX6_mostPairs_73 : decode cX6_mostPairs 73 = .ok (.iload 4, 2) := by decide +kernel
theorem dX6_mostPairs_75 : decode cX6_mostPairs 75 = .ok (.iconst 1, 1) := by decide +kernel
theorem dX6_mostPairs_76 : decode cX6_mostPairs 76 = .ok (.isub, 1) := by decide +kernel
theorem dX6_mostPairs_77 : decode cX6_mostPairs 77 = .ok (.aaload, 1) := by decide +kernel
theorem dX6_mostPairs_78 : decode cX6_mostPairs 78 = .ok (.iload 5, 2) := by decide +kernel
theorem dX6_mostPairs_80 : decode cX6_mostPairs 80 = .ok (.iaload, 1) := by decide +kernel
theorem dX6_mostPairs_81 : decode cX6_mostPairs 81 = .ok (.aload_n 0, 1) := by decide +kernel
theorem dX6_mostPairs_82 : decode cX6_mostPairs 82 = .ok (.getfield 11, 3) := by decide +kernel
theorem dX6_mostPairs_85 : decode cX6_mostPairs 85 = .ok (.iload 4, 2) := by decide +kernel
theorem dX6_mostPairs_87 : decode cX6_mostPairs 87 = .ok (.aaload, 1) := by decide +kernel
theorem dX6_mostPairs_88 : decode cX6_mostPairs 88 = .ok (.iload 5, 2) := by decide +kernel
theorem dX6_mostPairs_90 : decode cX6_mostPairs 90 = .ok (.iconst 1, 1) := by decide +kernel
theorem dX6_mostPairs_91 : decode cX6_mostPairs 91 = .ok (.isub, 1) := by decide +kernel
theorem dX6_mostPairs_92 : decode cX6_mostPairs 92 = .ok (.iaload, 1) := by decide +kernel
theorem dX6_mostPairs_93 : decode cX6_mostPairs 93 = .ok (.invokestatic 26, 3) := by decide +kernel
theorem dX6_mostPairs_96 : decode cX6_mostPairs 96 = .ok (.iastore, 1) := by decide +kernel
theorem dX6_mostPairs_97 : decode cX6_mostPairs 97 = .ok (.iinc 5 1, 3) := by decide +kernel
theorem dX6_mostPairs_100 : decode cX6_mostPairs 100 = .ok (.goto (-85), 3) := by decide +kernel
theorem dX6_mostPairs_103 : decode cX6_mostPairs 103 = .ok (.iinc 4 1, 3) := by decide +kernel
theorem dX6_mostPairs_106 : decode cX6_mostPairs 106 = .ok (.goto (-103), 3) := by decide +kernel
theorem dX6_mostPairs_109 : decode cX6_mostPairs 109 = .ok (.aload_n 0, 1) := by decide +kernel
theorem dX6_mostPairs_110 : decode cX6_mostPairs 110 = .ok (.getfield 11, 3) := by decide +kernel
theorem dX6_mostPairs_113 : decode cX6_mostPairs 113 = .ok (.aload_n 1, 1) := by decide +kernel
theorem dX6_mostPairs_114 : decode cX6_mostPairs 114 = .ok (.getfield 16, 3) := by decide +kernel
theorem dX6_mostPairs_117 : decode cX6_mostPairs 117 = .ok (.aaload, 1) := by decide +kernel
theorem dX6_mostPairs_118 : decode cX6_mostPairs 118 = .ok (.aload_n 2, 1) := by decide +kernel
theorem dX6_mostPairs_119 : decode cX6_mostPairs 119 = .ok (.getfield 16, 3) := by decide +kernel
theorem dX6_mostPairs_122 : decode cX6_mostPairs 122 = .ok (.iaload, 1) := by decide +kernel
theorem dX6_mostPairs_123 : decode cX6_mostPairs 123 = .ok (.ireturn, 1) := by decide +kernel
theorem dX6_partner_0 : decode cX6_partner 0 = .ok (.aload_n 0, 1) := by decide +kernel
theorem dX6_partner_1 : decode cX6_partner 1 = .ok (.aload_n 1, 1) := by decide +kernel
theorem dX6_partner_2 : decode cX6_partner 2 = .ok (.aload_n 3, 1) := by decide +kernel
theorem dX6_partner_3 : decode cX6_partner 3 = .ok (.iload 4, 2) := by decide +kernel
theorem dX6_partner_5 : decode cX6_partner 5 = .ok (.invokevirtual 32, 3) := by decide +kernel
theorem dX6_partner_8 : decode cX6_partner 8 = .ok (.pop, 1) := by decide +kernel
theorem dX6_partner_9 : decode cX6_partner 9 = .ok (.aload_n 1, 1) := by decide +kernel
theorem dX6_partner_10 : decode cX6_partner 10 = .ok (.getfield 16, 3) := by decide +kernel
theorem dX6_partner_13 : decode cX6_partner 13 = .ok (.istore 5, 2) := by decide +kernel
theorem dX6_partner_15 : decode cX6_partner 15 = .ok (.aload_n 3, 1) := by decide +kernel
theorem dX6_partner_16 : decode cX6_partner 16 = .ok (.getfield 16, 3) := by decide +kernel
theorem dX6_partner_19 : decode cX6_partner 19 = .ok (.istore 6, 2) := by decide +kernel
theorem dX6_partner_21 : decode cX6_partner 21 = .ok (.iload 5, 2) := by decide +kernel
theorem dX6_partner_23 : decode cX6_partner 23 = .ok (.iload_n 2, 1) := by decide +kernel
theorem dX6_partner_24 : decode cX6_partner 24 = .ok (.if_icmp .le 85, 3) := by decide +kernel
theorem dX6_partner_27 : decode cX6_partner 27 = .ok (.iload 6, 2) := by decide +kernel
theorem dX6_partner_29 : decode cX6_partner 29 = .ok (.ifCond .le 80, 3) := by decide +kernel
theorem dX6_partner_32 : decode cX6_partner 32 = .ok (.aload_n 1, 1) := by decide +kernel
theorem dX6_partner_33 : decode cX6_partner 33 = .ok (.iload 5, 2) := by decide +kernel
theorem dX6_partner_35 : decode cX6_partner 35 = .ok (.iconst 1, 1) := by decide +kernel
theorem dX6_partner_36 : decode cX6_partner 36 = .ok (.isub, 1) := by decide +kernel
theorem dX6_partner_37 : decode cX6_partner 37 = .ok (.aload_n 3, 1) := by decide +kernel
theorem dX6_partner_38 : decode cX6_partner 38 = .ok (.iload 6, 2) := by decide +kernel
theorem dX6_partner_40 : decode cX6_partner 40 = .ok (.iconst 1, 1) := by decide +kernel
theorem dX6_partner_41 : decode cX6_partner 41 = .ok (.isub, 1) := by decide +kernel
theorem dX6_partner_42 : decode cX6_partner 42 = .ok (.iload 4, 2) := by decide +kernel
theorem dX6_partner_44 : decode cX6_partner 44 = .ok (.invokestatic 22, 3) := by decide +kernel
theorem dX6_partner_47 : decode cX6_partner 47 = .ok (.ifCond .eq 25, 3) := by decide +kernel
theorem dX6_partner_50 : decode cX6_partner 50 = .ok (.iload 5, 2) := by decide +kernel
theorem dX6_partner_52 : decode cX6_partner 52 = .ok (.iconst 1, 1) := by decide +kernel
theorem dX6_partner_53 : decode cX6_partner 53 = .ok (.isub, 1) := by decide +kernel
theorem dX6_partner_54 : decode cX6_partner 54 = .ok (.iload_n 2, 1) := by decide +kernel
theorem dX6_partner_55 : decode cX6_partner 55 = .ok (.if_icmp .ne 8, 3) := by decide +kernel
theorem dX6_partner_58 : decode cX6_partner 58 = .ok (.iload 6, 2) := by decide +kernel
theorem dX6_partner_60 : decode cX6_partner 60 = .ok (.iconst 1, 1) := by decide +kernel
theorem dX6_partner_61 : decode cX6_partner 61 = .ok (.isub, 1) := by decide +kernel
theorem dX6_partner_62 : decode cX6_partner 62 = .ok (.ireturn, 1) := by decide +kernel
theorem dX6_partner_63 : decode cX6_partner 63 = .ok (.iinc 5 (-1), 3) := by decide +kernel
theorem dX6_partner_66 : decode cX6_partner 66 = .ok (.iinc 6 (-1), 3) := by decide +kernel
theorem dX6_partner_69 : decode cX6_partner 69 = .ok (.goto (-48), 3) := by decide +kernel
theorem dX6_partner_72 : decode cX6_partner 72 = .ok (.aload_n 0, 1) := by decide +kernel
theorem dX6_partner_73 : decode cX6_partner 73 = .ok (.getfield 11, 3) := by decide +kernel
theorem dX6_partner_76 : decode cX6_partner 76 = .ok (.iload 5, 2) := by decide +kernel
theorem dX6_partner_78 : decode cX6_partner 78 = .ok (.iconst 1, 1) := by decide +kernel
theorem dX6_partner_79 : decode cX6_partner 79 = .ok (.isub, 1) := by decide +kernel
theorem dX6_partner_80 : decode cX6_partner 80 = .ok (.aaload, 1) := by decide +kernel
theorem dX6_partner_81 : decode cX6_partner 81 = .ok (.iload 6, 2) := by decide +kernel
theorem dX6_partner_83 : decode cX6_partner 83 = .ok (.iaload, 1) := by decide +kernel
theorem dX6_partner_84 : decode cX6_partner 84 = .ok (.aload_n 0, 1) := by decide +kernel
theorem dX6_partner_85 : decode cX6_partner 85 = .ok (.getfield 11, 3) := by decide +kernel
theorem dX6_partner_88 : decode cX6_partner 88 = .ok (.iload 5, 2) := by decide +kernel
theorem dX6_partner_90 : decode cX6_partner 90 = .ok (.aaload, 1) := by decide +kernel
theorem dX6_partner_91 : decode cX6_partner 91 = .ok (.iload 6, 2) := by decide +kernel
theorem dX6_partner_93 : decode cX6_partner 93 = .ok (.iaload, 1) := by decide +kernel
theorem dX6_partner_94 : decode cX6_partner 94 = .ok (.if_icmp .ne 9, 3) := by decide +kernel
theorem dX6_partner_97 : decode cX6_partner 97 = .ok (.iinc 5 (-1), 3) := by decide +kernel
theorem dX6_partner_100 : decode cX6_partner 100 = .ok (.goto (-79), 3) := by decide +kernel
theorem dX6_partner_103 : decode cX6_partner 103 = .ok (.iinc 6 (-1), 3) := by decide +kernel
theorem dX6_partner_106 : decode cX6_partner 106 = .ok (.goto (-85), 3) := by decide +kernel
theorem dX6_partner_109 : decode cX6_partner 109 = .ok (.iconst (-1), 1) := by decide +kernel
theorem dX6_partner_110 : decode cX6_partner 110 = .ok (.ireturn, 1) := by decide +kernel
theorem dX6_canPair_0 : decode cX6_canPair 0 = .ok (.aload_n 0, 1) := by decide +kernel
theorem dX6_canPair_1 : decode cX6_canPair 1 = .ok (.getfield 36, 3) := by decide +kernel
theorem dX6_canPair_4 : decode cX6_canPair 4 = .ok (.iload_n 1, 1) := by decide +kernel
theorem dX6_canPair_5 : decode cX6_canPair 5 = .ok (.laload, 1) := by decide +kernel
theorem dX6_canPair_6 : decode cX6_canPair 6 = .ok (.aload_n 2, 1) := by decide +kernel
theorem dX6_canPair_7 : decode cX6_canPair 7 = .ok (.getfield 36, 3) := by decide +kernel
theorem dX6_canPair_10 : decode cX6_canPair 10 = .ok (.iload_n 3, 1) := by decide +kernel
theorem dX6_canPair_11 : decode cX6_canPair 11 = .ok (.laload, 1) := by decide +kernel
theorem dX6_canPair_12 : decode cX6_canPair 12 = .ok (.invokestatic 40, 3) := by decide +kernel
theorem dX6_canPair_15 : decode cX6_canPair 15 = .ok (.iload 4, 2) := by decide +kernel
theorem dX6_canPair_17 : decode cX6_canPair 17 = .ok (.if_icmp .gt 7, 3) := by decide +kernel
theorem dX6_canPair_20 : decode cX6_canPair 20 = .ok (.iconst 1, 1) := by decide +kernel
theorem dX6_canPair_21 : decode cX6_canPair 21 = .ok (.goto 4, 3) := by decide +kernel
theorem dX6_canPair_24 : decode cX6_canPair 24 = .ok (.iconst 0, 1) := by decide +kernel
theorem dX6_canPair_25 : decode cX6_canPair 25 = .ok (.ireturn, 1) := by decide +kernel
theorem dX7_at_0 : decode cX7_at 0 = .ok (.lload_n 0, 1) := by decide +kernel
theorem dX7_at_1 : decode cX7_at 1 = .ok (.bipush 8, 2) := by decide +kernel
theorem dX7_at_3 : decode cX7_at 3 = .ok (.iload_n 2, 1) := by decide +kernel
theorem dX7_at_4 : decode cX7_at 4 = .ok (.imul, 1) := by decide +kernel
theorem dX7_at_5 : decode cX7_at 5 = .ok (.lushr, 1) := by decide +kernel
theorem dX7_at_6 : decode cX7_at 6 = .ok (.l2i, 1) := by decide +kernel
theorem dX7_at_7 : decode cX7_at 7 = .ok (.sipush 255, 3) := by decide +kernel
theorem dX7_at_10 : decode cX7_at 10 = .ok (.iand, 1) := by decide +kernel
theorem dX7_at_11 : decode cX7_at 11 = .ok (.ireturn, 1) := by decide +kernel
theorem dX7_with_0 : decode cX7_with 0 = .ok (.bipush 8, 2) := by decide +kernel
theorem dX7_with_2 : decode cX7_with 2 = .ok (.iload_n 2, 1) := by decide +kernel
theorem dX7_with_3 : decode cX7_with 3 = .ok (.imul, 1) := by decide +kernel
theorem dX7_with_4 : decode cX7_with 4 = .ok (.istore 4, 2) := by decide +kernel
theorem dX7_with_6 : decode cX7_with 6 = .ok (.lload_n 0, 1) := by decide +kernel
theorem dX7_with_7 : decode cX7_with 7 = .ok (.ldc2_w 9, 3) := by decide +kernel
theorem dX7_with_10 : decode cX7_with 10 = .ok (.iload 4, 2) := by decide +kernel
theorem dX7_with_12 : decode cX7_with 12 = .ok (.lshl, 1) := by decide +kernel
theorem dX7_with_13 : decode cX7_with 13 = .ok (.ldc2_w 11, 3) := by decide +kernel
theorem dX7_with_16 : decode cX7_with 16 = .ok (.lxor, 1) := by decide +kernel
theorem dX7_with_17 : decode cX7_with 17 = .ok (.land, 1) := by decide +kernel
theorem dX7_with_18 : decode cX7_with 18 = .ok (.iload_n 3, 1) := by decide +kernel
theorem dX7_with_19 : decode cX7_with 19 = .ok (.i2l, 1) := by decide +kernel
theorem dX7_with_20 : decode cX7_with 20 = .ok (.iload 4, 2) := by decide +kernel
theorem dX7_with_22 : decode cX7_with 22 = .ok (.lshl, 1) := by decide +kernel
theorem dX7_with_23 : decode cX7_with 23 = .ok (.lor, 1) := by decide +kernel
theorem dX7_with_24 : decode cX7_with 24 = .ok (.lreturn, 1) := by decide +kernel
theorem dX7_distance_0 : decode cX7_distance 0 = .ok (.iconst 0, 1) := by decide +kernel
theorem dX7_distance_1 : decode cX7_distance 1 = .ok (.istore 4, 2) := by decide +kernel
theorem dX7_distance_3 : decode cX7_distance 3 = .ok (.iconst 0, 1) := by decide +kernel
theorem dX7_distance_4 : decode cX7_distance 4 = .ok (.istore 5, 2) := by decide +kernel
theorem dX7_distance_6 : decode cX7_distance 6 = .ok (.iload 5, 2) := by decide +kernel
theorem dX7_distance_8 : decode cX7_distance 8 = .ok (.bipush 8, 2) := by decide +kernel
theorem dX7_distance_10 : decode cX7_distance 10 = .ok (.if_icmp .ge 30, 3) := by decide +kernel
theorem dX7_distance_13 : decode cX7_distance 13 = .ok (.iload 4, 2) := by decide +kernel
theorem dX7_distance_15 : decode cX7_distance 15 = .ok (.lload_n 0, 1) := by decide +kernel
theorem dX7_distance_16 : decode cX7_distance 16 = .ok (.iload 5, 2) := by decide +kernel
theorem dX7_distance_18 : decode cX7_distance 18 = .ok (.invokestatic 13, 3) := by decide +kernel
theorem dX7_distance_21 : decode cX7_distance 21 = .ok (.lload_n 2, 1) := by decide +kernel
theorem dX7_distance_22 : decode cX7_distance 22 = .ok (.iload 5, 2) := by decide +kernel
theorem dX7_distance_24 : decode cX7_distance 24 = .ok (.invokestatic 13, 3) := by decide +kernel
theorem dX7_distance_27 : decode cX7_distance 27 = .ok (.isub, 1) := by decide +kernel
theorem dX7_distance_28 : decode cX7_distance 28 = .ok (.invokestatic 19, 3) := by decide +kernel
theorem dX7_distance_31 : decode cX7_distance 31 = .ok (.iadd, 1) := by decide +kernel
theorem dX7_distance_32 : decode cX7_distance 32 = .ok (.istore 4, 2) := by decide +kernel
theorem dX7_distance_34 : decode cX7_distance 34 = .ok (.iinc 5 1, 3) := by decide +kernel
theorem dX7_distance_37 : decode cX7_distance 37 = .ok (.goto (-31), 3) := by decide +kernel
theorem dX7_distance_40 : decode cX7_distance 40 = .ok (.iload 4, 2) := by decide +kernel
theorem dX7_distance_42 : decode cX7_distance 42 = .ok (.ireturn, 1) := by decide +kernel
theorem dX7_unlike_0 : decode cX7_unlike 0 = .ok (.iconst 0, 1) := by decide +kernel
theorem dX7_unlike_1 : decode cX7_unlike 1 = .ok (.istore 4, 2) := by decide +kernel
theorem dX7_unlike_3 : decode cX7_unlike 3 = .ok (.iconst 0, 1) := by decide +kernel
theorem dX7_unlike_4 : decode cX7_unlike 4 = .ok (.istore 5, 2) := by decide +kernel
theorem dX7_unlike_6 : decode cX7_unlike 6 = .ok (.iload 5, 2) := by decide +kernel
theorem dX7_unlike_8 : decode cX7_unlike 8 = .ok (.bipush 8, 2) := by decide +kernel
theorem dX7_unlike_10 : decode cX7_unlike 10 = .ok (.if_icmp .ge 27, 3) := by decide +kernel
theorem dX7_unlike_13 : decode cX7_unlike 13 = .ok (.lload_n 0, 1) := by decide +kernel
theorem dX7_unlike_14 : decode cX7_unlike 14 = .ok (.iload 5, 2) := by decide +kernel
theorem dX7_unlike_16 : decode cX7_unlike 16 = .ok (.invokestatic 13, 3) := by decide +kernel
theorem dX7_unlike_19 : decode cX7_unlike 19 = .ok (.lload_n 2, 1) := by decide +kernel
theorem dX7_unlike_20 : decode cX7_unlike 20 = .ok (.iload 5, 2) := by decide +kernel
theorem dX7_unlike_22 : decode cX7_unlike 22 = .ok (.invokestatic 13, 3) := by decide +kernel
theorem dX7_unlike_25 : decode cX7_unlike 25 = .ok (.if_icmp .eq 6, 3) := by decide +kernel
theorem dX7_unlike_28 : decode cX7_unlike 28 = .ok (.iinc 4 1, 3) := by decide +kernel
theorem dX7_unlike_31 : decode cX7_unlike 31 = .ok (.iinc 5 1, 3) := by decide +kernel
theorem dX7_unlike_34 : decode cX7_unlike 34 = .ok (.goto (-28), 3) := by decide +kernel
theorem dX7_unlike_37 : decode cX7_unlike 37 = .ok (.iload 4, 2) := by decide +kernel
theorem dX7_unlike_39 : decode cX7_unlike 39 = .ok (.ireturn, 1) := by decide +kernel
theorem dX7_total_0 : decode cX7_total 0 = .ok (.iconst 0, 1) := by decide +kernel
theorem dX7_total_1 : decode cX7_total 1 = .ok (.istore_n 2, 1) := by decide +kernel
theorem dX7_total_2 : decode cX7_total 2 = .ok (.iconst 0, 1) := by decide +kernel
theorem dX7_total_3 : decode cX7_total 3 = .ok (.istore_n 3, 1) := by decide +kernel
theorem dX7_total_4 : decode cX7_total 4 = .ok (.iload_n 3, 1) := by decide +kernel
theorem dX7_total_5 : decode cX7_total 5 = .ok (.bipush 8, 2) := by decide +kernel
theorem dX7_total_7 : decode cX7_total 7 = .ok (.if_icmp .ge 17, 3) := by decide +kernel
theorem dX7_total_10 : decode cX7_total 10 = .ok (.iload_n 2, 1) := by decide +kernel
theorem dX7_total_11 : decode cX7_total 11 = .ok (.lload_n 0, 1) := by decide +kernel
theorem dX7_total_12 : decode cX7_total 12 = .ok (.iload_n 3, 1) := by decide +kernel
theorem dX7_total_13 : decode cX7_total 13 = .ok (.invokestatic 13, 3) := by decide +kernel
theorem dX7_total_16 : decode cX7_total 16 = .ok (.iadd, 1) := by decide +kernel
theorem dX7_total_17 : decode cX7_total 17 = .ok (.istore_n 2, 1) := by decide +kernel
theorem dX7_total_18 : decode cX7_total 18 = .ok (.iinc 3 1, 3) := by decide +kernel
theorem dX7_total_21 : decode cX7_total 21 = .ok (.goto (-17), 3) := by decide +kernel
theorem dX7_total_24 : decode cX7_total 24 = .ok (.iload_n 2, 1) := by decide +kernel
theorem dX7_total_25 : decode cX7_total 25 = .ok (.ireturn, 1) := by decide +kernel
theorem dX8_init_0 : decode cX8_init 0 = .ok (.aload_n 0, 1) := by decide +kernel
theorem dX8_init_1 : decode cX8_init 1 = .ok (.invokespecial 3, 3) := by decide +kernel
theorem dX8_init_4 : decode cX8_init 4 = .ok (.aload_n 0, 1) := by decide +kernel
theorem dX8_init_5 : decode cX8_init 5 = .ok (.bipush 60, 2) := by decide +kernel
theorem dX8_init_7 : decode cX8_init 7 = .ok (.newarray .int, 2) := by decide +kernel
theorem dX8_init_9 : decode cX8_init 9 = .ok (.putfield 9, 3) := by decide +kernel
theorem dX8_init_12 : decode cX8_init 12 = .ok (.aload_n 0, 1) := by decide +kernel
theorem dX8_init_13 : decode cX8_init 13 = .ok (.bipush 60, 2) := by decide +kernel
theorem dX8_init_15 : decode cX8_init 15 = .ok (.newarray .long, 2) := by decide +kernel
theorem dX8_init_17 : decode cX8_init 17 = .ok (.putfield 15, 3) := by decide +kernel
theorem dX8_init_20 : decode cX8_init 20 = .ok (.aload_n 0, 1) := by decide +kernel
theorem dX8_init_21 : decode cX8_init 21 = .ok (.bipush 60, 2) := by decide +kernel
theorem dX8_init_23 : decode cX8_init 23 = .ok (.newarray .boolean, 2) := by decide +kernel
theorem dX8_init_25 : decode cX8_init 25 = .ok (.putfield 19, 3) := by decide +kernel
theorem dX8_init_28 : decode cX8_init 28 = .ok (.aload_n 0, 1) := by decide +kernel
theorem dX8_init_29 : decode cX8_init 29 = .ok (.sipush 1000, 3) := by decide +kernel
theorem dX8_init_32 : decode cX8_init 32 = .ok (.newarray .int, 2) := by decide +kernel
theorem dX8_init_34 : decode cX8_init 34 = .ok (.putfield 23, 3) := by decide +kernel
theorem dX8_init_37 : decode cX8_init 37 = .ok (.aload_n 0, 1) := by decide +kernel
theorem dX8_init_38 : decode cX8_init 38 = .ok (.sipush 1000, 3) := by decide +kernel
theorem dX8_init_41 : decode cX8_init 41 = .ok (.newarray .boolean, 2) := by decide +kernel
theorem dX8_init_43 : decode cX8_init 43 = .ok (.putfield 26, 3) := by decide +kernel
theorem dX8_init_46 : decode cX8_init 46 = .ok (.return_, 1) := by decide +kernel
theorem dX8_begin_0 : decode cX8_begin 0 = .ok (.aload_n 0, 1) := by decide +kernel
theorem dX8_begin_1 : decode cX8_begin 1 = .ok (.iload_n 1, 1) := by decide +kernel
theorem dX8_begin_2 : decode cX8_begin 2 = .ok (.putfield 29, 3) := by decide +kernel
theorem dX8_begin_5 : decode cX8_begin 5 = .ok (.aload_n 0, 1) := by decide +kernel
theorem dX8_begin_6 : decode cX8_begin 6 = .ok (.iload_n 2, 1) := by decide +kernel
theorem dX8_begin_7 : decode cX8_begin 7 = .ok (.putfield 33, 3) := by decide +kernel
theorem dX8_begin_10 : decode cX8_begin 10 = .ok (.aload_n 0, 1) := by decide +kernel
theorem dX8_begin_11 : decode cX8_begin 11 = .ok (.iload_n 3, 1) := by decide +kernel
theorem dX8_begin_12 : decode cX8_begin 12 = .ok (.putfield 36, 3) := by decide +kernel
theorem dX8_begin_15 : decode cX8_begin 15 = .ok (.aload_n 0, 1) := by decide +kernel
theorem dX8_begin_16 : decode cX8_begin 16 = .ok (.iload 4, 2) := by decide +kernel
theorem dX8_begin_18 : decode cX8_begin 18 = .ok (.putfield 39, 3) := by decide +kernel
theorem dX8_begin_21 : decode cX8_begin 21 = .ok (.aload_n 0, 1) := by decide +kernel
theorem dX8_begin_22 : decode cX8_begin 22 = .ok (.iload 5, 2) := by decide +kernel
theorem dX8_begin_24 : decode cX8_begin 24 = .ok (.putfield 42, 3) := by decide +kernel
theorem dX8_begin_27 : decode cX8_begin 27 = .ok (.aload_n 0, 1) := by decide +kernel
theorem dX8_begin_28 : decode cX8_begin 28 = .ok (.sipush 1000, 3) := by decide +kernel
theorem dX8_begin_31 : decode cX8_begin 31 = .ok (.putfield 45, 3) := by decide +kernel
theorem dX8_begin_34 : decode cX8_begin 34 = .ok (.aload_n 0, 1) := by decide +kernel
theorem dX8_begin_35 : decode cX8_begin 35 = .ok (.iconst (-1), 1) := by decide +kernel
theorem dX8_begin_36 : decode cX8_begin 36 = .ok (.putfield 48, 3) := by decide +kernel
theorem dX8_begin_39 : decode cX8_begin 39 = .ok (.aload_n 0, 1) := by decide +kernel
theorem dX8_begin_40 : decode cX8_begin 40 = .ok (.getfield 23, 3) := by decide +kernel
theorem dX8_begin_43 : decode cX8_begin 43 = .ok (.iconst (-1), 1) := by decide +kernel
theorem dX8_begin_44 : decode cX8_begin 44 = .ok (.invokestatic 51, 3) := by decide +kernel
theorem dX8_begin_47 : decode cX8_begin 47 = .ok (.return_, 1) := by decide +kernel
theorem dX8_addFrame_0 : decode cX8_addFrame 0 = .ok (.aload_n 0, 1) := by decide +kernel
theorem dX8_addFrame_1 : decode cX8_addFrame 1 = .ok (.getfield 9, 3) := by decide +kernel
theorem dX8_addFrame_4 : decode cX8_addFrame 4 = .ok (.aload_n 0, 1) := by decide +kernel
theorem dX8_addFrame_5 : decode cX8_addFrame 5 = .ok (.getfield 57, 3) := by decide +kernel
theorem dX8_addFrame_8 : decode cX8_addFrame 8 = .ok (.iload_n 1, 1) := by decide +kernel
theorem dX8_addFrame_9 : decode cX8_addFrame 9 = .ok (.iastore, 1) := by decide +kernel
theorem dX8_addFrame_10 : decode cX8_addFrame 10 = .ok (.aload_n 0, 1) := by decide +kernel
theorem dX8_addFrame_11 : decode cX8_addFrame 11 = .ok (.getfield 15, 3) := by decide +kernel
theorem dX8_addFrame_14 : decode cX8_addFrame 14 = .ok (.aload_n 0, 1) := by decide +kernel
theorem dX8_addFrame_15 : decode cX8_addFrame 15 = .ok (.getfield 57, 3) := by decide +kernel
theorem dX8_addFrame_18 : decode cX8_addFrame 18 = .ok (.lload_n 2, 1) := by decide +kernel
theorem dX8_addFrame_19 : decode cX8_addFrame 19 = .ok (.lastore, 1) := by decide +kernel
theorem dX8_addFrame_20 : decode cX8_addFrame 20 = .ok (.aload_n 0, 1) := by decide +kernel
theorem dX8_addFrame_21 : decode cX8_addFrame 21 = .ok (.getfield 23, 3) := by decide +kernel
theorem dX8_addFrame_24 : decode cX8_addFrame 24 = .ok (.iload_n 1, 1) := by decide +kernel
theorem dX8_addFrame_25 : decode cX8_addFrame 25 = .ok (.iaload, 1) := by decide +kernel
theorem dX8_addFrame_26 : decode cX8_addFrame 26 = .ok (.iconst (-1), 1) := by decide +kernel
theorem dX8_addFrame_27 : decode cX8_addFrame 27 = .ok (.if_icmp .ne 13, 3) := by decide +kernel
theorem dX8_addFrame_30 : decode cX8_addFrame 30 = .ok (.aload_n 0, 1) := by decide +kernel
theorem dX8_addFrame_31 : decode cX8_addFrame 31 = .ok (.getfield 23, 3) := by decide +kernel
theorem dX8_addFrame_34 : decode cX8_addFrame 34 = .ok (.iload_n 1, 1) := by decide +kernel
theorem dX8_addFrame_35 : decode cX8_addFrame 35 = .ok (.aload_n 0, 1) := by decide +kernel
theorem dX8_addFrame_36 : decode cX8_addFrame 36 = .ok (.getfield 57, 3) := by decide +kernel
theorem dX8_addFrame_39 : decode cX8_addFrame 39 = .ok (.iastore, 1) := by decide +kernel
theorem dX8_addFrame_40 : decode cX8_addFrame 40 = .ok (.aload_n 0, 1) := by decide +kernel
theorem dX8_addFrame_41 : decode cX8_addFrame 41 = .ok (.aload_n 0, 1) := by decide +kernel
theorem dX8_addFrame_42 : decode cX8_addFrame 42 = .ok (.getfield 45, 3) := by decide +kernel
theorem dX8_addFrame_45 : decode cX8_addFrame 45 = .ok (.iload_n 1, 1) := by decide +kernel
theorem dX8_addFrame_46 : decode cX8_addFrame 46 = .ok (.invokestatic 60, 3) := by decide +kernel
theorem dX8_addFrame_49 : decode cX8_addFrame 49 = .ok (.putfield 45, 3) := by decide +kernel
theorem dX8_addFrame_52 : decode cX8_addFrame 52 = .ok (.aload_n 0, 1) := by decide +kernel
theorem dX8_addFrame_53 : decode cX8_addFrame 53 = .ok (.aload_n 0, 1) := by decide +kernel
theorem dX8_addFrame_54 : decode cX8_addFrame 54 = .ok (.getfield 48, 3) := by decide +kernel
theorem dX8_addFrame_57 : decode cX8_addFrame 57 = .ok (.iload_n 1, 1) := by decide +kernel
theorem dX8_addFrame_58 : decode cX8_addFrame 58 = .ok (.invokestatic 66, 3) := by decide +kernel
theorem dX8_addFrame_61 : decode cX8_addFrame 61 = .ok (.putfield 48, 3) := by decide +kernel
theorem dX8_addFrame_64 : decode cX8_addFrame 64 = .ok (.aload_n 0, 1) := by decide +kernel
theorem dX8_addFrame_65 : decode cX8_addFrame 65 = .ok (.dup, 1) := by decide +kernel
theorem dX8_addFrame_66 : decode cX8_addFrame 66 = .ok (.getfield 57, 3) := by decide +kernel
theorem dX8_addFrame_69 : decode cX8_addFrame 69 = .ok (.iconst 1, 1) := by decide +kernel
theorem dX8_addFrame_70 : decode cX8_addFrame 70 = .ok (.iadd, 1) := by decide +kernel
theorem dX8_addFrame_71 : decode cX8_addFrame 71 = .ok (.putfield 57, 3) := by decide +kernel
theorem dX8_addFrame_74 : decode cX8_addFrame 74 = .ok (.return_, 1) := by decide +kernel
theorem dX8_addSplice_0 : decode cX8_addSplice 0 = .ok (.aload_n 0, 1) := by decide +kernel
theorem dX8_addSplice_1 : decode cX8_addSplice 1 = .ok (.getfield 19, 3) := by decide +kernel
theorem dX8_addSplice_4 : decode cX8_addSplice 4 = .ok (.iload_n 1, 1) := by decide +kernel
theorem dX8_addSplice_5 : decode cX8_addSplice 5 = .ok (.baload, 1) := by decide +kernel
theorem dX8_addSplice_6 : decode cX8_addSplice 6 = .ok (.ifCond .ne 32, 3) := by decide +kernel
theorem dX8_addSplice_9 : decode cX8_addSplice 9 = .ok (.aload_n 0, 1) := by decide +kernel
theorem dX8_addSplice_10 : decode cX8_addSplice 10 = .ok (.getfield 19, 3) := by decide +kernel
theorem dX8_addSplice_13 : decode cX8_addSplice 13 = .ok (.iload_n 1, 1) := by decide +kernel
theorem dX8_addSplice_14 : decode cX8_addSplice 14 = .ok (.iconst 1, 1) := by decide +kernel
theorem dX8_addSplice_15 : decode cX8_addSplice 15 = .ok (.bastore, 1) := by decide +kernel
theorem dX8_addSplice_16 : decode cX8_addSplice 16 = .ok (.aload_n 0, 1) := by decide +kernel
theorem dX8_addSplice_17 : decode cX8_addSplice 17 = .ok (.getfield 26, 3) := by decide +kernel
theorem dX8_addSplice_20 : decode cX8_addSplice 20 = .ok (.aload_n 0, 1) := by decide +kernel
theorem dX8_addSplice_21 : decode cX8_addSplice 21 = .ok (.getfield 9, 3) := by decide +kernel
theorem dX8_addSplice_24 : decode cX8_addSplice 24 = .ok (.iload_n 1, 1) := by decide +kernel
theorem dX8_addSplice_25 : decode cX8_addSplice 25 = .ok (.iaload, 1) := by decide +kernel
theorem dX8_addSplice_26 : decode cX8_addSplice 26 = .ok (.iconst 1, 1) := by decide +kernel
theorem dX8_addSplice_27 : decode cX8_addSplice 27 = .ok (.bastore, 1) := by decide +kernel
theorem dX8_addSplice_28 : decode cX8_addSplice 28 = .ok (.aload_n 0, 1) := by decide +kernel
theorem dX8_addSplice_29 : decode cX8_addSplice 29 = .ok (.dup, 1) := by decide +kernel
theorem dX8_addSplice_30 : decode cX8_addSplice 30 = .ok (.getfield 69, 3) := by decide +kernel
theorem dX8_addSplice_33 : decode cX8_addSplice 33 = .ok (.iconst 1, 1) := by decide +kernel
theorem dX8_addSplice_34 : decode cX8_addSplice 34 = .ok (.iadd, 1) := by decide +kernel
theorem dX8_addSplice_35 : decode cX8_addSplice 35 = .ok (.putfield 69, 3) := by decide +kernel
theorem dX8_addSplice_38 : decode cX8_addSplice 38 = .ok (.return_, 1) := by decide +kernel
theorem dX8_printFrom_0 : decode cX8_printFrom 0 = .ok (.iconst 0, 1) := by decide +kernel
theorem dX8_printFrom_1 : decode cX8_printFrom 1 = .ok (.istore_n 2, 1) := by decide +kernel
theorem dX8_printFrom_2 : decode cX8_printFrom 2 = .ok (.iload_n 2, 1) := by decide +kernel
theorem dX8_printFrom_3 : decode cX8_printFrom 3 = .ok (.aload_n 1, 1) := by decide +kernel
theorem dX8_printFrom_4 : decode cX8_printFrom 4 = .ok (.getfield 57, 3) := by decide +kernel
theorem dX8_printFrom_7 : decode cX8_printFrom 7 = .ok (.if_icmp .ge 39, 3) := by decide +kernel
theorem dX8_printFrom_10 : decode cX8_printFrom 10 = .ok (.aload_n 0, 1) := by decide +kernel
theorem dX8_printFrom_11 : decode cX8_printFrom 11 = .ok (.aload_n 1, 1) := by decide +kernel
theorem dX8_printFrom_12 : decode cX8_printFrom 12 = .ok (.getfield 9, 3) := by decide +kernel
theorem dX8_printFrom_15 : decode cX8_printFrom 15 = .ok (.iload_n 2, 1) := by decide +kernel
theorem dX8_printFrom_16 : decode cX8_printFrom 16 = .ok (.iaload, 1) := by decide +kernel
theorem dX8_printFrom_17 : decode cX8_printFrom 17 = .ok (.aload_n 1, 1) := by decide +kernel
theorem dX8_printFrom_18 : decode cX8_printFrom 18 = .ok (.getfield 15, 3) := by decide +kernel
theorem dX8_printFrom_21 : decode cX8_printFrom 21 = .ok (.iload_n 2, 1) := by decide +kernel
theorem dX8_printFrom_22 : decode cX8_printFrom 22 = .ok (.laload, 1) := by decide +kernel
theorem dX8_printFrom_23 : decode cX8_printFrom 23 = .ok (.invokevirtual 72, 3) := by decide +kernel
theorem dX8_printFrom_26 : decode cX8_printFrom 26 = .ok (.aload_n 1, 1) := by decide +kernel
theorem dX8_printFrom_27 : decode cX8_printFrom 27 = .ok (.getfield 19, 3) := by decide +kernel
theorem dX8_printFrom_30 : decode cX8_printFrom 30 = .ok (.iload_n 2, 1) := by decide +kernel
theorem dX8_printFrom_31 : decode cX8_printFrom 31 = .ok (.baload, 1) := by decide +kernel
theorem dX8_printFrom_32 : decode cX8_printFrom 32 = .ok (.ifCond .eq 8, 3) := by decide +kernel
theorem dX8_printFrom_35 : decode cX8_printFrom 35 = .ok (.aload_n 0, 1) := by decide +kernel
theorem dX8_printFrom_36 : decode cX8_printFrom 36 = .ok (.iload_n 2, 1) := by decide +kernel
theorem dX8_printFrom_37 : decode cX8_printFrom 37 = .ok (.invokevirtual 76, 3) := by decide +kernel
theorem dX8_printFrom_40 : decode cX8_printFrom 40 = .ok (.iinc 2 1, 3) := by decide +kernel
theorem dX8_printFrom_43 : decode cX8_printFrom 43 = .ok (.goto (-41), 3) := by decide +kernel
theorem dX8_printFrom_46 : decode cX8_printFrom 46 = .ok (.return_, 1) := by decide +kernel
theorem dX8_yearlyDecay_0 : decode cX8_yearlyDecay 0 = .ok (.aload_n 0, 1) := by decide +kernel
theorem dX8_yearlyDecay_1 : decode cX8_yearlyDecay 1 = .ok (.getfield 29, 3) := by decide +kernel
theorem dX8_yearlyDecay_4 : decode cX8_yearlyDecay 4 = .ok (.ifCond .ne 7, 3) := by decide +kernel
theorem dX8_yearlyDecay_7 : decode cX8_yearlyDecay 7 = .ok (.iconst 3, 1) := by decide +kernel
theorem dX8_yearlyDecay_8 : decode cX8_yearlyDecay 8 = .ok (.goto 4, 3) := by decide +kernel
theorem dX8_yearlyDecay_11 : decode cX8_yearlyDecay 11 = .ok (.iconst 2, 1) := by decide +kernel
theorem dX8_yearlyDecay_12 : decode cX8_yearlyDecay 12 = .ok (.istore_n 1, 1) := by decide +kernel
theorem dX8_yearlyDecay_13 : decode cX8_yearlyDecay 13 = .ok (.aload_n 0, 1) := by decide +kernel
theorem dX8_yearlyDecay_14 : decode cX8_yearlyDecay 14 = .ok (.getfield 80, 3) := by decide +kernel
theorem dX8_yearlyDecay_17 : decode cX8_yearlyDecay 17 = .ok (.ifCond .eq 13, 3) := by decide +kernel
theorem dX8_yearlyDecay_20 : decode cX8_yearlyDecay 20 = .ok (.iconst 1, 1) := by decide +kernel
theorem dX8_yearlyDecay_21 : decode cX8_yearlyDecay 21 = .ok (.iload_n 1, 1) := by decide +kernel
theorem dX8_yearlyDecay_22 : decode cX8_yearlyDecay 22 = .ok (.iconst 3, 1) := by decide +kernel
theorem dX8_yearlyDecay_23 : decode cX8_yearlyDecay 23 = .ok (.idiv, 1) := by decide +kernel
theorem dX8_yearlyDecay_24 : decode cX8_yearlyDecay 24 = .ok (.invokestatic 66, 3) := by decide +kernel
theorem dX8_yearlyDecay_27 : decode cX8_yearlyDecay 27 = .ok (.goto 4, 3) := by decide +kernel
theorem dX8_yearlyDecay_30 : decode cX8_yearlyDecay 30 = .ok (.iload_n 1, 1) := by decide +kernel
theorem dX8_yearlyDecay_31 : decode cX8_yearlyDecay 31 = .ok (.ireturn, 1) := by decide +kernel
theorem dX8_canBeRead_0 : decode cX8_canBeRead 0 = .ok (.aload_n 0, 1) := by decide +kernel
theorem dX8_canBeRead_1 : decode cX8_canBeRead 1 = .ok (.getfield 42, 3) := by decide +kernel
theorem dX8_canBeRead_4 : decode cX8_canBeRead 4 = .ok (.sipush 300, 3) := by decide +kernel
theorem dX8_canBeRead_7 : decode cX8_canBeRead 7 = .ok (.if_icmp .ge 7, 3) := by decide +kernel
theorem dX8_canBeRead_10 : decode cX8_canBeRead 10 = .ok (.iconst 1, 1) := by decide +kernel
theorem dX8_canBeRead_11 : decode cX8_canBeRead 11 = .ok (.goto 4, 3) := by decide +kernel
theorem dX8_canBeRead_14 : decode cX8_canBeRead 14 = .ok (.iconst 0, 1) := by decide +kernel
theorem dX8_canBeRead_15 : decode cX8_canBeRead 15 = .ok (.ireturn, 1) := by decide +kernel
theorem dX8_yearToCopy_0 : decode cX8_yearToCopy 0 = .ok (.aload_n 0, 1) := by decide +kernel
theorem dX8_yearToCopy_1 : decode cX8_yearToCopy 1 = .ok (.invokevirtual 84, 3) := by decide +kernel
theorem dX8_yearToCopy_4 : decode cX8_yearToCopy 4 = .ok (.istore_n 2, 1) := by decide +kernel
theorem dX8_yearToCopy_5 : decode cX8_yearToCopy 5 = .ok (.aload_n 0, 1) := by decide +kernel
theorem dX8_yearToCopy_6 : decode cX8_yearToCopy 6 = .ok (.getfield 42, 3) := by decide +kernel
theorem dX8_yearToCopy_9 : decode cX8_yearToCopy 9 = .ok (.sipush 200, 3) := by decide +kernel
theorem dX8_yearToCopy_12 : decode cX8_yearToCopy 12 = .ok (.if_icmp .ge 8, 3) := by decide +kernel
theorem dX8_yearToCopy_15 : decode cX8_yearToCopy 15 = .ok (.iload_n 2, 1) := by decide +kernel
theorem dX8_yearToCopy_16 : decode cX8_yearToCopy 16 = .ok (.iconst 1, 1) := by decide +kernel
theorem dX8_yearToCopy_17 : decode cX8_yearToCopy 17 = .ok (.if_icmp .ge 5, 3) := by decide +kernel
theorem dX8_yearToCopy_20 : decode cX8_yearToCopy 20 = .ok (.iload_n 1, 1) := by decide +kernel
theorem dX8_yearToCopy_21 : decode cX8_yearToCopy 21 = .ok (.ireturn, 1) := by decide +kernel
theorem dX8_yearToCopy_22 : decode cX8_yearToCopy 22 = .ok (.iload_n 1, 1) := by decide +kernel
theorem dX8_yearToCopy_23 : decode cX8_yearToCopy 23 = .ok (.sipush 200, 3) := by decide +kernel
theorem dX8_yearToCopy_26 : decode cX8_yearToCopy 26 = .ok (.aload_n 0, 1) := by decide +kernel
theorem dX8_yearToCopy_27 : decode cX8_yearToCopy 27 = .ok (.getfield 42, 3) := by decide +kernel
theorem dX8_yearToCopy_30 : decode cX8_yearToCopy 30 = .ok (.isub, 1) := by decide +kernel
theorem dX8_yearToCopy_31 : decode cX8_yearToCopy 31 = .ok (.iload_n 2, 1) := by decide +kernel
theorem dX8_yearToCopy_32 : decode cX8_yearToCopy 32 = .ok (.iadd, 1) := by decide +kernel
theorem dX8_yearToCopy_33 : decode cX8_yearToCopy 33 = .ok (.iconst 1, 1) := by decide +kernel
theorem dX8_yearToCopy_34 : decode cX8_yearToCopy 34 = .ok (.isub, 1) := by decide +kernel
theorem dX8_yearToCopy_35 : decode cX8_yearToCopy 35 = .ok (.iload_n 2, 1) := by decide +kernel
theorem dX8_yearToCopy_36 : decode cX8_yearToCopy 36 = .ok (.idiv, 1) := by decide +kernel
theorem dX8_yearToCopy_37 : decode cX8_yearToCopy 37 = .ok (.iadd, 1) := by decide +kernel
theorem dX8_yearToCopy_38 : decode cX8_yearToCopy 38 = .ok (.ireturn, 1) := by decide +kernel
theorem dX8_hasCode_0 : decode cX8_hasCode 0 = .ok (.aload_n 0, 1) := by decide +kernel
theorem dX8_hasCode_1 : decode cX8_hasCode 1 = .ok (.getfield 23, 3) := by decide +kernel
theorem dX8_hasCode_4 : decode cX8_hasCode 4 = .ok (.iload_n 1, 1) := by decide +kernel
theorem dX8_hasCode_5 : decode cX8_hasCode 5 = .ok (.iaload, 1) := by decide +kernel
theorem dX8_hasCode_6 : decode cX8_hasCode 6 = .ok (.iconst (-1), 1) := by decide +kernel
theorem dX8_hasCode_7 : decode cX8_hasCode 7 = .ok (.if_icmp .eq 7, 3) := by decide +kernel
theorem dX8_hasCode_10 : decode cX8_hasCode 10 = .ok (.iconst 1, 1) := by decide +kernel
theorem dX8_hasCode_11 : decode cX8_hasCode 11 = .ok (.goto 4, 3) := by decide +kernel
theorem dX8_hasCode_14 : decode cX8_hasCode 14 = .ok (.iconst 0, 1) := by decide +kernel
theorem dX8_hasCode_15 : decode cX8_hasCode 15 = .ok (.ireturn, 1) := by decide +kernel
theorem dX8_isBetterThan_0 : decode cX8_isBetterThan 0 = .ok (.aload_n 0, 1) := by decide +kernel
theorem dX8_isBetterThan_1 : decode cX8_isBetterThan 1 = .ok (.getfield 42, 3) := by decide +kernel
theorem dX8_isBetterThan_4 : decode cX8_isBetterThan 4 = .ok (.aload_n 1, 1) := by decide +kernel
theorem dX8_isBetterThan_5 : decode cX8_isBetterThan 5 = .ok (.getfield 42, 3) := by decide +kernel
theorem dX8_isBetterThan_8 : decode cX8_isBetterThan 8 = .ok (.if_icmp .lt 25, 3) := by decide +kernel
theorem dX8_isBetterThan_11 : decode cX8_isBetterThan 11 = .ok (.aload_n 0, 1) := by decide +kernel
theorem dX8_isBetterThan_12 : decode cX8_isBetterThan 12 = .ok (.getfield 42, 3) := by decide +kernel
theorem dX8_isBetterThan_15 : decode cX8_isBetterThan 15 = .ok (.aload_n 1, 1) := by decide +kernel
theorem dX8_isBetterThan_16 : decode cX8_isBetterThan 16 = .ok (.getfield 42, 3) := by decide +kernel
theorem dX8_isBetterThan_19 : decode cX8_isBetterThan 19 = .ok (.if_icmp .ne 18, 3) := by decide +kernel
theorem dX8_isBetterThan_22 : decode cX8_isBetterThan 22 = .ok (.aload_n 0, 1) := by decide +kernel
theorem dX8_isBetterThan_23 : decode cX8_isBetterThan 23 = .ok (.getfield 39, 3) := by decide +kernel
theorem dX8_isBetterThan_26 : decode cX8_isBetterThan 26 = .ok (.aload_n 1, 1) := by decide +kernel
theorem dX8_isBetterThan_27 : decode cX8_isBetterThan 27 = .ok (.getfield 39, 3) := by decide +kernel
theorem dX8_isBetterThan_30 : decode cX8_isBetterThan 30 = .ok (.if_icmp .ge 7, 3) := by decide +kernel
theorem dX8_isBetterThan_33 : decode cX8_isBetterThan 33 = .ok (.iconst 1, 1) := by decide +kernel
theorem dX8_isBetterThan_34 : decode cX8_isBetterThan 34 = .ok (.goto 4, 3) := by decide +kernel
theorem dX8_isBetterThan_37 : decode cX8_isBetterThan 37 = .ok (.iconst 0, 1) := by decide +kernel
theorem dX8_isBetterThan_38 : decode cX8_isBetterThan 38 = .ok (.ireturn, 1) := by decide +kernel
theorem dX8_jumps_0 : decode cX8_jumps 0 = .ok (.iconst 0, 1) := by decide +kernel
theorem dX8_jumps_1 : decode cX8_jumps 1 = .ok (.istore_n 1, 1) := by decide +kernel
theorem dX8_jumps_2 : decode cX8_jumps 2 = .ok (.iconst 1, 1) := by decide +kernel
theorem dX8_jumps_3 : decode cX8_jumps 3 = .ok (.istore_n 2, 1) := by decide +kernel
theorem dX8_jumps_4 : decode cX8_jumps 4 = .ok (.iload_n 2, 1) := by decide +kernel
theorem dX8_jumps_5 : decode cX8_jumps 5 = .ok (.aload_n 0, 1) := by decide +kernel
theorem dX8_jumps_6 : decode cX8_jumps 6 = .ok (.getfield 57, 3) := by decide +kernel
theorem dX8_jumps_9 : decode cX8_jumps 9 = .ok (.if_icmp .ge 31, 3) := by decide +kernel
theorem dX8_jumps_12 : decode cX8_jumps 12 = .ok (.aload_n 0, 1) := by decide +kernel
theorem dX8_jumps_13 : decode cX8_jumps 13 = .ok (.getfield 9, 3) := by decide +kernel
theorem dX8_jumps_16 : decode cX8_jumps 16 = .ok (.iload_n 2, 1) := by decide +kernel
theorem dX8_jumps_17 : decode cX8_jumps 17 = .ok (.iaload, 1) := by decide +kernel
theorem dX8_jumps_18 : decode cX8_jumps 18 = .ok (.aload_n 0, 1) := by decide +kernel
theorem dX8_jumps_19 : decode cX8_jumps 19 = .ok (.getfield 9, 3) := by decide +kernel
theorem dX8_jumps_22 : decode cX8_jumps 22 = .ok (.iload_n 2, 1) := by decide +kernel
theorem dX8_jumps_23 : decode cX8_jumps 23 = .ok (.iconst 1, 1) := by decide +kernel
theorem dX8_jumps_24 : decode cX8_jumps 24 = .ok (.isub, 1) := by decide +kernel
theorem dX8_jumps_25 : decode cX8_jumps 25 = .ok (.iaload, 1) := by decide +kernel
theorem dX8_jumps_26 : decode cX8_jumps 26 = .ok (.iconst 1, 1) := by decide +kernel
theorem dX8_jumps_27 : decode cX8_jumps 27 = .ok (.iadd, 1) := by decide +kernel
theorem dX8_jumps_28 : decode cX8_jumps 28 = .ok (.if_icmp .eq 6, 3) := by decide +kernel
theorem dX8_jumps_31 : decode cX8_jumps 31 = .ok (.iinc 1 1, 3) := by decide +kernel
theorem dX8_jumps_34 : decode cX8_jumps 34 = .ok (.iinc 2 1, 3) := by decide +kernel
theorem dX8_jumps_37 : decode cX8_jumps 37 = .ok (.goto (-33), 3) := by decide +kernel
theorem dX8_jumps_40 : decode cX8_jumps 40 = .ok (.iload_n 1, 1) := by decide +kernel
theorem dX8_jumps_41 : decode cX8_jumps 41 = .ok (.ireturn, 1) := by decide +kernel
theorem dX8_missingCodes_0 : decode cX8_missingCodes 0 = .ok (.iconst 0, 1) := by decide +kernel
theorem dX8_missingCodes_1 : decode cX8_missingCodes 1 = .ok (.istore_n 1, 1) := by decide +kernel
theorem dX8_missingCodes_2 : decode cX8_missingCodes 2 = .ok (.aload_n 0, 1) := by decide +kernel
theorem dX8_missingCodes_3 : decode cX8_missingCodes 3 = .ok (.getfield 45, 3) := by decide +kernel
theorem dX8_missingCodes_6 : decode cX8_missingCodes 6 = .ok (.istore_n 2, 1) := by decide +kernel
theorem dX8_missingCodes_7 : decode cX8_missingCodes 7 = .ok (.iload_n 2, 1) := by decide +kernel
theorem dX8_missingCodes_8 : decode cX8_missingCodes 8 = .ok (.aload_n 0, 1) := by decide +kernel
theorem dX8_missingCodes_9 : decode cX8_missingCodes 9 = .ok (.getfield 48, 3) := by decide +kernel
theorem dX8_missingCodes_12 : decode cX8_missingCodes 12 = .ok (.if_icmp .gt 20, 3) := by decide +kernel
theorem dX8_missingCodes_15 : decode cX8_missingCodes 15 = .ok (.aload_n 0, 1) := by decide +kernel
theorem dX8_missingCodes_16 : decode cX8_missingCodes 16 = .ok (.iload_n 2, 1) := by decide +kernel
theorem dX8_missingCodes_17 : decode cX8_missingCodes 17 = .ok (.invokevirtual 88, 3) := by decide +kernel
theorem dX8_missingCodes_20 : decode cX8_missingCodes 20 = .ok (.ifCond .ne 6, 3) := by decide +kernel
theorem dX8_missingCodes_23 : decode cX8_missingCodes 23 = .ok (.iinc 1 1, 3) := by decide +kernel
theorem dX8_missingCodes_26 : decode cX8_missingCodes 26 = .ok (.iinc 2 1, 3) := by decide +kernel
theorem dX8_missingCodes_29 : decode cX8_missingCodes 29 = .ok (.goto (-22), 3) := by decide +kernel
theorem dX8_missingCodes_32 : decode cX8_missingCodes 32 = .ok (.iload_n 1, 1) := by decide +kernel
theorem dX8_missingCodes_33 : decode cX8_missingCodes 33 = .ok (.ireturn, 1) := by decide +kernel
theorem dX8_isFault_0 : decode cX8_isFault 0 = .ok (.aload_n 0, 1) := by decide +kernel
theorem dX8_isFault_1 : decode cX8_isFault 1 = .ok (.getfield 26, 3) := by decide +kernel
theorem dX8_isFault_4 : decode cX8_isFault 4 = .ok (.iload_n 1, 1) := by decide +kernel
theorem dX8_isFault_5 : decode cX8_isFault 5 = .ok (.baload, 1) := by decide +kernel
theorem dX8_isFault_6 : decode cX8_isFault 6 = .ok (.ifCond .ne 27, 3) := by decide +kernel
theorem dX8_isFault_9 : decode cX8_isFault 9 = .ok (.iload_n 1, 1) := by decide +kernel
theorem dX8_isFault_10 : decode cX8_isFault 10 = .ok (.aload_n 0, 1) := by decide +kernel
theorem dX8_isFault_11 : decode cX8_isFault 11 = .ok (.getfield 45, 3) := by decide +kernel
theorem dX8_isFault_14 : decode cX8_isFault 14 = .ok (.if_icmp .le 23, 3) := by decide +kernel
theorem dX8_isFault_17 : decode cX8_isFault 17 = .ok (.iload_n 1, 1) := by decide +kernel
theorem dX8_isFault_18 : decode cX8_isFault 18 = .ok (.aload_n 0, 1) := by decide +kernel
theorem dX8_isFault_19 : decode cX8_isFault 19 = .ok (.getfield 48, 3) := by decide +kernel
theorem dX8_isFault_22 : decode cX8_isFault 22 = .ok (.if_icmp .ge 15, 3) := by decide +kernel
theorem dX8_isFault_25 : decode cX8_isFault 25 = .ok (.aload_n 0, 1) := by decide +kernel
theorem dX8_isFault_26 : decode cX8_isFault 26 = .ok (.iload_n 1, 1) := by decide +kernel
theorem dX8_isFault_27 : decode cX8_isFault 27 = .ok (.invokevirtual 88, 3) := by decide +kernel
theorem dX8_isFault_30 : decode cX8_isFault 30 = .ok (.ifCond .ne 7, 3) := by decide +kernel
theorem dX8_isFault_33 : decode cX8_isFault 33 = .ok (.iconst 1, 1) := by decide +kernel
theorem dX8_isFault_34 : decode cX8_isFault 34 = .ok (.goto 4, 3) := by decide +kernel
theorem dX8_isFault_37 : decode cX8_isFault 37 = .ok (.iconst 0, 1) := by decide +kernel
theorem dX8_isFault_38 : decode cX8_isFault 38 = .ok (.ireturn, 1) := by decide +kernel
theorem dX8_faults_0 : decode cX8_faults 0 = .ok (.iconst 0, 1) := by decide +kernel
theorem dX8_faults_1 : decode cX8_faults 1 = .ok (.istore_n 1, 1) := by decide +kernel
theorem dX8_faults_2 : decode cX8_faults 2 = .ok (.aload_n 0, 1) := by decide +kernel
theorem dX8_faults_3 : decode cX8_faults 3 = .ok (.getfield 45, 3) := by decide +kernel
theorem dX8_faults_6 : decode cX8_faults 6 = .ok (.istore_n 2, 1) := by decide +kernel
theorem dX8_faults_7 : decode cX8_faults 7 = .ok (.iload_n 2, 1) := by decide +kernel
theorem dX8_faults_8 : decode cX8_faults 8 = .ok (.aload_n 0, 1) := by decide +kernel
theorem dX8_faults_9 : decode cX8_faults 9 = .ok (.getfield 48, 3) := by decide +kernel
theorem dX8_faults_12 : decode cX8_faults 12 = .ok (.if_icmp .gt 20, 3) := by decide +kernel
theorem dX8_faults_15 : decode cX8_faults 15 = .ok (.aload_n 0, 1) := by decide +kernel
theorem dX8_faults_16 : decode cX8_faults 16 = .ok (.iload_n 2, 1) := by decide +kernel
theorem dX8_faults_17 : decode cX8_faults 17 = .ok (.invokevirtual 92, 3) := by decide +kernel
theorem dX8_faults_20 : decode cX8_faults 20 = .ok (.ifCond .eq 6, 3) := by decide +kernel
theorem dX8_faults_23 : decode cX8_faults 23 = .ok (.iinc 1 1, 3) := by decide +kernel
theorem dX8_faults_26 : decode cX8_faults 26 = .ok (.iinc 2 1, 3) := by decide +kernel
theorem dX8_faults_29 : decode cX8_faults 29 = .ok (.goto (-22), 3) := by decide +kernel
theorem dX8_faults_32 : decode cX8_faults 32 = .ok (.iload_n 1, 1) := by decide +kernel
theorem dX8_faults_33 : decode cX8_faults 33 = .ok (.ireturn, 1) := by decide +kernel
theorem dX8_hasFaultsOf_0 : decode cX8_hasFaultsOf 0 = .ok (.aload_n 1, 1) := by decide +kernel
theorem dX8_hasFaultsOf_1 : decode cX8_hasFaultsOf 1 = .ok (.getfield 45, 3) := by decide +kernel
theorem dX8_hasFaultsOf_4 : decode cX8_hasFaultsOf 4 = .ok (.istore_n 2, 1) := by decide +kernel
theorem dX8_hasFaultsOf_5 : decode cX8_hasFaultsOf 5 = .ok (.iload_n 2, 1) := by decide +kernel
theorem dX8_hasFaultsOf_6 : decode cX8_hasFaultsOf 6 = .ok (.aload_n 1, 1) := by decide +kernel
theorem dX8_hasFaultsOf_7 : decode cX8_hasFaultsOf 7 = .ok (.getfield 48, 3) := by decide +kernel
theorem dX8_hasFaultsOf_10 : decode cX8_hasFaultsOf 10 = .ok (.if_icmp .gt 27, 3) := by decide +kernel
theorem dX8_hasFaultsOf_13 : decode cX8_hasFaultsOf 13 = .ok (.aload_n 1, 1) := by decide +kernel
theorem dX8_hasFaultsOf_14 : decode cX8_hasFaultsOf 14 = .ok (.iload_n 2, 1) := by decide +kernel
theorem dX8_hasFaultsOf_15 : decode cX8_hasFaultsOf 15 = .ok (.invokevirtual 92, 3) := by decide +kernel
theorem dX8_hasFaultsOf_18 : decode cX8_hasFaultsOf 18 = .ok (.ifCond .eq 13, 3) := by decide +kernel
theorem dX8_hasFaultsOf_21 : decode cX8_hasFaultsOf 21 = .ok (.aload_n 0, 1) := by decide +kernel
theorem dX8_hasFaultsOf_22 : decode cX8_hasFaultsOf 22 = .ok (.iload_n 2, 1) := by decide +kernel
theorem dX8_hasFaultsOf_23 : decode cX8_hasFaultsOf 23 = .ok (.invokevirtual 92, 3) := by decide +kernel
theorem dX8_hasFaultsOf_26 : decode cX8_hasFaultsOf 26 = .ok (.ifCond .ne 5, 3) := by decide +kernel
theorem dX8_hasFaultsOf_29 : decode cX8_hasFaultsOf 29 = .ok (.iconst 0, 1) := by decide +kernel
theorem dX8_hasFaultsOf_30 : decode cX8_hasFaultsOf 30 = .ok (.ireturn, 1) := by decide +kernel
theorem dX8_hasFaultsOf_31 : decode cX8_hasFaultsOf 31 = .ok (.iinc 2 1, 3) := by decide +kernel
theorem dX8_hasFaultsOf_34 : decode cX8_hasFaultsOf 34 = .ok (.goto (-29), 3) := by decide +kernel
theorem dX8_hasFaultsOf_37 : decode cX8_hasFaultsOf 37 = .ok (.iconst 1, 1) := by decide +kernel
theorem dX8_hasFaultsOf_38 : decode cX8_hasFaultsOf 38 = .ok (.ireturn, 1) := by decide +kernel
theorem dX9_init_0 : decode cX9_init 0 = .ok (.aload_n 0, 1) := by decide +kernel
theorem dX9_init_1 : decode cX9_init 1 = .ok (.invokespecial 3, 3) := by decide +kernel
theorem dX9_init_4 : decode cX9_init 4 = .ok (.aload_n 0, 1) := by decide +kernel
theorem dX9_init_5 : decode cX9_init 5 = .ok (.bipush 100, 2) := by decide +kernel
theorem dX9_init_7 : decode cX9_init 7 = .ok (.newarray .int, 2) := by decide +kernel
theorem dX9_init_9 : decode cX9_init 9 = .ok (.putfield 9, 3) := by decide +kernel
theorem dX9_init_12 : decode cX9_init 12 = .ok (.aload_n 0, 1) := by decide +kernel
theorem dX9_init_13 : decode cX9_init 13 = .ok (.bipush 100, 2) := by decide +kernel
theorem dX9_init_15 : decode cX9_init 15 = .ok (.newarray .int, 2) := by decide +kernel
theorem dX9_init_17 : decode cX9_init 17 = .ok (.putfield 15, 3) := by decide +kernel
theorem dX9_init_20 : decode cX9_init 20 = .ok (.aload_n 0, 1) := by decide +kernel
theorem dX9_init_21 : decode cX9_init 21 = .ok (.bipush 10, 2) := by decide +kernel
theorem dX9_init_23 : decode cX9_init 23 = .ok (.newarray .int, 2) := by decide +kernel
theorem dX9_init_25 : decode cX9_init 25 = .ok (.putfield 18, 3) := by decide +kernel
theorem dX9_init_28 : decode cX9_init 28 = .ok (.return_, 1) := by decide +kernel
theorem dX9_add_0 : decode cX9_add 0 = .ok (.aload_n 0, 1) := by decide +kernel
theorem dX9_add_1 : decode cX9_add 1 = .ok (.getfield 9, 3) := by decide +kernel
theorem dX9_add_4 : decode cX9_add 4 = .ok (.aload_n 0, 1) := by decide +kernel
theorem dX9_add_5 : decode cX9_add 5 = .ok (.getfield 21, 3) := by decide +kernel
theorem dX9_add_8 : decode cX9_add 8 = .ok (.iload_n 1, 1) := by decide +kernel
theorem dX9_add_9 : decode cX9_add 9 = .ok (.iastore, 1) := by decide +kernel
theorem dX9_add_10 : decode cX9_add 10 = .ok (.aload_n 0, 1) := by decide +kernel
theorem dX9_add_11 : decode cX9_add 11 = .ok (.getfield 15, 3) := by decide +kernel
theorem dX9_add_14 : decode cX9_add 14 = .ok (.aload_n 0, 1) := by decide +kernel
theorem dX9_add_15 : decode cX9_add 15 = .ok (.getfield 21, 3) := by decide +kernel
theorem dX9_add_18 : decode cX9_add 18 = .ok (.iload_n 2, 1) := by decide +kernel
theorem dX9_add_19 : decode cX9_add 19 = .ok (.iastore, 1) := by decide +kernel
theorem dX9_add_20 : decode cX9_add 20 = .ok (.aload_n 0, 1) := by decide +kernel
theorem dX9_add_21 : decode cX9_add 21 = .ok (.dup, 1) := by decide +kernel
theorem dX9_add_22 : decode cX9_add 22 = .ok (.getfield 21, 3) := by decide +kernel
theorem dX9_add_25 : decode cX9_add 25 = .ok (.iconst 1, 1) := by decide +kernel
theorem dX9_add_26 : decode cX9_add 26 = .ok (.iadd, 1) := by decide +kernel
theorem dX9_add_27 : decode cX9_add 27 = .ok (.putfield 21, 3) := by decide +kernel
theorem dX9_add_30 : decode cX9_add 30 = .ok (.return_, 1) := by decide +kernel
theorem dX9_withCode_0 : decode cX9_withCode 0 = .ok (.iconst 0, 1) := by decide +kernel
theorem dX9_withCode_1 : decode cX9_withCode 1 = .ok (.istore_n 2, 1) := by decide +kernel
theorem dX9_withCode_2 : decode cX9_withCode 2 = .ok (.iconst 0, 1) := by decide +kernel
theorem dX9_withCode_3 : decode cX9_withCode 3 = .ok (.istore_n 3, 1) := by decide +kernel
theorem dX9_withCode_4 : decode cX9_withCode 4 = .ok (.iload_n 3, 1) := by decide +kernel
theorem dX9_withCode_5 : decode cX9_withCode 5 = .ok (.aload_n 0, 1) := by decide +kernel
theorem dX9_withCode_6 : decode cX9_withCode 6 = .ok (.getfield 21, 3) := by decide +kernel
theorem dX9_withCode_9 : decode cX9_withCode 9 = .ok (.if_icmp .ge 22, 3) := by decide +kernel
theorem dX9_withCode_12 : decode cX9_withCode 12 = .ok (.aload_n 0, 1) := by decide +kernel
theorem dX9_withCode_13 : decode cX9_withCode 13 = .ok (.getfield 9, 3) := by decide +kernel
theorem dX9_withCode_16 : decode cX9_withCode 16 = .ok (.iload_n 3, 1) := by decide +kernel
theorem dX9_withCode_17 : decode cX9_withCode 17 = .ok (.iaload, 1) := by decide +kernel
theorem dX9_withCode_18 : decode cX9_withCode 18 = .ok (.iload_n 1, 1) := by decide +kernel
theorem dX9_withCode_19 : decode cX9_withCode 19 = .ok (.if_icmp .ne 6, 3) := by decide +kernel
theorem dX9_withCode_22 : decode cX9_withCode 22 = .ok (.iinc 2 1, 3) := by decide +kernel
theorem dX9_withCode_25 : decode cX9_withCode 25 = .ok (.iinc 3 1, 3) := by decide +kernel
theorem dX9_withCode_28 : decode cX9_withCode 28 = .ok (.goto (-24), 3) := by decide +kernel
theorem dX9_withCode_31 : decode cX9_withCode 31 = .ok (.iload_n 2, 1) := by decide +kernel
theorem dX9_withCode_32 : decode cX9_withCode 32 = .ok (.ireturn, 1) := by decide +kernel
theorem dX9_tintOfCodes_0 : decode cX9_tintOfCodes 0 = .ok (.aload_n 0, 1) := by decide +kernel
theorem dX9_tintOfCodes_1 : decode cX9_tintOfCodes 1 = .ok (.getfield 18, 3) := by decide +kernel
theorem dX9_tintOfCodes_4 : decode cX9_tintOfCodes 4 = .ok (.iconst 0, 1) := by decide +kernel
theorem dX9_tintOfCodes_5 : decode cX9_tintOfCodes 5 = .ok (.invokestatic 25, 3) := by decide +kernel
theorem dX9_tintOfCodes_8 : decode cX9_tintOfCodes 8 = .ok (.iconst 0, 1) := by decide +kernel
theorem dX9_tintOfCodes_9 : decode cX9_tintOfCodes 9 = .ok (.istore_n 3, 1) := by decide +kernel
theorem dX9_tintOfCodes_10 : decode cX9_tintOfCodes 10 = .ok (.iload_n 3, 1) := by decide +kernel
theorem dX9_tintOfCodes_11 : decode cX9_tintOfCodes 11 = .ok (.aload_n 0, 1) := by decide +kernel
theorem dX9_tintOfCodes_12 : decode cX9_tintOfCodes 12 = .ok (.getfield 21, 3) := by decide +kernel
theorem dX9_tintOfCodes_15 : decode cX9_tintOfCodes 15 = .ok (.if_icmp .ge 38, 3) := by decide +kernel
theorem dX9_tintOfCodes_18 : decode cX9_tintOfCodes 18 = .ok (.aload_n 0, 1) := by decide +kernel
theorem dX9_tintOfCodes_19 : decode cX9_tintOfCodes 19 = .ok (.getfield 9, 3) := by decide +kernel
theorem dX9_tintOfCodes_22 : decode cX9_tintOfCodes 22 = .ok (.iload_n 3, 1) := by decide +kernel
theorem dX9_tintOfCodes_23 : decode cX9_tintOfCodes 23 = .ok (.iaload, 1) := by decide +kernel
theorem dX9_tintOfCodes_24 : decode cX9_tintOfCodes 24 = .ok (.iload_n 1, 1) := by decide +kernel
theorem dX9_tintOfCodes_25 : decode cX9_tintOfCodes 25 = .ok (.iload_n 2, 1) := by decide +kernel
theorem dX9_tintOfCodes_26 : decode cX9_tintOfCodes 26 = .ok (.invokestatic 31, 3) := by decide +kernel
theorem dX9_tintOfCodes_29 : decode cX9_tintOfCodes 29 = .ok (.ifCond .eq 18, 3) := by decide +kernel
theorem dX9_tintOfCodes_32 : decode cX9_tintOfCodes 32 = .ok (.aload_n 0, 1) := by decide +kernel
theorem dX9_tintOfCodes_33 : decode cX9_tintOfCodes 33 = .ok (.getfield 18, 3) := by decide +kernel
theorem dX9_tintOfCodes_36 : decode cX9_tintOfCodes 36 = .ok (.aload_n 0, 1) := by decide +kernel
theorem dX9_tintOfCodes_37 : decode cX9_tintOfCodes 37 = .ok (.getfield 15, 3) := by decide +kernel
theorem dX9_tintOfCodes_40 : decode cX9_tintOfCodes 40 = .ok (.iload_n 3, 1) := by decide +kernel
theorem dX9_tintOfCodes_41 : decode cX9_tintOfCodes 41 = .ok (.iaload, 1) := by decide +kernel
theorem dX9_tintOfCodes_42 : decode cX9_tintOfCodes 42 = .ok (.dup2, 1) := by decide +kernel
theorem dX9_tintOfCodes_43 : decode cX9_tintOfCodes 43 = .ok (.iaload, 1) := by decide +kernel
theorem dX9_tintOfCodes_44 : decode cX9_tintOfCodes 44 = .ok (.iconst 1, 1) := by decide +kernel
theorem dX9_tintOfCodes_45 : decode cX9_tintOfCodes 45 = .ok (.iadd, 1) := by decide +kernel
theorem dX9_tintOfCodes_46 : decode cX9_tintOfCodes 46 = .ok (.iastore, 1) := by decide +kernel
theorem dX9_tintOfCodes_47 : decode cX9_tintOfCodes 47 = .ok (.iinc 3 1, 3) := by decide +kernel
theorem dX9_tintOfCodes_50 : decode cX9_tintOfCodes 50 = .ok (.goto (-40), 3) := by decide +kernel
theorem dX9_tintOfCodes_53 : decode cX9_tintOfCodes 53 = .ok (.iconst (-1), 1) := by decide +kernel
theorem dX9_tintOfCodes_54 : decode cX9_tintOfCodes 54 = .ok (.istore_n 3, 1) := by decide +kernel
theorem dX9_tintOfCodes_55 : decode cX9_tintOfCodes 55 = .ok (.iconst 0, 1) := by decide +kernel
theorem dX9_tintOfCodes_56 : decode cX9_tintOfCodes 56 = .ok (.istore 4, 2) := by decide +kernel
theorem dX9_tintOfCodes_58 : decode cX9_tintOfCodes 58 = .ok (.iconst 0, 1) := by decide +kernel
theorem dX9_tintOfCodes_59 : decode cX9_tintOfCodes 59 = .ok (.istore 5, 2) := by decide +kernel
theorem dX9_tintOfCodes_61 : decode cX9_tintOfCodes 61 = .ok (.iload 5, 2) := by decide +kernel
theorem dX9_tintOfCodes_63 : decode cX9_tintOfCodes 63 = .ok (.bipush 9, 2) := by decide +kernel
theorem dX9_tintOfCodes_65 : decode cX9_tintOfCodes 65 = .ok (.if_icmp .gt 33, 3) := by decide +kernel
theorem dX9_tintOfCodes_68 : decode cX9_tintOfCodes 68 = .ok (.aload_n 0, 1) := by decide +kernel
theorem dX9_tintOfCodes_69 : decode cX9_tintOfCodes 69 = .ok (.getfield 18, 3) := by decide +kernel
theorem dX9_tintOfCodes_72 : decode cX9_tintOfCodes 72 = .ok (.iload 5, 2) := by decide +kernel
theorem dX9_tintOfCodes_74 : decode cX9_tintOfCodes 74 = .ok (.iaload, 1) := by decide +kernel
theorem dX9_tintOfCodes_75 : decode cX9_tintOfCodes 75 = .ok (.iload 4, 2) := by decide +kernel
theorem dX9_tintOfCodes_77 : decode cX9_tintOfCodes 77 = .ok (.if_icmp .le 15, 3) := by decide +kernel
theorem dX9_tintOfCodes_80 : decode cX9_tintOfCodes 80 = .ok (.iload 5, 2) := by decide +kernel
theorem dX9_tintOfCodes_82 : decode cX9_tintOfCodes 82 = .ok (.istore_n 3, 1) := by decide +kernel
theorem dX9_tintOfCodes_83 : decode cX9_tintOfCodes 83 = .ok (.aload_n 0, 1) := by decide +kernel
theorem dX9_tintOfCodes_84 : decode cX9_tintOfCodes 84 = .ok (.getfield 18, 3) := by decide +kernel
theorem dX9_tintOfCodes_87 : decode cX9_tintOfCodes 87 = .ok (.iload 5, 2) := by decide +kernel
theorem dX9_tintOfCodes_89 : decode cX9_tintOfCodes 89 = .ok (.iaload, 1) := by decide +kernel
theorem dX9_tintOfCodes_90 : decode cX9_tintOfCodes 90 = .ok (.istore 4, 2) := by decide +kernel
theorem dX9_tintOfCodes_92 : decode cX9_tintOfCodes 92 = .ok (.iinc 5 1, 3) := by decide +kernel
theorem dX9_tintOfCodes_95 : decode cX9_tintOfCodes 95 = .ok (.goto (-34), 3) := by decide +kernel
theorem dX9_tintOfCodes_98 : decode cX9_tintOfCodes 98 = .ok (.iload_n 3, 1) := by decide +kernel
theorem dX9_tintOfCodes_99 : decode cX9_tintOfCodes 99 = .ok (.ireturn, 1) := by decide +kernel
theorem dX10_init_0 : decode cX10_init 0 = .ok (.aload_n 0, 1) := by decide +kernel
theorem dX10_init_1 : decode cX10_init 1 = .ok (.invokespecial 3, 3) := by decide +kernel
theorem dX10_init_4 : decode cX10_init 4 = .ok (.aload_n 0, 1) := by decide +kernel
theorem dX10_init_5 : decode cX10_init 5 = .ok (.bipush 10, 2) := by decide +kernel
theorem dX10_init_7 : decode cX10_init 7 = .ok (.newarray .int, 2) := by decide +kernel
theorem dX10_init_9 : decode cX10_init 9 = .ok (.putfield 9, 3) := by decide +kernel
theorem dX10_init_12 : decode cX10_init 12 = .ok (.aload_n 0, 1) := by decide +kernel
theorem dX10_init_13 : decode cX10_init 13 = .ok (.bipush 10, 2) := by decide +kernel
theorem dX10_init_15 : decode cX10_init 15 = .ok (.newarray .int, 2) := by decide +kernel
theorem dX10_init_17 : decode cX10_init 17 = .ok (.putfield 15, 3) := by decide +kernel
theorem dX10_init_20 : decode cX10_init 20 = .ok (.aload_n 0, 1) := by decide +kernel
theorem dX10_init_21 : decode cX10_init 21 = .ok (.bipush 10, 2) := by decide +kernel
theorem dX10_init_23 : decode cX10_init 23 = .ok (.newarray .int, 2) := by decide +kernel
theorem dX10_init_25 : decode cX10_init 25 = .ok (.putfield 18, 3) := by decide +kernel
theorem dX10_init_28 : decode cX10_init 28 = .ok (.aload_n 0, 1) := by decide +kernel
theorem dX10_init_29 : decode cX10_init 29 = .ok (.bipush 40, 2) := by decide +kernel
theorem dX10_init_31 : decode cX10_init 31 = .ok (.newarray .int, 2) := by decide +kernel
theorem dX10_init_33 : decode cX10_init 33 = .ok (.putfield 21, 3) := by decide +kernel
theorem dX10_init_36 : decode cX10_init 36 = .ok (.aload_n 0, 1) := by decide +kernel
theorem dX10_init_37 : decode cX10_init 37 = .ok (.bipush 40, 2) := by decide +kernel
theorem dX10_init_39 : decode cX10_init 39 = .ok (.newarray .int, 2) := by decide +kernel
theorem dX10_init_41 : decode cX10_init 41 = .ok (.putfield 24, 3) := by decide +kernel
theorem dX10_init_44 : decode cX10_init 44 = .ok (.aload_n 0, 1) := by decide +kernel
theorem dX10_init_45 : decode cX10_init 45 = .ok (.bipush 40, 2) := by decide +kernel
theorem dX10_init_47 : decode cX10_init 47 = .ok (.newarray .int, 2) := by decide +kernel
theorem dX10_init_49 : decode cX10_init 49 = .ok (.putfield 27, 3) := by decide +kernel
theorem dX10_init_52 : decode cX10_init 52 = .ok (.aload_n 0, 1) := by decide +kernel
theorem dX10_init_53 : decode cX10_init 53 = .ok (.bipush 40, 2) := by decide +kernel
theorem dX10_init_55 : decode cX10_init 55 = .ok (.newarray .int, 2) := by decide +kernel
theorem dX10_init_57 : decode cX10_init 57 = .ok (.putfield 30, 3) := by decide +kernel
theorem dX10_init_60 : decode cX10_init 60 = .ok (.aload_n 0, 1) := by decide +kernel
theorem dX10_init_61 : decode cX10_init 61 = .ok (.bipush 10, 2) := by decide +kernel
theorem dX10_init_63 : decode cX10_init 63 = .ok (.newarray .boolean, 2) := by decide +kernel
theorem dX10_init_65 : decode cX10_init 65 = .ok (.putfield 33, 3) := by decide +kernel
theorem dX10_init_68 : decode cX10_init 68 = .ok (.return_, 1) := by decide +kernel
theorem dX10_begin_0 : decode cX10_begin 0 = .ok (.aload_n 0, 1) := by decide +kernel
theorem dX10_begin_1 : decode cX10_begin 1 = .ok (.iload_n 1, 1) := by decide +kernel
theorem dX10_begin_2 : decode cX10_begin 2 = .ok (.putfield 37, 3) := by decide +kernel
theorem dX10_begin_5 : decode cX10_begin 5 = .ok (.aload_n 0, 1) := by decide +kernel
theorem dX10_begin_6 : decode cX10_begin 6 = .ok (.iload_n 2, 1) := by decide +kernel
theorem dX10_begin_7 : decode cX10_begin 7 = .ok (.putfield 41, 3) := by decide +kernel
theorem dX10_begin_10 : decode cX10_begin 10 = .ok (.return_, 1) := by decide +kernel
theorem dX10_addShot_0 : decode cX10_addShot 0 = .ok (.aload_n 0, 1) := by decide +kernel
theorem dX10_addShot_1 : decode cX10_addShot 1 = .ok (.getfield 9, 3) := by decide +kernel
theorem dX10_addShot_4 : decode cX10_addShot 4 = .ok (.aload_n 0, 1) := by decide +kernel
theorem dX10_addShot_5 : decode cX10_addShot 5 = .ok (.getfield 44, 3) := by decide +kernel
theorem dX10_addShot_8 : decode cX10_addShot 8 = .ok (.iload_n 1, 1) := by decide +kernel
theorem dX10_addShot_9 : decode cX10_addShot 9 = .ok (.iastore, 1) := by decide +kernel
theorem dX10_addShot_10 : decode cX10_addShot 10 = .ok (.aload_n 0, 1) := by decide +kernel
theorem dX10_addShot_11 : decode cX10_addShot 11 = .ok (.getfield 15, 3) := by decide +kernel
theorem dX10_addShot_14 : decode cX10_addShot 14 = .ok (.aload_n 0, 1) := by decide +kernel
theorem dX10_addShot_15 : decode cX10_addShot 15 = .ok (.getfield 44, 3) := by decide +kernel
theorem dX10_addShot_18 : decode cX10_addShot 18 = .ok (.iload_n 2, 1) := by decide +kernel
theorem dX10_addShot_19 : decode cX10_addShot 19 = .ok (.iastore, 1) := by decide +kernel
theorem dX10_addShot_20 : decode cX10_addShot 20 = .ok (.aload_n 0, 1) := by decide +kernel
theorem dX10_addShot_21 : decode cX10_addShot 21 = .ok (.getfield 18, 3) := by decide +kernel
theorem dX10_addShot_24 : decode cX10_addShot 24 = .ok (.aload_n 0, 1) := by decide +kernel
theorem dX10_addShot_25 : decode cX10_addShot 25 = .ok (.getfield 44, 3) := by decide +kernel
theorem dX10_addShot_28 : decode cX10_addShot 28 = .ok (.bipush 16, 2) := by decide +kernel
theorem dX10_addShot_30 : decode cX10_addShot 30 = .ok (.iastore, 1) := by decide +kernel
theorem dX10_addShot_31 : decode cX10_addShot 31 = .ok (.aload_n 0, 1) := by decide +kernel
theorem dX10_addShot_32 : decode cX10_addShot 32 = .ok (.dup, 1) := by decide +kernel
theorem dX10_addShot_33 : decode cX10_addShot 33 = .ok (.getfield 44, 3) := by decide +kernel
theorem dX10_addShot_36 : decode cX10_addShot 36 = .ok (.iconst 1, 1) := by decide +kernel
theorem dX10_addShot_37 : decode cX10_addShot 37 = .ok (.iadd, 1) := by decide +kernel
theorem dX10_addShot_38 : decode cX10_addShot 38 = .ok (.putfield 44, 3) := by decide +kernel
theorem dX10_addShot_41 : decode cX10_addShot 41 = .ok (.aload_n 0, 1) := by decide +kernel
theorem dX10_addShot_42 : decode cX10_addShot 42 = .ok (.dup, 1) := by decide +kernel
theorem dX10_addShot_43 : decode cX10_addShot 43 = .ok (.getfield 47, 3) := by decide +kernel
theorem dX10_addShot_46 : decode cX10_addShot 46 = .ok (.iload_n 2, 1) := by decide +kernel
theorem dX10_addShot_47 : decode cX10_addShot 47 = .ok (.iload_n 1, 1) := by decide +kernel
theorem dX10_addShot_48 : decode cX10_addShot 48 = .ok (.isub, 1) := by decide +kernel
theorem dX10_addShot_49 : decode cX10_addShot 49 = .ok (.iconst 1, 1) := by decide +kernel
theorem dX10_addShot_50 : decode cX10_addShot 50 = .ok (.iadd, 1) := by decide +kernel
theorem dX10_addShot_51 : decode cX10_addShot 51 = .ok (.iadd, 1) := by decide +kernel
theorem dX10_addShot_52 : decode cX10_addShot 52 = .ok (.putfield 47, 3) := by decide +kernel
theorem dX10_addShot_55 : decode cX10_addShot 55 = .ok (.return_, 1) := by decide +kernel
theorem dX10_duration_0 : decode cX10_duration 0 = .ok (.iconst 0, 1) := by decide +kernel
theorem dX10_duration_1 : decode cX10_duration 1 = .ok (.istore_n 1, 1) := by decide +kernel
theorem dX10_duration_2 : decode cX10_duration 2 = .ok (.iconst 0, 1) := by decide +kernel
theorem dX10_duration_3 : decode cX10_duration 3 = .ok (.istore_n 2, 1) := by decide +kernel
theorem dX10_duration_4 : decode cX10_duration 4 = .ok (.iload_n 2, 1) := by decide +kernel
theorem dX10_duration_5 : decode cX10_duration 5 = .ok (.aload_n 0, 1) := by decide +kernel
theorem dX10_duration_6 : decode cX10_duration 6 = .ok (.getfield 44, 3) := by decide +kernel
theorem dX10_duration_9 : decode cX10_duration 9 = .ok (.if_icmp .ge 44, 3) := by decide +kernel
theorem dX10_duration_12 : decode cX10_duration 12 = .ok (.aload_n 0, 1) := by decide +kernel
theorem dX10_duration_13 : decode cX10_duration 13 = .ok (.getfield 18, 3) := by decide +kernel
theorem dX10_duration_16 : decode cX10_duration 16 = .ok (.iload_n 2, 1) := by decide +kernel
theorem dX10_duration_17 : decode cX10_duration 17 = .ok (.iaload, 1) := by decide +kernel
theorem dX10_duration_18 : decode cX10_duration 18 = .ok (.istore_n 3, 1) := by decide +kernel
theorem dX10_duration_19 : decode cX10_duration 19 = .ok (.iload_n 3, 1) := by decide +kernel
theorem dX10_duration_20 : decode cX10_duration 20 = .ok (.ifCond .le 27, 3) := by decide +kernel
theorem dX10_duration_23 : decode cX10_duration 23 = .ok (.iload_n 1, 1) := by decide +kernel
theorem dX10_duration_24 : decode cX10_duration 24 = .ok (.aload_n 0, 1) := by decide +kernel
theorem dX10_duration_25 : decode cX10_duration 25 = .ok (.getfield 15, 3) := by decide +kernel
theorem dX10_duration_28 : decode cX10_duration 28 = .ok (.iload_n 2, 1) := by decide +kernel
theorem dX10_duration_29 : decode cX10_duration 29 = .ok (.iaload, 1) := by decide +kernel
theorem dX10_duration_30 : decode cX10_duration 30 = .ok (.aload_n 0, 1) := by decide +kernel
theorem dX10_duration_31 : decode cX10_duration 31 = .ok (.getfield 9, 3) := by decide +kernel
theorem dX10_duration_34 : decode cX10_duration 34 = .ok (.iload_n 2, 1) := by decide +kernel
theorem dX10_duration_35 : decode cX10_duration 35 = .ok (.iaload, 1) := by decide +kernel
theorem dX10_duration_36 : decode cX10_duration 36 = .ok (.isub, 1) := by decide +kernel
theorem dX10_duration_37 : decode cX10_duration 37 = .ok (.iconst 1, 1) := by decide +kernel
theorem dX10_duration_38 : decode cX10_duration 38 = .ok (.iadd, 1) := by decide +kernel
theorem dX10_duration_39 : decode cX10_duration 39 = .ok (.sipush 1000, 3) := by decide +kernel
theorem dX10_duration_42 : decode cX10_duration 42 = .ok (.imul, 1) := by decide +kernel
theorem dX10_duration_43 : decode cX10_duration 43 = .ok (.iload_n 3, 1) := by decide +kernel
theorem dX10_duration_44 : decode cX10_duration 44 = .ok (.idiv, 1) := by decide +kernel
theorem dX10_duration_45 : decode cX10_duration 45 = .ok (.iadd, 1) := by decide +kernel
theorem dX10_duration_46 : decode cX10_duration 46 = .ok (.istore_n 1, 1) := by decide +kernel
theorem dX10_duration_47 : decode cX10_duration 47 = .ok (.iinc 2 1, 3) := by decide +kernel
theorem dX10_duration_50 : decode cX10_duration 50 = .ok (.goto (-46), 3) := by decide +kernel
theorem dX10_duration_53 : decode cX10_duration 53 = .ok (.iload_n 1, 1) := by decide +kernel
theorem dX10_duration_54 : decode cX10_duration 54 = .ok (.ireturn, 1) := by decide +kernel
theorem dX10_addRight_0 : decode cX10_addRight 0 = .ok (.aload_n 0, 1) := by decide +kernel
theorem dX10_addRight_1 : decode cX10_addRight 1 = .ok (.getfield 21, 3) := by decide +kernel
theorem dX10_addRight_4 : decode cX10_addRight 4 = .ok (.aload_n 0, 1) := by decide +kernel
theorem dX10_addRight_5 : decode cX10_addRight 5 = .ok (.getfield 50, 3) := by decide +kernel
theorem dX10_addRight_8 : decode cX10_addRight 8 = .ok (.iload_n 1, 1) := by decide +kernel
theorem dX10_addRight_9 : decode cX10_addRight 9 = .ok (.iastore, 1) := by decide +kernel
theorem dX10_addRight_10 : decode cX10_addRight 10 = .ok (.aload_n 0, 1) := by decide +kernel
theorem dX10_addRight_11 : decode cX10_addRight 11 = .ok (.getfield 24, 3) := by decide +kernel
theorem dX10_addRight_14 : decode cX10_addRight 14 = .ok (.aload_n 0, 1) := by decide +kernel
theorem dX10_addRight_15 : decode cX10_addRight 15 = .ok (.getfield 50, 3) := by decide +kernel
theorem dX10_addRight_18 : decode cX10_addRight 18 = .ok (.iload_n 2, 1) := by decide +kernel
theorem dX10_addRight_19 : decode cX10_addRight 19 = .ok (.iastore, 1) := by decide +kernel
theorem dX10_addRight_20 : decode cX10_addRight 20 = .ok (.aload_n 0, 1) := by decide +kernel
theorem dX10_addRight_21 : decode cX10_addRight 21 = .ok (.getfield 27, 3) := by decide +kernel
theorem dX10_addRight_24 : decode cX10_addRight 24 = .ok (.aload_n 0, 1) := by decide +kernel
theorem dX10_addRight_25 : decode cX10_addRight 25 = .ok (.getfield 50, 3) := by decide +kernel
theorem dX10_addRight_28 : decode cX10_addRight 28 = .ok (.iload_n 3, 1) := by decide +kernel
theorem dX10_addRight_29 : decode cX10_addRight 29 = .ok (.iastore, 1) := by decide +kernel
theorem dX10_addRight_30 : decode cX10_addRight 30 = .ok (.aload_n 0, 1) := by decide +kernel
theorem dX10_addRight_31 : decode cX10_addRight 31 = .ok (.getfield 30, 3) := by decide +kernel
theorem dX10_addRight_34 : decode cX10_addRight 34 = .ok (.aload_n 0, 1) := by decide +kernel
theorem dX10_addRight_35 : decode cX10_addRight 35 = .ok (.getfield 50, 3) := by decide +kernel
theorem dX10_addRight_38 : decode cX10_addRight 38 = .ok (.iload 4, 2) := by decide +kernel
theorem dX10_addRight_40 : decode cX10_addRight 40 = .ok (.iastore, 1) := by decide +kernel
theorem dX10_addRight_41 : decode cX10_addRight 41 = .ok (.aload_n 0, 1) := by decide +kernel
theorem dX10_addRight_42 : decode cX10_addRight 42 = .ok (.dup, 1) := by decide +kernel
theorem dX10_addRight_43 : decode cX10_addRight 43 = .ok (.getfield 50, 3) := by decide +kernel
theorem dX10_addRight_46 : decode cX10_addRight 46 = .ok (.iconst 1, 1) := by decide +kernel
theorem dX10_addRight_47 : decode cX10_addRight 47 = .ok (.iadd, 1) := by decide +kernel
theorem dX10_addRight_48 : decode cX10_addRight 48 = .ok (.putfield 50, 3) := by decide +kernel
theorem dX10_addRight_51 : decode cX10_addRight 51 = .ok (.return_, 1) := by decide +kernel
theorem dX10_isFreeIn_0 : decode cX10_isFreeIn 0 = .ok (.iconst 0, 1) := by decide +kernel
theorem dX10_isFreeIn_1 : decode cX10_isFreeIn 1 = .ok (.istore_n 3, 1) := by decide +kernel
theorem dX10_isFreeIn_2 : decode cX10_isFreeIn 2 = .ok (.iload_n 3, 1) := by decide +kernel
theorem dX10_isFreeIn_3 : decode cX10_isFreeIn 3 = .ok (.aload_n 0, 1) := by decide +kernel
theorem dX10_isFreeIn_4 : decode cX10_isFreeIn 4 = .ok (.getfield 50, 3) := by decide +kernel
theorem dX10_isFreeIn_7 : decode cX10_isFreeIn 7 = .ok (.if_icmp .ge 66, 3) := by decide +kernel
theorem dX10_isFreeIn_10 : decode cX10_isFreeIn 10 = .ok (.aload_n 0, 1) := by decide +kernel
theorem dX10_isFreeIn_11 : decode cX10_isFreeIn 11 = .ok (.getfield 24, 3) := by decide +kernel
theorem dX10_isFreeIn_14 : decode cX10_isFreeIn 14 = .ok (.iload_n 3, 1) := by decide +kernel
theorem dX10_isFreeIn_15 : decode cX10_isFreeIn 15 = .ok (.iaload, 1) := by decide +kernel
theorem dX10_isFreeIn_16 : decode cX10_isFreeIn 16 = .ok (.iload_n 1, 1) := by decide +kernel
theorem dX10_isFreeIn_17 : decode cX10_isFreeIn 17 = .ok (.if_icmp .ne 26, 3) := by decide +kernel
theorem dX10_isFreeIn_20 : decode cX10_isFreeIn 20 = .ok (.iload_n 2, 1) := by decide +kernel
theorem dX10_isFreeIn_21 : decode cX10_isFreeIn 21 = .ok (.aload_n 0, 1) := by decide +kernel
theorem dX10_isFreeIn_22 : decode cX10_isFreeIn 22 = .ok (.getfield 27, 3) := by decide +kernel
theorem dX10_isFreeIn_25 : decode cX10_isFreeIn 25 = .ok (.iload_n 3, 1) := by decide +kernel
theorem dX10_isFreeIn_26 : decode cX10_isFreeIn 26 = .ok (.iaload, 1) := by decide +kernel
theorem dX10_isFreeIn_27 : decode cX10_isFreeIn 27 = .ok (.aload_n 0, 1) := by decide +kernel
theorem dX10_isFreeIn_28 : decode cX10_isFreeIn 28 = .ok (.getfield 30, 3) := by decide +kernel
theorem dX10_isFreeIn_31 : decode cX10_isFreeIn 31 = .ok (.iload_n 3, 1) := by decide +kernel
theorem dX10_isFreeIn_32 : decode cX10_isFreeIn 32 = .ok (.iaload, 1) := by decide +kernel
theorem dX10_isFreeIn_33 : decode cX10_isFreeIn 33 = .ok (.invokestatic 53, 3) := by decide +kernel
theorem dX10_isFreeIn_36 : decode cX10_isFreeIn 36 = .ok (.ifCond .eq 7, 3) := by decide +kernel
theorem dX10_isFreeIn_39 : decode cX10_isFreeIn 39 = .ok (.iconst 1, 1) := by decide +kernel
theorem dX10_isFreeIn_40 : decode cX10_isFreeIn 40 = .ok (.goto 4, 3) := by decide +kernel
theorem dX10_isFreeIn_43 : decode cX10_isFreeIn 43 = .ok (.iconst 0, 1) := by decide +kernel
theorem dX10_isFreeIn_44 : decode cX10_isFreeIn 44 = .ok (.istore 4, 2) := by decide +kernel
theorem dX10_isFreeIn_46 : decode cX10_isFreeIn 46 = .ok (.iload 4, 2) := by decide +kernel
theorem dX10_isFreeIn_48 : decode cX10_isFreeIn 48 = .ok (.ifCond .eq 19, 3) := by decide +kernel
theorem dX10_isFreeIn_51 : decode cX10_isFreeIn 51 = .ok (.aload_n 0, 1) := by decide +kernel
theorem dX10_isFreeIn_52 : decode cX10_isFreeIn 52 = .ok (.getfield 33, 3) := by decide +kernel
theorem dX10_isFreeIn_55 : decode cX10_isFreeIn 55 = .ok (.aload_n 0, 1) := by decide +kernel
theorem dX10_isFreeIn_56 : decode cX10_isFreeIn 56 = .ok (.getfield 21, 3) := by decide +kernel
theorem dX10_isFreeIn_59 : decode cX10_isFreeIn 59 = .ok (.iload_n 3, 1) := by decide +kernel
theorem dX10_isFreeIn_60 : decode cX10_isFreeIn 60 = .ok (.iaload, 1) := by decide +kernel
theorem dX10_isFreeIn_61 : decode cX10_isFreeIn 61 = .ok (.baload, 1) := by decide +kernel
theorem dX10_isFreeIn_62 : decode cX10_isFreeIn 62 = .ok (.ifCond .ne 5, 3) := by decide +kernel
theorem dX10_isFreeIn_65 : decode cX10_isFreeIn 65 = .ok (.iconst 0, 1) := by decide +kernel
theorem dX10_isFreeIn_66 : decode cX10_isFreeIn 66 = .ok (.ireturn, 1) := by decide +kernel
theorem dX10_isFreeIn_67 : decode cX10_isFreeIn 67 = .ok (.iinc 3 1, 3) := by decide +kernel
theorem dX10_isFreeIn_70 : decode cX10_isFreeIn 70 = .ok (.goto (-68), 3) := by decide +kernel
theorem dX10_isFreeIn_73 : decode cX10_isFreeIn 73 = .ok (.iconst 1, 1) := by decide +kernel
theorem dX10_isFreeIn_74 : decode cX10_isFreeIn 74 = .ok (.ireturn, 1) := by decide +kernel
theorem dX11_init_0 : decode cX11_init 0 = .ok (.aload_n 0, 1) := by decide +kernel
theorem dX11_init_1 : decode cX11_init 1 = .ok (.invokespecial 3, 3) := by decide +kernel
theorem dX11_init_4 : decode cX11_init 4 = .ok (.aload_n 0, 1) := by decide +kernel
theorem dX11_init_5 : decode cX11_init 5 = .ok (.bipush 12, 2) := by decide +kernel
theorem dX11_init_7 : decode cX11_init 7 = .ok (.anewarray 9, 3) := by decide +kernel
theorem dX11_init_10 : decode cX11_init 10 = .ok (.putfield 11, 3) := by decide +kernel
theorem dX11_init_13 : decode cX11_init 13 = .ok (.aload_n 0, 1) := by decide +kernel
theorem dX11_init_14 : decode cX11_init 14 = .ok (.iconst 0, 1) := by decide +kernel
theorem dX11_init_15 : decode cX11_init 15 = .ok (.putfield 15, 3) := by decide +kernel
theorem dX11_init_18 : decode cX11_init 18 = .ok (.aload_n 0, 1) := by decide +kernel
theorem dX11_init_19 : decode cX11_init 19 = .ok (.sipush 2000, 3) := by decide +kernel
theorem dX11_init_22 : decode cX11_init 22 = .ok (.putfield 19, 3) := by decide +kernel
theorem dX11_init_25 : decode cX11_init 25 = .ok (.aload_n 0, 1) := by decide +kernel
theorem dX11_init_26 : decode cX11_init 26 = .ok (.bipush 40, 2) := by decide +kernel
theorem dX11_init_28 : decode cX11_init 28 = .ok (.putfield 22, 3) := by decide +kernel
theorem dX11_init_31 : decode cX11_init 31 = .ok (.aload_n 0, 1) := by decide +kernel
theorem dX11_init_32 : decode cX11_init 32 = .ok (.new 25, 3) := by decide +kernel
theorem dX11_init_35 : decode cX11_init 35 = .ok (.dup, 1) := by decide +kernel
theorem dX11_init_36 : decode cX11_init 36 = .ok (.invokespecial 27, 3) := by decide +kernel
theorem dX11_init_39 : decode cX11_init 39 = .ok (.putfield 28, 3) := by decide +kernel
theorem dX11_init_42 : decode cX11_init 42 = .ok (.aload_n 0, 1) := by decide +kernel
theorem dX11_init_43 : decode cX11_init 43 = .ok (.bipush 6, 2) := by decide +kernel
theorem dX11_init_45 : decode cX11_init 45 = .ok (.anewarray 32, 3) := by decide +kernel
theorem dX11_init_48 : decode cX11_init 48 = .ok (.putfield 34, 3) := by decide +kernel
theorem dX11_init_51 : decode cX11_init 51 = .ok (.aload_n 0, 1) := by decide +kernel
theorem dX11_init_52 : decode cX11_init 52 = .ok (.iconst 0, 1) := by decide +kernel
theorem dX11_init_53 : decode cX11_init 53 = .ok (.putfield 38, 3) := by decide +kernel
theorem dX11_init_56 : decode cX11_init 56 = .ok (.aload_n 0, 1) := by decide +kernel
theorem dX11_init_57 : decode cX11_init 57 = .ok (.iconst 0, 1) := by decide +kernel
theorem dX11_init_58 : decode cX11_init 58 = .ok (.putfield 41, 3) := by decide +kernel
theorem dX11_init_61 : decode cX11_init 61 = .ok (.aload_n 0, 1) := by decide +kernel
theorem dX11_init_62 : decode cX11_init 62 = .ok (.new 44, 3) := by decide +kernel
theorem dX11_init_65 : decode cX11_init 65 = .ok (.dup, 1) := by decide +kernel
theorem dX11_init_66 : decode cX11_init 66 = .ok (.invokespecial 46, 3) := by decide +kernel
theorem dX11_init_69 : decode cX11_init 69 = .ok (.putfield 47, 3) := by decide +kernel
theorem dX11_init_72 : decode cX11_init 72 = .ok (.aload_n 0, 1) := by decide +kernel
theorem dX11_init_73 : decode cX11_init 73 = .ok (.new 51, 3) := by decide +kernel
theorem dX11_init_76 : decode cX11_init 76 = .ok (.dup, 1) := by decide +kernel
theorem dX11_init_77 : decode cX11_init 77 = .ok (.invokespecial 53, 3) := by decide +kernel
theorem dX11_init_80 : decode cX11_init 80 = .ok (.putfield 54, 3) := by decide +kernel
theorem dX11_init_83 : decode cX11_init 83 = .ok (.iconst 0, 1) := by decide +kernel
theorem dX11_init_84 : decode cX11_init 84 = .ok (.istore_n 1, 1) := by decide +kernel
theorem dX11_init_85 : decode cX11_init 85 = .ok (.iload_n 1, 1) := by decide +kernel
theorem dX11_init_86 : decode cX11_init 86 = .ok (.bipush 12, 2) := by decide +kernel
theorem dX11_init_88 : decode cX11_init 88 = .ok (.if_icmp .ge 22, 3) := by decide +kernel
theorem dX11_init_91 : decode cX11_init 91 = .ok (.aload_n 0, 1) := by decide +kernel
theorem dX11_init_92 : decode cX11_init 92 = .ok (.getfield 11, 3) := by decide +kernel
theorem dX11_init_95 : decode cX11_init 95 = .ok (.iload_n 1, 1) := by decide +kernel
theorem dX11_init_96 : decode cX11_init 96 = .ok (.new 9, 3) := by decide +kernel
theorem dX11_init_99 : decode cX11_init 99 = .ok (.dup, 1) := by decide +kernel
theorem dX11_init_100 : decode cX11_init 100 = .ok (.invokespecial 58, 3) := by decide +kernel
theorem dX11_init_103 : decode cX11_init 103 = .ok (.aastore, 1) := by decide +kernel
theorem dX11_init_104 : decode cX11_init 104 = .ok (.iinc 1 1, 3) := by decide +kernel
theorem dX11_init_107 : decode cX11_init 107 = .ok (.goto (-22), 3) := by decide +kernel
theorem dX11_init_110 : decode cX11_init 110 = .ok (.iconst 0, 1) := by decide +kernel
theorem dX11_init_111 : decode cX11_init 111 = .ok (.istore_n 1, 1) := by decide +kernel
theorem dX11_init_112 : decode cX11_init 112 = .ok (.iload_n 1, 1) := by decide +kernel
theorem dX11_init_113 : decode cX11_init 113 = .ok (.bipush 6, 2) := by decide +kernel
theorem dX11_init_115 : decode cX11_init 115 = .ok (.if_icmp .ge 22, 3) := by decide +kernel
theorem dX11_init_118 : decode cX11_init 118 = .ok (.aload_n 0, 1) := by decide +kernel
theorem dX11_init_119 : decode cX11_init 119 = .ok (.getfield 34, 3) := by decide +kernel
theorem dX11_init_122 : decode cX11_init 122 = .ok (.iload_n 1, 1) := by decide +kernel
theorem dX11_init_123 : decode cX11_init 123 = .ok (.new 32, 3) := by decide +kernel
theorem dX11_init_126 : decode cX11_init 126 = .ok (.dup, 1) := by decide +kernel
theorem dX11_init_127 : decode cX11_init 127 = .ok (.invokespecial 59, 3) := by decide +kernel
theorem dX11_init_130 : decode cX11_init 130 = .ok (.aastore, 1) := by decide +kernel
theorem dX11_init_131 : decode cX11_init 131 = .ok (.iinc 1 1, 3) := by decide +kernel
theorem dX11_init_134 : decode cX11_init 134 = .ok (.goto (-22), 3) := by decide +kernel
theorem dX11_init_137 : decode cX11_init 137 = .ok (.return_, 1) := by decide +kernel
theorem dX11_reel_0 : decode cX11_reel 0 = .ok (.iload 4, 2) := by decide +kernel
theorem dX11_reel_2 : decode cX11_reel 2 = .ok (.iconst (-1), 1) := by decide +kernel
theorem dX11_reel_3 : decode cX11_reel 3 = .ok (.if_icmp .ne 7, 3) := by decide +kernel
theorem dX11_reel_6 : decode cX11_reel 6 = .ok (.iconst 0, 1) := by decide +kernel
theorem dX11_reel_7 : decode cX11_reel 7 = .ok (.goto 14, 3) := by decide +kernel
theorem dX11_reel_10 : decode cX11_reel 10 = .ok (.aload_n 0, 1) := by decide +kernel
theorem dX11_reel_11 : decode cX11_reel 11 = .ok (.iload 4, 2) := by decide +kernel
theorem dX11_reel_13 : decode cX11_reel 13 = .ok (.invokevirtual 60, 3) := by decide +kernel
theorem dX11_reel_16 : decode cX11_reel 16 = .ok (.getfield 64, 3) := by decide +kernel
theorem dX11_reel_19 : decode cX11_reel 19 = .ok (.iconst 1, 1) := by decide +kernel
theorem dX11_reel_20 : decode cX11_reel 20 = .ok (.iadd, 1) := by decide +kernel
theorem dX11_reel_21 : decode cX11_reel 21 = .ok (.istore 6, 2) := by decide +kernel
theorem dX11_reel_23 : decode cX11_reel 23 = .ok (.iload_n 1, 1) := by decide +kernel
theorem dX11_reel_24 : decode cX11_reel 24 = .ok (.iconst 0, 1) := by decide +kernel
theorem dX11_reel_25 : decode cX11_reel 25 = .ok (.iconst 1, 1) := by decide +kernel
theorem dX11_reel_26 : decode cX11_reel 26 = .ok (.invokestatic 67, 3) := by decide +kernel
theorem dX11_reel_29 : decode cX11_reel 29 = .ok (.ifCond .eq 41, 3) := by decide +kernel
theorem dX11_reel_32 : decode cX11_reel 32 = .ok (.iload_n 2, 1) := by decide +kernel
theorem dX11_reel_33 : decode cX11_reel 33 = .ok (.sipush 1890, 3) := by decide +kernel
theorem dX11_reel_36 : decode cX11_reel 36 = .ok (.sipush 2000, 3) := by decide +kernel
theorem dX11_reel_39 : decode cX11_reel 39 = .ok (.invokestatic 67, 3) := by decide +kernel
theorem dX11_reel_42 : decode cX11_reel 42 = .ok (.ifCond .eq 28, 3) := by decide +kernel
theorem dX11_reel_45 : decode cX11_reel 45 = .ok (.iload_n 3, 1) := by decide +kernel
theorem dX11_reel_46 : decode cX11_reel 46 = .ok (.iconst 0, 1) := by decide +kernel
theorem dX11_reel_47 : decode cX11_reel 47 = .ok (.iconst 3, 1) := by decide +kernel
theorem dX11_reel_48 : decode cX11_reel 48 = .ok (.invokestatic 67, 3) := by decide +kernel
theorem dX11_reel_51 : decode cX11_reel 51 = .ok (.ifCond .eq 19, 3) := by decide +kernel
theorem dX11_reel_54 : decode cX11_reel 54 = .ok (.iload 5, 2) := by decide +kernel
theorem dX11_reel_56 : decode cX11_reel 56 = .ok (.iconst 0, 1) := by decide +kernel
theorem dX11_reel_57 : decode cX11_reel 57 = .ok (.sipush 299, 3) := by decide +kernel
theorem dX11_reel_60 : decode cX11_reel 60 = .ok (.invokestatic 67, 3) := by decide +kernel
theorem dX11_reel_63 : decode cX11_reel 63 = .ok (.ifCond .eq 7, 3) := by decide +kernel
theorem dX11_reel_66 : decode cX11_reel 66 = .ok (.iconst 1, 1) := by decide +kernel
theorem dX11_reel_67 : decode cX11_reel 67 = .ok (.goto 4, 3) := by decide +kernel
theorem dX11_reel_70 : decode cX11_reel 70 = .ok (.iconst 0, 1) := by decide +kernel
theorem dX11_reel_71 : decode cX11_reel 71 = .ok (.invokestatic 71, 3) := by decide +kernel
theorem dX11_reel_74 : decode cX11_reel 74 = .ok (.aload_n 0, 1) := by decide +kernel
theorem dX11_reel_75 : decode cX11_reel 75 = .ok (.getfield 15, 3) := by decide +kernel
theorem dX11_reel_78 : decode cX11_reel 78 = .ok (.bipush 12, 2) := by decide +kernel
theorem dX11_reel_80 : decode cX11_reel 80 = .ok (.if_icmp .ge 7, 3) := by decide +kernel
theorem dX11_reel_83 : decode cX11_reel 83 = .ok (.iconst 1, 1) := by decide +kernel
theorem dX11_reel_84 : decode cX11_reel 84 = .ok (.goto 4, 3) := by decide +kernel
theorem dX11_reel_87 : decode cX11_reel 87 = .ok (.iconst 0, 1) := by decide +kernel
theorem dX11_reel_88 : decode cX11_reel 88 = .ok (.invokestatic 75, 3) := by decide +kernel
theorem dX11_reel_91 : decode cX11_reel 91 = .ok (.aload_n 0, 1) := by decide +kernel
theorem dX11_reel_92 : decode cX11_reel 92 = .ok (.getfield 11, 3) := by decide +kernel
theorem dX11_reel_95 : decode cX11_reel 95 = .ok (.aload_n 0, 1) := by decide +kernel
theorem dX11_reel_96 : decode cX11_reel 96 = .ok (.getfield 15, 3) := by decide +kernel
theorem dX11_reel_99 : decode cX11_reel 99 = .ok (.aaload, 1) := by decide +kernel
theorem dX11_reel_100 : decode cX11_reel 100 = .ok (.iload_n 1, 1) := by decide +kernel
theorem dX11_reel_101 : decode cX11_reel 101 = .ok (.iload_n 2, 1) := by decide +kernel
theorem dX11_reel_102 : decode cX11_reel 102 = .ok (.iload_n 3, 1) := by decide +kernel
theorem dX11_reel_103 : decode cX11_reel 103 = .ok (.iload 6, 2) := by decide +kernel
theorem dX11_reel_105 : decode cX11_reel 105 = .ok (.iload 5, 2) := by decide +kernel
theorem dX11_reel_107 : decode cX11_reel 107 = .ok (.invokevirtual 78, 3) := by decide +kernel
theorem dX11_reel_110 : decode cX11_reel 110 = .ok (.aload_n 0, 1) := by decide +kernel
theorem dX11_reel_111 : decode cX11_reel 111 = .ok (.dup, 1) := by decide +kernel
theorem dX11_reel_112 : decode cX11_reel 112 = .ok (.getfield 15, 3) := by decide +kernel
theorem dX11_reel_115 : decode cX11_reel 115 = .ok (.iconst 1, 1) := by decide +kernel
theorem dX11_reel_116 : decode cX11_reel 116 = .ok (.iadd, 1) := by decide +kernel
theorem dX11_reel_117 : decode cX11_reel 117 = .ok (.putfield 15, 3) := by decide +kernel
theorem dX11_reel_120 : decode cX11_reel 120 = .ok (.aload_n 0, 1) := by decide +kernel
theorem dX11_reel_121 : decode cX11_reel 121 = .ok (.getfield 15, 3) := by decide +kernel
theorem dX11_reel_124 : decode cX11_reel 124 = .ok (.iconst 1, 1) := by decide +kernel
theorem dX11_reel_125 : decode cX11_reel 125 = .ok (.isub, 1) := by decide +kernel
theorem dX11_reel_126 : decode cX11_reel 126 = .ok (.ireturn, 1) := by decide +kernel
theorem dX11_frame_0 : decode cX11_frame 0 = .ok (.aload_n 0, 1) := by decide +kernel
theorem dX11_frame_1 : decode cX11_frame 1 = .ok (.iload_n 1, 1) := by decide +kernel
theorem dX11_frame_2 : decode cX11_frame 2 = .ok (.invokevirtual 60, 3) := by decide +kernel
theorem dX11_frame_5 : decode cX11_frame 5 = .ok (.astore 5, 2) := by decide +kernel
theorem dX11_frame_7 : decode cX11_frame 7 = .ok (.iload_n 2, 1) := by decide +kernel
theorem dX11_frame_8 : decode cX11_frame 8 = .ok (.iconst 0, 1) := by decide +kernel
theorem dX11_frame_9 : decode cX11_frame 9 = .ok (.sipush 999, 3) := by decide +kernel
theorem dX11_frame_12 : decode cX11_frame 12 = .ok (.invokestatic 67, 3) := by decide +kernel
theorem dX11_frame_15 : decode cX11_frame 15 = .ok (.invokestatic 71, 3) := by decide +kernel
theorem dX11_frame_18 : decode cX11_frame 18 = .ok (.aload 5, 2) := by decide +kernel
theorem dX11_frame_20 : decode cX11_frame 20 = .ok (.getfield 82, 3) := by decide +kernel
theorem dX11_frame_23 : decode cX11_frame 23 = .ok (.bipush 60, 2) := by decide +kernel
theorem dX11_frame_25 : decode cX11_frame 25 = .ok (.if_icmp .ge 7, 3) := by decide +kernel
theorem dX11_frame_28 : decode cX11_frame 28 = .ok (.iconst 1, 1) := by decide +kernel
theorem dX11_frame_29 : decode cX11_frame 29 = .ok (.goto 4, 3) := by decide +kernel
theorem dX11_frame_32 : decode cX11_frame 32 = .ok (.iconst 0, 1) := by decide +kernel
theorem dX11_frame_33 : decode cX11_frame 33 = .ok (.invokestatic 75, 3) := by decide +kernel
theorem dX11_frame_36 : decode cX11_frame 36 = .ok (.aload 5, 2) := by decide +kernel
theorem dX11_frame_38 : decode cX11_frame 38 = .ok (.iload_n 2, 1) := by decide +kernel
theorem dX11_frame_39 : decode cX11_frame 39 = .ok (.iload 4, 2) := by decide +kernel
theorem dX11_frame_41 : decode cX11_frame 41 = .ok (.i2l, 1) := by decide +kernel
theorem dX11_frame_42 : decode cX11_frame 42 = .ok (.bipush 32, 2) := by decide +kernel
theorem dX11_frame_44 : decode cX11_frame 44 = .ok (.lshl, 1) := by decide +kernel
theorem dX11_frame_45 : decode cX11_frame 45 = .ok (.iload_n 3, 1) := by decide +kernel
theorem dX11_frame_46 : decode cX11_frame 46 = .ok (.i2l, 1) := by decide +kernel
theorem dX11_frame_47 : decode cX11_frame 47 = .ok (.ldc2_w 85, 3) := by decide +kernel
theorem dX11_frame_50 : decode cX11_frame 50 = .ok (.land, 1) := by decide +kernel
theorem dX11_frame_51 : decode cX11_frame 51 = .ok (.lor, 1) := by decide +kernel
theorem dX11_frame_52 : decode cX11_frame 52 = .ok (.invokevirtual 87, 3) := by decide +kernel
theorem dX11_frame_55 : decode cX11_frame 55 = .ok (.aload 5, 2) := by decide +kernel
theorem dX11_frame_57 : decode cX11_frame 57 = .ok (.getfield 82, 3) := by decide +kernel
theorem dX11_frame_60 : decode cX11_frame 60 = .ok (.ireturn, 1) := by decide +kernel
theorem dX11_splice_0 : decode cX11_splice 0 = .ok (.aload_n 0, 1) := by decide +kernel
theorem dX11_splice_1 : decode cX11_splice 1 = .ok (.iload_n 1, 1) := by decide +kernel
theorem dX11_splice_2 : decode cX11_splice 2 = .ok (.invokevirtual 60, 3) := by decide +kernel
theorem dX11_splice_5 : decode cX11_splice 5 = .ok (.astore_n 3, 1) := by decide +kernel
theorem dX11_splice_6 : decode cX11_splice 6 = .ok (.iload_n 2, 1) := by decide +kernel
theorem dX11_splice_7 : decode cX11_splice 7 = .ok (.aload_n 3, 1) := by decide +kernel
theorem dX11_splice_8 : decode cX11_splice 8 = .ok (.getfield 82, 3) := by decide +kernel
theorem dX11_splice_11 : decode cX11_splice 11 = .ok (.invokestatic 91, 3) := by decide +kernel
theorem dX11_splice_14 : decode cX11_splice 14 = .ok (.aload_n 3, 1) := by decide +kernel
theorem dX11_splice_15 : decode cX11_splice 15 = .ok (.iload_n 2, 1) := by decide +kernel
theorem dX11_splice_16 : decode cX11_splice 16 = .ok (.invokevirtual 95, 3) := by decide +kernel
theorem dX11_splice_19 : decode cX11_splice 19 = .ok (.aload_n 3, 1) := by decide +kernel
theorem dX11_splice_20 : decode cX11_splice 20 = .ok (.getfield 99, 3) := by decide +kernel
theorem dX11_splice_23 : decode cX11_splice 23 = .ok (.ireturn, 1) := by decide +kernel
theorem dX11_cold_0 : decode cX11_cold 0 = .ok (.aload_n 0, 1) := by decide +kernel
theorem dX11_cold_1 : decode cX11_cold 1 = .ok (.iload_n 1, 1) := by decide +kernel
theorem dX11_cold_2 : decode cX11_cold 2 = .ok (.invokevirtual 60, 3) := by decide +kernel
theorem dX11_cold_5 : decode cX11_cold 5 = .ok (.astore_n 3, 1) := by decide +kernel
theorem dX11_cold_6 : decode cX11_cold 6 = .ok (.aload_n 3, 1) := by decide +kernel
theorem dX11_cold_7 : decode cX11_cold 7 = .ok (.iload_n 2, 1) := by decide +kernel
theorem dX11_cold_8 : decode cX11_cold 8 = .ok (.putfield 102, 3) := by decide +kernel
theorem dX11_cold_11 : decode cX11_cold 11 = .ok (.aload_n 3, 1) := by decide +kernel
theorem dX11_cold_12 : decode cX11_cold 12 = .ok (.aload_n 0, 1) := by decide +kernel
theorem dX11_cold_13 : decode cX11_cold 13 = .ok (.getfield 19, 3) := by decide +kernel
theorem dX11_cold_16 : decode cX11_cold 16 = .ok (.invokevirtual 106, 3) := by decide +kernel
theorem dX11_cold_19 : decode cX11_cold 19 = .ok (.ireturn, 1) := by decide +kernel
theorem dX11_copy_0 : decode cX11_copy 0 = .ok (.aload_n 0, 1) := by decide +kernel
theorem dX11_copy_1 : decode cX11_copy 1 = .ok (.iload_n 1, 1) := by decide +kernel
theorem dX11_copy_2 : decode cX11_copy 2 = .ok (.invokevirtual 60, 3) := by decide +kernel
theorem dX11_copy_5 : decode cX11_copy 5 = .ok (.astore_n 2, 1) := by decide +kernel
theorem dX11_copy_6 : decode cX11_copy 6 = .ok (.aload_n 2, 1) := by decide +kernel
theorem dX11_copy_7 : decode cX11_copy 7 = .ok (.invokevirtual 110, 3) := by decide +kernel
theorem dX11_copy_10 : decode cX11_copy 10 = .ok (.ifCond .eq 16, 3) := by decide +kernel
theorem dX11_copy_13 : decode cX11_copy 13 = .ok (.aload_n 0, 1) := by decide +kernel
theorem dX11_copy_14 : decode cX11_copy 14 = .ok (.getfield 15, 3) := by decide +kernel
theorem dX11_copy_17 : decode cX11_copy 17 = .ok (.bipush 12, 2) := by decide +kernel
theorem dX11_copy_19 : decode cX11_copy 19 = .ok (.if_icmp .ge 7, 3) := by decide +kernel
theorem dX11_copy_22 : decode cX11_copy 22 = .ok (.iconst 1, 1) := by decide +kernel
theorem dX11_copy_23 : decode cX11_copy 23 = .ok (.goto 4, 3) := by decide +kernel
theorem dX11_copy_26 : decode cX11_copy 26 = .ok (.iconst 0, 1) := by decide +kernel
theorem dX11_copy_27 : decode cX11_copy 27 = .ok (.invokestatic 75, 3) := by decide +kernel
theorem dX11_copy_30 : decode cX11_copy 30 = .ok (.aload_n 0, 1) := by decide +kernel
theorem dX11_copy_31 : decode cX11_copy 31 = .ok (.getfield 11, 3) := by decide +kernel
theorem dX11_copy_34 : decode cX11_copy 34 = .ok (.aload_n 0, 1) := by decide +kernel
theorem dX11_copy_35 : decode cX11_copy 35 = .ok (.getfield 15, 3) := by decide +kernel
theorem dX11_copy_38 : decode cX11_copy 38 = .ok (.aaload, 1) := by decide +kernel
theorem dX11_copy_39 : decode cX11_copy 39 = .ok (.astore_n 3, 1) := by decide +kernel
theorem dX11_copy_40 : decode cX11_copy 40 = .ok (.aload_n 3, 1) := by decide +kernel
theorem dX11_copy_41 : decode cX11_copy 41 = .ok (.iconst 1, 1) := by decide +kernel
theorem dX11_copy_42 : decode cX11_copy 42 = .ok (.aload_n 0, 1) := by decide +kernel
theorem dX11_copy_43 : decode cX11_copy 43 = .ok (.getfield 19, 3) := by decide +kernel
theorem dX11_copy_46 : decode cX11_copy 46 = .ok (.aload_n 2, 1) := by decide +kernel
theorem dX11_copy_47 : decode cX11_copy 47 = .ok (.getfield 114, 3) := by decide +kernel
theorem dX11_copy_50 : decode cX11_copy 50 = .ok (.aload_n 2, 1) := by decide +kernel
theorem dX11_copy_51 : decode cX11_copy 51 = .ok (.getfield 64, 3) := by decide +kernel
theorem dX11_copy_54 : decode cX11_copy 54 = .ok (.iconst 1, 1) := by decide +kernel
theorem dX11_copy_55 : decode cX11_copy 55 = .ok (.iadd, 1) := by decide +kernel
theorem dX11_copy_56 : decode cX11_copy 56 = .ok (.iconst 0, 1) := by decide +kernel
theorem dX11_copy_57 : decode cX11_copy 57 = .ok (.invokevirtual 78, 3) := by decide +kernel
theorem dX11_copy_60 : decode cX11_copy 60 = .ok (.aload_n 3, 1) := by decide +kernel
theorem dX11_copy_61 : decode cX11_copy 61 = .ok (.aload_n 2, 1) := by decide +kernel
theorem dX11_copy_62 : decode cX11_copy 62 = .ok (.invokevirtual 117, 3) := by decide +kernel
theorem dX11_copy_65 : decode cX11_copy 65 = .ok (.aload_n 0, 1) := by decide +kernel
theorem dX11_copy_66 : decode cX11_copy 66 = .ok (.dup, 1) := by decide +kernel
theorem dX11_copy_67 : decode cX11_copy 67 = .ok (.getfield 15, 3) := by decide +kernel
theorem dX11_copy_70 : decode cX11_copy 70 = .ok (.iconst 1, 1) := by decide +kernel
theorem dX11_copy_71 : decode cX11_copy 71 = .ok (.iadd, 1) := by decide +kernel
theorem dX11_copy_72 : decode cX11_copy 72 = .ok (.putfield 15, 3) := by decide +kernel
theorem dX11_copy_75 : decode cX11_copy 75 = .ok (.aload_n 0, 1) := by decide +kernel
theorem dX11_copy_76 : decode cX11_copy 76 = .ok (.getfield 15, 3) := by decide +kernel
theorem dX11_copy_79 : decode cX11_copy 79 = .ok (.iconst 1, 1) := by decide +kernel
theorem dX11_copy_80 : decode cX11_copy 80 = .ok (.isub, 1) := by decide +kernel
theorem dX11_copy_81 : decode cX11_copy 81 = .ok (.ireturn, 1) := by decide +kernel
theorem dX11_ofReel_0 : decode cX11_ofReel 0 = .ok (.aload_n 0, 1) := by decide +kernel
theorem dX11_ofReel_1 : decode cX11_ofReel 1 = .ok (.iload_n 1, 1) := by decide +kernel
theorem dX11_ofReel_2 : decode cX11_ofReel 2 = .ok (.invokevirtual 60, 3) := by decide +kernel
theorem dX11_ofReel_5 : decode cX11_ofReel 5 = .ok (.astore_n 3, 1) := by decide +kernel
theorem dX11_ofReel_6 : decode cX11_ofReel 6 = .ok (.iload_n 2, 1) := by decide +kernel
theorem dX11_ofReel_7 : decode cX11_ofReel 7 = .ok (.tableswitch 103 0 8 #[49, 54, 59, 64, 77, 82, 87, 92, 98], 49) := by decide +kernel
theorem dX11_ofReel_56 : decode cX11_ofReel 56 = .ok (.aload_n 3, 1) := by decide +kernel
theorem dX11_ofReel_57 : decode cX11_ofReel 57 = .ok (.getfield 82, 3) := by decide +kernel
theorem dX11_ofReel_60 : decode cX11_ofReel 60 = .ok (.ireturn, 1) := by decide +kernel
theorem dX11_ofReel_61 : decode cX11_ofReel 61 = .ok (.aload_n 3, 1) := by decide +kernel
theorem dX11_ofReel_62 : decode cX11_ofReel 62 = .ok (.getfield 64, 3) := by decide +kernel
theorem dX11_ofReel_65 : decode cX11_ofReel 65 = .ok (.ireturn, 1) := by decide +kernel
theorem dX11_ofReel_66 : decode cX11_ofReel 66 = .ok (.aload_n 3, 1) := by decide +kernel
theorem dX11_ofReel_67 : decode cX11_ofReel 67 = .ok (.getfield 121, 3) := by decide +kernel
theorem dX11_ofReel_70 : decode cX11_ofReel 70 = .ok (.ireturn, 1) := by decide +kernel
theorem dX11_ofReel_71 : decode cX11_ofReel 71 = .ok (.aload_n 3, 1) := by decide +kernel
theorem dX11_ofReel_72 : decode cX11_ofReel 72 = .ok (.invokevirtual 110, 3) := by decide +kernel
theorem dX11_ofReel_75 : decode cX11_ofReel 75 = .ok (.ifCond .eq 7, 3) := by decide +kernel
theorem dX11_ofReel_78 : decode cX11_ofReel 78 = .ok (.iconst 1, 1) := by decide +kernel
theorem dX11_ofReel_79 : decode cX11_ofReel 79 = .ok (.goto 4, 3) := by decide +kernel
theorem dX11_ofReel_82 : decode cX11_ofReel 82 = .ok (.iconst 0, 1) := by decide +kernel
theorem dX11_ofReel_83 : decode cX11_ofReel 83 = .ok (.ireturn, 1) := by decide +kernel
theorem dX11_ofReel_84 : decode cX11_ofReel 84 = .ok (.aload_n 3, 1) := by decide +kernel
theorem dX11_ofReel_85 : decode cX11_ofReel 85 = .ok (.invokevirtual 124, 3) := by decide +kernel
theorem dX11_ofReel_88 : decode cX11_ofReel 88 = .ok (.ireturn, 1) := by decide +kernel
theorem dX11_ofReel_89 : decode cX11_ofReel 89 = .ok (.aload_n 3, 1) := by decide +kernel
theorem dX11_ofReel_90 : decode cX11_ofReel 90 = .ok (.invokevirtual 128, 3) := by decide +kernel
theorem dX11_ofReel_93 : decode cX11_ofReel 93 = .ok (.ireturn, 1) := by decide +kernel
theorem dX11_ofReel_94 : decode cX11_ofReel 94 = .ok (.aload_n 3, 1) := by decide +kernel
theorem dX11_ofReel_95 : decode cX11_ofReel 95 = .ok (.invokevirtual 131, 3) := by decide +kernel
theorem dX11_ofReel_98 : decode cX11_ofReel 98 = .ok (.ireturn, 1) := by decide +kernel
theorem dX11_ofReel_99 : decode cX11_ofReel 99 = .ok (.aload_n 0, 1) := by decide +kernel
theorem dX11_ofReel_100 : decode cX11_ofReel 100 = .ok (.iload_n 1, 1) := by decide +kernel
theorem dX11_ofReel_101 : decode cX11_ofReel 101 = .ok (.invokevirtual 134, 3) := by decide +kernel
theorem dX11_ofReel_104 : decode cX11_ofReel 104 = .ok (.ireturn, 1) := by decide +kernel
theorem dX11_ofReel_105 : decode cX11_ofReel 105 = .ok (.aload_n 3, 1) := by decide +kernel
theorem dX11_ofReel_106 : decode cX11_ofReel 106 = .ok (.getfield 137, 3) := by decide +kernel
theorem dX11_ofReel_109 : decode cX11_ofReel 109 = .ok (.ireturn, 1) := by decide +kernel
theorem dX11_ofReel_110 : decode cX11_ofReel 110 = .ok (.new 140, 3) := by decide +kernel
theorem dX11_ofReel_113 : decode cX11_ofReel 113 = .ok (.dup, 1) := by decide +kernel
theorem dX11_ofReel_114 : decode cX11_ofReel 114 = .ok (.ldc 142, 2) := by decide +kernel
theorem dX11_ofReel_116 : decode cX11_ofReel 116 = .ok (.invokespecial 144, 3) := by decide +kernel
theorem dX11_ofReel_119 : decode cX11_ofReel 119 = .ok (.athrow, 1) := by decide +kernel
theorem dX11_tolerance_0 : decode cX11_tolerance 0 = .ok (.iload_n 1, 1) := by decide +kernel
theorem dX11_tolerance_1 : decode cX11_tolerance 1 = .ok (.iconst 0, 1) := by decide +kernel
theorem dX11_tolerance_2 : decode cX11_tolerance 2 = .ok (.sipush 2040, 3) := by decide +kernel
theorem dX11_tolerance_5 : decode cX11_tolerance 5 = .ok (.invokestatic 67, 3) := by decide +kernel
theorem dX11_tolerance_8 : decode cX11_tolerance 8 = .ok (.invokestatic 71, 3) := by decide +kernel
theorem dX11_tolerance_11 : decode cX11_tolerance 11 = .ok (.aload_n 0, 1) := by decide +kernel
theorem dX11_tolerance_12 : decode cX11_tolerance 12 = .ok (.getfield 22, 3) := by decide +kernel
theorem dX11_tolerance_15 : decode cX11_tolerance 15 = .ok (.istore_n 2, 1) := by decide +kernel
theorem dX11_tolerance_16 : decode cX11_tolerance 16 = .ok (.aload_n 0, 1) := by decide +kernel
theorem dX11_tolerance_17 : decode cX11_tolerance 17 = .ok (.iload_n 1, 1) := by decide +kernel
theorem dX11_tolerance_18 : decode cX11_tolerance 18 = .ok (.putfield 22, 3) := by decide +kernel
theorem dX11_tolerance_21 : decode cX11_tolerance 21 = .ok (.iload_n 2, 1) := by decide +kernel
theorem dX11_tolerance_22 : decode cX11_tolerance 22 = .ok (.ireturn, 1) := by decide +kernel
theorem dX11_align_0 : decode cX11_align 0 = .ok (.aload_n 0, 1) := by decide +kernel
theorem dX11_align_1 : decode cX11_align 1 = .ok (.iload_n 1, 1) := by decide +kernel
theorem dX11_align_2 : decode cX11_align 2 = .ok (.invokevirtual 60, 3) := by decide +kernel
theorem dX11_align_5 : decode cX11_align 5 = .ok (.astore_n 3, 1) := by decide +kernel
theorem dX11_align_6 : decode cX11_align 6 = .ok (.aload_n 0, 1) := by decide +kernel
theorem dX11_align_7 : decode cX11_align 7 = .ok (.iload_n 2, 1) := by decide +kernel
theorem dX11_align_8 : decode cX11_align 8 = .ok (.invokevirtual 60, 3) := by decide +kernel
theorem dX11_align_11 : decode cX11_align 11 = .ok (.astore 4, 2) := by decide +kernel
theorem dX11_align_13 : decode cX11_align 13 = .ok (.aload_n 3, 1) := by decide +kernel
theorem dX11_align_14 : decode cX11_align 14 = .ok (.invokevirtual 110, 3) := by decide +kernel
theorem dX11_align_17 : decode cX11_align 17 = .ok (.ifCond .eq 15, 3) := by decide +kernel
theorem dX11_align_20 : decode cX11_align 20 = .ok (.aload 4, 2) := by decide +kernel
theorem dX11_align_22 : decode cX11_align 22 = .ok (.invokevirtual 110, 3) := by decide +kernel
theorem dX11_align_25 : decode cX11_align 25 = .ok (.ifCond .eq 7, 3) := by decide +kernel
theorem dX11_align_28 : decode cX11_align 28 = .ok (.iconst 1, 1) := by decide +kernel
theorem dX11_align_29 : decode cX11_align 29 = .ok (.goto 4, 3) := by decide +kernel
theorem dX11_align_32 : decode cX11_align 32 = .ok (.iconst 0, 1) := by decide +kernel
theorem dX11_align_33 : decode cX11_align 33 = .ok (.invokestatic 75, 3) := by decide +kernel
theorem dX11_align_36 : decode cX11_align 36 = .ok (.aload_n 0, 1) := by decide +kernel
theorem dX11_align_37 : decode cX11_align 37 = .ok (.getfield 28, 3) := by decide +kernel
theorem dX11_align_40 : decode cX11_align 40 = .ok (.aload_n 3, 1) := by decide +kernel
theorem dX11_align_41 : decode cX11_align 41 = .ok (.aload 4, 2) := by decide +kernel
theorem dX11_align_43 : decode cX11_align 43 = .ok (.aload_n 0, 1) := by decide +kernel
theorem dX11_align_44 : decode cX11_align 44 = .ok (.getfield 22, 3) := by decide +kernel
theorem dX11_align_47 : decode cX11_align 47 = .ok (.invokevirtual 147, 3) := by decide +kernel
theorem dX11_align_50 : decode cX11_align 50 = .ok (.ireturn, 1) := by decide +kernel
theorem dX11_pairOf_0 : decode cX11_pairOf 0 = .ok (.aload_n 0, 1) := by decide +kernel
theorem dX11_pairOf_1 : decode cX11_pairOf 1 = .ok (.iload_n 1, 1) := by decide +kernel
theorem dX11_pairOf_2 : decode cX11_pairOf 2 = .ok (.invokevirtual 60, 3) := by decide +kernel
theorem dX11_pairOf_5 : decode cX11_pairOf 5 = .ok (.astore 4, 2) := by decide +kernel
theorem dX11_pairOf_7 : decode cX11_pairOf 7 = .ok (.aload_n 0, 1) := by decide +kernel
theorem dX11_pairOf_8 : decode cX11_pairOf 8 = .ok (.iload_n 3, 1) := by decide +kernel
theorem dX11_pairOf_9 : decode cX11_pairOf 9 = .ok (.invokevirtual 60, 3) := by decide +kernel
theorem dX11_pairOf_12 : decode cX11_pairOf 12 = .ok (.astore 5, 2) := by decide +kernel
theorem dX11_pairOf_14 : decode cX11_pairOf 14 = .ok (.iload_n 2, 1) := by decide +kernel
theorem dX11_pairOf_15 : decode cX11_pairOf 15 = .ok (.aload 4, 2) := by decide +kernel
theorem dX11_pairOf_17 : decode cX11_pairOf 17 = .ok (.getfield 82, 3) := by decide +kernel
theorem dX11_pairOf_20 : decode cX11_pairOf 20 = .ok (.invokestatic 91, 3) := by decide +kernel
theorem dX11_pairOf_23 : decode cX11_pairOf 23 = .ok (.aload 4, 2) := by decide +kernel
theorem dX11_pairOf_25 : decode cX11_pairOf 25 = .ok (.invokevirtual 110, 3) := by decide +kernel
theorem dX11_pairOf_28 : decode cX11_pairOf 28 = .ok (.ifCond .eq 15, 3) := by decide +kernel
theorem dX11_pairOf_31 : decode cX11_pairOf 31 = .ok (.aload 5, 2) := by decide +kernel
theorem dX11_pairOf_33 : decode cX11_pairOf 33 = .ok (.invokevirtual 110, 3) := by decide +kernel
theorem dX11_pairOf_36 : decode cX11_pairOf 36 = .ok (.ifCond .eq 7, 3) := by decide +kernel
theorem dX11_pairOf_39 : decode cX11_pairOf 39 = .ok (.iconst 1, 1) := by decide +kernel
theorem dX11_pairOf_40 : decode cX11_pairOf 40 = .ok (.goto 4, 3) := by decide +kernel
theorem dX11_pairOf_43 : decode cX11_pairOf 43 = .ok (.iconst 0, 1) := by decide +kernel
theorem dX11_pairOf_44 : decode cX11_pairOf 44 = .ok (.invokestatic 75, 3) := by decide +kernel
theorem dX11_pairOf_47 : decode cX11_pairOf 47 = .ok (.aload_n 0, 1) := by decide +kernel
theorem dX11_pairOf_48 : decode cX11_pairOf 48 = .ok (.getfield 28, 3) := by decide +kernel
theorem dX11_pairOf_51 : decode cX11_pairOf 51 = .ok (.aload 4, 2) := by decide +kernel
theorem dX11_pairOf_53 : decode cX11_pairOf 53 = .ok (.iload_n 2, 1) := by decide +kernel
theorem dX11_pairOf_54 : decode cX11_pairOf 54 = .ok (.aload 5, 2) := by decide +kernel
theorem dX11_pairOf_56 : decode cX11_pairOf 56 = .ok (.aload_n 0, 1) := by decide +kernel
theorem dX11_pairOf_57 : decode cX11_pairOf 57 = .ok (.getfield 22, 3) := by decide +kernel
theorem dX11_pairOf_60 : decode cX11_pairOf 60 = .ok (.invokevirtual 151, 3) := by decide +kernel
theorem dX11_pairOf_63 : decode cX11_pairOf 63 = .ok (.ireturn, 1) := by decide +kernel
theorem dX11_alike_0 : decode cX11_alike 0 = .ok (.aload_n 0, 1) := by decide +kernel
theorem dX11_alike_1 : decode cX11_alike 1 = .ok (.iload_n 1, 1) := by decide +kernel
theorem dX11_alike_2 : decode cX11_alike 2 = .ok (.invokevirtual 60, 3) := by decide +kernel
theorem dX11_alike_5 : decode cX11_alike 5 = .ok (.astore 5, 2) := by decide +kernel
theorem dX11_alike_7 : decode cX11_alike 7 = .ok (.aload_n 0, 1) := by decide +kernel
theorem dX11_alike_8 : decode cX11_alike 8 = .ok (.iload_n 3, 1) := by decide +kernel
theorem dX11_alike_9 : decode cX11_alike 9 = .ok (.invokevirtual 60, 3) := by decide +kernel
theorem dX11_alike_12 : decode cX11_alike 12 = .ok (.astore 6, 2) := by decide +kernel
theorem dX11_alike_14 : decode cX11_alike 14 = .ok (.iload_n 2, 1) := by decide +kernel
theorem dX11_alike_15 : decode cX11_alike 15 = .ok (.aload 5, 2) := by decide +kernel
theorem dX11_alike_17 : decode cX11_alike 17 = .ok (.getfield 82, 3) := by decide +kernel
theorem dX11_alike_20 : decode cX11_alike 20 = .ok (.invokestatic 91, 3) := by decide +kernel
theorem dX11_alike_23 : decode cX11_alike 23 = .ok (.iload 4, 2) := by decide +kernel
theorem dX11_alike_25 : decode cX11_alike 25 = .ok (.aload 6, 2) := by decide +kernel
theorem dX11_alike_27 : decode cX11_alike 27 = .ok (.getfield 82, 3) := by decide +kernel
theorem dX11_alike_30 : decode cX11_alike 30 = .ok (.invokestatic 91, 3) := by decide +kernel
theorem dX11_alike_33 : decode cX11_alike 33 = .ok (.aload 5, 2) := by decide +kernel
theorem dX11_alike_35 : decode cX11_alike 35 = .ok (.getfield 155, 3) := by decide +kernel
theorem dX11_alike_38 : decode cX11_alike 38 = .ok (.iload_n 2, 1) := by decide +kernel
theorem dX11_alike_39 : decode cX11_alike 39 = .ok (.laload, 1) := by decide +kernel
theorem dX11_alike_40 : decode cX11_alike 40 = .ok (.aload 6, 2) := by decide +kernel
theorem dX11_alike_42 : decode cX11_alike 42 = .ok (.getfield 155, 3) := by decide +kernel
theorem dX11_alike_45 : decode cX11_alike 45 = .ok (.iload 4, 2) := by decide +kernel
theorem dX11_alike_47 : decode cX11_alike 47 = .ok (.laload, 1) := by decide +kernel
theorem dX11_alike_48 : decode cX11_alike 48 = .ok (.invokestatic 159, 3) := by decide +kernel
theorem dX11_alike_51 : decode cX11_alike 51 = .ok (.istore 7, 2) := by decide +kernel
theorem dX11_alike_53 : decode cX11_alike 53 = .ok (.fconst 1, 1) := by decide +kernel
theorem dX11_alike_54 : decode cX11_alike 54 = .ok (.iload 7, 2) := by decide +kernel
theorem dX11_alike_56 : decode cX11_alike 56 = .ok (.i2f, 1) := by decide +kernel
theorem dX11_alike_57 : decode cX11_alike 57 = .ok (.ldc 165, 2) := by decide +kernel
theorem dX11_alike_59 : decode cX11_alike 59 = .ok (.fdiv, 1) := by decide +kernel
theorem dX11_alike_60 : decode cX11_alike 60 = .ok (.fsub, 1) := by decide +kernel
theorem dX11_alike_61 : decode cX11_alike 61 = .ok (.freturn, 1) := by decide +kernel
theorem dX11_version_0 : decode cX11_version 0 = .ok (.iload_n 1, 1) := by decide +kernel
theorem dX11_version_1 : decode cX11_version 1 = .ok (.iconst 0, 1) := by decide +kernel
theorem dX11_version_2 : decode cX11_version 2 = .ok (.iconst 3, 1) := by decide +kernel
theorem dX11_version_3 : decode cX11_version 3 = .ok (.invokestatic 67, 3) := by decide +kernel
theorem dX11_version_6 : decode cX11_version 6 = .ok (.ifCond .eq 20, 3) := by decide +kernel
theorem dX11_version_9 : decode cX11_version 9 = .ok (.iload_n 2, 1) := by decide +kernel
theorem dX11_version_10 : decode cX11_version 10 = .ok (.sipush 1890, 3) := by decide +kernel
theorem dX11_version_13 : decode cX11_version 13 = .ok (.sipush 2100, 3) := by decide +kernel
theorem dX11_version_16 : decode cX11_version 16 = .ok (.invokestatic 67, 3) := by decide +kernel
theorem dX11_version_19 : decode cX11_version 19 = .ok (.ifCond .eq 7, 3) := by decide +kernel
theorem dX11_version_22 : decode cX11_version 22 = .ok (.iconst 1, 1) := by decide +kernel
theorem dX11_version_23 : decode cX11_version 23 = .ok (.goto 4, 3) := by decide +kernel
theorem dX11_version_26 : decode cX11_version 26 = .ok (.iconst 0, 1) := by decide +kernel
theorem dX11_version_27 : decode cX11_version 27 = .ok (.invokestatic 71, 3) := by decide +kernel
theorem dX11_version_30 : decode cX11_version 30 = .ok (.aload_n 0, 1) := by decide +kernel
theorem dX11_version_31 : decode cX11_version 31 = .ok (.getfield 38, 3) := by decide +kernel
theorem dX11_version_34 : decode cX11_version 34 = .ok (.bipush 6, 2) := by decide +kernel
theorem dX11_version_36 : decode cX11_version 36 = .ok (.if_icmp .ge 7, 3) := by decide +kernel
theorem dX11_version_39 : decode cX11_version 39 = .ok (.iconst 1, 1) := by decide +kernel
theorem dX11_version_40 : decode cX11_version 40 = .ok (.goto 4, 3) := by decide +kernel
theorem dX11_version_43 : decode cX11_version 43 = .ok (.iconst 0, 1) := by decide +kernel
theorem dX11_version_44 : decode cX11_version 44 = .ok (.invokestatic 75, 3) := by decide +kernel
theorem dX11_version_47 : decode cX11_version 47 = .ok (.aload_n 0, 1) := by decide +kernel
theorem dX11_version_48 : decode cX11_version 48 = .ok (.getfield 34, 3) := by decide +kernel
theorem dX11_version_51 : decode cX11_version 51 = .ok (.aload_n 0, 1) := by decide +kernel
theorem dX11_version_52 : decode cX11_version 52 = .ok (.getfield 38, 3) := by decide +kernel
theorem dX11_version_55 : decode cX11_version 55 = .ok (.aaload, 1) := by decide +kernel
theorem dX11_version_56 : decode cX11_version 56 = .ok (.iload_n 1, 1) := by decide +kernel
theorem dX11_version_57 : decode cX11_version 57 = .ok (.iload_n 2, 1) := by decide +kernel
theorem dX11_version_58 : decode cX11_version 58 = .ok (.invokevirtual 166, 3) := by decide +kernel
theorem dX11_version_61 : decode cX11_version 61 = .ok (.aload_n 0, 1) := by decide +kernel
theorem dX11_version_62 : decode cX11_version 62 = .ok (.dup, 1) := by decide +kernel
theorem dX11_version_63 : decode cX11_version 63 = .ok (.getfield 38, 3) := by decide +kernel
theorem dX11_version_66 : decode cX11_version 66 = .ok (.iconst 1, 1) := by decide +kernel
theorem dX11_version_67 : decode cX11_version 67 = .ok (.iadd, 1) := by decide +kernel
theorem dX11_version_68 : decode cX11_version 68 = .ok (.putfield 38, 3) := by decide +kernel
theorem dX11_version_71 : decode cX11_version 71 = .ok (.aload_n 0, 1) := by decide +kernel
theorem dX11_version_72 : decode cX11_version 72 = .ok (.getfield 38, 3) := by decide +kernel
theorem dX11_version_75 : decode cX11_version 75 = .ok (.iconst 1, 1) := by decide +kernel
theorem dX11_version_76 : decode cX11_version 76 = .ok (.isub, 1) := by decide +kernel
theorem dX11_version_77 : decode cX11_version 77 = .ok (.ireturn, 1) := by decide +kernel
theorem dX11_shot_0 : decode cX11_shot 0 = .ok (.aload_n 0, 1) := by decide +kernel
theorem dX11_shot_1 : decode cX11_shot 1 = .ok (.iload_n 1, 1) := by decide +kernel
theorem dX11_shot_2 : decode cX11_shot 2 = .ok (.invokevirtual 168, 3) := by decide +kernel
theorem dX11_shot_5 : decode cX11_shot 5 = .ok (.astore 4, 2) := by decide +kernel
theorem dX11_shot_7 : decode cX11_shot 7 = .ok (.iload_n 2, 1) := by decide +kernel
theorem dX11_shot_8 : decode cX11_shot 8 = .ok (.iconst 0, 1) := by decide +kernel
theorem dX11_shot_9 : decode cX11_shot 9 = .ok (.sipush 999, 3) := by decide +kernel
theorem dX11_shot_12 : decode cX11_shot 12 = .ok (.invokestatic 67, 3) := by decide +kernel
theorem dX11_shot_15 : decode cX11_shot 15 = .ok (.ifCond .eq 18, 3) := by decide +kernel
theorem dX11_shot_18 : decode cX11_shot 18 = .ok (.iload_n 3, 1) := by decide +kernel
theorem dX11_shot_19 : decode cX11_shot 19 = .ok (.iload_n 2, 1) := by decide +kernel
theorem dX11_shot_20 : decode cX11_shot 20 = .ok (.sipush 999, 3) := by decide +kernel
theorem dX11_shot_23 : decode cX11_shot 23 = .ok (.invokestatic 67, 3) := by decide +kernel
theorem dX11_shot_26 : decode cX11_shot 26 = .ok (.ifCond .eq 7, 3) := by decide +kernel
theorem dX11_shot_29 : decode cX11_shot 29 = .ok (.iconst 1, 1) := by decide +kernel
theorem dX11_shot_30 : decode cX11_shot 30 = .ok (.goto 4, 3) := by decide +kernel
theorem dX11_shot_33 : decode cX11_shot 33 = .ok (.iconst 0, 1) := by decide +kernel
theorem dX11_shot_34 : decode cX11_shot 34 = .ok (.invokestatic 71, 3) := by decide +kernel
theorem dX11_shot_37 : decode cX11_shot 37 = .ok (.aload 4, 2) := by decide +kernel
theorem dX11_shot_39 : decode cX11_shot 39 = .ok (.getfield 172, 3) := by decide +kernel
theorem dX11_shot_42 : decode cX11_shot 42 = .ok (.bipush 10, 2) := by decide +kernel
theorem dX11_shot_44 : decode cX11_shot 44 = .ok (.if_icmp .ge 23, 3) := by decide +kernel
theorem dX11_shot_47 : decode cX11_shot 47 = .ok (.aload 4, 2) := by decide +kernel
theorem dX11_shot_49 : decode cX11_shot 49 = .ok (.getfield 175, 3) := by decide +kernel
theorem dX11_shot_52 : decode cX11_shot 52 = .ok (.iload_n 3, 1) := by decide +kernel
theorem dX11_shot_53 : decode cX11_shot 53 = .ok (.iadd, 1) := by decide +kernel
theorem dX11_shot_54 : decode cX11_shot 54 = .ok (.iload_n 2, 1) := by decide +kernel
theorem dX11_shot_55 : decode cX11_shot 55 = .ok (.isub, 1) := by decide +kernel
theorem dX11_shot_56 : decode cX11_shot 56 = .ok (.iconst 1, 1) := by decide +kernel
theorem dX11_shot_57 : decode cX11_shot 57 = .ok (.iadd, 1) := by decide +kernel
theorem dX11_shot_58 : decode cX11_shot 58 = .ok (.bipush 120, 2) := by decide +kernel
theorem dX11_shot_60 : decode cX11_shot 60 = .ok (.if_icmp .gt 7, 3) := by decide +kernel
theorem dX11_shot_63 : decode cX11_shot 63 = .ok (.iconst 1, 1) := by decide +kernel
theorem dX11_shot_64 : decode cX11_shot 64 = .ok (.goto 4, 3) := by decide +kernel
theorem dX11_shot_67 : decode cX11_shot 67 = .ok (.iconst 0, 1) := by decide +kernel
theorem dX11_shot_68 : decode cX11_shot 68 = .ok (.invokestatic 75, 3) := by decide +kernel
theorem dX11_shot_71 : decode cX11_shot 71 = .ok (.aload 4, 2) := by decide +kernel
theorem dX11_shot_73 : decode cX11_shot 73 = .ok (.iload_n 2, 1) := by decide +kernel
theorem dX11_shot_74 : decode cX11_shot 74 = .ok (.iload_n 3, 1) := by decide +kernel
theorem dX11_shot_75 : decode cX11_shot 75 = .ok (.invokevirtual 178, 3) := by decide +kernel
theorem dX11_shot_78 : decode cX11_shot 78 = .ok (.aload 4, 2) := by decide +kernel
theorem dX11_shot_80 : decode cX11_shot 80 = .ok (.getfield 175, 3) := by decide +kernel
theorem dX11_shot_83 : decode cX11_shot 83 = .ok (.ireturn, 1) := by decide +kernel
theorem dX11_proof_0 : decode cX11_proof 0 = .ok (.aload_n 0, 1) := by decide +kernel
theorem dX11_proof_1 : decode cX11_proof 1 = .ok (.iload_n 1, 1) := by decide +kernel
theorem dX11_proof_2 : decode cX11_proof 2 = .ok (.invokevirtual 168, 3) := by decide +kernel
theorem dX11_proof_5 : decode cX11_proof 5 = .ok (.astore_n 2, 1) := by decide +kernel
theorem dX11_proof_6 : decode cX11_proof 6 = .ok (.aload_n 2, 1) := by decide +kernel
theorem dX11_proof_7 : decode cX11_proof 7 = .ok (.dup, 1) := by decide +kernel
theorem dX11_proof_8 : decode cX11_proof 8 = .ok (.getfield 181, 3) := by decide +kernel
theorem dX11_proof_11 : decode cX11_proof 11 = .ok (.iconst 1, 1) := by decide +kernel
theorem dX11_proof_12 : decode cX11_proof 12 = .ok (.iadd, 1) := by decide +kernel
theorem dX11_proof_13 : decode cX11_proof 13 = .ok (.putfield 181, 3) := by decide +kernel
theorem dX11_proof_16 : decode cX11_proof 16 = .ok (.aload_n 2, 1) := by decide +kernel
theorem dX11_proof_17 : decode cX11_proof 17 = .ok (.getfield 181, 3) := by decide +kernel
theorem dX11_proof_20 : decode cX11_proof 20 = .ok (.ireturn, 1) := by decide +kernel
theorem dX11_speed_0 : decode cX11_speed 0 = .ok (.aload_n 0, 1) := by decide +kernel
theorem dX11_speed_1 : decode cX11_speed 1 = .ok (.iload_n 1, 1) := by decide +kernel
theorem dX11_speed_2 : decode cX11_speed 2 = .ok (.invokevirtual 168, 3) := by decide +kernel
theorem dX11_speed_5 : decode cX11_speed 5 = .ok (.astore 4, 2) := by decide +kernel
theorem dX11_speed_7 : decode cX11_speed 7 = .ok (.iload_n 2, 1) := by decide +kernel
theorem dX11_speed_8 : decode cX11_speed 8 = .ok (.aload 4, 2) := by decide +kernel
theorem dX11_speed_10 : decode cX11_speed 10 = .ok (.getfield 172, 3) := by decide +kernel
theorem dX11_speed_13 : decode cX11_speed 13 = .ok (.invokestatic 91, 3) := by decide +kernel
theorem dX11_speed_16 : decode cX11_speed 16 = .ok (.iload_n 3, 1) := by decide +kernel
theorem dX11_speed_17 : decode cX11_speed 17 = .ok (.bipush 8, 2) := by decide +kernel
theorem dX11_speed_19 : decode cX11_speed 19 = .ok (.bipush 30, 2) := by decide +kernel
theorem dX11_speed_21 : decode cX11_speed 21 = .ok (.invokestatic 67, 3) := by decide +kernel
theorem dX11_speed_24 : decode cX11_speed 24 = .ok (.invokestatic 71, 3) := by decide +kernel
theorem dX11_speed_27 : decode cX11_speed 27 = .ok (.aload 4, 2) := by decide +kernel
theorem dX11_speed_29 : decode cX11_speed 29 = .ok (.getfield 184, 3) := by decide +kernel
theorem dX11_speed_32 : decode cX11_speed 32 = .ok (.iload_n 2, 1) := by decide +kernel
theorem dX11_speed_33 : decode cX11_speed 33 = .ok (.iaload, 1) := by decide +kernel
theorem dX11_speed_34 : decode cX11_speed 34 = .ok (.istore 5, 2) := by decide +kernel
theorem dX11_speed_36 : decode cX11_speed 36 = .ok (.aload 4, 2) := by decide +kernel
theorem dX11_speed_38 : decode cX11_speed 38 = .ok (.getfield 184, 3) := by decide +kernel
theorem dX11_speed_41 : decode cX11_speed 41 = .ok (.iload_n 2, 1) := by decide +kernel
theorem dX11_speed_42 : decode cX11_speed 42 = .ok (.iload_n 3, 1) := by decide +kernel
theorem dX11_speed_43 : decode cX11_speed 43 = .ok (.iastore, 1) := by decide +kernel
theorem dX11_speed_44 : decode cX11_speed 44 = .ok (.iload 5, 2) := by decide +kernel
theorem dX11_speed_46 : decode cX11_speed 46 = .ok (.ireturn, 1) := by decide +kernel
theorem dX11_ofVersion_0 : decode cX11_ofVersion 0 = .ok (.aload_n 0, 1) := by decide +kernel
theorem dX11_ofVersion_1 : decode cX11_ofVersion 1 = .ok (.iload_n 1, 1) := by decide +kernel
theorem dX11_ofVersion_2 : decode cX11_ofVersion 2 = .ok (.invokevirtual 168, 3) := by decide +kernel
theorem dX11_ofVersion_5 : decode cX11_ofVersion 5 = .ok (.astore_n 3, 1) := by decide +kernel
theorem dX11_ofVersion_6 : decode cX11_ofVersion 6 = .ok (.iload_n 2, 1) := by decide +kernel
theorem dX11_ofVersion_7 : decode cX11_ofVersion 7 = .ok (.tableswitch 72 0 5 #[37, 42, 48, 57, 62, 67], 37) := by decide +kernel
theorem dX11_ofVersion_44 : decode cX11_ofVersion 44 = .ok (.aload_n 3, 1) := by decide +kernel
theorem dX11_ofVersion_45 : decode cX11_ofVersion 45 = .ok (.getfield 175, 3) := by decide +kernel
theorem dX11_ofVersion_48 : decode cX11_ofVersion 48 = .ok (.ireturn, 1) := by decide +kernel
theorem dX11_ofVersion_49 : decode cX11_ofVersion 49 = .ok (.aload_n 0, 1) := by decide +kernel
theorem dX11_ofVersion_50 : decode cX11_ofVersion 50 = .ok (.aload_n 3, 1) := by decide +kernel
theorem dX11_ofVersion_51 : decode cX11_ofVersion 51 = .ok (.invokevirtual 188, 3) := by decide +kernel
theorem dX11_ofVersion_54 : decode cX11_ofVersion 54 = .ok (.ireturn, 1) := by decide +kernel
theorem dX11_ofVersion_55 : decode cX11_ofVersion 55 = .ok (.aload_n 3, 1) := by decide +kernel
theorem dX11_ofVersion_56 : decode cX11_ofVersion 56 = .ok (.getfield 181, 3) := by decide +kernel
theorem dX11_ofVersion_59 : decode cX11_ofVersion 59 = .ok (.iconst 2, 1) := by decide +kernel
theorem dX11_ofVersion_60 : decode cX11_ofVersion 60 = .ok (.invokestatic 192, 3) := by decide +kernel
theorem dX11_ofVersion_63 : decode cX11_ofVersion 63 = .ok (.ireturn, 1) := by decide +kernel
theorem dX11_ofVersion_64 : decode cX11_ofVersion 64 = .ok (.aload_n 3, 1) := by decide +kernel
theorem dX11_ofVersion_65 : decode cX11_ofVersion 65 = .ok (.invokevirtual 198, 3) := by decide +kernel
theorem dX11_ofVersion_68 : decode cX11_ofVersion 68 = .ok (.ireturn, 1) := by decide +kernel
theorem dX11_ofVersion_69 : decode cX11_ofVersion 69 = .ok (.aload_n 3, 1) := by decide +kernel
theorem dX11_ofVersion_70 : decode cX11_ofVersion 70 = .ok (.getfield 201, 3) := by decide +kernel
theorem dX11_ofVersion_73 : decode cX11_ofVersion 73 = .ok (.ireturn, 1) := by decide +kernel
theorem dX11_ofVersion_74 : decode cX11_ofVersion 74 = .ok (.aload_n 3, 1) := by decide +kernel
theorem dX11_ofVersion_75 : decode cX11_ofVersion 75 = .ok (.getfield 202, 3) := by decide +kernel
theorem dX11_ofVersion_78 : decode cX11_ofVersion 78 = .ok (.ireturn, 1) := by decide +kernel
theorem dX11_ofVersion_79 : decode cX11_ofVersion 79 = .ok (.new 140, 3) := by decide +kernel
theorem dX11_ofVersion_82 : decode cX11_ofVersion 82 = .ok (.dup, 1) := by decide +kernel
theorem dX11_ofVersion_83 : decode cX11_ofVersion 83 = .ok (.ldc 142, 2) := by decide +kernel
theorem dX11_ofVersion_85 : decode cX11_ofVersion 85 = .ok (.invokespecial 144, 3) := by decide +kernel
theorem dX11_ofVersion_88 : decode cX11_ofVersion 88 = .ok (.athrow, 1) := by decide +kernel
theorem dX11_scrap_0 : decode cX11_scrap 0 = .ok (.iload_n 1, 1) := by decide +kernel
theorem dX11_scrap_1 : decode cX11_scrap 1 = .ok (.iconst 0, 1) := by decide +kernel
theorem dX11_scrap_2 : decode cX11_scrap 2 = .ok (.sipush 999, 3) := by decide +kernel
theorem dX11_scrap_5 : decode cX11_scrap 5 = .ok (.invokestatic 67, 3) := by decide +kernel
theorem dX11_scrap_8 : decode cX11_scrap 8 = .ok (.ifCond .eq 17, 3) := by decide +kernel
theorem dX11_scrap_11 : decode cX11_scrap 11 = .ok (.iload_n 2, 1) := by decide +kernel
theorem dX11_scrap_12 : decode cX11_scrap 12 = .ok (.iconst 0, 1) := by decide +kernel
theorem dX11_scrap_13 : decode cX11_scrap 13 = .ok (.bipush 9, 2) := by decide +kernel
theorem dX11_scrap_15 : decode cX11_scrap 15 = .ok (.invokestatic 67, 3) := by decide +kernel
theorem dX11_scrap_18 : decode cX11_scrap 18 = .ok (.ifCond .eq 7, 3) := by decide +kernel
theorem dX11_scrap_21 : decode cX11_scrap 21 = .ok (.iconst 1, 1) := by decide +kernel
theorem dX11_scrap_22 : decode cX11_scrap 22 = .ok (.goto 4, 3) := by decide +kernel
theorem dX11_scrap_25 : decode cX11_scrap 25 = .ok (.iconst 0, 1) := by decide +kernel
theorem dX11_scrap_26 : decode cX11_scrap 26 = .ok (.invokestatic 71, 3) := by decide +kernel
theorem dX11_scrap_29 : decode cX11_scrap 29 = .ok (.aload_n 0, 1) := by decide +kernel
theorem dX11_scrap_30 : decode cX11_scrap 30 = .ok (.getfield 47, 3) := by decide +kernel
theorem dX11_scrap_33 : decode cX11_scrap 33 = .ok (.getfield 203, 3) := by decide +kernel
theorem dX11_scrap_36 : decode cX11_scrap 36 = .ok (.bipush 100, 2) := by decide +kernel
theorem dX11_scrap_38 : decode cX11_scrap 38 = .ok (.if_icmp .ge 7, 3) := by decide +kernel
theorem dX11_scrap_41 : decode cX11_scrap 41 = .ok (.iconst 1, 1) := by decide +kernel
theorem dX11_scrap_42 : decode cX11_scrap 42 = .ok (.goto 4, 3) := by decide +kernel
theorem dX11_scrap_45 : decode cX11_scrap 45 = .ok (.iconst 0, 1) := by decide +kernel
theorem dX11_scrap_46 : decode cX11_scrap 46 = .ok (.invokestatic 75, 3) := by decide +kernel
theorem dX11_scrap_49 : decode cX11_scrap 49 = .ok (.aload_n 0, 1) := by decide +kernel
theorem dX11_scrap_50 : decode cX11_scrap 50 = .ok (.getfield 47, 3) := by decide +kernel
theorem dX11_scrap_53 : decode cX11_scrap 53 = .ok (.iload_n 1, 1) := by decide +kernel
theorem dX11_scrap_54 : decode cX11_scrap 54 = .ok (.iload_n 2, 1) := by decide +kernel
theorem dX11_scrap_55 : decode cX11_scrap 55 = .ok (.invokevirtual 206, 3) := by decide +kernel
theorem dX11_scrap_58 : decode cX11_scrap 58 = .ok (.aload_n 0, 1) := by decide +kernel
theorem dX11_scrap_59 : decode cX11_scrap 59 = .ok (.getfield 47, 3) := by decide +kernel
theorem dX11_scrap_62 : decode cX11_scrap 62 = .ok (.iload_n 1, 1) := by decide +kernel
theorem dX11_scrap_63 : decode cX11_scrap 63 = .ok (.invokevirtual 209, 3) := by decide +kernel
theorem dX11_scrap_66 : decode cX11_scrap 66 = .ok (.ireturn, 1) := by decide +kernel
theorem dX11_tint_0 : decode cX11_tint 0 = .ok (.aload_n 0, 1) := by decide +kernel
theorem dX11_tint_1 : decode cX11_tint 1 = .ok (.iload_n 1, 1) := by decide +kernel
theorem dX11_tint_2 : decode cX11_tint 2 = .ok (.invokevirtual 168, 3) := by decide +kernel
theorem dX11_tint_5 : decode cX11_tint 5 = .ok (.astore_n 3, 1) := by decide +kernel
theorem dX11_tint_6 : decode cX11_tint 6 = .ok (.iload_n 2, 1) := by decide +kernel
theorem dX11_tint_7 : decode cX11_tint 7 = .ok (.aload_n 3, 1) := by decide +kernel
theorem dX11_tint_8 : decode cX11_tint 8 = .ok (.getfield 172, 3) := by decide +kernel
theorem dX11_tint_11 : decode cX11_tint 11 = .ok (.invokestatic 91, 3) := by decide +kernel
theorem dX11_tint_14 : decode cX11_tint 14 = .ok (.aload_n 0, 1) := by decide +kernel
theorem dX11_tint_15 : decode cX11_tint 15 = .ok (.getfield 47, 3) := by decide +kernel
theorem dX11_tint_18 : decode cX11_tint 18 = .ok (.aload_n 3, 1) := by decide +kernel
theorem dX11_tint_19 : decode cX11_tint 19 = .ok (.getfield 212, 3) := by decide +kernel
theorem dX11_tint_22 : decode cX11_tint 22 = .ok (.iload_n 2, 1) := by decide +kernel
theorem dX11_tint_23 : decode cX11_tint 23 = .ok (.iaload, 1) := by decide +kernel
theorem dX11_tint_24 : decode cX11_tint 24 = .ok (.aload_n 3, 1) := by decide +kernel
theorem dX11_tint_25 : decode cX11_tint 25 = .ok (.getfield 215, 3) := by decide +kernel
theorem dX11_tint_28 : decode cX11_tint 28 = .ok (.iload_n 2, 1) := by decide +kernel
theorem dX11_tint_29 : decode cX11_tint 29 = .ok (.iaload, 1) := by decide +kernel
theorem dX11_tint_30 : decode cX11_tint 30 = .ok (.invokevirtual 218, 3) := by decide +kernel
theorem dX11_tint_33 : decode cX11_tint 33 = .ok (.ireturn, 1) := by decide +kernel
theorem dX11_right_0 : decode cX11_right 0 = .ok (.aload_n 0, 1) := by decide +kernel
theorem dX11_right_1 : decode cX11_right 1 = .ok (.iload_n 1, 1) := by decide +kernel
theorem dX11_right_2 : decode cX11_right 2 = .ok (.invokevirtual 168, 3) := by decide +kernel
theorem dX11_right_5 : decode cX11_right 5 = .ok (.astore 6, 2) := by decide +kernel
theorem dX11_right_7 : decode cX11_right 7 = .ok (.iload_n 2, 1) := by decide +kernel
theorem dX11_right_8 : decode cX11_right 8 = .ok (.bipush 10, 2) := by decide +kernel
theorem dX11_right_10 : decode cX11_right 10 = .ok (.invokestatic 91, 3) := by decide +kernel
theorem dX11_right_13 : decode cX11_right 13 = .ok (.iload_n 3, 1) := by decide +kernel
theorem dX11_right_14 : decode cX11_right 14 = .ok (.iconst 0, 1) := by decide +kernel
theorem dX11_right_15 : decode cX11_right 15 = .ok (.iconst 3, 1) := by decide +kernel
theorem dX11_right_16 : decode cX11_right 16 = .ok (.invokestatic 67, 3) := by decide +kernel
theorem dX11_right_19 : decode cX11_right 19 = .ok (.ifCond .eq 34, 3) := by decide +kernel
theorem dX11_right_22 : decode cX11_right 22 = .ok (.iload 4, 2) := by decide +kernel
theorem dX11_right_24 : decode cX11_right 24 = .ok (.sipush 1890, 3) := by decide +kernel
theorem dX11_right_27 : decode cX11_right 27 = .ok (.sipush 2200, 3) := by decide +kernel
theorem dX11_right_30 : decode cX11_right 30 = .ok (.invokestatic 67, 3) := by decide +kernel
theorem dX11_right_33 : decode cX11_right 33 = .ok (.ifCond .eq 20, 3) := by decide +kernel
theorem dX11_right_36 : decode cX11_right 36 = .ok (.iload 5, 2) := by decide +kernel
theorem dX11_right_38 : decode cX11_right 38 = .ok (.iload 4, 2) := by decide +kernel
theorem dX11_right_40 : decode cX11_right 40 = .ok (.sipush 2200, 3) := by decide +kernel
theorem dX11_right_43 : decode cX11_right 43 = .ok (.invokestatic 67, 3) := by decide +kernel
theorem dX11_right_46 : decode cX11_right 46 = .ok (.ifCond .eq 7, 3) := by decide +kernel
theorem dX11_right_49 : decode cX11_right 49 = .ok (.iconst 1, 1) := by decide +kernel
theorem dX11_right_50 : decode cX11_right 50 = .ok (.goto 4, 3) := by decide +kernel
theorem dX11_right_53 : decode cX11_right 53 = .ok (.iconst 0, 1) := by decide +kernel
theorem dX11_right_54 : decode cX11_right 54 = .ok (.invokestatic 71, 3) := by decide +kernel
theorem dX11_right_57 : decode cX11_right 57 = .ok (.aload_n 0, 1) := by decide +kernel
theorem dX11_right_58 : decode cX11_right 58 = .ok (.getfield 41, 3) := by decide +kernel
theorem dX11_right_61 : decode cX11_right 61 = .ok (.bipush 40, 2) := by decide +kernel
theorem dX11_right_63 : decode cX11_right 63 = .ok (.if_icmp .ge 7, 3) := by decide +kernel
theorem dX11_right_66 : decode cX11_right 66 = .ok (.iconst 1, 1) := by decide +kernel
theorem dX11_right_67 : decode cX11_right 67 = .ok (.goto 4, 3) := by decide +kernel
theorem dX11_right_70 : decode cX11_right 70 = .ok (.iconst 0, 1) := by decide +kernel
theorem dX11_right_71 : decode cX11_right 71 = .ok (.invokestatic 75, 3) := by decide +kernel
theorem dX11_right_74 : decode cX11_right 74 = .ok (.aload 6, 2) := by decide +kernel
theorem dX11_right_76 : decode cX11_right 76 = .ok (.iload_n 2, 1) := by decide +kernel
theorem dX11_right_77 : decode cX11_right 77 = .ok (.iload_n 3, 1) := by decide +kernel
theorem dX11_right_78 : decode cX11_right 78 = .ok (.iload 4, 2) := by decide +kernel
theorem dX11_right_80 : decode cX11_right 80 = .ok (.iload 5, 2) := by decide +kernel
theorem dX11_right_82 : decode cX11_right 82 = .ok (.invokevirtual 221, 3) := by decide +kernel
theorem dX11_right_85 : decode cX11_right 85 = .ok (.aload_n 0, 1) := by decide +kernel
theorem dX11_right_86 : decode cX11_right 86 = .ok (.dup, 1) := by decide +kernel
theorem dX11_right_87 : decode cX11_right 87 = .ok (.getfield 41, 3) := by decide +kernel
theorem dX11_right_90 : decode cX11_right 90 = .ok (.iconst 1, 1) := by decide +kernel
theorem dX11_right_91 : decode cX11_right 91 = .ok (.iadd, 1) := by decide +kernel
theorem dX11_right_92 : decode cX11_right 92 = .ok (.putfield 41, 3) := by decide +kernel
theorem dX11_right_95 : decode cX11_right 95 = .ok (.aload 6, 2) := by decide +kernel
theorem dX11_right_97 : decode cX11_right 97 = .ok (.getfield 225, 3) := by decide +kernel
theorem dX11_right_100 : decode cX11_right 100 = .ok (.ireturn, 1) := by decide +kernel
theorem dX11_allow_0 : decode cX11_allow 0 = .ok (.aload_n 0, 1) := by decide +kernel
theorem dX11_allow_1 : decode cX11_allow 1 = .ok (.iload_n 1, 1) := by decide +kernel
theorem dX11_allow_2 : decode cX11_allow 2 = .ok (.invokevirtual 168, 3) := by decide +kernel
theorem dX11_allow_5 : decode cX11_allow 5 = .ok (.astore 4, 2) := by decide +kernel
theorem dX11_allow_7 : decode cX11_allow 7 = .ok (.iload_n 2, 1) := by decide +kernel
theorem dX11_allow_8 : decode cX11_allow 8 = .ok (.bipush 10, 2) := by decide +kernel
theorem dX11_allow_10 : decode cX11_allow 10 = .ok (.invokestatic 91, 3) := by decide +kernel
theorem dX11_allow_13 : decode cX11_allow 13 = .ok (.aload 4, 2) := by decide +kernel
theorem dX11_allow_15 : decode cX11_allow 15 = .ok (.getfield 226, 3) := by decide +kernel
theorem dX11_allow_18 : decode cX11_allow 18 = .ok (.iload_n 2, 1) := by decide +kernel
theorem dX11_allow_19 : decode cX11_allow 19 = .ok (.baload, 1) := by decide +kernel
theorem dX11_allow_20 : decode cX11_allow 20 = .ok (.istore 5, 2) := by decide +kernel
theorem dX11_allow_22 : decode cX11_allow 22 = .ok (.aload 4, 2) := by decide +kernel
theorem dX11_allow_24 : decode cX11_allow 24 = .ok (.getfield 226, 3) := by decide +kernel
theorem dX11_allow_27 : decode cX11_allow 27 = .ok (.iload_n 2, 1) := by decide +kernel
theorem dX11_allow_28 : decode cX11_allow 28 = .ok (.iload_n 3, 1) := by decide +kernel
theorem dX11_allow_29 : decode cX11_allow 29 = .ok (.bastore, 1) := by decide +kernel
theorem dX11_allow_30 : decode cX11_allow 30 = .ok (.iload 5, 2) := by decide +kernel
theorem dX11_allow_32 : decode cX11_allow 32 = .ok (.ireturn, 1) := by decide +kernel
theorem dX11_mayShow_0 : decode cX11_mayShow 0 = .ok (.aload_n 0, 1) := by decide +kernel
theorem dX11_mayShow_1 : decode cX11_mayShow 1 = .ok (.iload_n 1, 1) := by decide +kernel
theorem dX11_mayShow_2 : decode cX11_mayShow 2 = .ok (.invokevirtual 168, 3) := by decide +kernel
theorem dX11_mayShow_5 : decode cX11_mayShow 5 = .ok (.astore 4, 2) := by decide +kernel
theorem dX11_mayShow_7 : decode cX11_mayShow 7 = .ok (.iload_n 2, 1) := by decide +kernel
theorem dX11_mayShow_8 : decode cX11_mayShow 8 = .ok (.iconst 0, 1) := by decide +kernel
theorem dX11_mayShow_9 : decode cX11_mayShow 9 = .ok (.iconst 3, 1) := by decide +kernel
theorem dX11_mayShow_10 : decode cX11_mayShow 10 = .ok (.invokestatic 67, 3) := by decide +kernel
theorem dX11_mayShow_13 : decode cX11_mayShow 13 = .ok (.ifCond .eq 20, 3) := by decide +kernel
theorem dX11_mayShow_16 : decode cX11_mayShow 16 = .ok (.iload_n 3, 1) := by decide +kernel
theorem dX11_mayShow_17 : decode cX11_mayShow 17 = .ok (.sipush 1890, 3) := by decide +kernel
theorem dX11_mayShow_20 : decode cX11_mayShow 20 = .ok (.sipush 2200, 3) := by decide +kernel
theorem dX11_mayShow_23 : decode cX11_mayShow 23 = .ok (.invokestatic 67, 3) := by decide +kernel
theorem dX11_mayShow_26 : decode cX11_mayShow 26 = .ok (.ifCond .eq 7, 3) := by decide +kernel
theorem dX11_mayShow_29 : decode cX11_mayShow 29 = .ok (.iconst 1, 1) := by decide +kernel
theorem dX11_mayShow_30 : decode cX11_mayShow 30 = .ok (.goto 4, 3) := by decide +kernel
theorem dX11_mayShow_33 : decode cX11_mayShow 33 = .ok (.iconst 0, 1) := by decide +kernel
theorem dX11_mayShow_34 : decode cX11_mayShow 34 = .ok (.invokestatic 71, 3) := by decide +kernel
theorem dX11_mayShow_37 : decode cX11_mayShow 37 = .ok (.aload 4, 2) := by decide +kernel
theorem dX11_mayShow_39 : decode cX11_mayShow 39 = .ok (.iload_n 2, 1) := by decide +kernel
theorem dX11_mayShow_40 : decode cX11_mayShow 40 = .ok (.iload_n 3, 1) := by decide +kernel
theorem dX11_mayShow_41 : decode cX11_mayShow 41 = .ok (.invokevirtual 230, 3) := by decide +kernel
theorem dX11_mayShow_44 : decode cX11_mayShow 44 = .ok (.ireturn, 1) := by decide +kernel
theorem dX11_edition_0 : decode cX11_edition 0 = .ok (.aload_n 0, 1) := by decide +kernel
theorem dX11_edition_1 : decode cX11_edition 1 = .ok (.iload_n 1, 1) := by decide +kernel
theorem dX11_edition_2 : decode cX11_edition 2 = .ok (.invokevirtual 168, 3) := by decide +kernel
theorem dX11_edition_5 : decode cX11_edition 5 = .ok (.astore_n 2, 1) := by decide +kernel
theorem dX11_edition_6 : decode cX11_edition 6 = .ok (.aload_n 0, 1) := by decide +kernel
theorem dX11_edition_7 : decode cX11_edition 7 = .ok (.getfield 54, 3) := by decide +kernel
theorem dX11_edition_10 : decode cX11_edition 10 = .ok (.invokevirtual 234, 3) := by decide +kernel
theorem dX11_edition_13 : decode cX11_edition 13 = .ok (.iconst 0, 1) := by decide +kernel
theorem dX11_edition_14 : decode cX11_edition 14 = .ok (.istore_n 3, 1) := by decide +kernel
theorem dX11_edition_15 : decode cX11_edition 15 = .ok (.iload_n 3, 1) := by decide +kernel
theorem dX11_edition_16 : decode cX11_edition 16 = .ok (.aload_n 2, 1) := by decide +kernel
theorem dX11_edition_17 : decode cX11_edition 17 = .ok (.getfield 172, 3) := by decide +kernel
theorem dX11_edition_20 : decode cX11_edition 20 = .ok (.if_icmp .ge 40, 3) := by decide +kernel
theorem dX11_edition_23 : decode cX11_edition 23 = .ok (.aload_n 2, 1) := by decide +kernel
theorem dX11_edition_24 : decode cX11_edition 24 = .ok (.getfield 212, 3) := by decide +kernel
theorem dX11_edition_27 : decode cX11_edition 27 = .ok (.iload_n 3, 1) := by decide +kernel
theorem dX11_edition_28 : decode cX11_edition 28 = .ok (.iaload, 1) := by decide +kernel
theorem dX11_edition_29 : decode cX11_edition 29 = .ok (.istore 4, 2) := by decide +kernel
theorem dX11_edition_31 : decode cX11_edition 31 = .ok (.iload 4, 2) := by decide +kernel
theorem dX11_edition_33 : decode cX11_edition 33 = .ok (.aload_n 2, 1) := by decide +kernel
theorem dX11_edition_34 : decode cX11_edition 34 = .ok (.getfield 215, 3) := by decide +kernel
theorem dX11_edition_37 : decode cX11_edition 37 = .ok (.iload_n 3, 1) := by decide +kernel
theorem dX11_edition_38 : decode cX11_edition 38 = .ok (.iaload, 1) := by decide +kernel
theorem dX11_edition_39 : decode cX11_edition 39 = .ok (.if_icmp .gt 15, 3) := by decide +kernel
theorem dX11_edition_42 : decode cX11_edition 42 = .ok (.aload_n 0, 1) := by decide +kernel
theorem dX11_edition_43 : decode cX11_edition 43 = .ok (.iload 4, 2) := by decide +kernel
theorem dX11_edition_45 : decode cX11_edition 45 = .ok (.invokevirtual 236, 3) := by decide +kernel
theorem dX11_edition_48 : decode cX11_edition 48 = .ok (.iinc 4 1, 3) := by decide +kernel
theorem dX11_edition_51 : decode cX11_edition 51 = .ok (.goto (-20), 3) := by decide +kernel
theorem dX11_edition_54 : decode cX11_edition 54 = .ok (.iinc 3 1, 3) := by decide +kernel
theorem dX11_edition_57 : decode cX11_edition 57 = .ok (.goto (-42), 3) := by decide +kernel
theorem dX11_edition_60 : decode cX11_edition 60 = .ok (.aload_n 0, 1) := by decide +kernel
theorem dX11_edition_61 : decode cX11_edition 61 = .ok (.getfield 54, 3) := by decide +kernel
theorem dX11_edition_64 : decode cX11_edition 64 = .ok (.invokevirtual 239, 3) := by decide +kernel
theorem dX11_edition_67 : decode cX11_edition 67 = .ok (.ireturn, 1) := by decide +kernel
theorem dX11_protect_0 : decode cX11_protect 0 = .ok (.aload_n 0, 1) := by decide +kernel
theorem dX11_protect_1 : decode cX11_protect 1 = .ok (.iload_n 1, 1) := by decide +kernel
theorem dX11_protect_2 : decode cX11_protect 2 = .ok (.invokevirtual 242, 3) := by decide +kernel
theorem dX11_protect_5 : decode cX11_protect 5 = .ok (.astore_n 3, 1) := by decide +kernel
theorem dX11_protect_6 : decode cX11_protect 6 = .ok (.aload_n 3, 1) := by decide +kernel
theorem dX11_protect_7 : decode cX11_protect 7 = .ok (.getfield 246, 3) := by decide +kernel
theorem dX11_protect_10 : decode cX11_protect 10 = .ok (.istore 4, 2) := by decide +kernel
theorem dX11_protect_12 : decode cX11_protect 12 = .ok (.aload_n 3, 1) := by decide +kernel
theorem dX11_protect_13 : decode cX11_protect 13 = .ok (.iload_n 2, 1) := by decide +kernel
theorem dX11_protect_14 : decode cX11_protect 14 = .ok (.putfield 246, 3) := by decide +kernel
theorem dX11_protect_17 : decode cX11_protect 17 = .ok (.iload 4, 2) := by decide +kernel
theorem dX11_protect_19 : decode cX11_protect 19 = .ok (.ireturn, 1) := by decide +kernel
theorem dX11_limit_0 : decode cX11_limit 0 = .ok (.iload_n 1, 1) := by decide +kernel
theorem dX11_limit_1 : decode cX11_limit 1 = .ok (.iconst 0, 1) := by decide +kernel
theorem dX11_limit_2 : decode cX11_limit 2 = .ok (.bipush 8, 2) := by decide +kernel
theorem dX11_limit_4 : decode cX11_limit 4 = .ok (.invokestatic 67, 3) := by decide +kernel
theorem dX11_limit_7 : decode cX11_limit 7 = .ok (.invokestatic 71, 3) := by decide +kernel
theorem dX11_limit_10 : decode cX11_limit 10 = .ok (.aload_n 0, 1) := by decide +kernel
theorem dX11_limit_11 : decode cX11_limit 11 = .ok (.getfield 54, 3) := by decide +kernel
theorem dX11_limit_14 : decode cX11_limit 14 = .ok (.getfield 251, 3) := by decide +kernel
theorem dX11_limit_17 : decode cX11_limit 17 = .ok (.istore_n 2, 1) := by decide +kernel
theorem dX11_limit_18 : decode cX11_limit 18 = .ok (.aload_n 0, 1) := by decide +kernel
theorem dX11_limit_19 : decode cX11_limit 19 = .ok (.getfield 54, 3) := by decide +kernel
theorem dX11_limit_22 : decode cX11_limit 22 = .ok (.iload_n 1, 1) := by decide +kernel
theorem dX11_limit_23 : decode cX11_limit 23 = .ok (.putfield 251, 3) := by decide +kernel
theorem dX11_limit_26 : decode cX11_limit 26 = .ok (.iload_n 2, 1) := by decide +kernel
theorem dX11_limit_27 : decode cX11_limit 27 = .ok (.ireturn, 1) := by decide +kernel
theorem dX11_dirt_0 : decode cX11_dirt 0 = .ok (.iload_n 1, 1) := by decide +kernel
theorem dX11_dirt_1 : decode cX11_dirt 1 = .ok (.iconst 0, 1) := by decide +kernel
theorem dX11_dirt_2 : decode cX11_dirt 2 = .ok (.sipush 255, 3) := by decide +kernel
theorem dX11_dirt_5 : decode cX11_dirt 5 = .ok (.invokestatic 67, 3) := by decide +kernel
theorem dX11_dirt_8 : decode cX11_dirt 8 = .ok (.invokestatic 71, 3) := by decide +kernel
theorem dX11_dirt_11 : decode cX11_dirt 11 = .ok (.aload_n 0, 1) := by decide +kernel
theorem dX11_dirt_12 : decode cX11_dirt 12 = .ok (.getfield 54, 3) := by decide +kernel
theorem dX11_dirt_15 : decode cX11_dirt 15 = .ok (.new 254, 3) := by decide +kernel
theorem dX11_dirt_18 : decode cX11_dirt 18 = .ok (.dup, 1) := by decide +kernel
theorem dX11_dirt_19 : decode cX11_dirt 19 = .ok (.iload_n 1, 1) := by decide +kernel
theorem dX11_dirt_20 : decode cX11_dirt 20 = .ok (.invokespecial 256, 3) := by decide +kernel
theorem dX11_dirt_23 : decode cX11_dirt 23 = .ok (.invokevirtual 258, 3) := by decide +kernel
theorem dX11_dirt_26 : decode cX11_dirt 26 = .ok (.ireturn, 1) := by decide +kernel
theorem dX11_scratch_0 : decode cX11_scratch 0 = .ok (.iload_n 2, 1) := by decide +kernel
theorem dX11_scratch_1 : decode cX11_scratch 1 = .ok (.aload_n 0, 1) := by decide +kernel
theorem dX11_scratch_2 : decode cX11_scratch 2 = .ok (.getfield 54, 3) := by decide +kernel
theorem dX11_scratch_5 : decode cX11_scratch 5 = .ok (.getfield 262, 3) := by decide +kernel
theorem dX11_scratch_8 : decode cX11_scratch 8 = .ok (.invokestatic 91, 3) := by decide +kernel
theorem dX11_scratch_11 : decode cX11_scratch 11 = .ok (.iload_n 3, 1) := by decide +kernel
theorem dX11_scratch_12 : decode cX11_scratch 12 = .ok (.aload_n 0, 1) := by decide +kernel
theorem dX11_scratch_13 : decode cX11_scratch 13 = .ok (.getfield 54, 3) := by decide +kernel
theorem dX11_scratch_16 : decode cX11_scratch 16 = .ok (.getfield 262, 3) := by decide +kernel
theorem dX11_scratch_19 : decode cX11_scratch 19 = .ok (.invokestatic 91, 3) := by decide +kernel
theorem dX11_scratch_22 : decode cX11_scratch 22 = .ok (.iload_n 1, 1) := by decide +kernel
theorem dX11_scratch_23 : decode cX11_scratch 23 = .ok (.iconst 1, 1) := by decide +kernel
theorem dX11_scratch_24 : decode cX11_scratch 24 = .ok (.bipush 6, 2) := by decide +kernel
theorem dX11_scratch_26 : decode cX11_scratch 26 = .ok (.invokestatic 67, 3) := by decide +kernel
theorem dX11_scratch_29 : decode cX11_scratch 29 = .ok (.ifCond .eq 24, 3) := by decide +kernel
theorem dX11_scratch_32 : decode cX11_scratch 32 = .ok (.iload 4, 2) := by decide +kernel
theorem dX11_scratch_34 : decode cX11_scratch 34 = .ok (.iconst 0, 1) := by decide +kernel
theorem dX11_scratch_35 : decode cX11_scratch 35 = .ok (.sipush 255, 3) := by decide +kernel
theorem dX11_scratch_38 : decode cX11_scratch 38 = .ok (.invokestatic 67, 3) := by decide +kernel
theorem dX11_scratch_41 : decode cX11_scratch 41 = .ok (.ifCond .eq 12, 3) := by decide +kernel
theorem dX11_scratch_44 : decode cX11_scratch 44 = .ok (.iload_n 2, 1) := by decide +kernel
theorem dX11_scratch_45 : decode cX11_scratch 45 = .ok (.iload_n 3, 1) := by decide +kernel
theorem dX11_scratch_46 : decode cX11_scratch 46 = .ok (.if_icmp .gt 7, 3) := by decide +kernel
theorem dX11_scratch_49 : decode cX11_scratch 49 = .ok (.iconst 1, 1) := by decide +kernel
theorem dX11_scratch_50 : decode cX11_scratch 50 = .ok (.goto 4, 3) := by decide +kernel
theorem dX11_scratch_53 : decode cX11_scratch 53 = .ok (.iconst 0, 1) := by decide +kernel
theorem dX11_scratch_54 : decode cX11_scratch 54 = .ok (.invokestatic 71, 3) := by decide +kernel
theorem dX11_scratch_57 : decode cX11_scratch 57 = .ok (.aload_n 0, 1) := by decide +kernel
theorem dX11_scratch_58 : decode cX11_scratch 58 = .ok (.getfield 54, 3) := by decide +kernel
theorem dX11_scratch_61 : decode cX11_scratch 61 = .ok (.iload_n 1, 1) := by decide +kernel
theorem dX11_scratch_62 : decode cX11_scratch 62 = .ok (.iload_n 2, 1) := by decide +kernel
theorem dX11_scratch_63 : decode cX11_scratch 63 = .ok (.iload_n 3, 1) := by decide +kernel
theorem dX11_scratch_64 : decode cX11_scratch 64 = .ok (.iload 4, 2) := by decide +kernel
theorem dX11_scratch_66 : decode cX11_scratch 66 = .ok (.invokevirtual 263, 3) := by decide +kernel
theorem dX11_scratch_69 : decode cX11_scratch 69 = .ok (.ireturn, 1) := by decide +kernel
theorem dX11_flicker_0 : decode cX11_flicker 0 = .ok (.aload_n 0, 1) := by decide +kernel
theorem dX11_flicker_1 : decode cX11_flicker 1 = .ok (.getfield 54, 3) := by decide +kernel
theorem dX11_flicker_4 : decode cX11_flicker 4 = .ok (.new 267, 3) := by decide +kernel
theorem dX11_flicker_7 : decode cX11_flicker 7 = .ok (.dup, 1) := by decide +kernel
theorem dX11_flicker_8 : decode cX11_flicker 8 = .ok (.invokespecial 269, 3) := by decide +kernel
theorem dX11_flicker_11 : decode cX11_flicker 11 = .ok (.invokevirtual 258, 3) := by decide +kernel
theorem dX11_flicker_14 : decode cX11_flicker 14 = .ok (.ireturn, 1) := by decide +kernel
theorem dX11_takeBack_0 : decode cX11_takeBack 0 = .ok (.iload_n 1, 1) := by decide +kernel
theorem dX11_takeBack_1 : decode cX11_takeBack 1 = .ok (.aload_n 0, 1) := by decide +kernel
theorem dX11_takeBack_2 : decode cX11_takeBack 2 = .ok (.getfield 54, 3) := by decide +kernel
theorem dX11_takeBack_5 : decode cX11_takeBack 5 = .ok (.getfield 270, 3) := by decide +kernel
theorem dX11_takeBack_8 : decode cX11_takeBack 8 = .ok (.getfield 274, 3) := by decide +kernel
theorem dX11_takeBack_11 : decode cX11_takeBack 11 = .ok (.invokestatic 91, 3) := by decide +kernel
theorem dX11_takeBack_14 : decode cX11_takeBack 14 = .ok (.aload_n 0, 1) := by decide +kernel
theorem dX11_takeBack_15 : decode cX11_takeBack 15 = .ok (.getfield 54, 3) := by decide +kernel
theorem dX11_takeBack_18 : decode cX11_takeBack 18 = .ok (.iload_n 1, 1) := by decide +kernel
theorem dX11_takeBack_19 : decode cX11_takeBack 19 = .ok (.invokevirtual 277, 3) := by decide +kernel
theorem dX11_takeBack_22 : decode cX11_takeBack 22 = .ok (.invokestatic 75, 3) := by decide +kernel
theorem dX11_takeBack_25 : decode cX11_takeBack 25 = .ok (.aload_n 0, 1) := by decide +kernel
theorem dX11_takeBack_26 : decode cX11_takeBack 26 = .ok (.getfield 54, 3) := by decide +kernel
theorem dX11_takeBack_29 : decode cX11_takeBack 29 = .ok (.iload_n 1, 1) := by decide +kernel
theorem dX11_takeBack_30 : decode cX11_takeBack 30 = .ok (.invokevirtual 281, 3) := by decide +kernel
theorem dX11_takeBack_33 : decode cX11_takeBack 33 = .ok (.ireturn, 1) := by decide +kernel
theorem dX11_ofFrame_0 : decode cX11_ofFrame 0 = .ok (.aload_n 0, 1) := by decide +kernel
theorem dX11_ofFrame_1 : decode cX11_ofFrame 1 = .ok (.iload_n 1, 1) := by decide +kernel
theorem dX11_ofFrame_2 : decode cX11_ofFrame 2 = .ok (.invokevirtual 242, 3) := by decide +kernel
theorem dX11_ofFrame_5 : decode cX11_ofFrame 5 = .ok (.astore_n 3, 1) := by decide +kernel
theorem dX11_ofFrame_6 : decode cX11_ofFrame 6 = .ok (.iload_n 2, 1) := by decide +kernel
theorem dX11_ofFrame_7 : decode cX11_ofFrame 7 = .ok (.tableswitch 65 0 4 #[33, 38, 43, 48, 60], 33) := by decide +kernel
theorem dX11_ofFrame_40 : decode cX11_ofFrame 40 = .ok (.aload_n 3, 1) := by decide +kernel
theorem dX11_ofFrame_41 : decode cX11_ofFrame 41 = .ok (.getfield 284, 3) := by decide +kernel
theorem dX11_ofFrame_44 : decode cX11_ofFrame 44 = .ok (.ireturn, 1) := by decide +kernel
theorem dX11_ofFrame_45 : decode cX11_ofFrame 45 = .ok (.aload_n 3, 1) := by decide +kernel
theorem dX11_ofFrame_46 : decode cX11_ofFrame 46 = .ok (.getfield 287, 3) := by decide +kernel
theorem dX11_ofFrame_49 : decode cX11_ofFrame 49 = .ok (.ireturn, 1) := by decide +kernel
theorem dX11_ofFrame_50 : decode cX11_ofFrame 50 = .ok (.aload_n 3, 1) := by decide +kernel
theorem dX11_ofFrame_51 : decode cX11_ofFrame 51 = .ok (.getfield 290, 3) := by decide +kernel
theorem dX11_ofFrame_54 : decode cX11_ofFrame 54 = .ok (.ireturn, 1) := by decide +kernel
theorem dX11_ofFrame_55 : decode cX11_ofFrame 55 = .ok (.aload_n 3, 1) := by decide +kernel
theorem dX11_ofFrame_56 : decode cX11_ofFrame 56 = .ok (.getfield 293, 3) := by decide +kernel
theorem dX11_ofFrame_59 : decode cX11_ofFrame 59 = .ok (.aload_n 3, 1) := by decide +kernel
theorem dX11_ofFrame_60 : decode cX11_ofFrame 60 = .ok (.getfield 297, 3) := by decide +kernel
theorem dX11_ofFrame_63 : decode cX11_ofFrame 63 = .ok (.invokestatic 300, 3) := by decide +kernel
theorem dX11_ofFrame_66 : decode cX11_ofFrame 66 = .ok (.ireturn, 1) := by decide +kernel
theorem dX11_ofFrame_67 : decode cX11_ofFrame 67 = .ok (.aload_n 3, 1) := by decide +kernel
theorem dX11_ofFrame_68 : decode cX11_ofFrame 68 = .ok (.getfield 303, 3) := by decide +kernel
theorem dX11_ofFrame_71 : decode cX11_ofFrame 71 = .ok (.ireturn, 1) := by decide +kernel
theorem dX11_ofFrame_72 : decode cX11_ofFrame 72 = .ok (.new 140, 3) := by decide +kernel
theorem dX11_ofFrame_75 : decode cX11_ofFrame 75 = .ok (.dup, 1) := by decide +kernel
theorem dX11_ofFrame_76 : decode cX11_ofFrame 76 = .ok (.ldc 142, 2) := by decide +kernel
theorem dX11_ofFrame_78 : decode cX11_ofFrame 78 = .ok (.invokespecial 144, 3) := by decide +kernel
theorem dX11_ofFrame_81 : decode cX11_ofFrame 81 = .ok (.athrow, 1) := by decide +kernel
theorem dX11_seen_0 : decode cX11_seen 0 = .ok (.aload_n 0, 1) := by decide +kernel
theorem dX11_seen_1 : decode cX11_seen 1 = .ok (.iload_n 1, 1) := by decide +kernel
theorem dX11_seen_2 : decode cX11_seen 2 = .ok (.invokevirtual 242, 3) := by decide +kernel
theorem dX11_seen_5 : decode cX11_seen 5 = .ok (.getfield 293, 3) := by decide +kernel
theorem dX11_seen_8 : decode cX11_seen 8 = .ok (.lreturn, 1) := by decide +kernel
theorem dX11_sum_0 : decode cX11_sum 0 = .ok (.aload_n 0, 1) := by decide +kernel
theorem dX11_sum_1 : decode cX11_sum 1 = .ok (.getfield 54, 3) := by decide +kernel
theorem dX11_sum_4 : decode cX11_sum 4 = .ok (.iload_n 1, 1) := by decide +kernel
theorem dX11_sum_5 : decode cX11_sum 5 = .ok (.invokevirtual 306, 3) := by decide +kernel
theorem dX11_sum_8 : decode cX11_sum 8 = .ok (.lreturn, 1) := by decide +kernel
theorem dX11_pass_0 : decode cX11_pass 0 = .ok (.iload_n 1, 1) := by decide +kernel
theorem dX11_pass_1 : decode cX11_pass 1 = .ok (.iconst 1, 1) := by decide +kernel
theorem dX11_pass_2 : decode cX11_pass 2 = .ok (.bipush 100, 2) := by decide +kernel
theorem dX11_pass_4 : decode cX11_pass 4 = .ok (.invokestatic 67, 3) := by decide +kernel
theorem dX11_pass_7 : decode cX11_pass 7 = .ok (.invokestatic 71, 3) := by decide +kernel
theorem dX11_pass_10 : decode cX11_pass 10 = .ok (.aload_n 0, 1) := by decide +kernel
theorem dX11_pass_11 : decode cX11_pass 11 = .ok (.getfield 19, 3) := by decide +kernel
theorem dX11_pass_14 : decode cX11_pass 14 = .ok (.iload_n 1, 1) := by decide +kernel
theorem dX11_pass_15 : decode cX11_pass 15 = .ok (.iadd, 1) := by decide +kernel
theorem dX11_pass_16 : decode cX11_pass 16 = .ok (.sipush 2200, 3) := by decide +kernel
theorem dX11_pass_19 : decode cX11_pass 19 = .ok (.if_icmp .gt 7, 3) := by decide +kernel
theorem dX11_pass_22 : decode cX11_pass 22 = .ok (.iconst 1, 1) := by decide +kernel
theorem dX11_pass_23 : decode cX11_pass 23 = .ok (.goto 4, 3) := by decide +kernel
theorem dX11_pass_26 : decode cX11_pass 26 = .ok (.iconst 0, 1) := by decide +kernel
theorem dX11_pass_27 : decode cX11_pass 27 = .ok (.invokestatic 75, 3) := by decide +kernel
theorem dX11_pass_30 : decode cX11_pass 30 = .ok (.aload_n 0, 1) := by decide +kernel
theorem dX11_pass_31 : decode cX11_pass 31 = .ok (.dup, 1) := by decide +kernel
theorem dX11_pass_32 : decode cX11_pass 32 = .ok (.getfield 19, 3) := by decide +kernel
theorem dX11_pass_35 : decode cX11_pass 35 = .ok (.iload_n 1, 1) := by decide +kernel
theorem dX11_pass_36 : decode cX11_pass 36 = .ok (.iadd, 1) := by decide +kernel
theorem dX11_pass_37 : decode cX11_pass 37 = .ok (.putfield 19, 3) := by decide +kernel
theorem dX11_pass_40 : decode cX11_pass 40 = .ok (.iconst 0, 1) := by decide +kernel
theorem dX11_pass_41 : decode cX11_pass 41 = .ok (.istore_n 2, 1) := by decide +kernel
theorem dX11_pass_42 : decode cX11_pass 42 = .ok (.iload_n 2, 1) := by decide +kernel
theorem dX11_pass_43 : decode cX11_pass 43 = .ok (.aload_n 0, 1) := by decide +kernel
theorem dX11_pass_44 : decode cX11_pass 44 = .ok (.getfield 15, 3) := by decide +kernel
theorem dX11_pass_47 : decode cX11_pass 47 = .ok (.if_icmp .ge 34, 3) := by decide +kernel
theorem dX11_pass_50 : decode cX11_pass 50 = .ok (.aload_n 0, 1) := by decide +kernel
theorem dX11_pass_51 : decode cX11_pass 51 = .ok (.getfield 11, 3) := by decide +kernel
theorem dX11_pass_54 : decode cX11_pass 54 = .ok (.iload_n 2, 1) := by decide +kernel
theorem dX11_pass_55 : decode cX11_pass 55 = .ok (.aaload, 1) := by decide +kernel
theorem dX11_pass_56 : decode cX11_pass 56 = .ok (.dup, 1) := by decide +kernel
theorem dX11_pass_57 : decode cX11_pass 57 = .ok (.getfield 121, 3) := by decide +kernel
theorem dX11_pass_60 : decode cX11_pass 60 = .ok (.iload_n 1, 1) := by decide +kernel
theorem dX11_pass_61 : decode cX11_pass 61 = .ok (.aload_n 0, 1) := by decide +kernel
theorem dX11_pass_62 : decode cX11_pass 62 = .ok (.getfield 11, 3) := by decide +kernel
theorem dX11_pass_65 : decode cX11_pass 65 = .ok (.iload_n 2, 1) := by decide +kernel
theorem dX11_pass_66 : decode cX11_pass 66 = .ok (.aaload, 1) := by decide +kernel
theorem dX11_pass_67 : decode cX11_pass 67 = .ok (.invokevirtual 310, 3) := by decide +kernel
theorem dX11_pass_70 : decode cX11_pass 70 = .ok (.imul, 1) := by decide +kernel
theorem dX11_pass_71 : decode cX11_pass 71 = .ok (.iadd, 1) := by decide +kernel
theorem dX11_pass_72 : decode cX11_pass 72 = .ok (.putfield 121, 3) := by decide +kernel
theorem dX11_pass_75 : decode cX11_pass 75 = .ok (.iinc 2 1, 3) := by decide +kernel
theorem dX11_pass_78 : decode cX11_pass 78 = .ok (.goto (-36), 3) := by decide +kernel
theorem dX11_pass_81 : decode cX11_pass 81 = .ok (.aload_n 0, 1) := by decide +kernel
theorem dX11_pass_82 : decode cX11_pass 82 = .ok (.getfield 19, 3) := by decide +kernel
theorem dX11_pass_85 : decode cX11_pass 85 = .ok (.ireturn, 1) := by decide +kernel
theorem dX11_isWithin_0 : decode cX11_isWithin 0 = .ok (.iload_n 0, 1) := by decide +kernel
theorem dX11_isWithin_1 : decode cX11_isWithin 1 = .ok (.iload_n 1, 1) := by decide +kernel
theorem dX11_isWithin_2 : decode cX11_isWithin 2 = .ok (.if_icmp .lt 12, 3) := by decide +kernel
theorem dX11_isWithin_5 : decode cX11_isWithin 5 = .ok (.iload_n 0, 1) := by decide +kernel
theorem dX11_isWithin_6 : decode cX11_isWithin 6 = .ok (.iload_n 2, 1) := by decide +kernel
theorem dX11_isWithin_7 : decode cX11_isWithin 7 = .ok (.if_icmp .gt 7, 3) := by decide +kernel
theorem dX11_isWithin_10 : decode cX11_isWithin 10 = .ok (.iconst 1, 1) := by decide +kernel
theorem dX11_isWithin_11 : decode cX11_isWithin 11 = .ok (.goto 4, 3) := by decide +kernel
theorem dX11_isWithin_14 : decode cX11_isWithin 14 = .ok (.iconst 0, 1) := by decide +kernel
theorem dX11_isWithin_15 : decode cX11_isWithin 15 = .ok (.ireturn, 1) := by decide +kernel
theorem dX11_needInRange_0 : decode cX11_needInRange 0 = .ok (.iload_n 0, 1) := by decide +kernel
theorem dX11_needInRange_1 : decode cX11_needInRange 1 = .ok (.ifCond .ne 14, 3) := by decide +kernel
theorem dX11_needInRange_4 : decode cX11_needInRange 4 = .ok (.new 140, 3) := by decide +kernel
theorem dX11_needInRange_7 : decode cX11_needInRange 7 = .ok (.dup, 1) := by decide +kernel
theorem dX11_needInRange_8 : decode cX11_needInRange 8 = .ok (.ldc_w 313, 3) := by decide +kernel
theorem dX11_needInRange_11 : decode cX11_needInRange 11 = .ok (.invokespecial 144, 3) := by decide +kernel
theorem dX11_needInRange_14 : decode cX11_needInRange 14 = .ok (.athrow, 1) := by decide +kernel
theorem dX11_needInRange_15 : decode cX11_needInRange 15 = .ok (.return_, 1) := by decide +kernel
theorem dX11_needPossible_0 : decode cX11_needPossible 0 = .ok (.iload_n 0, 1) := by decide +kernel
theorem dX11_needPossible_1 : decode cX11_needPossible 1 = .ok (.ifCond .ne 14, 3) := by decide +kernel
theorem dX11_needPossible_4 : decode cX11_needPossible 4 = .ok (.new 315, 3) := by decide +kernel
theorem dX11_needPossible_7 : decode cX11_needPossible 7 = .ok (.dup, 1) := by decide +kernel
theorem dX11_needPossible_8 : decode cX11_needPossible 8 = .ok (.ldc_w 317, 3) := by decide +kernel
theorem dX11_needPossible_11 : decode cX11_needPossible 11 = .ok (.invokespecial 319, 3) := by decide +kernel
theorem dX11_needPossible_14 : decode cX11_needPossible 14 = .ok (.athrow, 1) := by decide +kernel
theorem dX11_needPossible_15 : decode cX11_needPossible 15 = .ok (.return_, 1) := by decide +kernel
theorem dX11_needPlace_0 : decode cX11_needPlace 0 = .ok (.iload_n 0, 1) := by decide +kernel
theorem dX11_needPlace_1 : decode cX11_needPlace 1 = .ok (.ifCond .lt 8, 3) := by decide +kernel
theorem dX11_needPlace_4 : decode cX11_needPlace 4 = .ok (.iload_n 0, 1) := by decide +kernel
theorem dX11_needPlace_5 : decode cX11_needPlace 5 = .ok (.iload_n 1, 1) := by decide +kernel
theorem dX11_needPlace_6 : decode cX11_needPlace 6 = .ok (.if_icmp .lt 14, 3) := by decide +kernel
theorem dX11_needPlace_9 : decode cX11_needPlace 9 = .ok (.new 320, 3) := by decide +kernel
theorem dX11_needPlace_12 : decode cX11_needPlace 12 = .ok (.dup, 1) := by decide +kernel
theorem dX11_needPlace_13 : decode cX11_needPlace 13 = .ok (.ldc_w 322, 3) := by decide +kernel
theorem dX11_needPlace_16 : decode cX11_needPlace 16 = .ok (.invokespecial 324, 3) := by decide +kernel
theorem dX11_needPlace_19 : decode cX11_needPlace 19 = .ok (.athrow, 1) := by decide +kernel
theorem dX11_needPlace_20 : decode cX11_needPlace 20 = .ok (.return_, 1) := by decide +kernel
theorem dX11_reelNumbered_0 : decode cX11_reelNumbered 0 = .ok (.iload_n 1, 1) := by decide +kernel
theorem dX11_reelNumbered_1 : decode cX11_reelNumbered 1 = .ok (.aload_n 0, 1) := by decide +kernel
theorem dX11_reelNumbered_2 : decode cX11_reelNumbered 2 = .ok (.getfield 15, 3) := by decide +kernel
theorem dX11_reelNumbered_5 : decode cX11_reelNumbered 5 = .ok (.invokestatic 91, 3) := by decide +kernel
theorem dX11_reelNumbered_8 : decode cX11_reelNumbered 8 = .ok (.aload_n 0, 1) := by decide +kernel
theorem dX11_reelNumbered_9 : decode cX11_reelNumbered 9 = .ok (.getfield 11, 3) := by decide +kernel
theorem dX11_reelNumbered_12 : decode cX11_reelNumbered 12 = .ok (.iload_n 1, 1) := by decide +kernel
theorem dX11_reelNumbered_13 : decode cX11_reelNumbered 13 = .ok (.aaload, 1) := by decide +kernel
theorem dX11_reelNumbered_14 : decode cX11_reelNumbered 14 = .ok (.areturn, 1) := by decide +kernel
theorem dX11_versionNumbered_0 : decode cX11_versionNumbered 0 = .ok (.iload_n 1, 1) := by decide +kernel
theorem dX11_versionNumbered_1 : decode cX11_versionNumbered 1 = .ok (.aload_n 0, 1) := by decide +kernel
theorem dX11_versionNumbered_2 : decode cX11_versionNumbered 2 = .ok (.getfield 38, 3) := by decide +kernel
theorem dX11_versionNumbered_5 : decode cX11_versionNumbered 5 = .ok (.invokestatic 91, 3) := by decide +kernel
theorem dX11_versionNumbered_8 : decode cX11_versionNumbered 8 = .ok (.aload_n 0, 1) := by decide +kernel
theorem dX11_versionNumbered_9 : decode cX11_versionNumbered 9 = .ok (.getfield 34, 3) := by decide +kernel
theorem dX11_versionNumbered_12 : decode cX11_versionNumbered 12 = .ok (.iload_n 1, 1) := by decide +kernel
theorem dX11_versionNumbered_13 : decode cX11_versionNumbered 13 = .ok (.aaload, 1) := by decide +kernel
theorem dX11_versionNumbered_14 : decode cX11_versionNumbered 14 = .ok (.areturn, 1) := by decide +kernel
theorem dX11_editionFrameAt_0 : decode cX11_editionFrameAt 0 = .ok (.iload_n 1, 1) := by decide +kernel
theorem dX11_editionFrameAt_1 : decode cX11_editionFrameAt 1 = .ok (.aload_n 0, 1) := by decide +kernel
theorem dX11_editionFrameAt_2 : decode cX11_editionFrameAt 2 = .ok (.getfield 54, 3) := by decide +kernel
theorem dX11_editionFrameAt_5 : decode cX11_editionFrameAt 5 = .ok (.getfield 262, 3) := by decide +kernel
theorem dX11_editionFrameAt_8 : decode cX11_editionFrameAt 8 = .ok (.invokestatic 91, 3) := by decide +kernel
theorem dX11_editionFrameAt_11 : decode cX11_editionFrameAt 11 = .ok (.aload_n 0, 1) := by decide +kernel
theorem dX11_editionFrameAt_12 : decode cX11_editionFrameAt 12 = .ok (.getfield 54, 3) := by decide +kernel
theorem dX11_editionFrameAt_15 : decode cX11_editionFrameAt 15 = .ok (.getfield 325, 3) := by decide +kernel
theorem dX11_editionFrameAt_18 : decode cX11_editionFrameAt 18 = .ok (.iload_n 1, 1) := by decide +kernel
theorem dX11_editionFrameAt_19 : decode cX11_editionFrameAt 19 = .ok (.aaload, 1) := by decide +kernel
theorem dX11_editionFrameAt_20 : decode cX11_editionFrameAt 20 = .ok (.areturn, 1) := by decide +kernel
theorem dX11_guessedParent_0 : decode cX11_guessedParent 0 = .ok (.aload_n 0, 1) := by decide +kernel
theorem dX11_guessedParent_1 : decode cX11_guessedParent 1 = .ok (.getfield 11, 3) := by decide +kernel
theorem dX11_guessedParent_4 : decode cX11_guessedParent 4 = .ok (.iload_n 1, 1) := by decide +kernel
theorem dX11_guessedParent_5 : decode cX11_guessedParent 5 = .ok (.aaload, 1) := by decide +kernel
theorem dX11_guessedParent_6 : decode cX11_guessedParent 6 = .ok (.astore_n 2, 1) := by decide +kernel
theorem dX11_guessedParent_7 : decode cX11_guessedParent 7 = .ok (.iconst (-1), 1) := by decide +kernel
theorem dX11_guessedParent_8 : decode cX11_guessedParent 8 = .ok (.istore_n 3, 1) := by decide +kernel
theorem dX11_guessedParent_9 : decode cX11_guessedParent 9 = .ok (.iconst (-1), 1) := by decide +kernel
theorem dX11_guessedParent_10 : decode cX11_guessedParent 10 = .ok (.istore 4, 2) := by decide +kernel
theorem dX11_guessedParent_12 : decode cX11_guessedParent 12 = .ok (.iconst 0, 1) := by decide +kernel
theorem dX11_guessedParent_13 : decode cX11_guessedParent 13 = .ok (.istore 5, 2) := by decide +kernel
theorem dX11_guessedParent_15 : decode cX11_guessedParent 15 = .ok (.iload 5, 2) := by decide +kernel
theorem dX11_guessedParent_17 : decode cX11_guessedParent 17 = .ok (.aload_n 0, 1) := by decide +kernel
theorem dX11_guessedParent_18 : decode cX11_guessedParent 18 = .ok (.getfield 15, 3) := by decide +kernel
theorem dX11_guessedParent_21 : decode cX11_guessedParent 21 = .ok (.if_icmp .ge 89, 3) := by decide +kernel
theorem dX11_guessedParent_24 : decode cX11_guessedParent 24 = .ok (.aload_n 0, 1) := by decide +kernel
theorem dX11_guessedParent_25 : decode cX11_guessedParent 25 = .ok (.getfield 11, 3) := by decide +kernel
theorem dX11_guessedParent_28 : decode cX11_guessedParent 28 = .ok (.iload 5, 2) := by decide +kernel
theorem dX11_guessedParent_30 : decode cX11_guessedParent 30 = .ok (.aaload, 1) := by decide +kernel
theorem dX11_guessedParent_31 : decode cX11_guessedParent 31 = .ok (.astore 6, 2) := by decide +kernel
theorem dX11_guessedParent_33 : decode cX11_guessedParent 33 = .ok (.aload 6, 2) := by decide +kernel
theorem dX11_guessedParent_35 : decode cX11_guessedParent 35 = .ok (.getfield 137, 3) := by decide +kernel
theorem dX11_guessedParent_38 : decode cX11_guessedParent 38 = .ok (.aload_n 2, 1) := by decide +kernel
theorem dX11_guessedParent_39 : decode cX11_guessedParent 39 = .ok (.getfield 137, 3) := by decide +kernel
theorem dX11_guessedParent_42 : decode cX11_guessedParent 42 = .ok (.if_icmp .lt 21, 3) := by decide +kernel
theorem dX11_guessedParent_45 : decode cX11_guessedParent 45 = .ok (.aload 6, 2) := by decide +kernel
theorem dX11_guessedParent_47 : decode cX11_guessedParent 47 = .ok (.getfield 137, 3) := by decide +kernel
theorem dX11_guessedParent_50 : decode cX11_guessedParent 50 = .ok (.aload_n 2, 1) := by decide +kernel
theorem dX11_guessedParent_51 : decode cX11_guessedParent 51 = .ok (.getfield 137, 3) := by decide +kernel
theorem dX11_guessedParent_54 : decode cX11_guessedParent 54 = .ok (.if_icmp .ne 13, 3) := by decide +kernel
theorem dX11_guessedParent_57 : decode cX11_guessedParent 57 = .ok (.iload 5, 2) := by decide +kernel
theorem dX11_guessedParent_59 : decode cX11_guessedParent 59 = .ok (.iload_n 1, 1) := by decide +kernel
theorem dX11_guessedParent_60 : decode cX11_guessedParent 60 = .ok (.if_icmp .ge 7, 3) := by decide +kernel
theorem dX11_guessedParent_63 : decode cX11_guessedParent 63 = .ok (.iconst 1, 1) := by decide +kernel
theorem dX11_guessedParent_64 : decode cX11_guessedParent 64 = .ok (.goto 4, 3) := by decide +kernel
theorem dX11_guessedParent_67 : decode cX11_guessedParent 67 = .ok (.iconst 0, 1) := by decide +kernel
theorem dX11_guessedParent_68 : decode cX11_guessedParent 68 = .ok (.istore 7, 2) := by decide +kernel
theorem dX11_guessedParent_70 : decode cX11_guessedParent 70 = .ok (.iload 7, 2) := by decide +kernel
theorem dX11_guessedParent_72 : decode cX11_guessedParent 72 = .ok (.ifCond .eq 32, 3) := by decide +kernel
theorem dX11_guessedParent_75 : decode cX11_guessedParent 75 = .ok (.aload_n 2, 1) := by decide +kernel
theorem dX11_guessedParent_76 : decode cX11_guessedParent 76 = .ok (.aload 6, 2) := by decide +kernel
theorem dX11_guessedParent_78 : decode cX11_guessedParent 78 = .ok (.invokevirtual 328, 3) := by decide +kernel
theorem dX11_guessedParent_81 : decode cX11_guessedParent 81 = .ok (.ifCond .eq 23, 3) := by decide +kernel
theorem dX11_guessedParent_84 : decode cX11_guessedParent 84 = .ok (.aload 6, 2) := by decide +kernel
theorem dX11_guessedParent_86 : decode cX11_guessedParent 86 = .ok (.invokevirtual 131, 3) := by decide +kernel
theorem dX11_guessedParent_89 : decode cX11_guessedParent 89 = .ok (.iload 4, 2) := by decide +kernel
theorem dX11_guessedParent_91 : decode cX11_guessedParent 91 = .ok (.if_icmp .le 13, 3) := by decide +kernel
theorem dX11_guessedParent_94 : decode cX11_guessedParent 94 = .ok (.iload 5, 2) := by decide +kernel
theorem dX11_guessedParent_96 : decode cX11_guessedParent 96 = .ok (.istore_n 3, 1) := by decide +kernel
theorem dX11_guessedParent_97 : decode cX11_guessedParent 97 = .ok (.aload 6, 2) := by decide +kernel
theorem dX11_guessedParent_99 : decode cX11_guessedParent 99 = .ok (.invokevirtual 131, 3) := by decide +kernel
theorem dX11_guessedParent_102 : decode cX11_guessedParent 102 = .ok (.istore 4, 2) := by decide +kernel
theorem dX11_guessedParent_104 : decode cX11_guessedParent 104 = .ok (.iinc 5 1, 3) := by decide +kernel
theorem dX11_guessedParent_107 : decode cX11_guessedParent 107 = .ok (.goto (-92), 3) := by decide +kernel
theorem dX11_guessedParent_110 : decode cX11_guessedParent 110 = .ok (.iload_n 3, 1) := by decide +kernel
theorem dX11_guessedParent_111 : decode cX11_guessedParent 111 = .ok (.ireturn, 1) := by decide +kernel
theorem dX11_bestReelWith_0 : decode cX11_bestReelWith 0 = .ok (.iconst (-1), 1) := by decide +kernel
theorem dX11_bestReelWith_1 : decode cX11_bestReelWith 1 = .ok (.istore_n 2, 1) := by decide +kernel
theorem dX11_bestReelWith_2 : decode cX11_bestReelWith 2 = .ok (.iconst 0, 1) := by decide +kernel
theorem dX11_bestReelWith_3 : decode cX11_bestReelWith 3 = .ok (.istore_n 3, 1) := by decide +kernel
theorem dX11_bestReelWith_4 : decode cX11_bestReelWith 4 = .ok (.iload_n 3, 1) := by decide +kernel
theorem dX11_bestReelWith_5 : decode cX11_bestReelWith 5 = .ok (.aload_n 0, 1) := by decide +kernel
theorem dX11_bestReelWith_6 : decode cX11_bestReelWith 6 = .ok (.getfield 15, 3) := by decide +kernel
theorem dX11_bestReelWith_9 : decode cX11_bestReelWith 9 = .ok (.if_icmp .ge 55, 3) := by decide +kernel
theorem dX11_bestReelWith_12 : decode cX11_bestReelWith 12 = .ok (.aload_n 0, 1) := by decide +kernel
theorem dX11_bestReelWith_13 : decode cX11_bestReelWith 13 = .ok (.getfield 11, 3) := by decide +kernel
theorem dX11_bestReelWith_16 : decode cX11_bestReelWith 16 = .ok (.iload_n 3, 1) := by decide +kernel
theorem dX11_bestReelWith_17 : decode cX11_bestReelWith 17 = .ok (.aaload, 1) := by decide +kernel
theorem dX11_bestReelWith_18 : decode cX11_bestReelWith 18 = .ok (.astore 4, 2) := by decide +kernel
theorem dX11_bestReelWith_20 : decode cX11_bestReelWith 20 = .ok (.aload 4, 2) := by decide +kernel
theorem dX11_bestReelWith_22 : decode cX11_bestReelWith 22 = .ok (.invokevirtual 110, 3) := by decide +kernel
theorem dX11_bestReelWith_25 : decode cX11_bestReelWith 25 = .ok (.ifCond .eq 33, 3) := by decide +kernel
theorem dX11_bestReelWith_28 : decode cX11_bestReelWith 28 = .ok (.aload 4, 2) := by decide +kernel
theorem dX11_bestReelWith_30 : decode cX11_bestReelWith 30 = .ok (.iload_n 1, 1) := by decide +kernel
theorem dX11_bestReelWith_31 : decode cX11_bestReelWith 31 = .ok (.invokevirtual 332, 3) := by decide +kernel
theorem dX11_bestReelWith_34 : decode cX11_bestReelWith 34 = .ok (.ifCond .eq 24, 3) := by decide +kernel
theorem dX11_bestReelWith_37 : decode cX11_bestReelWith 37 = .ok (.iload_n 2, 1) := by decide +kernel
theorem dX11_bestReelWith_38 : decode cX11_bestReelWith 38 = .ok (.iconst (-1), 1) := by decide +kernel
theorem dX11_bestReelWith_39 : decode cX11_bestReelWith 39 = .ok (.if_icmp .eq 17, 3) := by decide +kernel
theorem dX11_bestReelWith_42 : decode cX11_bestReelWith 42 = .ok (.aload 4, 2) := by decide +kernel
theorem dX11_bestReelWith_44 : decode cX11_bestReelWith 44 = .ok (.aload_n 0, 1) := by decide +kernel
theorem dX11_bestReelWith_45 : decode cX11_bestReelWith 45 = .ok (.getfield 11, 3) := by decide +kernel
theorem dX11_bestReelWith_48 : decode cX11_bestReelWith 48 = .ok (.iload_n 2, 1) := by decide +kernel
theorem dX11_bestReelWith_49 : decode cX11_bestReelWith 49 = .ok (.aaload, 1) := by decide +kernel
theorem dX11_bestReelWith_50 : decode cX11_bestReelWith 50 = .ok (.invokevirtual 335, 3) := by decide +kernel
theorem dX11_bestReelWith_53 : decode cX11_bestReelWith 53 = .ok (.ifCond .eq 5, 3) := by decide +kernel
theorem dX11_bestReelWith_56 : decode cX11_bestReelWith 56 = .ok (.iload_n 3, 1) := by decide +kernel
theorem dX11_bestReelWith_57 : decode cX11_bestReelWith 57 = .ok (.istore_n 2, 1) := by decide +kernel
theorem dX11_bestReelWith_58 : decode cX11_bestReelWith 58 = .ok (.iinc 3 1, 3) := by decide +kernel
theorem dX11_bestReelWith_61 : decode cX11_bestReelWith 61 = .ok (.goto (-57), 3) := by decide +kernel
theorem dX11_bestReelWith_64 : decode cX11_bestReelWith 64 = .ok (.iload_n 2, 1) := by decide +kernel
theorem dX11_bestReelWith_65 : decode cX11_bestReelWith 65 = .ok (.ireturn, 1) := by decide +kernel
theorem dX11_codesThatCanBeRead_0 : decode cX11_codesThatCanBeRead 0 = .ok (.iconst 0, 1) := by decide +kernel
theorem dX11_codesThatCanBeRead_1 : decode cX11_codesThatCanBeRead 1 = .ok (.istore_n 2, 1) := by decide +kernel
theorem dX11_codesThatCanBeRead_2 : decode cX11_codesThatCanBeRead 2 = .ok (.iconst 0, 1) := by decide +kernel
theorem dX11_codesThatCanBeRead_3 : decode cX11_codesThatCanBeRead 3 = .ok (.istore_n 3, 1) := by decide +kernel
theorem dX11_codesThatCanBeRead_4 : decode cX11_codesThatCanBeRead 4 = .ok (.iload_n 3, 1) := by decide +kernel
theorem dX11_codesThatCanBeRead_5 : decode cX11_codesThatCanBeRead 5 = .ok (.aload_n 1, 1) := by decide +kernel
theorem dX11_codesThatCanBeRead_6 : decode cX11_codesThatCanBeRead 6 = .ok (.getfield 172, 3) := by decide +kernel
theorem dX11_codesThatCanBeRead_9 : decode cX11_codesThatCanBeRead 9 = .ok (.if_icmp .ge 47, 3) := by decide +kernel
theorem dX11_codesThatCanBeRead_12 : decode cX11_codesThatCanBeRead 12 = .ok (.aload_n 1, 1) := by decide +kernel
theorem dX11_codesThatCanBeRead_13 : decode cX11_codesThatCanBeRead 13 = .ok (.getfield 212, 3) := by decide +kernel
theorem dX11_codesThatCanBeRead_16 : decode cX11_codesThatCanBeRead 16 = .ok (.iload_n 3, 1) := by decide +kernel
theorem dX11_codesThatCanBeRead_17 : decode cX11_codesThatCanBeRead 17 = .ok (.iaload, 1) := by decide +kernel
theorem dX11_codesThatCanBeRead_18 : decode cX11_codesThatCanBeRead 18 = .ok (.istore 4, 2) := by decide +kernel
theorem dX11_codesThatCanBeRead_20 : decode cX11_codesThatCanBeRead 20 = .ok (.iload 4, 2) := by decide +kernel
theorem dX11_codesThatCanBeRead_22 : decode cX11_codesThatCanBeRead 22 = .ok (.aload_n 1, 1) := by decide +kernel
theorem dX11_codesThatCanBeRead_23 : decode cX11_codesThatCanBeRead 23 = .ok (.getfield 215, 3) := by decide +kernel
theorem dX11_codesThatCanBeRead_26 : decode cX11_codesThatCanBeRead 26 = .ok (.iload_n 3, 1) := by decide +kernel
theorem dX11_codesThatCanBeRead_27 : decode cX11_codesThatCanBeRead 27 = .ok (.iaload, 1) := by decide +kernel
theorem dX11_codesThatCanBeRead_28 : decode cX11_codesThatCanBeRead 28 = .ok (.if_icmp .gt 22, 3) := by decide +kernel
theorem dX11_codesThatCanBeRead_31 : decode cX11_codesThatCanBeRead 31 = .ok (.aload_n 0, 1) := by decide +kernel
theorem dX11_codesThatCanBeRead_32 : decode cX11_codesThatCanBeRead 32 = .ok (.iload 4, 2) := by decide +kernel
theorem dX11_codesThatCanBeRead_34 : decode cX11_codesThatCanBeRead 34 = .ok (.invokevirtual 338, 3) := by decide +kernel
theorem dX11_codesThatCanBeRead_37 : decode cX11_codesThatCanBeRead 37 = .ok (.iconst (-1), 1) := by decide +kernel
theorem dX11_codesThatCanBeRead_38 : decode cX11_codesThatCanBeRead 38 = .ok (.if_icmp .eq 6, 3) := by decide +kernel
theorem dX11_codesThatCanBeRead_41 : decode cX11_codesThatCanBeRead 41 = .ok (.iinc 2 1, 3) := by decide +kernel
theorem dX11_codesThatCanBeRead_44 : decode cX11_codesThatCanBeRead 44 = .ok (.iinc 4 1, 3) := by decide +kernel
theorem dX11_codesThatCanBeRead_47 : decode cX11_codesThatCanBeRead 47 = .ok (.goto (-27), 3) := by decide +kernel
theorem dX11_codesThatCanBeRead_50 : decode cX11_codesThatCanBeRead 50 = .ok (.iinc 3 1, 3) := by decide +kernel
theorem dX11_codesThatCanBeRead_53 : decode cX11_codesThatCanBeRead 53 = .ok (.goto (-49), 3) := by decide +kernel
theorem dX11_codesThatCanBeRead_56 : decode cX11_codesThatCanBeRead 56 = .ok (.iload_n 2, 1) := by decide +kernel
theorem dX11_codesThatCanBeRead_57 : decode cX11_codesThatCanBeRead 57 = .ok (.ireturn, 1) := by decide +kernel
theorem dX11_takeCode_0 : decode cX11_takeCode 0 = .ok (.aload_n 0, 1) := by decide +kernel
theorem dX11_takeCode_1 : decode cX11_takeCode 1 = .ok (.iload_n 1, 1) := by decide +kernel
theorem dX11_takeCode_2 : decode cX11_takeCode 2 = .ok (.invokevirtual 338, 3) := by decide +kernel
theorem dX11_takeCode_5 : decode cX11_takeCode 5 = .ok (.istore_n 2, 1) := by decide +kernel
theorem dX11_takeCode_6 : decode cX11_takeCode 6 = .ok (.iload_n 2, 1) := by decide +kernel
theorem dX11_takeCode_7 : decode cX11_takeCode 7 = .ok (.iconst (-1), 1) := by decide +kernel
theorem dX11_takeCode_8 : decode cX11_takeCode 8 = .ok (.if_icmp .ne 15, 3) := by decide +kernel
theorem dX11_takeCode_11 : decode cX11_takeCode 11 = .ok (.aload_n 0, 1) := by decide +kernel
theorem dX11_takeCode_12 : decode cX11_takeCode 12 = .ok (.getfield 54, 3) := by decide +kernel
theorem dX11_takeCode_15 : decode cX11_takeCode 15 = .ok (.iload_n 1, 1) := by decide +kernel
theorem dX11_takeCode_16 : decode cX11_takeCode 16 = .ok (.iconst (-1), 1) := by decide +kernel
theorem dX11_takeCode_17 : decode cX11_takeCode 17 = .ok (.iconst (-1), 1) := by decide +kernel
theorem dX11_takeCode_18 : decode cX11_takeCode 18 = .ok (.lconst 0, 1) := by decide +kernel
theorem dX11_takeCode_19 : decode cX11_takeCode 19 = .ok (.invokevirtual 341, 3) := by decide +kernel
theorem dX11_takeCode_22 : decode cX11_takeCode 22 = .ok (.return_, 1) := by decide +kernel
theorem dX11_takeCode_23 : decode cX11_takeCode 23 = .ok (.aload_n 0, 1) := by decide +kernel
theorem dX11_takeCode_24 : decode cX11_takeCode 24 = .ok (.getfield 11, 3) := by decide +kernel
theorem dX11_takeCode_27 : decode cX11_takeCode 27 = .ok (.iload_n 2, 1) := by decide +kernel
theorem dX11_takeCode_28 : decode cX11_takeCode 28 = .ok (.aaload, 1) := by decide +kernel
theorem dX11_takeCode_29 : decode cX11_takeCode 29 = .ok (.getfield 345, 3) := by decide +kernel
theorem dX11_takeCode_32 : decode cX11_takeCode 32 = .ok (.iload_n 1, 1) := by decide +kernel
theorem dX11_takeCode_33 : decode cX11_takeCode 33 = .ok (.iaload, 1) := by decide +kernel
theorem dX11_takeCode_34 : decode cX11_takeCode 34 = .ok (.istore_n 3, 1) := by decide +kernel
theorem dX11_takeCode_35 : decode cX11_takeCode 35 = .ok (.aload_n 0, 1) := by decide +kernel
theorem dX11_takeCode_36 : decode cX11_takeCode 36 = .ok (.getfield 54, 3) := by decide +kernel
theorem dX11_takeCode_39 : decode cX11_takeCode 39 = .ok (.iload_n 1, 1) := by decide +kernel
theorem dX11_takeCode_40 : decode cX11_takeCode 40 = .ok (.iload_n 2, 1) := by decide +kernel
theorem dX11_takeCode_41 : decode cX11_takeCode 41 = .ok (.iload_n 3, 1) := by decide +kernel
theorem dX11_takeCode_42 : decode cX11_takeCode 42 = .ok (.aload_n 0, 1) := by decide +kernel
theorem dX11_takeCode_43 : decode cX11_takeCode 43 = .ok (.getfield 11, 3) := by decide +kernel
theorem dX11_takeCode_46 : decode cX11_takeCode 46 = .ok (.iload_n 2, 1) := by decide +kernel
theorem dX11_takeCode_47 : decode cX11_takeCode 47 = .ok (.aaload, 1) := by decide +kernel
theorem dX11_takeCode_48 : decode cX11_takeCode 48 = .ok (.getfield 155, 3) := by decide +kernel
theorem dX11_takeCode_51 : decode cX11_takeCode 51 = .ok (.iload_n 3, 1) := by decide +kernel
theorem dX11_takeCode_52 : decode cX11_takeCode 52 = .ok (.laload, 1) := by decide +kernel
theorem dX11_takeCode_53 : decode cX11_takeCode 53 = .ok (.invokevirtual 341, 3) := by decide +kernel
theorem dX11_takeCode_56 : decode cX11_takeCode 56 = .ok (.return_, 1) := by decide +kernel
theorem dX12_init_0 : decode cX12_init 0 = .ok (.aload_n 0, 1) := by decide +kernel
theorem dX12_init_1 : decode cX12_init 1 = .ok (.invokespecial 1, 3) := by decide +kernel
theorem dX12_init_4 : decode cX12_init 4 = .ok (.aload_n 0, 1) := by decide +kernel
theorem dX12_init_5 : decode cX12_init 5 = .ok (.bipush 12, 2) := by decide +kernel
theorem dX12_init_7 : decode cX12_init 7 = .ok (.newarray .int, 2) := by decide +kernel
theorem dX12_init_9 : decode cX12_init 9 = .ok (.putfield 7, 3) := by decide +kernel
theorem dX12_init_12 : decode cX12_init 12 = .ok (.aload_n 0, 1) := by decide +kernel
theorem dX12_init_13 : decode cX12_init 13 = .ok (.bipush 12, 2) := by decide +kernel
theorem dX12_init_15 : decode cX12_init 15 = .ok (.newarray .int, 2) := by decide +kernel
theorem dX12_init_17 : decode cX12_init 17 = .ok (.putfield 13, 3) := by decide +kernel
theorem dX12_init_20 : decode cX12_init 20 = .ok (.aload_n 0, 1) := by decide +kernel
theorem dX12_init_21 : decode cX12_init 21 = .ok (.bipush 12, 2) := by decide +kernel
theorem dX12_init_23 : decode cX12_init 23 = .ok (.newarray .int, 2) := by decide +kernel
theorem dX12_init_25 : decode cX12_init 25 = .ok (.putfield 16, 3) := by decide +kernel
theorem dX12_init_28 : decode cX12_init 28 = .ok (.aload_n 0, 1) := by decide +kernel
theorem dX12_init_29 : decode cX12_init 29 = .ok (.bipush 12, 2) := by decide +kernel
theorem dX12_init_31 : decode cX12_init 31 = .ok (.newarray .int, 2) := by decide +kernel
theorem dX12_init_33 : decode cX12_init 33 = .ok (.putfield 19, 3) := by decide +kernel
theorem dX12_init_36 : decode cX12_init 36 = .ok (.aload_n 0, 1) := by decide +kernel
theorem dX12_init_37 : decode cX12_init 37 = .ok (.bipush 12, 2) := by decide +kernel
theorem dX12_init_39 : decode cX12_init 39 = .ok (.newarray .int, 2) := by decide +kernel
theorem dX12_init_41 : decode cX12_init 41 = .ok (.putfield 22, 3) := by decide +kernel
theorem dX12_init_44 : decode cX12_init 44 = .ok (.aload_n 0, 1) := by decide +kernel
theorem dX12_init_45 : decode cX12_init 45 = .ok (.bipush 12, 2) := by decide +kernel
theorem dX12_init_47 : decode cX12_init 47 = .ok (.newarray .int, 2) := by decide +kernel
theorem dX12_init_49 : decode cX12_init 49 = .ok (.putfield 25, 3) := by decide +kernel
theorem dX12_init_52 : decode cX12_init 52 = .ok (.aload_n 0, 1) := by decide +kernel
theorem dX12_init_53 : decode cX12_init 53 = .ok (.bipush 12, 2) := by decide +kernel
theorem dX12_init_55 : decode cX12_init 55 = .ok (.newarray .int, 2) := by decide +kernel
theorem dX12_init_57 : decode cX12_init 57 = .ok (.putfield 28, 3) := by decide +kernel
theorem dX12_init_60 : decode cX12_init 60 = .ok (.aload_n 0, 1) := by decide +kernel
theorem dX12_init_61 : decode cX12_init 61 = .ok (.sipush 720, 3) := by decide +kernel
theorem dX12_init_64 : decode cX12_init 64 = .ok (.newarray .int, 2) := by decide +kernel
theorem dX12_init_66 : decode cX12_init 66 = .ok (.putfield 31, 3) := by decide +kernel
theorem dX12_init_69 : decode cX12_init 69 = .ok (.aload_n 0, 1) := by decide +kernel
theorem dX12_init_70 : decode cX12_init 70 = .ok (.sipush 720, 3) := by decide +kernel
theorem dX12_init_73 : decode cX12_init 73 = .ok (.newarray .long, 2) := by decide +kernel
theorem dX12_init_75 : decode cX12_init 75 = .ok (.putfield 34, 3) := by decide +kernel
theorem dX12_init_78 : decode cX12_init 78 = .ok (.aload_n 0, 1) := by decide +kernel
theorem dX12_init_79 : decode cX12_init 79 = .ok (.sipush 720, 3) := by decide +kernel
theorem dX12_init_82 : decode cX12_init 82 = .ok (.newarray .int, 2) := by decide +kernel
theorem dX12_init_84 : decode cX12_init 84 = .ok (.putfield 38, 3) := by decide +kernel
theorem dX12_init_87 : decode cX12_init 87 = .ok (.aload_n 0, 1) := by decide +kernel
theorem dX12_init_88 : decode cX12_init 88 = .ok (.bipush 40, 2) := by decide +kernel
theorem dX12_init_90 : decode cX12_init 90 = .ok (.putfield 41, 3) := by decide +kernel
theorem dX12_init_93 : decode cX12_init 93 = .ok (.aload_n 0, 1) := by decide +kernel
theorem dX12_init_94 : decode cX12_init 94 = .ok (.sipush 2000, 3) := by decide +kernel
theorem dX12_init_97 : decode cX12_init 97 = .ok (.putfield 45, 3) := by decide +kernel
theorem dX12_init_100 : decode cX12_init 100 = .ok (.aload_n 0, 1) := by decide +kernel
theorem dX12_init_101 : decode cX12_init 101 = .ok (.sipush 3721, 3) := by decide +kernel
theorem dX12_init_104 : decode cX12_init 104 = .ok (.newarray .int, 2) := by decide +kernel
theorem dX12_init_106 : decode cX12_init 106 = .ok (.putfield 48, 3) := by decide +kernel
theorem dX12_init_109 : decode cX12_init 109 = .ok (.aload_n 0, 1) := by decide +kernel
theorem dX12_init_110 : decode cX12_init 110 = .ok (.bipush 6, 2) := by decide +kernel
theorem dX12_init_112 : decode cX12_init 112 = .ok (.newarray .int, 2) := by decide +kernel
theorem dX12_init_114 : decode cX12_init 114 = .ok (.putfield 51, 3) := by decide +kernel
theorem dX12_init_117 : decode cX12_init 117 = .ok (.aload_n 0, 1) := by decide +kernel
theorem dX12_init_118 : decode cX12_init 118 = .ok (.bipush 6, 2) := by decide +kernel
theorem dX12_init_120 : decode cX12_init 120 = .ok (.newarray .int, 2) := by decide +kernel
theorem dX12_init_122 : decode cX12_init 122 = .ok (.putfield 54, 3) := by decide +kernel
theorem dX12_init_125 : decode cX12_init 125 = .ok (.aload_n 0, 1) := by decide +kernel
theorem dX12_init_126 : decode cX12_init 126 = .ok (.bipush 6, 2) := by decide +kernel
theorem dX12_init_128 : decode cX12_init 128 = .ok (.newarray .int, 2) := by decide +kernel
theorem dX12_init_130 : decode cX12_init 130 = .ok (.putfield 57, 3) := by decide +kernel
theorem dX12_init_133 : decode cX12_init 133 = .ok (.aload_n 0, 1) := by decide +kernel
theorem dX12_init_134 : decode cX12_init 134 = .ok (.bipush 6, 2) := by decide +kernel
theorem dX12_init_136 : decode cX12_init 136 = .ok (.newarray .int, 2) := by decide +kernel
theorem dX12_init_138 : decode cX12_init 138 = .ok (.putfield 60, 3) := by decide +kernel
theorem dX12_init_141 : decode cX12_init 141 = .ok (.aload_n 0, 1) := by decide +kernel
theorem dX12_init_142 : decode cX12_init 142 = .ok (.bipush 60, 2) := by decide +kernel
theorem dX12_init_144 : decode cX12_init 144 = .ok (.newarray .int, 2) := by decide +kernel
theorem dX12_init_146 : decode cX12_init 146 = .ok (.putfield 63, 3) := by decide +kernel
theorem dX12_init_149 : decode cX12_init 149 = .ok (.aload_n 0, 1) := by decide +kernel
theorem dX12_init_150 : decode cX12_init 150 = .ok (.bipush 60, 2) := by decide +kernel
theorem dX12_init_152 : decode cX12_init 152 = .ok (.newarray .int, 2) := by decide +kernel
theorem dX12_init_154 : decode cX12_init 154 = .ok (.putfield 66, 3) := by decide +kernel
theorem dX12_init_157 : decode cX12_init 157 = .ok (.aload_n 0, 1) := by decide +kernel
theorem dX12_init_158 : decode cX12_init 158 = .ok (.bipush 60, 2) := by decide +kernel
theorem dX12_init_160 : decode cX12_init 160 = .ok (.newarray .int, 2) := by decide +kernel
theorem dX12_init_162 : decode cX12_init 162 = .ok (.putfield 69, 3) := by decide +kernel
theorem dX12_init_165 : decode cX12_init 165 = .ok (.aload_n 0, 1) := by decide +kernel
theorem dX12_init_166 : decode cX12_init 166 = .ok (.bipush 6, 2) := by decide +kernel
theorem dX12_init_168 : decode cX12_init 168 = .ok (.newarray .int, 2) := by decide +kernel
theorem dX12_init_170 : decode cX12_init 170 = .ok (.putfield 72, 3) := by decide +kernel
theorem dX12_init_173 : decode cX12_init 173 = .ok (.aload_n 0, 1) := by decide +kernel
theorem dX12_init_174 : decode cX12_init 174 = .ok (.bipush 100, 2) := by decide +kernel
theorem dX12_init_176 : decode cX12_init 176 = .ok (.newarray .int, 2) := by decide +kernel
theorem dX12_init_178 : decode cX12_init 178 = .ok (.putfield 75, 3) := by decide +kernel
theorem dX12_init_181 : decode cX12_init 181 = .ok (.aload_n 0, 1) := by decide +kernel
theorem dX12_init_182 : decode cX12_init 182 = .ok (.bipush 100, 2) := by decide +kernel
theorem dX12_init_184 : decode cX12_init 184 = .ok (.newarray .int, 2) := by decide +kernel
theorem dX12_init_186 : decode cX12_init 186 = .ok (.putfield 78, 3) := by decide +kernel
theorem dX12_init_189 : decode cX12_init 189 = .ok (.aload_n 0, 1) := by decide +kernel
theorem dX12_init_190 : decode cX12_init 190 = .ok (.bipush 40, 2) := by decide +kernel
theorem dX12_init_192 : decode cX12_init 192 = .ok (.newarray .int, 2) := by decide +kernel
theorem dX12_init_194 : decode cX12_init 194 = .ok (.putfield 81, 3) := by decide +kernel
theorem dX12_init_197 : decode cX12_init 197 = .ok (.aload_n 0, 1) := by decide +kernel
theorem dX12_init_198 : decode cX12_init 198 = .ok (.bipush 40, 2) := by decide +kernel
theorem dX12_init_200 : decode cX12_init 200 = .ok (.newarray .int, 2) := by decide +kernel
theorem dX12_init_202 : decode cX12_init 202 = .ok (.putfield 84, 3) := by decide +kernel
theorem dX12_init_205 : decode cX12_init 205 = .ok (.aload_n 0, 1) := by decide +kernel
theorem dX12_init_206 : decode cX12_init 206 = .ok (.bipush 40, 2) := by decide +kernel
theorem dX12_init_208 : decode cX12_init 208 = .ok (.newarray .int, 2) := by decide +kernel
theorem dX12_init_210 : decode cX12_init 210 = .ok (.putfield 87, 3) := by decide +kernel
theorem dX12_init_213 : decode cX12_init 213 = .ok (.aload_n 0, 1) := by decide +kernel
theorem dX12_init_214 : decode cX12_init 214 = .ok (.bipush 40, 2) := by decide +kernel
theorem dX12_init_216 : decode cX12_init 216 = .ok (.newarray .int, 2) := by decide +kernel
theorem dX12_init_218 : decode cX12_init 218 = .ok (.putfield 90, 3) := by decide +kernel
theorem dX12_init_221 : decode cX12_init 221 = .ok (.aload_n 0, 1) := by decide +kernel
theorem dX12_init_222 : decode cX12_init 222 = .ok (.bipush 40, 2) := by decide +kernel
theorem dX12_init_224 : decode cX12_init 224 = .ok (.newarray .int, 2) := by decide +kernel
theorem dX12_init_226 : decode cX12_init 226 = .ok (.putfield 93, 3) := by decide +kernel
theorem dX12_init_229 : decode cX12_init 229 = .ok (.aload_n 0, 1) := by decide +kernel
theorem dX12_init_230 : decode cX12_init 230 = .ok (.bipush 120, 2) := by decide +kernel
theorem dX12_init_232 : decode cX12_init 232 = .ok (.newarray .int, 2) := by decide +kernel
theorem dX12_init_234 : decode cX12_init 234 = .ok (.putfield 96, 3) := by decide +kernel
theorem dX12_init_237 : decode cX12_init 237 = .ok (.aload_n 0, 1) := by decide +kernel
theorem dX12_init_238 : decode cX12_init 238 = .ok (.bipush 120, 2) := by decide +kernel
theorem dX12_init_240 : decode cX12_init 240 = .ok (.newarray .int, 2) := by decide +kernel
theorem dX12_init_242 : decode cX12_init 242 = .ok (.putfield 99, 3) := by decide +kernel
theorem dX12_init_245 : decode cX12_init 245 = .ok (.aload_n 0, 1) := by decide +kernel
theorem dX12_init_246 : decode cX12_init 246 = .ok (.bipush 120, 2) := by decide +kernel
theorem dX12_init_248 : decode cX12_init 248 = .ok (.newarray .int, 2) := by decide +kernel
theorem dX12_init_250 : decode cX12_init 250 = .ok (.putfield 102, 3) := by decide +kernel
theorem dX12_init_253 : decode cX12_init 253 = .ok (.aload_n 0, 1) := by decide +kernel
theorem dX12_init_254 : decode cX12_init 254 = .ok (.bipush 120, 2) := by decide +kernel
theorem dX12_init_256 : decode cX12_init 256 = .ok (.newarray .long, 2) := by decide +kernel
theorem dX12_init_258 : decode cX12_init 258 = .ok (.putfield 105, 3) := by decide +kernel
theorem dX12_init_261 : decode cX12_init 261 = .ok (.aload_n 0, 1) := by decide +kernel
theorem dX12_init_262 : decode cX12_init 262 = .ok (.bipush 120, 2) := by decide +kernel
theorem dX12_init_264 : decode cX12_init 264 = .ok (.newarray .long, 2) := by decide +kernel
theorem dX12_init_266 : decode cX12_init 266 = .ok (.putfield 108, 3) := by decide +kernel
theorem dX12_init_269 : decode cX12_init 269 = .ok (.aload_n 0, 1) := by decide +kernel
theorem dX12_init_270 : decode cX12_init 270 = .ok (.bipush 120, 2) := by decide +kernel
theorem dX12_init_272 : decode cX12_init 272 = .ok (.newarray .int, 2) := by decide +kernel
theorem dX12_init_274 : decode cX12_init 274 = .ok (.putfield 111, 3) := by decide +kernel
theorem dX12_init_277 : decode cX12_init 277 = .ok (.aload_n 0, 1) := by decide +kernel
theorem dX12_init_278 : decode cX12_init 278 = .ok (.bipush 120, 2) := by decide +kernel
theorem dX12_init_280 : decode cX12_init 280 = .ok (.newarray .long, 2) := by decide +kernel
theorem dX12_init_282 : decode cX12_init 282 = .ok (.putfield 114, 3) := by decide +kernel
theorem dX12_init_285 : decode cX12_init 285 = .ok (.aload_n 0, 1) := by decide +kernel
theorem dX12_init_286 : decode cX12_init 286 = .ok (.iconst 4, 1) := by decide +kernel
theorem dX12_init_287 : decode cX12_init 287 = .ok (.putfield 117, 3) := by decide +kernel
theorem dX12_init_290 : decode cX12_init 290 = .ok (.aload_n 0, 1) := by decide +kernel
theorem dX12_init_291 : decode cX12_init 291 = .ok (.ldc 120, 2) := by decide +kernel
theorem dX12_init_293 : decode cX12_init 293 = .ok (.newarray .int, 2) := by decide +kernel
theorem dX12_init_295 : decode cX12_init 295 = .ok (.putfield 121, 3) := by decide +kernel
theorem dX12_init_298 : decode cX12_init 298 = .ok (.aload_n 0, 1) := by decide +kernel
theorem dX12_init_299 : decode cX12_init 299 = .ok (.ldc 120, 2) := by decide +kernel
theorem dX12_init_301 : decode cX12_init 301 = .ok (.newarray .long, 2) := by decide +kernel
theorem dX12_init_303 : decode cX12_init 303 = .ok (.putfield 124, 3) := by decide +kernel
theorem dX12_init_306 : decode cX12_init 306 = .ok (.aload_n 0, 1) := by decide +kernel
theorem dX12_init_307 : decode cX12_init 307 = .ok (.ldc 120, 2) := by decide +kernel
theorem dX12_init_309 : decode cX12_init 309 = .ok (.newarray .int, 2) := by decide +kernel
theorem dX12_init_311 : decode cX12_init 311 = .ok (.putfield 127, 3) := by decide +kernel
theorem dX12_init_314 : decode cX12_init 314 = .ok (.aload_n 0, 1) := by decide +kernel
theorem dX12_init_315 : decode cX12_init 315 = .ok (.bipush 10, 2) := by decide +kernel
theorem dX12_init_317 : decode cX12_init 317 = .ok (.newarray .int, 2) := by decide +kernel
theorem dX12_init_319 : decode cX12_init 319 = .ok (.putfield 130, 3) := by decide +kernel
theorem dX12_init_322 : decode cX12_init 322 = .ok (.aload_n 0, 1) := by decide +kernel
theorem dX12_init_323 : decode cX12_init 323 = .ok (.sipush 1000, 3) := by decide +kernel
theorem dX12_init_326 : decode cX12_init 326 = .ok (.newarray .boolean, 2) := by decide +kernel
theorem dX12_init_328 : decode cX12_init 328 = .ok (.putfield 133, 3) := by decide +kernel
theorem dX12_init_331 : decode cX12_init 331 = .ok (.aload_n 0, 1) := by decide +kernel
theorem dX12_init_332 : decode cX12_init 332 = .ok (.sipush 1000, 3) := by decide +kernel
theorem dX12_init_335 : decode cX12_init 335 = .ok (.newarray .boolean, 2) := by decide +kernel
theorem dX12_init_337 : decode cX12_init 337 = .ok (.putfield 137, 3) := by decide +kernel
theorem dX12_init_340 : decode cX12_init 340 = .ok (.return_, 1) := by decide +kernel
theorem dX12_thrown_0 : decode cX12_thrown 0 = .ok (.aload_n 0, 1) := by decide +kernel
theorem dX12_thrown_1 : decode cX12_thrown 1 = .ok (.getfield 140, 3) := by decide +kernel
theorem dX12_thrown_4 : decode cX12_thrown 4 = .ok (.ireturn, 1) := by decide +kernel
theorem dX12_holds_0 : decode cX12_holds 0 = .ok (.aload_n 0, 1) := by decide +kernel
theorem dX12_holds_1 : decode cX12_holds 1 = .ok (.iload_n 1, 1) := by decide +kernel
theorem dX12_holds_2 : decode cX12_holds 2 = .ok (.putfield 140, 3) := by decide +kernel
theorem dX12_holds_5 : decode cX12_holds 5 = .ok (.iload_n 1, 1) := by decide +kernel
theorem dX12_holds_6 : decode cX12_holds 6 = .ok (.ifCond .le 7, 3) := by decide +kernel
theorem dX12_holds_9 : decode cX12_holds 9 = .ok (.iconst 1, 1) := by decide +kernel
theorem dX12_holds_10 : decode cX12_holds 10 = .ok (.goto 4, 3) := by decide +kernel
theorem dX12_holds_13 : decode cX12_holds 13 = .ok (.iconst 0, 1) := by decide +kernel
theorem dX12_holds_14 : decode cX12_holds 14 = .ok (.ireturn, 1) := by decide +kernel
theorem dX12_in_0 : decode cX12_in 0 = .ok (.iload_n 1, 1) := by decide +kernel
theorem dX12_in_1 : decode cX12_in 1 = .ok (.iload_n 2, 1) := by decide +kernel
theorem dX12_in_2 : decode cX12_in 2 = .ok (.if_icmp .lt 12, 3) := by decide +kernel
theorem dX12_in_5 : decode cX12_in 5 = .ok (.iload_n 1, 1) := by decide +kernel
theorem dX12_in_6 : decode cX12_in 6 = .ok (.iload_n 3, 1) := by decide +kernel
theorem dX12_in_7 : decode cX12_in 7 = .ok (.if_icmp .gt 7, 3) := by decide +kernel
theorem dX12_in_10 : decode cX12_in 10 = .ok (.iconst 1, 1) := by decide +kernel
theorem dX12_in_11 : decode cX12_in 11 = .ok (.goto 4, 3) := by decide +kernel
theorem dX12_in_14 : decode cX12_in 14 = .ok (.iconst 0, 1) := by decide +kernel
theorem dX12_in_15 : decode cX12_in 15 = .ok (.ireturn, 1) := by decide +kernel
theorem dX12_isReel_0 : decode cX12_isReel 0 = .ok (.aload_n 0, 1) := by decide +kernel
theorem dX12_isReel_1 : decode cX12_isReel 1 = .ok (.iload_n 1, 1) := by decide +kernel
theorem dX12_isReel_2 : decode cX12_isReel 2 = .ok (.iconst 0, 1) := by decide +kernel
theorem dX12_isReel_3 : decode cX12_isReel 3 = .ok (.aload_n 0, 1) := by decide +kernel
theorem dX12_isReel_4 : decode cX12_isReel 4 = .ok (.getfield 143, 3) := by decide +kernel
theorem dX12_isReel_7 : decode cX12_isReel 7 = .ok (.iconst 1, 1) := by decide +kernel
theorem dX12_isReel_8 : decode cX12_isReel 8 = .ok (.isub, 1) := by decide +kernel
theorem dX12_isReel_9 : decode cX12_isReel 9 = .ok (.invokevirtual 146, 3) := by decide +kernel
theorem dX12_isReel_12 : decode cX12_isReel 12 = .ok (.ireturn, 1) := by decide +kernel
theorem dX12_point_0 : decode cX12_point 0 = .ok (.lload_n 1, 1) := by decide +kernel
theorem dX12_point_1 : decode cX12_point 1 = .ok (.bipush 8, 2) := by decide +kernel
theorem dX12_point_3 : decode cX12_point 3 = .ok (.iload_n 3, 1) := by decide +kernel
theorem dX12_point_4 : decode cX12_point 4 = .ok (.imul, 1) := by decide +kernel
theorem dX12_point_5 : decode cX12_point 5 = .ok (.lushr, 1) := by decide +kernel
theorem dX12_point_6 : decode cX12_point 6 = .ok (.l2i, 1) := by decide +kernel
theorem dX12_point_7 : decode cX12_point 7 = .ok (.sipush 255, 3) := by decide +kernel
theorem dX12_point_10 : decode cX12_point 10 = .ok (.iand, 1) := by decide +kernel
theorem dX12_point_11 : decode cX12_point 11 = .ok (.ireturn, 1) := by decide +kernel
theorem dX12_apart_0 : decode cX12_apart 0 = .ok (.iconst 0, 1) := by decide +kernel
theorem dX12_apart_1 : decode cX12_apart 1 = .ok (.istore 5, 2) := by decide +kernel
theorem dX12_apart_3 : decode cX12_apart 3 = .ok (.iconst 0, 1) := by decide +kernel
theorem dX12_apart_4 : decode cX12_apart 4 = .ok (.istore 6, 2) := by decide +kernel
theorem dX12_apart_6 : decode cX12_apart 6 = .ok (.iload 6, 2) := by decide +kernel
theorem dX12_apart_8 : decode cX12_apart 8 = .ok (.bipush 8, 2) := by decide +kernel
theorem dX12_apart_10 : decode cX12_apart 10 = .ok (.if_icmp .ge 44, 3) := by decide +kernel
theorem dX12_apart_13 : decode cX12_apart 13 = .ok (.aload_n 0, 1) := by decide +kernel
theorem dX12_apart_14 : decode cX12_apart 14 = .ok (.lload_n 1, 1) := by decide +kernel
theorem dX12_apart_15 : decode cX12_apart 15 = .ok (.iload 6, 2) := by decide +kernel
theorem dX12_apart_17 : decode cX12_apart 17 = .ok (.invokevirtual 150, 3) := by decide +kernel
theorem dX12_apart_20 : decode cX12_apart 20 = .ok (.aload_n 0, 1) := by decide +kernel
theorem dX12_apart_21 : decode cX12_apart 21 = .ok (.lload_n 3, 1) := by decide +kernel
theorem dX12_apart_22 : decode cX12_apart 22 = .ok (.iload 6, 2) := by decide +kernel
theorem dX12_apart_24 : decode cX12_apart 24 = .ok (.invokevirtual 150, 3) := by decide +kernel
theorem dX12_apart_27 : decode cX12_apart 27 = .ok (.isub, 1) := by decide +kernel
theorem dX12_apart_28 : decode cX12_apart 28 = .ok (.istore 7, 2) := by decide +kernel
theorem dX12_apart_30 : decode cX12_apart 30 = .ok (.iload 5, 2) := by decide +kernel
theorem dX12_apart_32 : decode cX12_apart 32 = .ok (.iload 7, 2) := by decide +kernel
theorem dX12_apart_34 : decode cX12_apart 34 = .ok (.ifCond .ge 9, 3) := by decide +kernel
theorem dX12_apart_37 : decode cX12_apart 37 = .ok (.iload 7, 2) := by decide +kernel
theorem dX12_apart_39 : decode cX12_apart 39 = .ok (.ineg, 1) := by decide +kernel
theorem dX12_apart_40 : decode cX12_apart 40 = .ok (.goto 5, 3) := by decide +kernel
theorem dX12_apart_43 : decode cX12_apart 43 = .ok (.iload 7, 2) := by decide +kernel
theorem dX12_apart_45 : decode cX12_apart 45 = .ok (.iadd, 1) := by decide +kernel
theorem dX12_apart_46 : decode cX12_apart 46 = .ok (.istore 5, 2) := by decide +kernel
theorem dX12_apart_48 : decode cX12_apart 48 = .ok (.iinc 6 1, 3) := by decide +kernel
theorem dX12_apart_51 : decode cX12_apart 51 = .ok (.goto (-45), 3) := by decide +kernel
theorem dX12_apart_54 : decode cX12_apart 54 = .ok (.iload 5, 2) := by decide +kernel
theorem dX12_apart_56 : decode cX12_apart 56 = .ok (.ireturn, 1) := by decide +kernel
theorem dX12_adds_0 : decode cX12_adds 0 = .ok (.aload_n 0, 1) := by decide +kernel
theorem dX12_adds_1 : decode cX12_adds 1 = .ok (.getfield 7, 3) := by decide +kernel
theorem dX12_adds_4 : decode cX12_adds 4 = .ok (.aload_n 0, 1) := by decide +kernel
theorem dX12_adds_5 : decode cX12_adds 5 = .ok (.getfield 143, 3) := by decide +kernel
theorem dX12_adds_8 : decode cX12_adds 8 = .ok (.iload_n 1, 1) := by decide +kernel
theorem dX12_adds_9 : decode cX12_adds 9 = .ok (.iastore, 1) := by decide +kernel
theorem dX12_adds_10 : decode cX12_adds 10 = .ok (.aload_n 0, 1) := by decide +kernel
theorem dX12_adds_11 : decode cX12_adds 11 = .ok (.getfield 13, 3) := by decide +kernel
theorem dX12_adds_14 : decode cX12_adds 14 = .ok (.aload_n 0, 1) := by decide +kernel
theorem dX12_adds_15 : decode cX12_adds 15 = .ok (.getfield 143, 3) := by decide +kernel
theorem dX12_adds_18 : decode cX12_adds 18 = .ok (.iload_n 2, 1) := by decide +kernel
theorem dX12_adds_19 : decode cX12_adds 19 = .ok (.iastore, 1) := by decide +kernel
theorem dX12_adds_20 : decode cX12_adds 20 = .ok (.aload_n 0, 1) := by decide +kernel
theorem dX12_adds_21 : decode cX12_adds 21 = .ok (.getfield 16, 3) := by decide +kernel
theorem dX12_adds_24 : decode cX12_adds 24 = .ok (.aload_n 0, 1) := by decide +kernel
theorem dX12_adds_25 : decode cX12_adds 25 = .ok (.getfield 143, 3) := by decide +kernel
theorem dX12_adds_28 : decode cX12_adds 28 = .ok (.iload_n 3, 1) := by decide +kernel
theorem dX12_adds_29 : decode cX12_adds 29 = .ok (.iastore, 1) := by decide +kernel
theorem dX12_adds_30 : decode cX12_adds 30 = .ok (.aload_n 0, 1) := by decide +kernel
theorem dX12_adds_31 : decode cX12_adds 31 = .ok (.getfield 19, 3) := by decide +kernel
theorem dX12_adds_34 : decode cX12_adds 34 = .ok (.aload_n 0, 1) := by decide +kernel
theorem dX12_adds_35 : decode cX12_adds 35 = .ok (.getfield 143, 3) := by decide +kernel
theorem dX12_adds_38 : decode cX12_adds 38 = .ok (.iload 4, 2) := by decide +kernel
theorem dX12_adds_40 : decode cX12_adds 40 = .ok (.iastore, 1) := by decide +kernel
theorem dX12_adds_41 : decode cX12_adds 41 = .ok (.aload_n 0, 1) := by decide +kernel
theorem dX12_adds_42 : decode cX12_adds 42 = .ok (.getfield 22, 3) := by decide +kernel
theorem dX12_adds_45 : decode cX12_adds 45 = .ok (.aload_n 0, 1) := by decide +kernel
theorem dX12_adds_46 : decode cX12_adds 46 = .ok (.getfield 143, 3) := by decide +kernel
theorem dX12_adds_49 : decode cX12_adds 49 = .ok (.iload 5, 2) := by decide +kernel
theorem dX12_adds_51 : decode cX12_adds 51 = .ok (.iastore, 1) := by decide +kernel
theorem dX12_adds_52 : decode cX12_adds 52 = .ok (.aload_n 0, 1) := by decide +kernel
theorem dX12_adds_53 : decode cX12_adds 53 = .ok (.dup, 1) := by decide +kernel
theorem dX12_adds_54 : decode cX12_adds 54 = .ok (.getfield 143, 3) := by decide +kernel
theorem dX12_adds_57 : decode cX12_adds 57 = .ok (.iconst 1, 1) := by decide +kernel
theorem dX12_adds_58 : decode cX12_adds 58 = .ok (.iadd, 1) := by decide +kernel
theorem dX12_adds_59 : decode cX12_adds 59 = .ok (.putfield 143, 3) := by decide +kernel
theorem dX12_adds_62 : decode cX12_adds 62 = .ok (.aload_n 0, 1) := by decide +kernel
theorem dX12_adds_63 : decode cX12_adds 63 = .ok (.getfield 143, 3) := by decide +kernel
theorem dX12_adds_66 : decode cX12_adds 66 = .ok (.iconst 1, 1) := by decide +kernel
theorem dX12_adds_67 : decode cX12_adds 67 = .ok (.isub, 1) := by decide +kernel
theorem dX12_adds_68 : decode cX12_adds 68 = .ok (.ireturn, 1) := by decide +kernel
theorem dX12_reel_0 : decode cX12_reel 0 = .ok (.iload 4, 2) := by decide +kernel
theorem dX12_reel_2 : decode cX12_reel 2 = .ok (.iconst (-1), 1) := by decide +kernel
theorem dX12_reel_3 : decode cX12_reel 3 = .ok (.if_icmp .eq 12, 3) := by decide +kernel
theorem dX12_reel_6 : decode cX12_reel 6 = .ok (.aload_n 0, 1) := by decide +kernel
theorem dX12_reel_7 : decode cX12_reel 7 = .ok (.iload 4, 2) := by decide +kernel
theorem dX12_reel_9 : decode cX12_reel 9 = .ok (.invokevirtual 154, 3) := by decide +kernel
theorem dX12_reel_12 : decode cX12_reel 12 = .ok (.ifCond .eq 7, 3) := by decide +kernel
theorem dX12_reel_15 : decode cX12_reel 15 = .ok (.iconst 1, 1) := by decide +kernel
theorem dX12_reel_16 : decode cX12_reel 16 = .ok (.goto 4, 3) := by decide +kernel
theorem dX12_reel_19 : decode cX12_reel 19 = .ok (.iconst 0, 1) := by decide +kernel
theorem dX12_reel_20 : decode cX12_reel 20 = .ok (.istore 6, 2) := by decide +kernel
theorem dX12_reel_22 : decode cX12_reel 22 = .ok (.aload_n 0, 1) := by decide +kernel
theorem dX12_reel_23 : decode cX12_reel 23 = .ok (.iload_n 1, 1) := by decide +kernel
theorem dX12_reel_24 : decode cX12_reel 24 = .ok (.iconst 0, 1) := by decide +kernel
theorem dX12_reel_25 : decode cX12_reel 25 = .ok (.iconst 1, 1) := by decide +kernel
theorem dX12_reel_26 : decode cX12_reel 26 = .ok (.invokevirtual 146, 3) := by decide +kernel
theorem dX12_reel_29 : decode cX12_reel 29 = .ok (.ifCond .eq 44, 3) := by decide +kernel
theorem dX12_reel_32 : decode cX12_reel 32 = .ok (.aload_n 0, 1) := by decide +kernel
theorem dX12_reel_33 : decode cX12_reel 33 = .ok (.iload_n 2, 1) := by decide +kernel
theorem dX12_reel_34 : decode cX12_reel 34 = .ok (.sipush 1890, 3) := by decide +kernel
theorem dX12_reel_37 : decode cX12_reel 37 = .ok (.sipush 2000, 3) := by decide +kernel
theorem dX12_reel_40 : decode cX12_reel 40 = .ok (.invokevirtual 146, 3) := by decide +kernel
theorem dX12_reel_43 : decode cX12_reel 43 = .ok (.ifCond .eq 30, 3) := by decide +kernel
theorem dX12_reel_46 : decode cX12_reel 46 = .ok (.aload_n 0, 1) := by decide +kernel
theorem dX12_reel_47 : decode cX12_reel 47 = .ok (.iload_n 3, 1) := by decide +kernel
theorem dX12_reel_48 : decode cX12_reel 48 = .ok (.iconst 0, 1) := by decide +kernel
theorem dX12_reel_49 : decode cX12_reel 49 = .ok (.iconst 3, 1) := by decide +kernel
theorem dX12_reel_50 : decode cX12_reel 50 = .ok (.invokevirtual 146, 3) := by decide +kernel
theorem dX12_reel_53 : decode cX12_reel 53 = .ok (.ifCond .eq 20, 3) := by decide +kernel
theorem dX12_reel_56 : decode cX12_reel 56 = .ok (.aload_n 0, 1) := by decide +kernel
theorem dX12_reel_57 : decode cX12_reel 57 = .ok (.iload 5, 2) := by decide +kernel
theorem dX12_reel_59 : decode cX12_reel 59 = .ok (.iconst 0, 1) := by decide +kernel
theorem dX12_reel_60 : decode cX12_reel 60 = .ok (.sipush 299, 3) := by decide +kernel
theorem dX12_reel_63 : decode cX12_reel 63 = .ok (.invokevirtual 146, 3) := by decide +kernel
theorem dX12_reel_66 : decode cX12_reel 66 = .ok (.ifCond .eq 7, 3) := by decide +kernel
theorem dX12_reel_69 : decode cX12_reel 69 = .ok (.iconst 1, 1) := by decide +kernel
theorem dX12_reel_70 : decode cX12_reel 70 = .ok (.goto 4, 3) := by decide +kernel
theorem dX12_reel_73 : decode cX12_reel 73 = .ok (.iconst 0, 1) := by decide +kernel
theorem dX12_reel_74 : decode cX12_reel 74 = .ok (.istore 7, 2) := by decide +kernel
theorem dX12_reel_76 : decode cX12_reel 76 = .ok (.aload_n 0, 1) := by decide +kernel
theorem dX12_reel_77 : decode cX12_reel 77 = .ok (.iload 6, 2) := by decide +kernel
theorem dX12_reel_79 : decode cX12_reel 79 = .ok (.ifCond .ne 7, 3) := by decide +kernel
theorem dX12_reel_82 : decode cX12_reel 82 = .ok (.iconst 1, 1) := by decide +kernel
theorem dX12_reel_83 : decode cX12_reel 83 = .ok (.goto 26, 3) := by decide +kernel
theorem dX12_reel_86 : decode cX12_reel 86 = .ok (.iload 7, 2) := by decide +kernel
theorem dX12_reel_88 : decode cX12_reel 88 = .ok (.ifCond .ne 7, 3) := by decide +kernel
theorem dX12_reel_91 : decode cX12_reel 91 = .ok (.iconst 2, 1) := by decide +kernel
theorem dX12_reel_92 : decode cX12_reel 92 = .ok (.goto 17, 3) := by decide +kernel
theorem dX12_reel_95 : decode cX12_reel 95 = .ok (.aload_n 0, 1) := by decide +kernel
theorem dX12_reel_96 : decode cX12_reel 96 = .ok (.getfield 143, 3) := by decide +kernel
theorem dX12_reel_99 : decode cX12_reel 99 = .ok (.bipush 12, 2) := by decide +kernel
theorem dX12_reel_101 : decode cX12_reel 101 = .ok (.if_icmp .ne 7, 3) := by decide +kernel
theorem dX12_reel_104 : decode cX12_reel 104 = .ok (.iconst 3, 1) := by decide +kernel
theorem dX12_reel_105 : decode cX12_reel 105 = .ok (.goto 4, 3) := by decide +kernel
theorem dX12_reel_108 : decode cX12_reel 108 = .ok (.iconst 0, 1) := by decide +kernel
theorem dX12_reel_109 : decode cX12_reel 109 = .ok (.invokevirtual 158, 3) := by decide +kernel
theorem dX12_reel_112 : decode cX12_reel 112 = .ok (.ifCond .eq 5, 3) := by decide +kernel
theorem dX12_reel_115 : decode cX12_reel 115 = .ok (.iconst (-1), 1) := by decide +kernel
theorem dX12_reel_116 : decode cX12_reel 116 = .ok (.ireturn, 1) := by decide +kernel
theorem dX12_reel_117 : decode cX12_reel 117 = .ok (.aload_n 0, 1) := by decide +kernel
theorem dX12_reel_118 : decode cX12_reel 118 = .ok (.iload_n 1, 1) := by decide +kernel
theorem dX12_reel_119 : decode cX12_reel 119 = .ok (.iload_n 2, 1) := by decide +kernel
theorem dX12_reel_120 : decode cX12_reel 120 = .ok (.iload_n 3, 1) := by decide +kernel
theorem dX12_reel_121 : decode cX12_reel 121 = .ok (.iload 4, 2) := by decide +kernel
theorem dX12_reel_123 : decode cX12_reel 123 = .ok (.ifCond .ge 7, 3) := by decide +kernel
theorem dX12_reel_126 : decode cX12_reel 126 = .ok (.iconst 0, 1) := by decide +kernel
theorem dX12_reel_127 : decode cX12_reel 127 = .ok (.goto 12, 3) := by decide +kernel
theorem dX12_reel_130 : decode cX12_reel 130 = .ok (.aload_n 0, 1) := by decide +kernel
theorem dX12_reel_131 : decode cX12_reel 131 = .ok (.getfield 19, 3) := by decide +kernel
theorem dX12_reel_134 : decode cX12_reel 134 = .ok (.iload 4, 2) := by decide +kernel
theorem dX12_reel_136 : decode cX12_reel 136 = .ok (.iaload, 1) := by decide +kernel
theorem dX12_reel_137 : decode cX12_reel 137 = .ok (.iconst 1, 1) := by decide +kernel
theorem dX12_reel_138 : decode cX12_reel 138 = .ok (.iadd, 1) := by decide +kernel
theorem dX12_reel_139 : decode cX12_reel 139 = .ok (.iload 5, 2) := by decide +kernel
theorem dX12_reel_141 : decode cX12_reel 141 = .ok (.invokevirtual 161, 3) := by decide +kernel
theorem dX12_reel_144 : decode cX12_reel 144 = .ok (.ireturn, 1) := by decide +kernel
theorem dX12_frame_0 : decode cX12_frame 0 = .ok (.aload_n 0, 1) := by decide +kernel
theorem dX12_frame_1 : decode cX12_frame 1 = .ok (.aload_n 0, 1) := by decide +kernel
theorem dX12_frame_2 : decode cX12_frame 2 = .ok (.iload_n 1, 1) := by decide +kernel
theorem dX12_frame_3 : decode cX12_frame 3 = .ok (.invokevirtual 154, 3) := by decide +kernel
theorem dX12_frame_6 : decode cX12_frame 6 = .ok (.ifCond .ne 7, 3) := by decide +kernel
theorem dX12_frame_9 : decode cX12_frame 9 = .ok (.iconst 1, 1) := by decide +kernel
theorem dX12_frame_10 : decode cX12_frame 10 = .ok (.goto 35, 3) := by decide +kernel
theorem dX12_frame_13 : decode cX12_frame 13 = .ok (.aload_n 0, 1) := by decide +kernel
theorem dX12_frame_14 : decode cX12_frame 14 = .ok (.iload_n 2, 1) := by decide +kernel
theorem dX12_frame_15 : decode cX12_frame 15 = .ok (.iconst 0, 1) := by decide +kernel
theorem dX12_frame_16 : decode cX12_frame 16 = .ok (.sipush 999, 3) := by decide +kernel
theorem dX12_frame_19 : decode cX12_frame 19 = .ok (.invokevirtual 146, 3) := by decide +kernel
theorem dX12_frame_22 : decode cX12_frame 22 = .ok (.ifCond .ne 7, 3) := by decide +kernel
theorem dX12_frame_25 : decode cX12_frame 25 = .ok (.iconst 2, 1) := by decide +kernel
theorem dX12_frame_26 : decode cX12_frame 26 = .ok (.goto 19, 3) := by decide +kernel
theorem dX12_frame_29 : decode cX12_frame 29 = .ok (.aload_n 0, 1) := by decide +kernel
theorem dX12_frame_30 : decode cX12_frame 30 = .ok (.getfield 28, 3) := by decide +kernel
theorem dX12_frame_33 : decode cX12_frame 33 = .ok (.iload_n 1, 1) := by decide +kernel
theorem dX12_frame_34 : decode cX12_frame 34 = .ok (.iaload, 1) := by decide +kernel
theorem dX12_frame_35 : decode cX12_frame 35 = .ok (.bipush 60, 2) := by decide +kernel
theorem dX12_frame_37 : decode cX12_frame 37 = .ok (.if_icmp .ne 7, 3) := by decide +kernel
theorem dX12_frame_40 : decode cX12_frame 40 = .ok (.iconst 3, 1) := by decide +kernel
theorem dX12_frame_41 : decode cX12_frame 41 = .ok (.goto 4, 3) := by decide +kernel
theorem dX12_frame_44 : decode cX12_frame 44 = .ok (.iconst 0, 1) := by decide +kernel
theorem dX12_frame_45 : decode cX12_frame 45 = .ok (.invokevirtual 158, 3) := by decide +kernel
theorem dX12_frame_48 : decode cX12_frame 48 = .ok (.ifCond .eq 5, 3) := by decide +kernel
theorem dX12_frame_51 : decode cX12_frame 51 = .ok (.iconst (-1), 1) := by decide +kernel
theorem dX12_frame_52 : decode cX12_frame 52 = .ok (.ireturn, 1) := by decide +kernel
theorem dX12_frame_53 : decode cX12_frame 53 = .ok (.bipush 60, 2) := by decide +kernel
theorem dX12_frame_55 : decode cX12_frame 55 = .ok (.iload_n 1, 1) := by decide +kernel
theorem dX12_frame_56 : decode cX12_frame 56 = .ok (.imul, 1) := by decide +kernel
theorem dX12_frame_57 : decode cX12_frame 57 = .ok (.aload_n 0, 1) := by decide +kernel
theorem dX12_frame_58 : decode cX12_frame 58 = .ok (.getfield 28, 3) := by decide +kernel
theorem dX12_frame_61 : decode cX12_frame 61 = .ok (.iload_n 1, 1) := by decide +kernel
theorem dX12_frame_62 : decode cX12_frame 62 = .ok (.iaload, 1) := by decide +kernel
theorem dX12_frame_63 : decode cX12_frame 63 = .ok (.iadd, 1) := by decide +kernel
theorem dX12_frame_64 : decode cX12_frame 64 = .ok (.istore 5, 2) := by decide +kernel
theorem dX12_frame_66 : decode cX12_frame 66 = .ok (.aload_n 0, 1) := by decide +kernel
theorem dX12_frame_67 : decode cX12_frame 67 = .ok (.getfield 31, 3) := by decide +kernel
theorem dX12_frame_70 : decode cX12_frame 70 = .ok (.iload 5, 2) := by decide +kernel
theorem dX12_frame_72 : decode cX12_frame 72 = .ok (.iload_n 2, 1) := by decide +kernel
theorem dX12_frame_73 : decode cX12_frame 73 = .ok (.iastore, 1) := by decide +kernel
theorem dX12_frame_74 : decode cX12_frame 74 = .ok (.aload_n 0, 1) := by decide +kernel
theorem dX12_frame_75 : decode cX12_frame 75 = .ok (.getfield 34, 3) := by decide +kernel
theorem dX12_frame_78 : decode cX12_frame 78 = .ok (.iload 5, 2) := by decide +kernel
theorem dX12_frame_80 : decode cX12_frame 80 = .ok (.iload 4, 2) := by decide +kernel
theorem dX12_frame_82 : decode cX12_frame 82 = .ok (.i2l, 1) := by decide +kernel
theorem dX12_frame_83 : decode cX12_frame 83 = .ok (.bipush 32, 2) := by decide +kernel
theorem dX12_frame_85 : decode cX12_frame 85 = .ok (.lshl, 1) := by decide +kernel
theorem dX12_frame_86 : decode cX12_frame 86 = .ok (.iload_n 3, 1) := by decide +kernel
theorem dX12_frame_87 : decode cX12_frame 87 = .ok (.i2l, 1) := by decide +kernel
theorem dX12_frame_88 : decode cX12_frame 88 = .ok (.ldc2_w 165, 3) := by decide +kernel
theorem dX12_frame_91 : decode cX12_frame 91 = .ok (.land, 1) := by decide +kernel
theorem dX12_frame_92 : decode cX12_frame 92 = .ok (.lor, 1) := by decide +kernel
theorem dX12_frame_93 : decode cX12_frame 93 = .ok (.lastore, 1) := by decide +kernel
theorem dX12_frame_94 : decode cX12_frame 94 = .ok (.aload_n 0, 1) := by decide +kernel
theorem dX12_frame_95 : decode cX12_frame 95 = .ok (.getfield 28, 3) := by decide +kernel
theorem dX12_frame_98 : decode cX12_frame 98 = .ok (.iload_n 1, 1) := by decide +kernel
theorem dX12_frame_99 : decode cX12_frame 99 = .ok (.dup2, 1) := by decide +kernel
theorem dX12_frame_100 : decode cX12_frame 100 = .ok (.iaload, 1) := by decide +kernel
theorem dX12_frame_101 : decode cX12_frame 101 = .ok (.iconst 1, 1) := by decide +kernel
theorem dX12_frame_102 : decode cX12_frame 102 = .ok (.iadd, 1) := by decide +kernel
theorem dX12_frame_103 : decode cX12_frame 103 = .ok (.iastore, 1) := by decide +kernel
theorem dX12_frame_104 : decode cX12_frame 104 = .ok (.aload_n 0, 1) := by decide +kernel
theorem dX12_frame_105 : decode cX12_frame 105 = .ok (.getfield 28, 3) := by decide +kernel
theorem dX12_frame_108 : decode cX12_frame 108 = .ok (.iload_n 1, 1) := by decide +kernel
theorem dX12_frame_109 : decode cX12_frame 109 = .ok (.iaload, 1) := by decide +kernel
theorem dX12_frame_110 : decode cX12_frame 110 = .ok (.ireturn, 1) := by decide +kernel
theorem dX12_isFrame_0 : decode cX12_isFrame 0 = .ok (.aload_n 0, 1) := by decide +kernel
theorem dX12_isFrame_1 : decode cX12_isFrame 1 = .ok (.iload_n 1, 1) := by decide +kernel
theorem dX12_isFrame_2 : decode cX12_isFrame 2 = .ok (.invokevirtual 154, 3) := by decide +kernel
theorem dX12_isFrame_5 : decode cX12_isFrame 5 = .ok (.ifCond .eq 24, 3) := by decide +kernel
theorem dX12_isFrame_8 : decode cX12_isFrame 8 = .ok (.aload_n 0, 1) := by decide +kernel
theorem dX12_isFrame_9 : decode cX12_isFrame 9 = .ok (.iload_n 2, 1) := by decide +kernel
theorem dX12_isFrame_10 : decode cX12_isFrame 10 = .ok (.iconst 0, 1) := by decide +kernel
theorem dX12_isFrame_11 : decode cX12_isFrame 11 = .ok (.aload_n 0, 1) := by decide +kernel
theorem dX12_isFrame_12 : decode cX12_isFrame 12 = .ok (.getfield 28, 3) := by decide +kernel
theorem dX12_isFrame_15 : decode cX12_isFrame 15 = .ok (.iload_n 1, 1) := by decide +kernel
theorem dX12_isFrame_16 : decode cX12_isFrame 16 = .ok (.iaload, 1) := by decide +kernel
theorem dX12_isFrame_17 : decode cX12_isFrame 17 = .ok (.iconst 1, 1) := by decide +kernel
theorem dX12_isFrame_18 : decode cX12_isFrame 18 = .ok (.isub, 1) := by decide +kernel
theorem dX12_isFrame_19 : decode cX12_isFrame 19 = .ok (.invokevirtual 146, 3) := by decide +kernel
theorem dX12_isFrame_22 : decode cX12_isFrame 22 = .ok (.ifCond .eq 7, 3) := by decide +kernel
theorem dX12_isFrame_25 : decode cX12_isFrame 25 = .ok (.iconst 1, 1) := by decide +kernel
theorem dX12_isFrame_26 : decode cX12_isFrame 26 = .ok (.goto 4, 3) := by decide +kernel
theorem dX12_isFrame_29 : decode cX12_isFrame 29 = .ok (.iconst 0, 1) := by decide +kernel
theorem dX12_isFrame_30 : decode cX12_isFrame 30 = .ok (.ireturn, 1) := by decide +kernel
theorem dX12_splice_0 : decode cX12_splice 0 = .ok (.aload_n 0, 1) := by decide +kernel
theorem dX12_splice_1 : decode cX12_splice 1 = .ok (.aload_n 0, 1) := by decide +kernel
theorem dX12_splice_2 : decode cX12_splice 2 = .ok (.iload_n 1, 1) := by decide +kernel
theorem dX12_splice_3 : decode cX12_splice 3 = .ok (.iload_n 2, 1) := by decide +kernel
theorem dX12_splice_4 : decode cX12_splice 4 = .ok (.invokevirtual 167, 3) := by decide +kernel
theorem dX12_splice_7 : decode cX12_splice 7 = .ok (.ifCond .eq 7, 3) := by decide +kernel
theorem dX12_splice_10 : decode cX12_splice 10 = .ok (.iconst 0, 1) := by decide +kernel
theorem dX12_splice_11 : decode cX12_splice 11 = .ok (.goto 4, 3) := by decide +kernel
theorem dX12_splice_14 : decode cX12_splice 14 = .ok (.iconst 1, 1) := by decide +kernel
theorem dX12_splice_15 : decode cX12_splice 15 = .ok (.invokevirtual 158, 3) := by decide +kernel
theorem dX12_splice_18 : decode cX12_splice 18 = .ok (.ifCond .eq 5, 3) := by decide +kernel
theorem dX12_splice_21 : decode cX12_splice 21 = .ok (.iconst (-1), 1) := by decide +kernel
theorem dX12_splice_22 : decode cX12_splice 22 = .ok (.ireturn, 1) := by decide +kernel
theorem dX12_splice_23 : decode cX12_splice 23 = .ok (.aload_n 0, 1) := by decide +kernel
theorem dX12_splice_24 : decode cX12_splice 24 = .ok (.getfield 38, 3) := by decide +kernel
theorem dX12_splice_27 : decode cX12_splice 27 = .ok (.bipush 60, 2) := by decide +kernel
theorem dX12_splice_29 : decode cX12_splice 29 = .ok (.iload_n 1, 1) := by decide +kernel
theorem dX12_splice_30 : decode cX12_splice 30 = .ok (.imul, 1) := by decide +kernel
theorem dX12_splice_31 : decode cX12_splice 31 = .ok (.iload_n 2, 1) := by decide +kernel
theorem dX12_splice_32 : decode cX12_splice 32 = .ok (.iadd, 1) := by decide +kernel
theorem dX12_splice_33 : decode cX12_splice 33 = .ok (.iconst 1, 1) := by decide +kernel
theorem dX12_splice_34 : decode cX12_splice 34 = .ok (.iastore, 1) := by decide +kernel
theorem dX12_splice_35 : decode cX12_splice 35 = .ok (.iconst 0, 1) := by decide +kernel
theorem dX12_splice_36 : decode cX12_splice 36 = .ok (.istore_n 3, 1) := by decide +kernel
theorem dX12_splice_37 : decode cX12_splice 37 = .ok (.bipush 60, 2) := by decide +kernel
theorem dX12_splice_39 : decode cX12_splice 39 = .ok (.iload_n 1, 1) := by decide +kernel
theorem dX12_splice_40 : decode cX12_splice 40 = .ok (.imul, 1) := by decide +kernel
theorem dX12_splice_41 : decode cX12_splice 41 = .ok (.istore 4, 2) := by decide +kernel
theorem dX12_splice_43 : decode cX12_splice 43 = .ok (.iload 4, 2) := by decide +kernel
theorem dX12_splice_45 : decode cX12_splice 45 = .ok (.bipush 60, 2) := by decide +kernel
theorem dX12_splice_47 : decode cX12_splice 47 = .ok (.iload_n 1, 1) := by decide +kernel
theorem dX12_splice_48 : decode cX12_splice 48 = .ok (.imul, 1) := by decide +kernel
theorem dX12_splice_49 : decode cX12_splice 49 = .ok (.bipush 60, 2) := by decide +kernel
theorem dX12_splice_51 : decode cX12_splice 51 = .ok (.iadd, 1) := by decide +kernel
theorem dX12_splice_52 : decode cX12_splice 52 = .ok (.if_icmp .ge 19, 3) := by decide +kernel
theorem dX12_splice_55 : decode cX12_splice 55 = .ok (.iload_n 3, 1) := by decide +kernel
theorem dX12_splice_56 : decode cX12_splice 56 = .ok (.aload_n 0, 1) := by decide +kernel
theorem dX12_splice_57 : decode cX12_splice 57 = .ok (.getfield 38, 3) := by decide +kernel
theorem dX12_splice_60 : decode cX12_splice 60 = .ok (.iload 4, 2) := by decide +kernel
theorem dX12_splice_62 : decode cX12_splice 62 = .ok (.iaload, 1) := by decide +kernel
theorem dX12_splice_63 : decode cX12_splice 63 = .ok (.iadd, 1) := by decide +kernel
theorem dX12_splice_64 : decode cX12_splice 64 = .ok (.istore_n 3, 1) := by decide +kernel
theorem dX12_splice_65 : decode cX12_splice 65 = .ok (.iinc 4 1, 3) := by decide +kernel
theorem dX12_splice_68 : decode cX12_splice 68 = .ok (.goto (-25), 3) := by decide +kernel
theorem dX12_splice_71 : decode cX12_splice 71 = .ok (.iload_n 3, 1) := by decide +kernel
theorem dX12_splice_72 : decode cX12_splice 72 = .ok (.ireturn, 1) := by decide +kernel
theorem dX12_rate_0 : decode cX12_rate 0 = .ok (.aload_n 0, 1) := by decide +kernel
theorem dX12_rate_1 : decode cX12_rate 1 = .ok (.getfield 25, 3) := by decide +kernel
theorem dX12_rate_4 : decode cX12_rate 4 = .ok (.iload_n 1, 1) := by decide +kernel
theorem dX12_rate_5 : decode cX12_rate 5 = .ok (.iaload, 1) := by decide +kernel
theorem dX12_rate_6 : decode cX12_rate 6 = .ok (.iconst 1, 1) := by decide +kernel
theorem dX12_rate_7 : decode cX12_rate 7 = .ok (.if_icmp .ne 7, 3) := by decide +kernel
theorem dX12_rate_10 : decode cX12_rate 10 = .ok (.iconst 1, 1) := by decide +kernel
theorem dX12_rate_11 : decode cX12_rate 11 = .ok (.goto 17, 3) := by decide +kernel
theorem dX12_rate_14 : decode cX12_rate 14 = .ok (.aload_n 0, 1) := by decide +kernel
theorem dX12_rate_15 : decode cX12_rate 15 = .ok (.getfield 7, 3) := by decide +kernel
theorem dX12_rate_18 : decode cX12_rate 18 = .ok (.iload_n 1, 1) := by decide +kernel
theorem dX12_rate_19 : decode cX12_rate 19 = .ok (.iaload, 1) := by decide +kernel
theorem dX12_rate_20 : decode cX12_rate 20 = .ok (.ifCond .ne 7, 3) := by decide +kernel
theorem dX12_rate_23 : decode cX12_rate 23 = .ok (.iconst 3, 1) := by decide +kernel
theorem dX12_rate_24 : decode cX12_rate 24 = .ok (.goto 4, 3) := by decide +kernel
theorem dX12_rate_27 : decode cX12_rate 27 = .ok (.iconst 2, 1) := by decide +kernel
theorem dX12_rate_28 : decode cX12_rate 28 = .ok (.ireturn, 1) := by decide +kernel
theorem dX12_isGood_0 : decode cX12_isGood 0 = .ok (.aload_n 0, 1) := by decide +kernel
theorem dX12_isGood_1 : decode cX12_isGood 1 = .ok (.getfield 22, 3) := by decide +kernel
theorem dX12_isGood_4 : decode cX12_isGood 4 = .ok (.iload_n 1, 1) := by decide +kernel
theorem dX12_isGood_5 : decode cX12_isGood 5 = .ok (.iaload, 1) := by decide +kernel
theorem dX12_isGood_6 : decode cX12_isGood 6 = .ok (.sipush 300, 3) := by decide +kernel
theorem dX12_isGood_9 : decode cX12_isGood 9 = .ok (.if_icmp .ge 7, 3) := by decide +kernel
theorem dX12_isGood_12 : decode cX12_isGood 12 = .ok (.iconst 1, 1) := by decide +kernel
theorem dX12_isGood_13 : decode cX12_isGood 13 = .ok (.goto 4, 3) := by decide +kernel
theorem dX12_isGood_16 : decode cX12_isGood 16 = .ok (.iconst 0, 1) := by decide +kernel
theorem dX12_isGood_17 : decode cX12_isGood 17 = .ok (.ireturn, 1) := by decide +kernel
theorem dX12_cold_0 : decode cX12_cold 0 = .ok (.aload_n 0, 1) := by decide +kernel
theorem dX12_cold_1 : decode cX12_cold 1 = .ok (.aload_n 0, 1) := by decide +kernel
theorem dX12_cold_2 : decode cX12_cold 2 = .ok (.iload_n 1, 1) := by decide +kernel
theorem dX12_cold_3 : decode cX12_cold 3 = .ok (.invokevirtual 154, 3) := by decide +kernel
theorem dX12_cold_6 : decode cX12_cold 6 = .ok (.ifCond .eq 7, 3) := by decide +kernel
theorem dX12_cold_9 : decode cX12_cold 9 = .ok (.iconst 0, 1) := by decide +kernel
theorem dX12_cold_10 : decode cX12_cold 10 = .ok (.goto 4, 3) := by decide +kernel
theorem dX12_cold_13 : decode cX12_cold 13 = .ok (.iconst 1, 1) := by decide +kernel
theorem dX12_cold_14 : decode cX12_cold 14 = .ok (.invokevirtual 158, 3) := by decide +kernel
theorem dX12_cold_17 : decode cX12_cold 17 = .ok (.ifCond .eq 5, 3) := by decide +kernel
theorem dX12_cold_20 : decode cX12_cold 20 = .ok (.iconst (-1), 1) := by decide +kernel
theorem dX12_cold_21 : decode cX12_cold 21 = .ok (.ireturn, 1) := by decide +kernel
theorem dX12_cold_22 : decode cX12_cold 22 = .ok (.aload_n 0, 1) := by decide +kernel
theorem dX12_cold_23 : decode cX12_cold 23 = .ok (.getfield 25, 3) := by decide +kernel
theorem dX12_cold_26 : decode cX12_cold 26 = .ok (.iload_n 1, 1) := by decide +kernel
theorem dX12_cold_27 : decode cX12_cold 27 = .ok (.iload_n 2, 1) := by decide +kernel
theorem dX12_cold_28 : decode cX12_cold 28 = .ok (.ifCond .eq 7, 3) := by decide +kernel
theorem dX12_cold_31 : decode cX12_cold 31 = .ok (.iconst 1, 1) := by decide +kernel
theorem dX12_cold_32 : decode cX12_cold 32 = .ok (.goto 4, 3) := by decide +kernel
theorem dX12_cold_35 : decode cX12_cold 35 = .ok (.iconst 0, 1) := by decide +kernel
theorem dX12_cold_36 : decode cX12_cold 36 = .ok (.iastore, 1) := by decide +kernel
theorem dX12_cold_37 : decode cX12_cold 37 = .ok (.sipush 200, 3) := by decide +kernel
theorem dX12_cold_40 : decode cX12_cold 40 = .ok (.aload_n 0, 1) := by decide +kernel
theorem dX12_cold_41 : decode cX12_cold 41 = .ok (.getfield 22, 3) := by decide +kernel
theorem dX12_cold_44 : decode cX12_cold 44 = .ok (.iload_n 1, 1) := by decide +kernel
theorem dX12_cold_45 : decode cX12_cold 45 = .ok (.iaload, 1) := by decide +kernel
theorem dX12_cold_46 : decode cX12_cold 46 = .ok (.isub, 1) := by decide +kernel
theorem dX12_cold_47 : decode cX12_cold 47 = .ok (.istore_n 3, 1) := by decide +kernel
theorem dX12_cold_48 : decode cX12_cold 48 = .ok (.iload_n 3, 1) := by decide +kernel
theorem dX12_cold_49 : decode cX12_cold 49 = .ok (.ifCond .gt 10, 3) := by decide +kernel
theorem dX12_cold_52 : decode cX12_cold 52 = .ok (.aload_n 0, 1) := by decide +kernel
theorem dX12_cold_53 : decode cX12_cold 53 = .ok (.getfield 45, 3) := by decide +kernel
theorem dX12_cold_56 : decode cX12_cold 56 = .ok (.goto 23, 3) := by decide +kernel
theorem dX12_cold_59 : decode cX12_cold 59 = .ok (.aload_n 0, 1) := by decide +kernel
theorem dX12_cold_60 : decode cX12_cold 60 = .ok (.getfield 45, 3) := by decide +kernel
theorem dX12_cold_63 : decode cX12_cold 63 = .ok (.iload_n 3, 1) := by decide +kernel
theorem dX12_cold_64 : decode cX12_cold 64 = .ok (.aload_n 0, 1) := by decide +kernel
theorem dX12_cold_65 : decode cX12_cold 65 = .ok (.iload_n 1, 1) := by decide +kernel
theorem dX12_cold_66 : decode cX12_cold 66 = .ok (.invokevirtual 171, 3) := by decide +kernel
theorem dX12_cold_69 : decode cX12_cold 69 = .ok (.iadd, 1) := by decide +kernel
theorem dX12_cold_70 : decode cX12_cold 70 = .ok (.iconst 1, 1) := by decide +kernel
theorem dX12_cold_71 : decode cX12_cold 71 = .ok (.isub, 1) := by decide +kernel
theorem dX12_cold_72 : decode cX12_cold 72 = .ok (.aload_n 0, 1) := by decide +kernel
theorem dX12_cold_73 : decode cX12_cold 73 = .ok (.iload_n 1, 1) := by decide +kernel
theorem dX12_cold_74 : decode cX12_cold 74 = .ok (.invokevirtual 171, 3) := by decide +kernel
theorem dX12_cold_77 : decode cX12_cold 77 = .ok (.idiv, 1) := by decide +kernel
theorem dX12_cold_78 : decode cX12_cold 78 = .ok (.iadd, 1) := by decide +kernel
theorem dX12_cold_79 : decode cX12_cold 79 = .ok (.ireturn, 1) := by decide +kernel
theorem dX12_copy_0 : decode cX12_copy 0 = .ok (.aload_n 0, 1) := by decide +kernel
theorem dX12_copy_1 : decode cX12_copy 1 = .ok (.aload_n 0, 1) := by decide +kernel
theorem dX12_copy_2 : decode cX12_copy 2 = .ok (.iload_n 1, 1) := by decide +kernel
theorem dX12_copy_3 : decode cX12_copy 3 = .ok (.invokevirtual 154, 3) := by decide +kernel
theorem dX12_copy_6 : decode cX12_copy 6 = .ok (.ifCond .ne 7, 3) := by decide +kernel
theorem dX12_copy_9 : decode cX12_copy 9 = .ok (.iconst 1, 1) := by decide +kernel
theorem dX12_copy_10 : decode cX12_copy 10 = .ok (.goto 25, 3) := by decide +kernel
theorem dX12_copy_13 : decode cX12_copy 13 = .ok (.aload_n 0, 1) := by decide +kernel
theorem dX12_copy_14 : decode cX12_copy 14 = .ok (.iload_n 1, 1) := by decide +kernel
theorem dX12_copy_15 : decode cX12_copy 15 = .ok (.invokevirtual 175, 3) := by decide +kernel
theorem dX12_copy_18 : decode cX12_copy 18 = .ok (.ifCond .eq 12, 3) := by decide +kernel
theorem dX12_copy_21 : decode cX12_copy 21 = .ok (.aload_n 0, 1) := by decide +kernel
theorem dX12_copy_22 : decode cX12_copy 22 = .ok (.getfield 143, 3) := by decide +kernel
theorem dX12_copy_25 : decode cX12_copy 25 = .ok (.bipush 12, 2) := by decide +kernel
theorem dX12_copy_27 : decode cX12_copy 27 = .ok (.if_icmp .ne 7, 3) := by decide +kernel
theorem dX12_copy_30 : decode cX12_copy 30 = .ok (.iconst 2, 1) := by decide +kernel
theorem dX12_copy_31 : decode cX12_copy 31 = .ok (.goto 4, 3) := by decide +kernel
theorem dX12_copy_34 : decode cX12_copy 34 = .ok (.iconst 0, 1) := by decide +kernel
theorem dX12_copy_35 : decode cX12_copy 35 = .ok (.invokevirtual 158, 3) := by decide +kernel
theorem dX12_copy_38 : decode cX12_copy 38 = .ok (.ifCond .eq 5, 3) := by decide +kernel
theorem dX12_copy_41 : decode cX12_copy 41 = .ok (.iconst (-1), 1) := by decide +kernel
theorem dX12_copy_42 : decode cX12_copy 42 = .ok (.ireturn, 1) := by decide +kernel
theorem dX12_copy_43 : decode cX12_copy 43 = .ok (.aload_n 0, 1) := by decide +kernel
theorem dX12_copy_44 : decode cX12_copy 44 = .ok (.iconst 1, 1) := by decide +kernel
theorem dX12_copy_45 : decode cX12_copy 45 = .ok (.aload_n 0, 1) := by decide +kernel
theorem dX12_copy_46 : decode cX12_copy 46 = .ok (.getfield 45, 3) := by decide +kernel
theorem dX12_copy_49 : decode cX12_copy 49 = .ok (.aload_n 0, 1) := by decide +kernel
theorem dX12_copy_50 : decode cX12_copy 50 = .ok (.getfield 16, 3) := by decide +kernel
theorem dX12_copy_53 : decode cX12_copy 53 = .ok (.iload_n 1, 1) := by decide +kernel
theorem dX12_copy_54 : decode cX12_copy 54 = .ok (.iaload, 1) := by decide +kernel
theorem dX12_copy_55 : decode cX12_copy 55 = .ok (.aload_n 0, 1) := by decide +kernel
theorem dX12_copy_56 : decode cX12_copy 56 = .ok (.getfield 19, 3) := by decide +kernel
theorem dX12_copy_59 : decode cX12_copy 59 = .ok (.iload_n 1, 1) := by decide +kernel
theorem dX12_copy_60 : decode cX12_copy 60 = .ok (.iaload, 1) := by decide +kernel
theorem dX12_copy_61 : decode cX12_copy 61 = .ok (.iconst 1, 1) := by decide +kernel
theorem dX12_copy_62 : decode cX12_copy 62 = .ok (.iadd, 1) := by decide +kernel
theorem dX12_copy_63 : decode cX12_copy 63 = .ok (.iconst 0, 1) := by decide +kernel
theorem dX12_copy_64 : decode cX12_copy 64 = .ok (.invokevirtual 161, 3) := by decide +kernel
theorem dX12_copy_67 : decode cX12_copy 67 = .ok (.istore_n 2, 1) := by decide +kernel
theorem dX12_copy_68 : decode cX12_copy 68 = .ok (.aload_n 0, 1) := by decide +kernel
theorem dX12_copy_69 : decode cX12_copy 69 = .ok (.getfield 28, 3) := by decide +kernel
theorem dX12_copy_72 : decode cX12_copy 72 = .ok (.iload_n 2, 1) := by decide +kernel
theorem dX12_copy_73 : decode cX12_copy 73 = .ok (.aload_n 0, 1) := by decide +kernel
theorem dX12_copy_74 : decode cX12_copy 74 = .ok (.getfield 28, 3) := by decide +kernel
theorem dX12_copy_77 : decode cX12_copy 77 = .ok (.iload_n 1, 1) := by decide +kernel
theorem dX12_copy_78 : decode cX12_copy 78 = .ok (.iaload, 1) := by decide +kernel
theorem dX12_copy_79 : decode cX12_copy 79 = .ok (.iastore, 1) := by decide +kernel
theorem dX12_copy_80 : decode cX12_copy 80 = .ok (.iconst 0, 1) := by decide +kernel
theorem dX12_copy_81 : decode cX12_copy 81 = .ok (.istore_n 3, 1) := by decide +kernel
theorem dX12_copy_82 : decode cX12_copy 82 = .ok (.iload_n 3, 1) := by decide +kernel
theorem dX12_copy_83 : decode cX12_copy 83 = .ok (.bipush 60, 2) := by decide +kernel
theorem dX12_copy_85 : decode cX12_copy 85 = .ok (.if_icmp .ge 75, 3) := by decide +kernel
theorem dX12_copy_88 : decode cX12_copy 88 = .ok (.aload_n 0, 1) := by decide +kernel
theorem dX12_copy_89 : decode cX12_copy 89 = .ok (.getfield 31, 3) := by decide +kernel
theorem dX12_copy_92 : decode cX12_copy 92 = .ok (.bipush 60, 2) := by decide +kernel
theorem dX12_copy_94 : decode cX12_copy 94 = .ok (.iload_n 2, 1) := by decide +kernel
theorem dX12_copy_95 : decode cX12_copy 95 = .ok (.imul, 1) := by decide +kernel
theorem dX12_copy_96 : decode cX12_copy 96 = .ok (.iload_n 3, 1) := by decide +kernel
theorem dX12_copy_97 : decode cX12_copy 97 = .ok (.iadd, 1) := by decide +kernel
theorem dX12_copy_98 : decode cX12_copy 98 = .ok (.aload_n 0, 1) := by decide +kernel
theorem dX12_copy_99 : decode cX12_copy 99 = .ok (.getfield 31, 3) := by decide +kernel
theorem dX12_copy_102 : decode cX12_copy 102 = .ok (.bipush 60, 2) := by decide +kernel
theorem dX12_copy_104 : decode cX12_copy 104 = .ok (.iload_n 1, 1) := by decide +kernel
theorem dX12_copy_105 : decode cX12_copy 105 = .ok (.imul, 1) := by decide +kernel
theorem dX12_copy_106 : decode cX12_copy 106 = .ok (.iload_n 3, 1) := by decide +kernel
theorem dX12_copy_107 : decode cX12_copy 107 = .ok (.iadd, 1) := by decide +kernel
theorem dX12_copy_108 : decode cX12_copy 108 = .ok (.iaload, 1) := by decide +kernel
theorem dX12_copy_109 : decode cX12_copy 109 = .ok (.iastore, 1) := by decide +kernel
theorem dX12_copy_110 : decode cX12_copy 110 = .ok (.aload_n 0, 1) := by decide +kernel
theorem dX12_copy_111 : decode cX12_copy 111 = .ok (.getfield 34, 3) := by decide +kernel
theorem dX12_copy_114 : decode cX12_copy 114 = .ok (.bipush 60, 2) := by decide +kernel
theorem dX12_copy_116 : decode cX12_copy 116 = .ok (.iload_n 2, 1) := by decide +kernel
theorem dX12_copy_117 : decode cX12_copy 117 = .ok (.imul, 1) := by decide +kernel
theorem dX12_copy_118 : decode cX12_copy 118 = .ok (.iload_n 3, 1) := by decide +kernel
theorem dX12_copy_119 : decode cX12_copy 119 = .ok (.iadd, 1) := by decide +kernel
theorem dX12_copy_120 : decode cX12_copy 120 = .ok (.aload_n 0, 1) := by decide +kernel
theorem dX12_copy_121 : decode cX12_copy 121 = .ok (.getfield 34, 3) := by decide +kernel
theorem dX12_copy_124 : decode cX12_copy 124 = .ok (.bipush 60, 2) := by decide +kernel
theorem dX12_copy_126 : decode cX12_copy 126 = .ok (.iload_n 1, 1) := by decide +kernel
theorem dX12_copy_127 : decode cX12_copy 127 = .ok (.imul, 1) := by decide +kernel
theorem dX12_copy_128 : decode cX12_copy 128 = .ok (.iload_n 3, 1) := by decide +kernel
theorem dX12_copy_129 : decode cX12_copy 129 = .ok (.iadd, 1) := by decide +kernel
theorem dX12_copy_130 : decode cX12_copy 130 = .ok (.laload, 1) := by decide +kernel
theorem dX12_copy_131 : decode cX12_copy 131 = .ok (.lastore, 1) := by decide +kernel
theorem dX12_copy_132 : decode cX12_copy 132 = .ok (.aload_n 0, 1) := by decide +kernel
theorem dX12_copy_133 : decode cX12_copy 133 = .ok (.getfield 38, 3) := by decide +kernel
theorem dX12_copy_136 : decode cX12_copy 136 = .ok (.bipush 60, 2) := by decide +kernel
theorem dX12_copy_138 : decode cX12_copy 138 = .ok (.iload_n 2, 1) := by decide +kernel
theorem dX12_copy_139 : decode cX12_copy 139 = .ok (.imul, 1) := by decide +kernel
theorem dX12_copy_140 : decode cX12_copy 140 = .ok (.iload_n 3, 1) := by decide +kernel
theorem dX12_copy_141 : decode cX12_copy 141 = .ok (.iadd, 1) := by decide +kernel
theorem dX12_copy_142 : decode cX12_copy 142 = .ok (.aload_n 0, 1) := by decide +kernel
theorem dX12_copy_143 : decode cX12_copy 143 = .ok (.getfield 38, 3) := by decide +kernel
theorem dX12_copy_146 : decode cX12_copy 146 = .ok (.bipush 60, 2) := by decide +kernel
theorem dX12_copy_148 : decode cX12_copy 148 = .ok (.iload_n 1, 1) := by decide +kernel
theorem dX12_copy_149 : decode cX12_copy 149 = .ok (.imul, 1) := by decide +kernel
theorem dX12_copy_150 : decode cX12_copy 150 = .ok (.iload_n 3, 1) := by decide +kernel
theorem dX12_copy_151 : decode cX12_copy 151 = .ok (.iadd, 1) := by decide +kernel
theorem dX12_copy_152 : decode cX12_copy 152 = .ok (.iaload, 1) := by decide +kernel
theorem dX12_copy_153 : decode cX12_copy 153 = .ok (.iastore, 1) := by decide +kernel
theorem dX12_copy_154 : decode cX12_copy 154 = .ok (.iinc 3 1, 3) := by decide +kernel
theorem dX12_copy_157 : decode cX12_copy 157 = .ok (.goto (-75), 3) := by decide +kernel
theorem dX12_copy_160 : decode cX12_copy 160 = .ok (.iload_n 2, 1) := by decide +kernel
theorem dX12_copy_161 : decode cX12_copy 161 = .ok (.ireturn, 1) := by decide +kernel
theorem dX12_firstOf_0 : decode cX12_firstOf 0 = .ok (.iconst 0, 1) := by decide +kernel
theorem dX12_firstOf_1 : decode cX12_firstOf 1 = .ok (.istore_n 3, 1) := by decide +kernel
theorem dX12_firstOf_2 : decode cX12_firstOf 2 = .ok (.iload_n 3, 1) := by decide +kernel
theorem dX12_firstOf_3 : decode cX12_firstOf 3 = .ok (.aload_n 0, 1) := by decide +kernel
theorem dX12_firstOf_4 : decode cX12_firstOf 4 = .ok (.getfield 28, 3) := by decide +kernel
theorem dX12_firstOf_7 : decode cX12_firstOf 7 = .ok (.iload_n 1, 1) := by decide +kernel
theorem dX12_firstOf_8 : decode cX12_firstOf 8 = .ok (.iaload, 1) := by decide +kernel
theorem dX12_firstOf_9 : decode cX12_firstOf 9 = .ok (.if_icmp .ge 26, 3) := by decide +kernel
theorem dX12_firstOf_12 : decode cX12_firstOf 12 = .ok (.aload_n 0, 1) := by decide +kernel
theorem dX12_firstOf_13 : decode cX12_firstOf 13 = .ok (.getfield 31, 3) := by decide +kernel
theorem dX12_firstOf_16 : decode cX12_firstOf 16 = .ok (.bipush 60, 2) := by decide +kernel
theorem dX12_firstOf_18 : decode cX12_firstOf 18 = .ok (.iload_n 1, 1) := by decide +kernel
theorem dX12_firstOf_19 : decode cX12_firstOf 19 = .ok (.imul, 1) := by decide +kernel
theorem dX12_firstOf_20 : decode cX12_firstOf 20 = .ok (.iload_n 3, 1) := by decide +kernel
theorem dX12_firstOf_21 : decode cX12_firstOf 21 = .ok (.iadd, 1) := by decide +kernel
theorem dX12_firstOf_22 : decode cX12_firstOf 22 = .ok (.iaload, 1) := by decide +kernel
theorem dX12_firstOf_23 : decode cX12_firstOf 23 = .ok (.iload_n 2, 1) := by decide +kernel
theorem dX12_firstOf_24 : decode cX12_firstOf 24 = .ok (.if_icmp .ne 5, 3) := by decide +kernel
theorem dX12_firstOf_27 : decode cX12_firstOf 27 = .ok (.iload_n 3, 1) := by decide +kernel
theorem dX12_firstOf_28 : decode cX12_firstOf 28 = .ok (.ireturn, 1) := by decide +kernel
theorem dX12_firstOf_29 : decode cX12_firstOf 29 = .ok (.iinc 3 1, 3) := by decide +kernel
theorem dX12_firstOf_32 : decode cX12_firstOf 32 = .ok (.goto (-30), 3) := by decide +kernel
theorem dX12_firstOf_35 : decode cX12_firstOf 35 = .ok (.iconst (-1), 1) := by decide +kernel
theorem dX12_firstOf_36 : decode cX12_firstOf 36 = .ok (.ireturn, 1) := by decide +kernel
theorem dX12_marks_0 : decode cX12_marks 0 = .ok (.sipush 1000, 3) := by decide +kernel
theorem dX12_marks_3 : decode cX12_marks 3 = .ok (.istore_n 3, 1) := by decide +kernel
theorem dX12_marks_4 : decode cX12_marks 4 = .ok (.iconst (-1), 1) := by decide +kernel
theorem dX12_marks_5 : decode cX12_marks 5 = .ok (.istore 4, 2) := by decide +kernel
theorem dX12_marks_7 : decode cX12_marks 7 = .ok (.bipush 60, 2) := by decide +kernel
theorem dX12_marks_9 : decode cX12_marks 9 = .ok (.iload_n 1, 1) := by decide +kernel
theorem dX12_marks_10 : decode cX12_marks 10 = .ok (.imul, 1) := by decide +kernel
theorem dX12_marks_11 : decode cX12_marks 11 = .ok (.istore 5, 2) := by decide +kernel
theorem dX12_marks_13 : decode cX12_marks 13 = .ok (.iload 5, 2) := by decide +kernel
theorem dX12_marks_15 : decode cX12_marks 15 = .ok (.bipush 60, 2) := by decide +kernel
theorem dX12_marks_17 : decode cX12_marks 17 = .ok (.iload_n 1, 1) := by decide +kernel
theorem dX12_marks_18 : decode cX12_marks 18 = .ok (.imul, 1) := by decide +kernel
theorem dX12_marks_19 : decode cX12_marks 19 = .ok (.aload_n 0, 1) := by decide +kernel
theorem dX12_marks_20 : decode cX12_marks 20 = .ok (.getfield 28, 3) := by decide +kernel
theorem dX12_marks_23 : decode cX12_marks 23 = .ok (.iload_n 1, 1) := by decide +kernel
theorem dX12_marks_24 : decode cX12_marks 24 = .ok (.iaload, 1) := by decide +kernel
theorem dX12_marks_25 : decode cX12_marks 25 = .ok (.iadd, 1) := by decide +kernel
theorem dX12_marks_26 : decode cX12_marks 26 = .ok (.if_icmp .ge 58, 3) := by decide +kernel
theorem dX12_marks_29 : decode cX12_marks 29 = .ok (.aload_n 0, 1) := by decide +kernel
theorem dX12_marks_30 : decode cX12_marks 30 = .ok (.getfield 31, 3) := by decide +kernel
theorem dX12_marks_33 : decode cX12_marks 33 = .ok (.iload 5, 2) := by decide +kernel
theorem dX12_marks_35 : decode cX12_marks 35 = .ok (.iaload, 1) := by decide +kernel
theorem dX12_marks_36 : decode cX12_marks 36 = .ok (.iload_n 3, 1) := by decide +kernel
theorem dX12_marks_37 : decode cX12_marks 37 = .ok (.if_icmp .ge 13, 3) := by decide +kernel
theorem dX12_marks_40 : decode cX12_marks 40 = .ok (.aload_n 0, 1) := by decide +kernel
theorem dX12_marks_41 : decode cX12_marks 41 = .ok (.getfield 31, 3) := by decide +kernel
theorem dX12_marks_44 : decode cX12_marks 44 = .ok (.iload 5, 2) := by decide +kernel
theorem dX12_marks_46 : decode cX12_marks 46 = .ok (.iaload, 1) := by decide +kernel
theorem dX12_marks_47 : decode cX12_marks 47 = .ok (.goto 4, 3) := by decide +kernel
theorem dX12_marks_50 : decode cX12_marks 50 = .ok (.iload_n 3, 1) := by decide +kernel
theorem dX12_marks_51 : decode cX12_marks 51 = .ok (.istore_n 3, 1) := by decide +kernel
theorem dX12_marks_52 : decode cX12_marks 52 = .ok (.aload_n 0, 1) := by decide +kernel
theorem dX12_marks_53 : decode cX12_marks 53 = .ok (.getfield 31, 3) := by decide +kernel
theorem dX12_marks_56 : decode cX12_marks 56 = .ok (.iload 5, 2) := by decide +kernel
theorem dX12_marks_58 : decode cX12_marks 58 = .ok (.iaload, 1) := by decide +kernel
theorem dX12_marks_59 : decode cX12_marks 59 = .ok (.iload 4, 2) := by decide +kernel
theorem dX12_marks_61 : decode cX12_marks 61 = .ok (.if_icmp .le 13, 3) := by decide +kernel
theorem dX12_marks_64 : decode cX12_marks 64 = .ok (.aload_n 0, 1) := by decide +kernel
theorem dX12_marks_65 : decode cX12_marks 65 = .ok (.getfield 31, 3) := by decide +kernel
theorem dX12_marks_68 : decode cX12_marks 68 = .ok (.iload 5, 2) := by decide +kernel
theorem dX12_marks_70 : decode cX12_marks 70 = .ok (.iaload, 1) := by decide +kernel
theorem dX12_marks_71 : decode cX12_marks 71 = .ok (.goto 5, 3) := by decide +kernel
theorem dX12_marks_74 : decode cX12_marks 74 = .ok (.iload 4, 2) := by decide +kernel
theorem dX12_marks_76 : decode cX12_marks 76 = .ok (.istore 4, 2) := by decide +kernel
theorem dX12_marks_78 : decode cX12_marks 78 = .ok (.iinc 5 1, 3) := by decide +kernel
theorem dX12_marks_81 : decode cX12_marks 81 = .ok (.goto (-68), 3) := by decide +kernel
theorem dX12_marks_84 : decode cX12_marks 84 = .ok (.iconst 0, 1) := by decide +kernel
theorem dX12_marks_85 : decode cX12_marks 85 = .ok (.istore 5, 2) := by decide +kernel
theorem dX12_marks_87 : decode cX12_marks 87 = .ok (.iload 5, 2) := by decide +kernel
theorem dX12_marks_89 : decode cX12_marks 89 = .ok (.sipush 1000, 3) := by decide +kernel
theorem dX12_marks_92 : decode cX12_marks 92 = .ok (.if_icmp .ge 31, 3) := by decide +kernel
theorem dX12_marks_95 : decode cX12_marks 95 = .ok (.aload_n 2, 1) := by decide +kernel
theorem dX12_marks_96 : decode cX12_marks 96 = .ok (.iload 5, 2) := by decide +kernel
theorem dX12_marks_98 : decode cX12_marks 98 = .ok (.iload 5, 2) := by decide +kernel
theorem dX12_marks_100 : decode cX12_marks 100 = .ok (.iload_n 3, 1) := by decide +kernel
theorem dX12_marks_101 : decode cX12_marks 101 = .ok (.if_icmp .le 14, 3) := by decide +kernel
theorem dX12_marks_104 : decode cX12_marks 104 = .ok (.iload 5, 2) := by decide +kernel
theorem dX12_marks_106 : decode cX12_marks 106 = .ok (.iload 4, 2) := by decide +kernel
theorem dX12_marks_108 : decode cX12_marks 108 = .ok (.if_icmp .ge 7, 3) := by decide +kernel
theorem dX12_marks_111 : decode cX12_marks 111 = .ok (.iconst 1, 1) := by decide +kernel
theorem dX12_marks_112 : decode cX12_marks 112 = .ok (.goto 4, 3) := by decide +kernel
theorem dX12_marks_115 : decode cX12_marks 115 = .ok (.iconst 0, 1) := by decide +kernel
theorem dX12_marks_116 : decode cX12_marks 116 = .ok (.bastore, 1) := by decide +kernel
theorem dX12_marks_117 : decode cX12_marks 117 = .ok (.iinc 5 1, 3) := by decide +kernel
theorem dX12_marks_120 : decode cX12_marks 120 = .ok (.goto (-33), 3) := by decide +kernel
theorem dX12_marks_123 : decode cX12_marks 123 = .ok (.bipush 60, 2) := by decide +kernel
theorem dX12_marks_125 : decode cX12_marks 125 = .ok (.iload_n 1, 1) := by decide +kernel
theorem dX12_marks_126 : decode cX12_marks 126 = .ok (.imul, 1) := by decide +kernel
theorem dX12_marks_127 : decode cX12_marks 127 = .ok (.istore 5, 2) := by decide +kernel
theorem dX12_marks_129 : decode cX12_marks 129 = .ok (.iload 5, 2) := by decide +kernel
theorem dX12_marks_131 : decode cX12_marks 131 = .ok (.bipush 60, 2) := by decide +kernel
theorem dX12_marks_133 : decode cX12_marks 133 = .ok (.iload_n 1, 1) := by decide +kernel
theorem dX12_marks_134 : decode cX12_marks 134 = .ok (.imul, 1) := by decide +kernel
theorem dX12_marks_135 : decode cX12_marks 135 = .ok (.aload_n 0, 1) := by decide +kernel
theorem dX12_marks_136 : decode cX12_marks 136 = .ok (.getfield 28, 3) := by decide +kernel
theorem dX12_marks_139 : decode cX12_marks 139 = .ok (.iload_n 1, 1) := by decide +kernel
theorem dX12_marks_140 : decode cX12_marks 140 = .ok (.iaload, 1) := by decide +kernel
theorem dX12_marks_141 : decode cX12_marks 141 = .ok (.iadd, 1) := by decide +kernel
theorem dX12_marks_142 : decode cX12_marks 142 = .ok (.if_icmp .ge 19, 3) := by decide +kernel
theorem dX12_marks_145 : decode cX12_marks 145 = .ok (.aload_n 2, 1) := by decide +kernel
theorem dX12_marks_146 : decode cX12_marks 146 = .ok (.aload_n 0, 1) := by decide +kernel
theorem dX12_marks_147 : decode cX12_marks 147 = .ok (.getfield 31, 3) := by decide +kernel
theorem dX12_marks_150 : decode cX12_marks 150 = .ok (.iload 5, 2) := by decide +kernel
theorem dX12_marks_152 : decode cX12_marks 152 = .ok (.iaload, 1) := by decide +kernel
theorem dX12_marks_153 : decode cX12_marks 153 = .ok (.iconst 0, 1) := by decide +kernel
theorem dX12_marks_154 : decode cX12_marks 154 = .ok (.bastore, 1) := by decide +kernel
theorem dX12_marks_155 : decode cX12_marks 155 = .ok (.iinc 5 1, 3) := by decide +kernel
theorem dX12_marks_158 : decode cX12_marks 158 = .ok (.goto (-29), 3) := by decide +kernel
theorem dX12_marks_161 : decode cX12_marks 161 = .ok (.return_, 1) := by decide +kernel
theorem dX12_faulty_0 : decode cX12_faulty 0 = .ok (.aload_n 0, 1) := by decide +kernel
theorem dX12_faulty_1 : decode cX12_faulty 1 = .ok (.iload_n 1, 1) := by decide +kernel
theorem dX12_faulty_2 : decode cX12_faulty 2 = .ok (.aload_n 2, 1) := by decide +kernel
theorem dX12_faulty_3 : decode cX12_faulty 3 = .ok (.invokevirtual 178, 3) := by decide +kernel
theorem dX12_faulty_6 : decode cX12_faulty 6 = .ok (.bipush 60, 2) := by decide +kernel
theorem dX12_faulty_8 : decode cX12_faulty 8 = .ok (.iload_n 1, 1) := by decide +kernel
theorem dX12_faulty_9 : decode cX12_faulty 9 = .ok (.imul, 1) := by decide +kernel
theorem dX12_faulty_10 : decode cX12_faulty 10 = .ok (.istore_n 3, 1) := by decide +kernel
theorem dX12_faulty_11 : decode cX12_faulty 11 = .ok (.iload_n 3, 1) := by decide +kernel
theorem dX12_faulty_12 : decode cX12_faulty 12 = .ok (.bipush 60, 2) := by decide +kernel
theorem dX12_faulty_14 : decode cX12_faulty 14 = .ok (.iload_n 1, 1) := by decide +kernel
theorem dX12_faulty_15 : decode cX12_faulty 15 = .ok (.imul, 1) := by decide +kernel
theorem dX12_faulty_16 : decode cX12_faulty 16 = .ok (.aload_n 0, 1) := by decide +kernel
theorem dX12_faulty_17 : decode cX12_faulty 17 = .ok (.getfield 28, 3) := by decide +kernel
theorem dX12_faulty_20 : decode cX12_faulty 20 = .ok (.iload_n 1, 1) := by decide +kernel
theorem dX12_faulty_21 : decode cX12_faulty 21 = .ok (.iaload, 1) := by decide +kernel
theorem dX12_faulty_22 : decode cX12_faulty 22 = .ok (.iadd, 1) := by decide +kernel
theorem dX12_faulty_23 : decode cX12_faulty 23 = .ok (.if_icmp .ge 35, 3) := by decide +kernel
theorem dX12_faulty_26 : decode cX12_faulty 26 = .ok (.aload_n 2, 1) := by decide +kernel
theorem dX12_faulty_27 : decode cX12_faulty 27 = .ok (.aload_n 0, 1) := by decide +kernel
theorem dX12_faulty_28 : decode cX12_faulty 28 = .ok (.getfield 31, 3) := by decide +kernel
theorem dX12_faulty_31 : decode cX12_faulty 31 = .ok (.iload_n 3, 1) := by decide +kernel
theorem dX12_faulty_32 : decode cX12_faulty 32 = .ok (.iaload, 1) := by decide +kernel
theorem dX12_faulty_33 : decode cX12_faulty 33 = .ok (.dup2, 1) := by decide +kernel
theorem dX12_faulty_34 : decode cX12_faulty 34 = .ok (.baload, 1) := by decide +kernel
theorem dX12_faulty_35 : decode cX12_faulty 35 = .ok (.aload_n 0, 1) := by decide +kernel
theorem dX12_faulty_36 : decode cX12_faulty 36 = .ok (.getfield 38, 3) := by decide +kernel
theorem dX12_faulty_39 : decode cX12_faulty 39 = .ok (.iload_n 3, 1) := by decide +kernel
theorem dX12_faulty_40 : decode cX12_faulty 40 = .ok (.iaload, 1) := by decide +kernel
theorem dX12_faulty_41 : decode cX12_faulty 41 = .ok (.iconst 1, 1) := by decide +kernel
theorem dX12_faulty_42 : decode cX12_faulty 42 = .ok (.if_icmp .ne 7, 3) := by decide +kernel
theorem dX12_faulty_45 : decode cX12_faulty 45 = .ok (.iconst 1, 1) := by decide +kernel
theorem dX12_faulty_46 : decode cX12_faulty 46 = .ok (.goto 4, 3) := by decide +kernel
theorem dX12_faulty_49 : decode cX12_faulty 49 = .ok (.iconst 0, 1) := by decide +kernel
theorem dX12_faulty_50 : decode cX12_faulty 50 = .ok (.ior, 1) := by decide +kernel
theorem dX12_faulty_51 : decode cX12_faulty 51 = .ok (.bastore, 1) := by decide +kernel
theorem dX12_faulty_52 : decode cX12_faulty 52 = .ok (.iinc 3 1, 3) := by decide +kernel
theorem dX12_faulty_55 : decode cX12_faulty 55 = .ok (.goto (-44), 3) := by decide +kernel
theorem dX12_faulty_58 : decode cX12_faulty 58 = .ok (.return_, 1) := by decide +kernel
theorem dX12_count_0 : decode cX12_count 0 = .ok (.iconst 0, 1) := by decide +kernel
theorem dX12_count_1 : decode cX12_count 1 = .ok (.istore_n 2, 1) := by decide +kernel
theorem dX12_count_2 : decode cX12_count 2 = .ok (.iconst 0, 1) := by decide +kernel
theorem dX12_count_3 : decode cX12_count 3 = .ok (.istore_n 3, 1) := by decide +kernel
theorem dX12_count_4 : decode cX12_count 4 = .ok (.iload_n 3, 1) := by decide +kernel
theorem dX12_count_5 : decode cX12_count 5 = .ok (.sipush 1000, 3) := by decide +kernel
theorem dX12_count_8 : decode cX12_count 8 = .ok (.if_icmp .ge 23, 3) := by decide +kernel
theorem dX12_count_11 : decode cX12_count 11 = .ok (.iload_n 2, 1) := by decide +kernel
theorem dX12_count_12 : decode cX12_count 12 = .ok (.aload_n 1, 1) := by decide +kernel
theorem dX12_count_13 : decode cX12_count 13 = .ok (.iload_n 3, 1) := by decide +kernel
theorem dX12_count_14 : decode cX12_count 14 = .ok (.baload, 1) := by decide +kernel
theorem dX12_count_15 : decode cX12_count 15 = .ok (.ifCond .eq 7, 3) := by decide +kernel
theorem dX12_count_18 : decode cX12_count 18 = .ok (.iconst 1, 1) := by decide +kernel
theorem dX12_count_19 : decode cX12_count 19 = .ok (.goto 4, 3) := by decide +kernel
theorem dX12_count_22 : decode cX12_count 22 = .ok (.iconst 0, 1) := by decide +kernel
theorem dX12_count_23 : decode cX12_count 23 = .ok (.iadd, 1) := by decide +kernel
theorem dX12_count_24 : decode cX12_count 24 = .ok (.istore_n 2, 1) := by decide +kernel
theorem dX12_count_25 : decode cX12_count 25 = .ok (.iinc 3 1, 3) := by decide +kernel
theorem dX12_count_28 : decode cX12_count 28 = .ok (.goto (-24), 3) := by decide +kernel
theorem dX12_count_31 : decode cX12_count 31 = .ok (.iload_n 2, 1) := by decide +kernel
theorem dX12_count_32 : decode cX12_count 32 = .ok (.ireturn, 1) := by decide +kernel
theorem dX12_missing_0 : decode cX12_missing 0 = .ok (.aload_n 0, 1) := by decide +kernel
theorem dX12_missing_1 : decode cX12_missing 1 = .ok (.iload_n 1, 1) := by decide +kernel
theorem dX12_missing_2 : decode cX12_missing 2 = .ok (.aload_n 0, 1) := by decide +kernel
theorem dX12_missing_3 : decode cX12_missing 3 = .ok (.getfield 133, 3) := by decide +kernel
theorem dX12_missing_6 : decode cX12_missing 6 = .ok (.invokevirtual 178, 3) := by decide +kernel
theorem dX12_missing_9 : decode cX12_missing 9 = .ok (.aload_n 0, 1) := by decide +kernel
theorem dX12_missing_10 : decode cX12_missing 10 = .ok (.aload_n 0, 1) := by decide +kernel
theorem dX12_missing_11 : decode cX12_missing 11 = .ok (.getfield 133, 3) := by decide +kernel
theorem dX12_missing_14 : decode cX12_missing 14 = .ok (.invokevirtual 182, 3) := by decide +kernel
theorem dX12_missing_17 : decode cX12_missing 17 = .ok (.ireturn, 1) := by decide +kernel
theorem dX12_faults_0 : decode cX12_faults 0 = .ok (.aload_n 0, 1) := by decide +kernel
theorem dX12_faults_1 : decode cX12_faults 1 = .ok (.iload_n 1, 1) := by decide +kernel
theorem dX12_faults_2 : decode cX12_faults 2 = .ok (.aload_n 0, 1) := by decide +kernel
theorem dX12_faults_3 : decode cX12_faults 3 = .ok (.getfield 133, 3) := by decide +kernel
theorem dX12_faults_6 : decode cX12_faults 6 = .ok (.invokevirtual 186, 3) := by decide +kernel
theorem dX12_faults_9 : decode cX12_faults 9 = .ok (.aload_n 0, 1) := by decide +kernel
theorem dX12_faults_10 : decode cX12_faults 10 = .ok (.aload_n 0, 1) := by decide +kernel
theorem dX12_faults_11 : decode cX12_faults 11 = .ok (.getfield 133, 3) := by decide +kernel
theorem dX12_faults_14 : decode cX12_faults 14 = .ok (.invokevirtual 182, 3) := by decide +kernel
theorem dX12_faults_17 : decode cX12_faults 17 = .ok (.ireturn, 1) := by decide +kernel
theorem dX12_jumps_0 : decode cX12_jumps 0 = .ok (.iconst 0, 1) := by decide +kernel
theorem dX12_jumps_1 : decode cX12_jumps 1 = .ok (.istore_n 2, 1) := by decide +kernel
theorem dX12_jumps_2 : decode cX12_jumps 2 = .ok (.iconst 1, 1) := by decide +kernel
theorem dX12_jumps_3 : decode cX12_jumps 3 = .ok (.istore_n 3, 1) := by decide +kernel
theorem dX12_jumps_4 : decode cX12_jumps 4 = .ok (.iload_n 3, 1) := by decide +kernel
theorem dX12_jumps_5 : decode cX12_jumps 5 = .ok (.aload_n 0, 1) := by decide +kernel
theorem dX12_jumps_6 : decode cX12_jumps 6 = .ok (.getfield 28, 3) := by decide +kernel
theorem dX12_jumps_9 : decode cX12_jumps 9 = .ok (.iload_n 1, 1) := by decide +kernel
theorem dX12_jumps_10 : decode cX12_jumps 10 = .ok (.iaload, 1) := by decide +kernel
theorem dX12_jumps_11 : decode cX12_jumps 11 = .ok (.if_icmp .ge 46, 3) := by decide +kernel
theorem dX12_jumps_14 : decode cX12_jumps 14 = .ok (.iload_n 2, 1) := by decide +kernel
theorem dX12_jumps_15 : decode cX12_jumps 15 = .ok (.aload_n 0, 1) := by decide +kernel
theorem dX12_jumps_16 : decode cX12_jumps 16 = .ok (.getfield 31, 3) := by decide +kernel
theorem dX12_jumps_19 : decode cX12_jumps 19 = .ok (.bipush 60, 2) := by decide +kernel
theorem dX12_jumps_21 : decode cX12_jumps 21 = .ok (.iload_n 1, 1) := by decide +kernel
theorem dX12_jumps_22 : decode cX12_jumps 22 = .ok (.imul, 1) := by decide +kernel
theorem dX12_jumps_23 : decode cX12_jumps 23 = .ok (.iload_n 3, 1) := by decide +kernel
theorem dX12_jumps_24 : decode cX12_jumps 24 = .ok (.iadd, 1) := by decide +kernel
theorem dX12_jumps_25 : decode cX12_jumps 25 = .ok (.iaload, 1) := by decide +kernel
theorem dX12_jumps_26 : decode cX12_jumps 26 = .ok (.aload_n 0, 1) := by decide +kernel
theorem dX12_jumps_27 : decode cX12_jumps 27 = .ok (.getfield 31, 3) := by decide +kernel
theorem dX12_jumps_30 : decode cX12_jumps 30 = .ok (.bipush 60, 2) := by decide +kernel
theorem dX12_jumps_32 : decode cX12_jumps 32 = .ok (.iload_n 1, 1) := by decide +kernel
theorem dX12_jumps_33 : decode cX12_jumps 33 = .ok (.imul, 1) := by decide +kernel
theorem dX12_jumps_34 : decode cX12_jumps 34 = .ok (.iload_n 3, 1) := by decide +kernel
theorem dX12_jumps_35 : decode cX12_jumps 35 = .ok (.iadd, 1) := by decide +kernel
theorem dX12_jumps_36 : decode cX12_jumps 36 = .ok (.iconst 1, 1) := by decide +kernel
theorem dX12_jumps_37 : decode cX12_jumps 37 = .ok (.isub, 1) := by decide +kernel
theorem dX12_jumps_38 : decode cX12_jumps 38 = .ok (.iaload, 1) := by decide +kernel
theorem dX12_jumps_39 : decode cX12_jumps 39 = .ok (.iconst 1, 1) := by decide +kernel
theorem dX12_jumps_40 : decode cX12_jumps 40 = .ok (.iadd, 1) := by decide +kernel
theorem dX12_jumps_41 : decode cX12_jumps 41 = .ok (.if_icmp .eq 7, 3) := by decide +kernel
theorem dX12_jumps_44 : decode cX12_jumps 44 = .ok (.iconst 1, 1) := by decide +kernel
theorem dX12_jumps_45 : decode cX12_jumps 45 = .ok (.goto 4, 3) := by decide +kernel
theorem dX12_jumps_48 : decode cX12_jumps 48 = .ok (.iconst 0, 1) := by decide +kernel
theorem dX12_jumps_49 : decode cX12_jumps 49 = .ok (.iadd, 1) := by decide +kernel
theorem dX12_jumps_50 : decode cX12_jumps 50 = .ok (.istore_n 2, 1) := by decide +kernel
theorem dX12_jumps_51 : decode cX12_jumps 51 = .ok (.iinc 3 1, 3) := by decide +kernel
theorem dX12_jumps_54 : decode cX12_jumps 54 = .ok (.goto (-50), 3) := by decide +kernel
theorem dX12_jumps_57 : decode cX12_jumps 57 = .ok (.iload_n 2, 1) := by decide +kernel
theorem dX12_jumps_58 : decode cX12_jumps 58 = .ok (.ireturn, 1) := by decide +kernel
theorem dX12_isWithin_0 : decode cX12_isWithin 0 = .ok (.iconst 1, 1) := by decide +kernel
theorem dX12_isWithin_1 : decode cX12_isWithin 1 = .ok (.istore_n 1, 1) := by decide +kernel
theorem dX12_isWithin_2 : decode cX12_isWithin 2 = .ok (.iconst 0, 1) := by decide +kernel
theorem dX12_isWithin_3 : decode cX12_isWithin 3 = .ok (.istore_n 2, 1) := by decide +kernel
theorem dX12_isWithin_4 : decode cX12_isWithin 4 = .ok (.iload_n 2, 1) := by decide +kernel
theorem dX12_isWithin_5 : decode cX12_isWithin 5 = .ok (.sipush 1000, 3) := by decide +kernel
theorem dX12_isWithin_8 : decode cX12_isWithin 8 = .ok (.if_icmp .ge 37, 3) := by decide +kernel
theorem dX12_isWithin_11 : decode cX12_isWithin 11 = .ok (.iload_n 1, 1) := by decide +kernel
theorem dX12_isWithin_12 : decode cX12_isWithin 12 = .ok (.ifCond .eq 33, 3) := by decide +kernel
theorem dX12_isWithin_15 : decode cX12_isWithin 15 = .ok (.aload_n 0, 1) := by decide +kernel
theorem dX12_isWithin_16 : decode cX12_isWithin 16 = .ok (.getfield 137, 3) := by decide +kernel
theorem dX12_isWithin_19 : decode cX12_isWithin 19 = .ok (.iload_n 2, 1) := by decide +kernel
theorem dX12_isWithin_20 : decode cX12_isWithin 20 = .ok (.baload, 1) := by decide +kernel
theorem dX12_isWithin_21 : decode cX12_isWithin 21 = .ok (.ifCond .eq 12, 3) := by decide +kernel
theorem dX12_isWithin_24 : decode cX12_isWithin 24 = .ok (.aload_n 0, 1) := by decide +kernel
theorem dX12_isWithin_25 : decode cX12_isWithin 25 = .ok (.getfield 133, 3) := by decide +kernel
theorem dX12_isWithin_28 : decode cX12_isWithin 28 = .ok (.iload_n 2, 1) := by decide +kernel
theorem dX12_isWithin_29 : decode cX12_isWithin 29 = .ok (.baload, 1) := by decide +kernel
theorem dX12_isWithin_30 : decode cX12_isWithin 30 = .ok (.ifCond .eq 7, 3) := by decide +kernel
theorem dX12_isWithin_33 : decode cX12_isWithin 33 = .ok (.iconst 1, 1) := by decide +kernel
theorem dX12_isWithin_34 : decode cX12_isWithin 34 = .ok (.goto 4, 3) := by decide +kernel
theorem dX12_isWithin_37 : decode cX12_isWithin 37 = .ok (.iconst 0, 1) := by decide +kernel
theorem dX12_isWithin_38 : decode cX12_isWithin 38 = .ok (.istore_n 1, 1) := by decide +kernel
theorem dX12_isWithin_39 : decode cX12_isWithin 39 = .ok (.iinc 2 1, 3) := by decide +kernel
theorem dX12_isWithin_42 : decode cX12_isWithin 42 = .ok (.goto (-38), 3) := by decide +kernel
theorem dX12_isWithin_45 : decode cX12_isWithin 45 = .ok (.iload_n 1, 1) := by decide +kernel
theorem dX12_isWithin_46 : decode cX12_isWithin 46 = .ok (.ireturn, 1) := by decide +kernel
theorem dX12_parentOf_0 : decode cX12_parentOf 0 = .ok (.iconst (-1), 1) := by decide +kernel
theorem dX12_parentOf_1 : decode cX12_parentOf 1 = .ok (.istore_n 2, 1) := by decide +kernel
theorem dX12_parentOf_2 : decode cX12_parentOf 2 = .ok (.iconst (-1), 1) := by decide +kernel
theorem dX12_parentOf_3 : decode cX12_parentOf 3 = .ok (.istore_n 3, 1) := by decide +kernel
theorem dX12_parentOf_4 : decode cX12_parentOf 4 = .ok (.aload_n 0, 1) := by decide +kernel
theorem dX12_parentOf_5 : decode cX12_parentOf 5 = .ok (.iload_n 1, 1) := by decide +kernel
theorem dX12_parentOf_6 : decode cX12_parentOf 6 = .ok (.aload_n 0, 1) := by decide +kernel
theorem dX12_parentOf_7 : decode cX12_parentOf 7 = .ok (.getfield 133, 3) := by decide +kernel
theorem dX12_parentOf_10 : decode cX12_parentOf 10 = .ok (.invokevirtual 186, 3) := by decide +kernel
theorem dX12_parentOf_13 : decode cX12_parentOf 13 = .ok (.iconst 0, 1) := by decide +kernel
theorem dX12_parentOf_14 : decode cX12_parentOf 14 = .ok (.istore 4, 2) := by decide +kernel
theorem dX12_parentOf_16 : decode cX12_parentOf 16 = .ok (.iload 4, 2) := by decide +kernel
theorem dX12_parentOf_18 : decode cX12_parentOf 18 = .ok (.aload_n 0, 1) := by decide +kernel
theorem dX12_parentOf_19 : decode cX12_parentOf 19 = .ok (.getfield 143, 3) := by decide +kernel
theorem dX12_parentOf_22 : decode cX12_parentOf 22 = .ok (.if_icmp .ge 106, 3) := by decide +kernel
theorem dX12_parentOf_25 : decode cX12_parentOf 25 = .ok (.aload_n 0, 1) := by decide +kernel
theorem dX12_parentOf_26 : decode cX12_parentOf 26 = .ok (.iload 4, 2) := by decide +kernel
theorem dX12_parentOf_28 : decode cX12_parentOf 28 = .ok (.aload_n 0, 1) := by decide +kernel
theorem dX12_parentOf_29 : decode cX12_parentOf 29 = .ok (.getfield 137, 3) := by decide +kernel
theorem dX12_parentOf_32 : decode cX12_parentOf 32 = .ok (.invokevirtual 186, 3) := by decide +kernel
theorem dX12_parentOf_35 : decode cX12_parentOf 35 = .ok (.iload 4, 2) := by decide +kernel
theorem dX12_parentOf_37 : decode cX12_parentOf 37 = .ok (.iload_n 1, 1) := by decide +kernel
theorem dX12_parentOf_38 : decode cX12_parentOf 38 = .ok (.if_icmp .eq 45, 3) := by decide +kernel
theorem dX12_parentOf_41 : decode cX12_parentOf 41 = .ok (.aload_n 0, 1) := by decide +kernel
theorem dX12_parentOf_42 : decode cX12_parentOf 42 = .ok (.getfield 13, 3) := by decide +kernel
theorem dX12_parentOf_45 : decode cX12_parentOf 45 = .ok (.iload 4, 2) := by decide +kernel
theorem dX12_parentOf_47 : decode cX12_parentOf 47 = .ok (.iaload, 1) := by decide +kernel
theorem dX12_parentOf_48 : decode cX12_parentOf 48 = .ok (.aload_n 0, 1) := by decide +kernel
theorem dX12_parentOf_49 : decode cX12_parentOf 49 = .ok (.getfield 13, 3) := by decide +kernel
theorem dX12_parentOf_52 : decode cX12_parentOf 52 = .ok (.iload_n 1, 1) := by decide +kernel
theorem dX12_parentOf_53 : decode cX12_parentOf 53 = .ok (.iaload, 1) := by decide +kernel
theorem dX12_parentOf_54 : decode cX12_parentOf 54 = .ok (.if_icmp .lt 25, 3) := by decide +kernel
theorem dX12_parentOf_57 : decode cX12_parentOf 57 = .ok (.aload_n 0, 1) := by decide +kernel
theorem dX12_parentOf_58 : decode cX12_parentOf 58 = .ok (.getfield 13, 3) := by decide +kernel
theorem dX12_parentOf_61 : decode cX12_parentOf 61 = .ok (.iload 4, 2) := by decide +kernel
theorem dX12_parentOf_63 : decode cX12_parentOf 63 = .ok (.iaload, 1) := by decide +kernel
theorem dX12_parentOf_64 : decode cX12_parentOf 64 = .ok (.aload_n 0, 1) := by decide +kernel
theorem dX12_parentOf_65 : decode cX12_parentOf 65 = .ok (.getfield 13, 3) := by decide +kernel
theorem dX12_parentOf_68 : decode cX12_parentOf 68 = .ok (.iload_n 1, 1) := by decide +kernel
theorem dX12_parentOf_69 : decode cX12_parentOf 69 = .ok (.iaload, 1) := by decide +kernel
theorem dX12_parentOf_70 : decode cX12_parentOf 70 = .ok (.if_icmp .ne 13, 3) := by decide +kernel
theorem dX12_parentOf_73 : decode cX12_parentOf 73 = .ok (.iload 4, 2) := by decide +kernel
theorem dX12_parentOf_75 : decode cX12_parentOf 75 = .ok (.iload_n 1, 1) := by decide +kernel
theorem dX12_parentOf_76 : decode cX12_parentOf 76 = .ok (.if_icmp .ge 7, 3) := by decide +kernel
theorem dX12_parentOf_79 : decode cX12_parentOf 79 = .ok (.iconst 1, 1) := by decide +kernel
theorem dX12_parentOf_80 : decode cX12_parentOf 80 = .ok (.goto 4, 3) := by decide +kernel
theorem dX12_parentOf_83 : decode cX12_parentOf 83 = .ok (.iconst 0, 1) := by decide +kernel
theorem dX12_parentOf_84 : decode cX12_parentOf 84 = .ok (.istore 5, 2) := by decide +kernel
theorem dX12_parentOf_86 : decode cX12_parentOf 86 = .ok (.iload 5, 2) := by decide +kernel
theorem dX12_parentOf_88 : decode cX12_parentOf 88 = .ok (.ifCond .eq 34, 3) := by decide +kernel
theorem dX12_parentOf_91 : decode cX12_parentOf 91 = .ok (.aload_n 0, 1) := by decide +kernel
theorem dX12_parentOf_92 : decode cX12_parentOf 92 = .ok (.invokevirtual 189, 3) := by decide +kernel
theorem dX12_parentOf_95 : decode cX12_parentOf 95 = .ok (.ifCond .eq 27, 3) := by decide +kernel
theorem dX12_parentOf_98 : decode cX12_parentOf 98 = .ok (.aload_n 0, 1) := by decide +kernel
theorem dX12_parentOf_99 : decode cX12_parentOf 99 = .ok (.aload_n 0, 1) := by decide +kernel
theorem dX12_parentOf_100 : decode cX12_parentOf 100 = .ok (.getfield 137, 3) := by decide +kernel
theorem dX12_parentOf_103 : decode cX12_parentOf 103 = .ok (.invokevirtual 182, 3) := by decide +kernel
theorem dX12_parentOf_106 : decode cX12_parentOf 106 = .ok (.iload_n 3, 1) := by decide +kernel
theorem dX12_parentOf_107 : decode cX12_parentOf 107 = .ok (.if_icmp .le 15, 3) := by decide +kernel
theorem dX12_parentOf_110 : decode cX12_parentOf 110 = .ok (.iload 4, 2) := by decide +kernel
theorem dX12_parentOf_112 : decode cX12_parentOf 112 = .ok (.istore_n 2, 1) := by decide +kernel
theorem dX12_parentOf_113 : decode cX12_parentOf 113 = .ok (.aload_n 0, 1) := by decide +kernel
theorem dX12_parentOf_114 : decode cX12_parentOf 114 = .ok (.aload_n 0, 1) := by decide +kernel
theorem dX12_parentOf_115 : decode cX12_parentOf 115 = .ok (.getfield 137, 3) := by decide +kernel
theorem dX12_parentOf_118 : decode cX12_parentOf 118 = .ok (.invokevirtual 182, 3) := by decide +kernel
theorem dX12_parentOf_121 : decode cX12_parentOf 121 = .ok (.istore_n 3, 1) := by decide +kernel
theorem dX12_parentOf_122 : decode cX12_parentOf 122 = .ok (.iinc 4 1, 3) := by decide +kernel
theorem dX12_parentOf_125 : decode cX12_parentOf 125 = .ok (.goto (-109), 3) := by decide +kernel
theorem dX12_parentOf_128 : decode cX12_parentOf 128 = .ok (.iload_n 2, 1) := by decide +kernel
theorem dX12_parentOf_129 : decode cX12_parentOf 129 = .ok (.ireturn, 1) := by decide +kernel
theorem dX12_ofReel_0 : decode cX12_ofReel 0 = .ok (.aload_n 0, 1) := by decide +kernel
theorem dX12_ofReel_1 : decode cX12_ofReel 1 = .ok (.aload_n 0, 1) := by decide +kernel
theorem dX12_ofReel_2 : decode cX12_ofReel 2 = .ok (.iload_n 1, 1) := by decide +kernel
theorem dX12_ofReel_3 : decode cX12_ofReel 3 = .ok (.invokevirtual 154, 3) := by decide +kernel
theorem dX12_ofReel_6 : decode cX12_ofReel 6 = .ok (.ifCond .ne 7, 3) := by decide +kernel
theorem dX12_ofReel_9 : decode cX12_ofReel 9 = .ok (.iconst 1, 1) := by decide +kernel
theorem dX12_ofReel_10 : decode cX12_ofReel 10 = .ok (.goto 19, 3) := by decide +kernel
theorem dX12_ofReel_13 : decode cX12_ofReel 13 = .ok (.aload_n 0, 1) := by decide +kernel
theorem dX12_ofReel_14 : decode cX12_ofReel 14 = .ok (.iload_n 2, 1) := by decide +kernel
theorem dX12_ofReel_15 : decode cX12_ofReel 15 = .ok (.iconst 0, 1) := by decide +kernel
theorem dX12_ofReel_16 : decode cX12_ofReel 16 = .ok (.bipush 8, 2) := by decide +kernel
theorem dX12_ofReel_18 : decode cX12_ofReel 18 = .ok (.invokevirtual 146, 3) := by decide +kernel
theorem dX12_ofReel_21 : decode cX12_ofReel 21 = .ok (.ifCond .eq 7, 3) := by decide +kernel
theorem dX12_ofReel_24 : decode cX12_ofReel 24 = .ok (.iconst 0, 1) := by decide +kernel
theorem dX12_ofReel_25 : decode cX12_ofReel 25 = .ok (.goto 4, 3) := by decide +kernel
theorem dX12_ofReel_28 : decode cX12_ofReel 28 = .ok (.iconst 2, 1) := by decide +kernel
theorem dX12_ofReel_29 : decode cX12_ofReel 29 = .ok (.invokevirtual 158, 3) := by decide +kernel
theorem dX12_ofReel_32 : decode cX12_ofReel 32 = .ok (.ifCond .eq 5, 3) := by decide +kernel
theorem dX12_ofReel_35 : decode cX12_ofReel 35 = .ok (.iconst (-1), 1) := by decide +kernel
theorem dX12_ofReel_36 : decode cX12_ofReel 36 = .ok (.ireturn, 1) := by decide +kernel
theorem dX12_ofReel_37 : decode cX12_ofReel 37 = .ok (.iload_n 2, 1) := by decide +kernel
theorem dX12_ofReel_38 : decode cX12_ofReel 38 = .ok (.tableswitch 105 0 7 #[46, 53, 60, 67, 81, 87, 93, 99], 46) := by decide +kernel
theorem dX12_ofReel_84 : decode cX12_ofReel 84 = .ok (.aload_n 0, 1) := by decide +kernel
theorem dX12_ofReel_85 : decode cX12_ofReel 85 = .ok (.getfield 28, 3) := by decide +kernel
theorem dX12_ofReel_88 : decode cX12_ofReel 88 = .ok (.iload_n 1, 1) := by decide +kernel
theorem dX12_ofReel_89 : decode cX12_ofReel 89 = .ok (.iaload, 1) := by decide +kernel
theorem dX12_ofReel_90 : decode cX12_ofReel 90 = .ok (.ireturn, 1) := by decide +kernel
theorem dX12_ofReel_91 : decode cX12_ofReel 91 = .ok (.aload_n 0, 1) := by decide +kernel
theorem dX12_ofReel_92 : decode cX12_ofReel 92 = .ok (.getfield 19, 3) := by decide +kernel
theorem dX12_ofReel_95 : decode cX12_ofReel 95 = .ok (.iload_n 1, 1) := by decide +kernel
theorem dX12_ofReel_96 : decode cX12_ofReel 96 = .ok (.iaload, 1) := by decide +kernel
theorem dX12_ofReel_97 : decode cX12_ofReel 97 = .ok (.ireturn, 1) := by decide +kernel
theorem dX12_ofReel_98 : decode cX12_ofReel 98 = .ok (.aload_n 0, 1) := by decide +kernel
theorem dX12_ofReel_99 : decode cX12_ofReel 99 = .ok (.getfield 22, 3) := by decide +kernel
theorem dX12_ofReel_102 : decode cX12_ofReel 102 = .ok (.iload_n 1, 1) := by decide +kernel
theorem dX12_ofReel_103 : decode cX12_ofReel 103 = .ok (.iaload, 1) := by decide +kernel
theorem dX12_ofReel_104 : decode cX12_ofReel 104 = .ok (.ireturn, 1) := by decide +kernel
theorem dX12_ofReel_105 : decode cX12_ofReel 105 = .ok (.aload_n 0, 1) := by decide +kernel
theorem dX12_ofReel_106 : decode cX12_ofReel 106 = .ok (.iload_n 1, 1) := by decide +kernel
theorem dX12_ofReel_107 : decode cX12_ofReel 107 = .ok (.invokevirtual 175, 3) := by decide +kernel
theorem dX12_ofReel_110 : decode cX12_ofReel 110 = .ok (.ifCond .eq 7, 3) := by decide +kernel
theorem dX12_ofReel_113 : decode cX12_ofReel 113 = .ok (.iconst 1, 1) := by decide +kernel
theorem dX12_ofReel_114 : decode cX12_ofReel 114 = .ok (.goto 4, 3) := by decide +kernel
theorem dX12_ofReel_117 : decode cX12_ofReel 117 = .ok (.iconst 0, 1) := by decide +kernel
theorem dX12_ofReel_118 : decode cX12_ofReel 118 = .ok (.ireturn, 1) := by decide +kernel
theorem dX12_ofReel_119 : decode cX12_ofReel 119 = .ok (.aload_n 0, 1) := by decide +kernel
theorem dX12_ofReel_120 : decode cX12_ofReel 120 = .ok (.iload_n 1, 1) := by decide +kernel
theorem dX12_ofReel_121 : decode cX12_ofReel 121 = .ok (.invokevirtual 193, 3) := by decide +kernel
theorem dX12_ofReel_124 : decode cX12_ofReel 124 = .ok (.ireturn, 1) := by decide +kernel
theorem dX12_ofReel_125 : decode cX12_ofReel 125 = .ok (.aload_n 0, 1) := by decide +kernel
theorem dX12_ofReel_126 : decode cX12_ofReel 126 = .ok (.iload_n 1, 1) := by decide +kernel
theorem dX12_ofReel_127 : decode cX12_ofReel 127 = .ok (.invokevirtual 196, 3) := by decide +kernel
theorem dX12_ofReel_130 : decode cX12_ofReel 130 = .ok (.ireturn, 1) := by decide +kernel
theorem dX12_ofReel_131 : decode cX12_ofReel 131 = .ok (.aload_n 0, 1) := by decide +kernel
theorem dX12_ofReel_132 : decode cX12_ofReel 132 = .ok (.iload_n 1, 1) := by decide +kernel
theorem dX12_ofReel_133 : decode cX12_ofReel 133 = .ok (.invokevirtual 199, 3) := by decide +kernel
theorem dX12_ofReel_136 : decode cX12_ofReel 136 = .ok (.ireturn, 1) := by decide +kernel
theorem dX12_ofReel_137 : decode cX12_ofReel 137 = .ok (.aload_n 0, 1) := by decide +kernel
theorem dX12_ofReel_138 : decode cX12_ofReel 138 = .ok (.iload_n 1, 1) := by decide +kernel
theorem dX12_ofReel_139 : decode cX12_ofReel 139 = .ok (.invokevirtual 202, 3) := by decide +kernel
theorem dX12_ofReel_142 : decode cX12_ofReel 142 = .ok (.ireturn, 1) := by decide +kernel
theorem dX12_ofReel_143 : decode cX12_ofReel 143 = .ok (.aload_n 0, 1) := by decide +kernel
theorem dX12_ofReel_144 : decode cX12_ofReel 144 = .ok (.getfield 13, 3) := by decide +kernel
theorem dX12_ofReel_147 : decode cX12_ofReel 147 = .ok (.iload_n 1, 1) := by decide +kernel
theorem dX12_ofReel_148 : decode cX12_ofReel 148 = .ok (.iaload, 1) := by decide +kernel
theorem dX12_ofReel_149 : decode cX12_ofReel 149 = .ok (.ireturn, 1) := by decide +kernel
theorem dX12_tolerance_0 : decode cX12_tolerance 0 = .ok (.aload_n 0, 1) := by decide +kernel
theorem dX12_tolerance_1 : decode cX12_tolerance 1 = .ok (.aload_n 0, 1) := by decide +kernel
theorem dX12_tolerance_2 : decode cX12_tolerance 2 = .ok (.iload_n 1, 1) := by decide +kernel
theorem dX12_tolerance_3 : decode cX12_tolerance 3 = .ok (.iconst 0, 1) := by decide +kernel
theorem dX12_tolerance_4 : decode cX12_tolerance 4 = .ok (.sipush 2040, 3) := by decide +kernel
theorem dX12_tolerance_7 : decode cX12_tolerance 7 = .ok (.invokevirtual 146, 3) := by decide +kernel
theorem dX12_tolerance_10 : decode cX12_tolerance 10 = .ok (.ifCond .eq 7, 3) := by decide +kernel
theorem dX12_tolerance_13 : decode cX12_tolerance 13 = .ok (.iconst 0, 1) := by decide +kernel
theorem dX12_tolerance_14 : decode cX12_tolerance 14 = .ok (.goto 4, 3) := by decide +kernel
theorem dX12_tolerance_17 : decode cX12_tolerance 17 = .ok (.iconst 1, 1) := by decide +kernel
theorem dX12_tolerance_18 : decode cX12_tolerance 18 = .ok (.invokevirtual 158, 3) := by decide +kernel
theorem dX12_tolerance_21 : decode cX12_tolerance 21 = .ok (.ifCond .eq 5, 3) := by decide +kernel
theorem dX12_tolerance_24 : decode cX12_tolerance 24 = .ok (.iconst (-1), 1) := by decide +kernel
theorem dX12_tolerance_25 : decode cX12_tolerance 25 = .ok (.ireturn, 1) := by decide +kernel
theorem dX12_tolerance_26 : decode cX12_tolerance 26 = .ok (.aload_n 0, 1) := by decide +kernel
theorem dX12_tolerance_27 : decode cX12_tolerance 27 = .ok (.getfield 41, 3) := by decide +kernel
theorem dX12_tolerance_30 : decode cX12_tolerance 30 = .ok (.istore_n 2, 1) := by decide +kernel
theorem dX12_tolerance_31 : decode cX12_tolerance 31 = .ok (.aload_n 0, 1) := by decide +kernel
theorem dX12_tolerance_32 : decode cX12_tolerance 32 = .ok (.iload_n 1, 1) := by decide +kernel
theorem dX12_tolerance_33 : decode cX12_tolerance 33 = .ok (.putfield 41, 3) := by decide +kernel
theorem dX12_tolerance_36 : decode cX12_tolerance 36 = .ok (.iload_n 2, 1) := by decide +kernel
theorem dX12_tolerance_37 : decode cX12_tolerance 37 = .ok (.ireturn, 1) := by decide +kernel
theorem dX12_isPair_0 : decode cX12_isPair 0 = .ok (.aload_n 0, 1) := by decide +kernel
theorem dX12_isPair_1 : decode cX12_isPair 1 = .ok (.aload_n 0, 1) := by decide +kernel
theorem dX12_isPair_2 : decode cX12_isPair 2 = .ok (.getfield 34, 3) := by decide +kernel
theorem dX12_isPair_5 : decode cX12_isPair 5 = .ok (.bipush 60, 2) := by decide +kernel
theorem dX12_isPair_7 : decode cX12_isPair 7 = .ok (.iload_n 1, 1) := by decide +kernel
theorem dX12_isPair_8 : decode cX12_isPair 8 = .ok (.imul, 1) := by decide +kernel
theorem dX12_isPair_9 : decode cX12_isPair 9 = .ok (.iload_n 2, 1) := by decide +kernel
theorem dX12_isPair_10 : decode cX12_isPair 10 = .ok (.iadd, 1) := by decide +kernel
theorem dX12_isPair_11 : decode cX12_isPair 11 = .ok (.laload, 1) := by decide +kernel
theorem dX12_isPair_12 : decode cX12_isPair 12 = .ok (.aload_n 0, 1) := by decide +kernel
theorem dX12_isPair_13 : decode cX12_isPair 13 = .ok (.getfield 34, 3) := by decide +kernel
theorem dX12_isPair_16 : decode cX12_isPair 16 = .ok (.bipush 60, 2) := by decide +kernel
theorem dX12_isPair_18 : decode cX12_isPair 18 = .ok (.iload_n 3, 1) := by decide +kernel
theorem dX12_isPair_19 : decode cX12_isPair 19 = .ok (.imul, 1) := by decide +kernel
theorem dX12_isPair_20 : decode cX12_isPair 20 = .ok (.iload 4, 2) := by decide +kernel
theorem dX12_isPair_22 : decode cX12_isPair 22 = .ok (.iadd, 1) := by decide +kernel
theorem dX12_isPair_23 : decode cX12_isPair 23 = .ok (.laload, 1) := by decide +kernel
theorem dX12_isPair_24 : decode cX12_isPair 24 = .ok (.invokevirtual 205, 3) := by decide +kernel
theorem dX12_isPair_27 : decode cX12_isPair 27 = .ok (.aload_n 0, 1) := by decide +kernel
theorem dX12_isPair_28 : decode cX12_isPair 28 = .ok (.getfield 41, 3) := by decide +kernel
theorem dX12_isPair_31 : decode cX12_isPair 31 = .ok (.if_icmp .gt 7, 3) := by decide +kernel
theorem dX12_isPair_34 : decode cX12_isPair 34 = .ok (.iconst 1, 1) := by decide +kernel
theorem dX12_isPair_35 : decode cX12_isPair 35 = .ok (.goto 4, 3) := by decide +kernel
theorem dX12_isPair_38 : decode cX12_isPair 38 = .ok (.iconst 0, 1) := by decide +kernel
theorem dX12_isPair_39 : decode cX12_isPair 39 = .ok (.ireturn, 1) := by decide +kernel
theorem dX12_pairs_0 : decode cX12_pairs 0 = .ok (.iconst 0, 1) := by decide +kernel
theorem dX12_pairs_1 : decode cX12_pairs 1 = .ok (.istore_n 3, 1) := by decide +kernel
theorem dX12_pairs_2 : decode cX12_pairs 2 = .ok (.iload_n 3, 1) := by decide +kernel
theorem dX12_pairs_3 : decode cX12_pairs 3 = .ok (.aload_n 0, 1) := by decide +kernel
theorem dX12_pairs_4 : decode cX12_pairs 4 = .ok (.getfield 28, 3) := by decide +kernel
theorem dX12_pairs_7 : decode cX12_pairs 7 = .ok (.iload_n 1, 1) := by decide +kernel
theorem dX12_pairs_8 : decode cX12_pairs 8 = .ok (.iaload, 1) := by decide +kernel
theorem dX12_pairs_9 : decode cX12_pairs 9 = .ok (.if_icmp .gt 159, 3) := by decide +kernel
theorem dX12_pairs_12 : decode cX12_pairs 12 = .ok (.iconst 0, 1) := by decide +kernel
theorem dX12_pairs_13 : decode cX12_pairs 13 = .ok (.istore 4, 2) := by decide +kernel
theorem dX12_pairs_15 : decode cX12_pairs 15 = .ok (.iload 4, 2) := by decide +kernel
theorem dX12_pairs_17 : decode cX12_pairs 17 = .ok (.aload_n 0, 1) := by decide +kernel
theorem dX12_pairs_18 : decode cX12_pairs 18 = .ok (.getfield 28, 3) := by decide +kernel
theorem dX12_pairs_21 : decode cX12_pairs 21 = .ok (.iload_n 2, 1) := by decide +kernel
theorem dX12_pairs_22 : decode cX12_pairs 22 = .ok (.iaload, 1) := by decide +kernel
theorem dX12_pairs_23 : decode cX12_pairs 23 = .ok (.if_icmp .gt 139, 3) := by decide +kernel
theorem dX12_pairs_26 : decode cX12_pairs 26 = .ok (.iconst 0, 1) := by decide +kernel
theorem dX12_pairs_27 : decode cX12_pairs 27 = .ok (.istore 5, 2) := by decide +kernel
theorem dX12_pairs_29 : decode cX12_pairs 29 = .ok (.iload_n 3, 1) := by decide +kernel
theorem dX12_pairs_30 : decode cX12_pairs 30 = .ok (.ifCond .le 112, 3) := by decide +kernel
theorem dX12_pairs_33 : decode cX12_pairs 33 = .ok (.iload 4, 2) := by decide +kernel
theorem dX12_pairs_35 : decode cX12_pairs 35 = .ok (.ifCond .le 107, 3) := by decide +kernel
theorem dX12_pairs_38 : decode cX12_pairs 38 = .ok (.aload_n 0, 1) := by decide +kernel
theorem dX12_pairs_39 : decode cX12_pairs 39 = .ok (.getfield 48, 3) := by decide +kernel
theorem dX12_pairs_42 : decode cX12_pairs 42 = .ok (.bipush 61, 2) := by decide +kernel
theorem dX12_pairs_44 : decode cX12_pairs 44 = .ok (.iload_n 3, 1) := by decide +kernel
theorem dX12_pairs_45 : decode cX12_pairs 45 = .ok (.iconst 1, 1) := by decide +kernel
theorem dX12_pairs_46 : decode cX12_pairs 46 = .ok (.isub, 1) := by decide +kernel
theorem dX12_pairs_47 : decode cX12_pairs 47 = .ok (.imul, 1) := by decide +kernel
theorem dX12_pairs_48 : decode cX12_pairs 48 = .ok (.iload 4, 2) := by decide +kernel
theorem dX12_pairs_50 : decode cX12_pairs 50 = .ok (.iadd, 1) := by decide +kernel
theorem dX12_pairs_51 : decode cX12_pairs 51 = .ok (.iaload, 1) := by decide +kernel
theorem dX12_pairs_52 : decode cX12_pairs 52 = .ok (.istore 6, 2) := by decide +kernel
theorem dX12_pairs_54 : decode cX12_pairs 54 = .ok (.aload_n 0, 1) := by decide +kernel
theorem dX12_pairs_55 : decode cX12_pairs 55 = .ok (.getfield 48, 3) := by decide +kernel
theorem dX12_pairs_58 : decode cX12_pairs 58 = .ok (.bipush 61, 2) := by decide +kernel
theorem dX12_pairs_60 : decode cX12_pairs 60 = .ok (.iload_n 3, 1) := by decide +kernel
theorem dX12_pairs_61 : decode cX12_pairs 61 = .ok (.imul, 1) := by decide +kernel
theorem dX12_pairs_62 : decode cX12_pairs 62 = .ok (.iload 4, 2) := by decide +kernel
theorem dX12_pairs_64 : decode cX12_pairs 64 = .ok (.iadd, 1) := by decide +kernel
theorem dX12_pairs_65 : decode cX12_pairs 65 = .ok (.iconst 1, 1) := by decide +kernel
theorem dX12_pairs_66 : decode cX12_pairs 66 = .ok (.isub, 1) := by decide +kernel
theorem dX12_pairs_67 : decode cX12_pairs 67 = .ok (.iaload, 1) := by decide +kernel
theorem dX12_pairs_68 : decode cX12_pairs 68 = .ok (.istore 7, 2) := by decide +kernel
theorem dX12_pairs_70 : decode cX12_pairs 70 = .ok (.aload_n 0, 1) := by decide +kernel
theorem dX12_pairs_71 : decode cX12_pairs 71 = .ok (.iload_n 1, 1) := by decide +kernel
theorem dX12_pairs_72 : decode cX12_pairs 72 = .ok (.iload_n 3, 1) := by decide +kernel
theorem dX12_pairs_73 : decode cX12_pairs 73 = .ok (.iconst 1, 1) := by decide +kernel
theorem dX12_pairs_74 : decode cX12_pairs 74 = .ok (.isub, 1) := by decide +kernel
theorem dX12_pairs_75 : decode cX12_pairs 75 = .ok (.iload_n 2, 1) := by decide +kernel
theorem dX12_pairs_76 : decode cX12_pairs 76 = .ok (.iload 4, 2) := by decide +kernel
theorem dX12_pairs_78 : decode cX12_pairs 78 = .ok (.iconst 1, 1) := by decide +kernel
theorem dX12_pairs_79 : decode cX12_pairs 79 = .ok (.isub, 1) := by decide +kernel
theorem dX12_pairs_80 : decode cX12_pairs 80 = .ok (.invokevirtual 209, 3) := by decide +kernel
theorem dX12_pairs_83 : decode cX12_pairs 83 = .ok (.ifCond .eq 24, 3) := by decide +kernel
theorem dX12_pairs_86 : decode cX12_pairs 86 = .ok (.aload_n 0, 1) := by decide +kernel
theorem dX12_pairs_87 : decode cX12_pairs 87 = .ok (.getfield 48, 3) := by decide +kernel
theorem dX12_pairs_90 : decode cX12_pairs 90 = .ok (.bipush 61, 2) := by decide +kernel
theorem dX12_pairs_92 : decode cX12_pairs 92 = .ok (.iload_n 3, 1) := by decide +kernel
theorem dX12_pairs_93 : decode cX12_pairs 93 = .ok (.iconst 1, 1) := by decide +kernel
theorem dX12_pairs_94 : decode cX12_pairs 94 = .ok (.isub, 1) := by decide +kernel
theorem dX12_pairs_95 : decode cX12_pairs 95 = .ok (.imul, 1) := by decide +kernel
theorem dX12_pairs_96 : decode cX12_pairs 96 = .ok (.iload 4, 2) := by decide +kernel
theorem dX12_pairs_98 : decode cX12_pairs 98 = .ok (.iadd, 1) := by decide +kernel
theorem dX12_pairs_99 : decode cX12_pairs 99 = .ok (.iconst 1, 1) := by decide +kernel
theorem dX12_pairs_100 : decode cX12_pairs 100 = .ok (.isub, 1) := by decide +kernel
theorem dX12_pairs_101 : decode cX12_pairs 101 = .ok (.iaload, 1) := by decide +kernel
theorem dX12_pairs_102 : decode cX12_pairs 102 = .ok (.iconst 1, 1) := by decide +kernel
theorem dX12_pairs_103 : decode cX12_pairs 103 = .ok (.iadd, 1) := by decide +kernel
theorem dX12_pairs_104 : decode cX12_pairs 104 = .ok (.goto 4, 3) := by decide +kernel
theorem dX12_pairs_107 : decode cX12_pairs 107 = .ok (.iconst 0, 1) := by decide +kernel
theorem dX12_pairs_108 : decode cX12_pairs 108 = .ok (.istore 8, 2) := by decide +kernel
theorem dX12_pairs_110 : decode cX12_pairs 110 = .ok (.iload 6, 2) := by decide +kernel
theorem dX12_pairs_112 : decode cX12_pairs 112 = .ok (.iload 7, 2) := by decide +kernel
theorem dX12_pairs_114 : decode cX12_pairs 114 = .ok (.if_icmp .le 8, 3) := by decide +kernel
theorem dX12_pairs_117 : decode cX12_pairs 117 = .ok (.iload 6, 2) := by decide +kernel
theorem dX12_pairs_119 : decode cX12_pairs 119 = .ok (.goto 5, 3) := by decide +kernel
theorem dX12_pairs_122 : decode cX12_pairs 122 = .ok (.iload 7, 2) := by decide +kernel
theorem dX12_pairs_124 : decode cX12_pairs 124 = .ok (.istore 5, 2) := by decide +kernel
theorem dX12_pairs_126 : decode cX12_pairs 126 = .ok (.iload 8, 2) := by decide +kernel
theorem dX12_pairs_128 : decode cX12_pairs 128 = .ok (.iload 5, 2) := by decide +kernel
theorem dX12_pairs_130 : decode cX12_pairs 130 = .ok (.if_icmp .le 8, 3) := by decide +kernel
theorem dX12_pairs_133 : decode cX12_pairs 133 = .ok (.iload 8, 2) := by decide +kernel
theorem dX12_pairs_135 : decode cX12_pairs 135 = .ok (.goto 5, 3) := by decide +kernel
theorem dX12_pairs_138 : decode cX12_pairs 138 = .ok (.iload 5, 2) := by decide +kernel
theorem dX12_pairs_140 : decode cX12_pairs 140 = .ok (.istore 5, 2) := by decide +kernel
theorem dX12_pairs_142 : decode cX12_pairs 142 = .ok (.aload_n 0, 1) := by decide +kernel
theorem dX12_pairs_143 : decode cX12_pairs 143 = .ok (.getfield 48, 3) := by decide +kernel
theorem dX12_pairs_146 : decode cX12_pairs 146 = .ok (.bipush 61, 2) := by decide +kernel
theorem dX12_pairs_148 : decode cX12_pairs 148 = .ok (.iload_n 3, 1) := by decide +kernel
theorem dX12_pairs_149 : decode cX12_pairs 149 = .ok (.imul, 1) := by decide +kernel
theorem dX12_pairs_150 : decode cX12_pairs 150 = .ok (.iload 4, 2) := by decide +kernel
theorem dX12_pairs_152 : decode cX12_pairs 152 = .ok (.iadd, 1) := by decide +kernel
theorem dX12_pairs_153 : decode cX12_pairs 153 = .ok (.iload 5, 2) := by decide +kernel
theorem dX12_pairs_155 : decode cX12_pairs 155 = .ok (.iastore, 1) := by decide +kernel
theorem dX12_pairs_156 : decode cX12_pairs 156 = .ok (.iinc 4 1, 3) := by decide +kernel
theorem dX12_pairs_159 : decode cX12_pairs 159 = .ok (.goto (-144), 3) := by decide +kernel
theorem dX12_pairs_162 : decode cX12_pairs 162 = .ok (.iinc 3 1, 3) := by decide +kernel
theorem dX12_pairs_165 : decode cX12_pairs 165 = .ok (.goto (-163), 3) := by decide +kernel
theorem dX12_pairs_168 : decode cX12_pairs 168 = .ok (.aload_n 0, 1) := by decide +kernel
theorem dX12_pairs_169 : decode cX12_pairs 169 = .ok (.getfield 48, 3) := by decide +kernel
theorem dX12_pairs_172 : decode cX12_pairs 172 = .ok (.bipush 61, 2) := by decide +kernel
theorem dX12_pairs_174 : decode cX12_pairs 174 = .ok (.aload_n 0, 1) := by decide +kernel
theorem dX12_pairs_175 : decode cX12_pairs 175 = .ok (.getfield 28, 3) := by decide +kernel
theorem dX12_pairs_178 : decode cX12_pairs 178 = .ok (.iload_n 1, 1) := by decide +kernel
theorem dX12_pairs_179 : decode cX12_pairs 179 = .ok (.iaload, 1) := by decide +kernel
theorem dX12_pairs_180 : decode cX12_pairs 180 = .ok (.imul, 1) := by decide +kernel
theorem dX12_pairs_181 : decode cX12_pairs 181 = .ok (.aload_n 0, 1) := by decide +kernel
theorem dX12_pairs_182 : decode cX12_pairs 182 = .ok (.getfield 28, 3) := by decide +kernel
theorem dX12_pairs_185 : decode cX12_pairs 185 = .ok (.iload_n 2, 1) := by decide +kernel
theorem dX12_pairs_186 : decode cX12_pairs 186 = .ok (.iaload, 1) := by decide +kernel
theorem dX12_pairs_187 : decode cX12_pairs 187 = .ok (.iadd, 1) := by decide +kernel
theorem dX12_pairs_188 : decode cX12_pairs 188 = .ok (.iaload, 1) := by decide +kernel
theorem dX12_pairs_189 : decode cX12_pairs 189 = .ok (.ireturn, 1) := by decide +kernel
theorem dX12_align_0 : decode cX12_align 0 = .ok (.aload_n 0, 1) := by decide +kernel
theorem dX12_align_1 : decode cX12_align 1 = .ok (.iload_n 1, 1) := by decide +kernel
theorem dX12_align_2 : decode cX12_align 2 = .ok (.invokevirtual 154, 3) := by decide +kernel
theorem dX12_align_5 : decode cX12_align 5 = .ok (.ifCond .eq 15, 3) := by decide +kernel
theorem dX12_align_8 : decode cX12_align 8 = .ok (.aload_n 0, 1) := by decide +kernel
theorem dX12_align_9 : decode cX12_align 9 = .ok (.iload_n 2, 1) := by decide +kernel
theorem dX12_align_10 : decode cX12_align 10 = .ok (.invokevirtual 154, 3) := by decide +kernel
theorem dX12_align_13 : decode cX12_align 13 = .ok (.ifCond .eq 7, 3) := by decide +kernel
theorem dX12_align_16 : decode cX12_align 16 = .ok (.iconst 1, 1) := by decide +kernel
theorem dX12_align_17 : decode cX12_align 17 = .ok (.goto 4, 3) := by decide +kernel
theorem dX12_align_20 : decode cX12_align 20 = .ok (.iconst 0, 1) := by decide +kernel
theorem dX12_align_21 : decode cX12_align 21 = .ok (.istore_n 3, 1) := by decide +kernel
theorem dX12_align_22 : decode cX12_align 22 = .ok (.aload_n 0, 1) := by decide +kernel
theorem dX12_align_23 : decode cX12_align 23 = .ok (.iload_n 3, 1) := by decide +kernel
theorem dX12_align_24 : decode cX12_align 24 = .ok (.ifCond .ne 7, 3) := by decide +kernel
theorem dX12_align_27 : decode cX12_align 27 = .ok (.iconst 1, 1) := by decide +kernel
theorem dX12_align_28 : decode cX12_align 28 = .ok (.goto 24, 3) := by decide +kernel
theorem dX12_align_31 : decode cX12_align 31 = .ok (.aload_n 0, 1) := by decide +kernel
theorem dX12_align_32 : decode cX12_align 32 = .ok (.iload_n 1, 1) := by decide +kernel
theorem dX12_align_33 : decode cX12_align 33 = .ok (.invokevirtual 175, 3) := by decide +kernel
theorem dX12_align_36 : decode cX12_align 36 = .ok (.ifCond .eq 15, 3) := by decide +kernel
theorem dX12_align_39 : decode cX12_align 39 = .ok (.aload_n 0, 1) := by decide +kernel
theorem dX12_align_40 : decode cX12_align 40 = .ok (.iload_n 2, 1) := by decide +kernel
theorem dX12_align_41 : decode cX12_align 41 = .ok (.invokevirtual 175, 3) := by decide +kernel
theorem dX12_align_44 : decode cX12_align 44 = .ok (.ifCond .eq 7, 3) := by decide +kernel
theorem dX12_align_47 : decode cX12_align 47 = .ok (.iconst 0, 1) := by decide +kernel
theorem dX12_align_48 : decode cX12_align 48 = .ok (.goto 4, 3) := by decide +kernel
theorem dX12_align_51 : decode cX12_align 51 = .ok (.iconst 2, 1) := by decide +kernel
theorem dX12_align_52 : decode cX12_align 52 = .ok (.invokevirtual 158, 3) := by decide +kernel
theorem dX12_align_55 : decode cX12_align 55 = .ok (.ifCond .eq 5, 3) := by decide +kernel
theorem dX12_align_58 : decode cX12_align 58 = .ok (.iconst (-1), 1) := by decide +kernel
theorem dX12_align_59 : decode cX12_align 59 = .ok (.ireturn, 1) := by decide +kernel
theorem dX12_align_60 : decode cX12_align 60 = .ok (.aload_n 0, 1) := by decide +kernel
theorem dX12_align_61 : decode cX12_align 61 = .ok (.iload_n 1, 1) := by decide +kernel
theorem dX12_align_62 : decode cX12_align 62 = .ok (.iload_n 2, 1) := by decide +kernel
theorem dX12_align_63 : decode cX12_align 63 = .ok (.invokevirtual 213, 3) := by decide +kernel
theorem dX12_align_66 : decode cX12_align 66 = .ok (.ireturn, 1) := by decide +kernel
theorem dX12_pairOf_0 : decode cX12_pairOf 0 = .ok (.aload_n 0, 1) := by decide +kernel
theorem dX12_pairOf_1 : decode cX12_pairOf 1 = .ok (.iload_n 1, 1) := by decide +kernel
theorem dX12_pairOf_2 : decode cX12_pairOf 2 = .ok (.iload_n 2, 1) := by decide +kernel
theorem dX12_pairOf_3 : decode cX12_pairOf 3 = .ok (.invokevirtual 167, 3) := by decide +kernel
theorem dX12_pairOf_6 : decode cX12_pairOf 6 = .ok (.ifCond .eq 15, 3) := by decide +kernel
theorem dX12_pairOf_9 : decode cX12_pairOf 9 = .ok (.aload_n 0, 1) := by decide +kernel
theorem dX12_pairOf_10 : decode cX12_pairOf 10 = .ok (.iload_n 3, 1) := by decide +kernel
theorem dX12_pairOf_11 : decode cX12_pairOf 11 = .ok (.invokevirtual 154, 3) := by decide +kernel
theorem dX12_pairOf_14 : decode cX12_pairOf 14 = .ok (.ifCond .eq 7, 3) := by decide +kernel
theorem dX12_pairOf_17 : decode cX12_pairOf 17 = .ok (.iconst 1, 1) := by decide +kernel
theorem dX12_pairOf_18 : decode cX12_pairOf 18 = .ok (.goto 4, 3) := by decide +kernel
theorem dX12_pairOf_21 : decode cX12_pairOf 21 = .ok (.iconst 0, 1) := by decide +kernel
theorem dX12_pairOf_22 : decode cX12_pairOf 22 = .ok (.istore 4, 2) := by decide +kernel
theorem dX12_pairOf_24 : decode cX12_pairOf 24 = .ok (.aload_n 0, 1) := by decide +kernel
theorem dX12_pairOf_25 : decode cX12_pairOf 25 = .ok (.iload 4, 2) := by decide +kernel
theorem dX12_pairOf_27 : decode cX12_pairOf 27 = .ok (.ifCond .ne 7, 3) := by decide +kernel
theorem dX12_pairOf_30 : decode cX12_pairOf 30 = .ok (.iconst 1, 1) := by decide +kernel
theorem dX12_pairOf_31 : decode cX12_pairOf 31 = .ok (.goto 24, 3) := by decide +kernel
theorem dX12_pairOf_34 : decode cX12_pairOf 34 = .ok (.aload_n 0, 1) := by decide +kernel
theorem dX12_pairOf_35 : decode cX12_pairOf 35 = .ok (.iload_n 1, 1) := by decide +kernel
theorem dX12_pairOf_36 : decode cX12_pairOf 36 = .ok (.invokevirtual 175, 3) := by decide +kernel
theorem dX12_pairOf_39 : decode cX12_pairOf 39 = .ok (.ifCond .eq 15, 3) := by decide +kernel
theorem dX12_pairOf_42 : decode cX12_pairOf 42 = .ok (.aload_n 0, 1) := by decide +kernel
theorem dX12_pairOf_43 : decode cX12_pairOf 43 = .ok (.iload_n 3, 1) := by decide +kernel
theorem dX12_pairOf_44 : decode cX12_pairOf 44 = .ok (.invokevirtual 175, 3) := by decide +kernel
theorem dX12_pairOf_47 : decode cX12_pairOf 47 = .ok (.ifCond .eq 7, 3) := by decide +kernel
theorem dX12_pairOf_50 : decode cX12_pairOf 50 = .ok (.iconst 0, 1) := by decide +kernel
theorem dX12_pairOf_51 : decode cX12_pairOf 51 = .ok (.goto 4, 3) := by decide +kernel
theorem dX12_pairOf_54 : decode cX12_pairOf 54 = .ok (.iconst 2, 1) := by decide +kernel
theorem dX12_pairOf_55 : decode cX12_pairOf 55 = .ok (.invokevirtual 158, 3) := by decide +kernel
theorem dX12_pairOf_58 : decode cX12_pairOf 58 = .ok (.ifCond .eq 5, 3) := by decide +kernel
theorem dX12_pairOf_61 : decode cX12_pairOf 61 = .ok (.iconst (-1), 1) := by decide +kernel
theorem dX12_pairOf_62 : decode cX12_pairOf 62 = .ok (.ireturn, 1) := by decide +kernel
theorem dX12_pairOf_63 : decode cX12_pairOf 63 = .ok (.aload_n 0, 1) := by decide +kernel
theorem dX12_pairOf_64 : decode cX12_pairOf 64 = .ok (.iload_n 1, 1) := by decide +kernel
theorem dX12_pairOf_65 : decode cX12_pairOf 65 = .ok (.iload_n 3, 1) := by decide +kernel
theorem dX12_pairOf_66 : decode cX12_pairOf 66 = .ok (.invokevirtual 213, 3) := by decide +kernel
theorem dX12_pairOf_69 : decode cX12_pairOf 69 = .ok (.istore 5, 2) := by decide +kernel
theorem dX12_pairOf_71 : decode cX12_pairOf 71 = .ok (.aload_n 0, 1) := by decide +kernel
theorem dX12_pairOf_72 : decode cX12_pairOf 72 = .ok (.getfield 28, 3) := by decide +kernel
theorem dX12_pairOf_75 : decode cX12_pairOf 75 = .ok (.iload_n 1, 1) := by decide +kernel
theorem dX12_pairOf_76 : decode cX12_pairOf 76 = .ok (.iaload, 1) := by decide +kernel
theorem dX12_pairOf_77 : decode cX12_pairOf 77 = .ok (.istore 6, 2) := by decide +kernel
theorem dX12_pairOf_79 : decode cX12_pairOf 79 = .ok (.aload_n 0, 1) := by decide +kernel
theorem dX12_pairOf_80 : decode cX12_pairOf 80 = .ok (.getfield 28, 3) := by decide +kernel
theorem dX12_pairOf_83 : decode cX12_pairOf 83 = .ok (.iload_n 3, 1) := by decide +kernel
theorem dX12_pairOf_84 : decode cX12_pairOf 84 = .ok (.iaload, 1) := by decide +kernel
theorem dX12_pairOf_85 : decode cX12_pairOf 85 = .ok (.istore 7, 2) := by decide +kernel
theorem dX12_pairOf_87 : decode cX12_pairOf 87 = .ok (.iload 6, 2) := by decide +kernel
theorem dX12_pairOf_89 : decode cX12_pairOf 89 = .ok (.iload_n 2, 1) := by decide +kernel
theorem dX12_pairOf_90 : decode cX12_pairOf 90 = .ok (.if_icmp .le 118, 3) := by decide +kernel
theorem dX12_pairOf_93 : decode cX12_pairOf 93 = .ok (.iload 7, 2) := by decide +kernel
theorem dX12_pairOf_95 : decode cX12_pairOf 95 = .ok (.ifCond .le 113, 3) := by decide +kernel
theorem dX12_pairOf_98 : decode cX12_pairOf 98 = .ok (.aload_n 0, 1) := by decide +kernel
theorem dX12_pairOf_99 : decode cX12_pairOf 99 = .ok (.iload_n 1, 1) := by decide +kernel
theorem dX12_pairOf_100 : decode cX12_pairOf 100 = .ok (.iload 6, 2) := by decide +kernel
theorem dX12_pairOf_102 : decode cX12_pairOf 102 = .ok (.iconst 1, 1) := by decide +kernel
theorem dX12_pairOf_103 : decode cX12_pairOf 103 = .ok (.isub, 1) := by decide +kernel
theorem dX12_pairOf_104 : decode cX12_pairOf 104 = .ok (.iload_n 3, 1) := by decide +kernel
theorem dX12_pairOf_105 : decode cX12_pairOf 105 = .ok (.iload 7, 2) := by decide +kernel
theorem dX12_pairOf_107 : decode cX12_pairOf 107 = .ok (.iconst 1, 1) := by decide +kernel
theorem dX12_pairOf_108 : decode cX12_pairOf 108 = .ok (.isub, 1) := by decide +kernel
theorem dX12_pairOf_109 : decode cX12_pairOf 109 = .ok (.invokevirtual 209, 3) := by decide +kernel
theorem dX12_pairOf_112 : decode cX12_pairOf 112 = .ok (.ifCond .eq 53, 3) := by decide +kernel
theorem dX12_pairOf_115 : decode cX12_pairOf 115 = .ok (.aload_n 0, 1) := by decide +kernel
theorem dX12_pairOf_116 : decode cX12_pairOf 116 = .ok (.getfield 48, 3) := by decide +kernel
theorem dX12_pairOf_119 : decode cX12_pairOf 119 = .ok (.bipush 61, 2) := by decide +kernel
theorem dX12_pairOf_121 : decode cX12_pairOf 121 = .ok (.iload 6, 2) := by decide +kernel
theorem dX12_pairOf_123 : decode cX12_pairOf 123 = .ok (.iconst 1, 1) := by decide +kernel
theorem dX12_pairOf_124 : decode cX12_pairOf 124 = .ok (.isub, 1) := by decide +kernel
theorem dX12_pairOf_125 : decode cX12_pairOf 125 = .ok (.imul, 1) := by decide +kernel
theorem dX12_pairOf_126 : decode cX12_pairOf 126 = .ok (.iload 7, 2) := by decide +kernel
theorem dX12_pairOf_128 : decode cX12_pairOf 128 = .ok (.iadd, 1) := by decide +kernel
theorem dX12_pairOf_129 : decode cX12_pairOf 129 = .ok (.iconst 1, 1) := by decide +kernel
theorem dX12_pairOf_130 : decode cX12_pairOf 130 = .ok (.isub, 1) := by decide +kernel
theorem dX12_pairOf_131 : decode cX12_pairOf 131 = .ok (.iaload, 1) := by decide +kernel
theorem dX12_pairOf_132 : decode cX12_pairOf 132 = .ok (.iconst 1, 1) := by decide +kernel
theorem dX12_pairOf_133 : decode cX12_pairOf 133 = .ok (.iadd, 1) := by decide +kernel
theorem dX12_pairOf_134 : decode cX12_pairOf 134 = .ok (.aload_n 0, 1) := by decide +kernel
theorem dX12_pairOf_135 : decode cX12_pairOf 135 = .ok (.getfield 48, 3) := by decide +kernel
theorem dX12_pairOf_138 : decode cX12_pairOf 138 = .ok (.bipush 61, 2) := by decide +kernel
theorem dX12_pairOf_140 : decode cX12_pairOf 140 = .ok (.iload 6, 2) := by decide +kernel
theorem dX12_pairOf_142 : decode cX12_pairOf 142 = .ok (.imul, 1) := by decide +kernel
theorem dX12_pairOf_143 : decode cX12_pairOf 143 = .ok (.iload 7, 2) := by decide +kernel
theorem dX12_pairOf_145 : decode cX12_pairOf 145 = .ok (.iadd, 1) := by decide +kernel
theorem dX12_pairOf_146 : decode cX12_pairOf 146 = .ok (.iaload, 1) := by decide +kernel
theorem dX12_pairOf_147 : decode cX12_pairOf 147 = .ok (.if_icmp .ne 18, 3) := by decide +kernel
theorem dX12_pairOf_150 : decode cX12_pairOf 150 = .ok (.iinc 6 (-1), 3) := by decide +kernel
theorem dX12_pairOf_153 : decode cX12_pairOf 153 = .ok (.iinc 7 (-1), 3) := by decide +kernel
theorem dX12_pairOf_156 : decode cX12_pairOf 156 = .ok (.iload 6, 2) := by decide +kernel
theorem dX12_pairOf_158 : decode cX12_pairOf 158 = .ok (.iload_n 2, 1) := by decide +kernel
theorem dX12_pairOf_159 : decode cX12_pairOf 159 = .ok (.if_icmp .ne (-72), 3) := by decide +kernel
theorem dX12_pairOf_162 : decode cX12_pairOf 162 = .ok (.iload 7, 2) := by decide +kernel
theorem dX12_pairOf_164 : decode cX12_pairOf 164 = .ok (.ireturn, 1) := by decide +kernel
theorem dX12_pairOf_165 : decode cX12_pairOf 165 = .ok (.aload_n 0, 1) := by decide +kernel
theorem dX12_pairOf_166 : decode cX12_pairOf 166 = .ok (.getfield 48, 3) := by decide +kernel
theorem dX12_pairOf_169 : decode cX12_pairOf 169 = .ok (.bipush 61, 2) := by decide +kernel
theorem dX12_pairOf_171 : decode cX12_pairOf 171 = .ok (.iload 6, 2) := by decide +kernel
theorem dX12_pairOf_173 : decode cX12_pairOf 173 = .ok (.iconst 1, 1) := by decide +kernel
theorem dX12_pairOf_174 : decode cX12_pairOf 174 = .ok (.isub, 1) := by decide +kernel
theorem dX12_pairOf_175 : decode cX12_pairOf 175 = .ok (.imul, 1) := by decide +kernel
theorem dX12_pairOf_176 : decode cX12_pairOf 176 = .ok (.iload 7, 2) := by decide +kernel
theorem dX12_pairOf_178 : decode cX12_pairOf 178 = .ok (.iadd, 1) := by decide +kernel
theorem dX12_pairOf_179 : decode cX12_pairOf 179 = .ok (.iaload, 1) := by decide +kernel
theorem dX12_pairOf_180 : decode cX12_pairOf 180 = .ok (.aload_n 0, 1) := by decide +kernel
theorem dX12_pairOf_181 : decode cX12_pairOf 181 = .ok (.getfield 48, 3) := by decide +kernel
theorem dX12_pairOf_184 : decode cX12_pairOf 184 = .ok (.bipush 61, 2) := by decide +kernel
theorem dX12_pairOf_186 : decode cX12_pairOf 186 = .ok (.iload 6, 2) := by decide +kernel
theorem dX12_pairOf_188 : decode cX12_pairOf 188 = .ok (.imul, 1) := by decide +kernel
theorem dX12_pairOf_189 : decode cX12_pairOf 189 = .ok (.iload 7, 2) := by decide +kernel
theorem dX12_pairOf_191 : decode cX12_pairOf 191 = .ok (.iadd, 1) := by decide +kernel
theorem dX12_pairOf_192 : decode cX12_pairOf 192 = .ok (.iaload, 1) := by decide +kernel
theorem dX12_pairOf_193 : decode cX12_pairOf 193 = .ok (.if_icmp .ne 9, 3) := by decide +kernel
theorem dX12_pairOf_196 : decode cX12_pairOf 196 = .ok (.iinc 6 (-1), 3) := by decide +kernel
theorem dX12_pairOf_199 : decode cX12_pairOf 199 = .ok (.goto (-112), 3) := by decide +kernel
theorem dX12_pairOf_202 : decode cX12_pairOf 202 = .ok (.iinc 7 (-1), 3) := by decide +kernel
theorem dX12_pairOf_205 : decode cX12_pairOf 205 = .ok (.goto (-118), 3) := by decide +kernel
theorem dX12_pairOf_208 : decode cX12_pairOf 208 = .ok (.iconst (-1), 1) := by decide +kernel
theorem dX12_pairOf_209 : decode cX12_pairOf 209 = .ok (.ireturn, 1) := by decide +kernel
theorem dX12_alike_0 : decode cX12_alike 0 = .ok (.aload_n 0, 1) := by decide +kernel
theorem dX12_alike_1 : decode cX12_alike 1 = .ok (.aload_n 0, 1) := by decide +kernel
theorem dX12_alike_2 : decode cX12_alike 2 = .ok (.iload_n 1, 1) := by decide +kernel
theorem dX12_alike_3 : decode cX12_alike 3 = .ok (.iload_n 2, 1) := by decide +kernel
theorem dX12_alike_4 : decode cX12_alike 4 = .ok (.invokevirtual 167, 3) := by decide +kernel
theorem dX12_alike_7 : decode cX12_alike 7 = .ok (.ifCond .eq 17, 3) := by decide +kernel
theorem dX12_alike_10 : decode cX12_alike 10 = .ok (.aload_n 0, 1) := by decide +kernel
theorem dX12_alike_11 : decode cX12_alike 11 = .ok (.iload_n 3, 1) := by decide +kernel
theorem dX12_alike_12 : decode cX12_alike 12 = .ok (.iload 4, 2) := by decide +kernel
theorem dX12_alike_14 : decode cX12_alike 14 = .ok (.invokevirtual 167, 3) := by decide +kernel
theorem dX12_alike_17 : decode cX12_alike 17 = .ok (.ifCond .eq 7, 3) := by decide +kernel
theorem dX12_alike_20 : decode cX12_alike 20 = .ok (.iconst 0, 1) := by decide +kernel
theorem dX12_alike_21 : decode cX12_alike 21 = .ok (.goto 4, 3) := by decide +kernel
theorem dX12_alike_24 : decode cX12_alike 24 = .ok (.iconst 1, 1) := by decide +kernel
theorem dX12_alike_25 : decode cX12_alike 25 = .ok (.invokevirtual 158, 3) := by decide +kernel
theorem dX12_alike_28 : decode cX12_alike 28 = .ok (.ifCond .eq 6, 3) := by decide +kernel
theorem dX12_alike_31 : decode cX12_alike 31 = .ok (.ldc 217, 2) := by decide +kernel
theorem dX12_alike_33 : decode cX12_alike 33 = .ok (.freturn, 1) := by decide +kernel
theorem dX12_alike_34 : decode cX12_alike 34 = .ok (.fconst 1, 1) := by decide +kernel
theorem dX12_alike_35 : decode cX12_alike 35 = .ok (.aload_n 0, 1) := by decide +kernel
theorem dX12_alike_36 : decode cX12_alike 36 = .ok (.aload_n 0, 1) := by decide +kernel
theorem dX12_alike_37 : decode cX12_alike 37 = .ok (.getfield 34, 3) := by decide +kernel
theorem dX12_alike_40 : decode cX12_alike 40 = .ok (.bipush 60, 2) := by decide +kernel
theorem dX12_alike_42 : decode cX12_alike 42 = .ok (.iload_n 1, 1) := by decide +kernel
theorem dX12_alike_43 : decode cX12_alike 43 = .ok (.imul, 1) := by decide +kernel
theorem dX12_alike_44 : decode cX12_alike 44 = .ok (.iload_n 2, 1) := by decide +kernel
theorem dX12_alike_45 : decode cX12_alike 45 = .ok (.iadd, 1) := by decide +kernel
theorem dX12_alike_46 : decode cX12_alike 46 = .ok (.laload, 1) := by decide +kernel
theorem dX12_alike_47 : decode cX12_alike 47 = .ok (.aload_n 0, 1) := by decide +kernel
theorem dX12_alike_48 : decode cX12_alike 48 = .ok (.getfield 34, 3) := by decide +kernel
theorem dX12_alike_51 : decode cX12_alike 51 = .ok (.bipush 60, 2) := by decide +kernel
theorem dX12_alike_53 : decode cX12_alike 53 = .ok (.iload_n 3, 1) := by decide +kernel
theorem dX12_alike_54 : decode cX12_alike 54 = .ok (.imul, 1) := by decide +kernel
theorem dX12_alike_55 : decode cX12_alike 55 = .ok (.iload 4, 2) := by decide +kernel
theorem dX12_alike_57 : decode cX12_alike 57 = .ok (.iadd, 1) := by decide +kernel
theorem dX12_alike_58 : decode cX12_alike 58 = .ok (.laload, 1) := by decide +kernel
theorem dX12_alike_59 : decode cX12_alike 59 = .ok (.invokevirtual 205, 3) := by decide +kernel
theorem dX12_alike_62 : decode cX12_alike 62 = .ok (.i2f, 1) := by decide +kernel
theorem dX12_alike_63 : decode cX12_alike 63 = .ok (.ldc 218, 2) := by decide +kernel
theorem dX12_alike_65 : decode cX12_alike 65 = .ok (.fdiv, 1) := by decide +kernel
theorem dX12_alike_66 : decode cX12_alike 66 = .ok (.fsub, 1) := by decide +kernel
theorem dX12_alike_67 : decode cX12_alike 67 = .ok (.freturn, 1) := by decide +kernel
theorem dX12_isVersion_0 : decode cX12_isVersion 0 = .ok (.aload_n 0, 1) := by decide +kernel
theorem dX12_isVersion_1 : decode cX12_isVersion 1 = .ok (.iload_n 1, 1) := by decide +kernel
theorem dX12_isVersion_2 : decode cX12_isVersion 2 = .ok (.iconst 0, 1) := by decide +kernel
theorem dX12_isVersion_3 : decode cX12_isVersion 3 = .ok (.aload_n 0, 1) := by decide +kernel
theorem dX12_isVersion_4 : decode cX12_isVersion 4 = .ok (.getfield 219, 3) := by decide +kernel
theorem dX12_isVersion_7 : decode cX12_isVersion 7 = .ok (.iconst 1, 1) := by decide +kernel
theorem dX12_isVersion_8 : decode cX12_isVersion 8 = .ok (.isub, 1) := by decide +kernel
theorem dX12_isVersion_9 : decode cX12_isVersion 9 = .ok (.invokevirtual 146, 3) := by decide +kernel
theorem dX12_isVersion_12 : decode cX12_isVersion 12 = .ok (.ireturn, 1) := by decide +kernel
theorem dX12_version_0 : decode cX12_version 0 = .ok (.aload_n 0, 1) := by decide +kernel
theorem dX12_version_1 : decode cX12_version 1 = .ok (.aload_n 0, 1) := by decide +kernel
theorem dX12_version_2 : decode cX12_version 2 = .ok (.iload_n 1, 1) := by decide +kernel
theorem dX12_version_3 : decode cX12_version 3 = .ok (.iconst 0, 1) := by decide +kernel
theorem dX12_version_4 : decode cX12_version 4 = .ok (.iconst 3, 1) := by decide +kernel
theorem dX12_version_5 : decode cX12_version 5 = .ok (.invokevirtual 146, 3) := by decide +kernel
theorem dX12_version_8 : decode cX12_version 8 = .ok (.ifCond .eq 17, 3) := by decide +kernel
theorem dX12_version_11 : decode cX12_version 11 = .ok (.aload_n 0, 1) := by decide +kernel
theorem dX12_version_12 : decode cX12_version 12 = .ok (.iload_n 2, 1) := by decide +kernel
theorem dX12_version_13 : decode cX12_version 13 = .ok (.sipush 1890, 3) := by decide +kernel
theorem dX12_version_16 : decode cX12_version 16 = .ok (.sipush 2100, 3) := by decide +kernel
theorem dX12_version_19 : decode cX12_version 19 = .ok (.invokevirtual 146, 3) := by decide +kernel
theorem dX12_version_22 : decode cX12_version 22 = .ok (.ifCond .ne 7, 3) := by decide +kernel
theorem dX12_version_25 : decode cX12_version 25 = .ok (.iconst 1, 1) := by decide +kernel
theorem dX12_version_26 : decode cX12_version 26 = .ok (.goto 17, 3) := by decide +kernel
theorem dX12_version_29 : decode cX12_version 29 = .ok (.aload_n 0, 1) := by decide +kernel
theorem dX12_version_30 : decode cX12_version 30 = .ok (.getfield 219, 3) := by decide +kernel
theorem dX12_version_33 : decode cX12_version 33 = .ok (.bipush 6, 2) := by decide +kernel
theorem dX12_version_35 : decode cX12_version 35 = .ok (.if_icmp .ne 7, 3) := by decide +kernel
theorem dX12_version_38 : decode cX12_version 38 = .ok (.iconst 2, 1) := by decide +kernel
theorem dX12_version_39 : decode cX12_version 39 = .ok (.goto 4, 3) := by decide +kernel
theorem dX12_version_42 : decode cX12_version 42 = .ok (.iconst 0, 1) := by decide +kernel
theorem dX12_version_43 : decode cX12_version 43 = .ok (.invokevirtual 158, 3) := by decide +kernel
theorem dX12_version_46 : decode cX12_version 46 = .ok (.ifCond .eq 5, 3) := by decide +kernel
theorem dX12_version_49 : decode cX12_version 49 = .ok (.iconst (-1), 1) := by decide +kernel
theorem dX12_version_50 : decode cX12_version 50 = .ok (.ireturn, 1) := by decide +kernel
theorem dX12_version_51 : decode cX12_version 51 = .ok (.aload_n 0, 1) := by decide +kernel
theorem dX12_version_52 : decode cX12_version 52 = .ok (.getfield 51, 3) := by decide +kernel
theorem dX12_version_55 : decode cX12_version 55 = .ok (.aload_n 0, 1) := by decide +kernel
theorem dX12_version_56 : decode cX12_version 56 = .ok (.getfield 219, 3) := by decide +kernel
theorem dX12_version_59 : decode cX12_version 59 = .ok (.iload_n 1, 1) := by decide +kernel
theorem dX12_version_60 : decode cX12_version 60 = .ok (.iastore, 1) := by decide +kernel
theorem dX12_version_61 : decode cX12_version 61 = .ok (.aload_n 0, 1) := by decide +kernel
theorem dX12_version_62 : decode cX12_version 62 = .ok (.getfield 54, 3) := by decide +kernel
theorem dX12_version_65 : decode cX12_version 65 = .ok (.aload_n 0, 1) := by decide +kernel
theorem dX12_version_66 : decode cX12_version 66 = .ok (.getfield 219, 3) := by decide +kernel
theorem dX12_version_69 : decode cX12_version 69 = .ok (.iload_n 2, 1) := by decide +kernel
theorem dX12_version_70 : decode cX12_version 70 = .ok (.iastore, 1) := by decide +kernel
theorem dX12_version_71 : decode cX12_version 71 = .ok (.aload_n 0, 1) := by decide +kernel
theorem dX12_version_72 : decode cX12_version 72 = .ok (.dup, 1) := by decide +kernel
theorem dX12_version_73 : decode cX12_version 73 = .ok (.getfield 219, 3) := by decide +kernel
theorem dX12_version_76 : decode cX12_version 76 = .ok (.iconst 1, 1) := by decide +kernel
theorem dX12_version_77 : decode cX12_version 77 = .ok (.iadd, 1) := by decide +kernel
theorem dX12_version_78 : decode cX12_version 78 = .ok (.putfield 219, 3) := by decide +kernel
theorem dX12_version_81 : decode cX12_version 81 = .ok (.aload_n 0, 1) := by decide +kernel
theorem dX12_version_82 : decode cX12_version 82 = .ok (.getfield 219, 3) := by decide +kernel
theorem dX12_version_85 : decode cX12_version 85 = .ok (.iconst 1, 1) := by decide +kernel
theorem dX12_version_86 : decode cX12_version 86 = .ok (.isub, 1) := by decide +kernel
theorem dX12_version_87 : decode cX12_version 87 = .ok (.ireturn, 1) := by decide +kernel
theorem dX12_codes_0 : decode cX12_codes 0 = .ok (.iconst 0, 1) := by decide +kernel
theorem dX12_codes_1 : decode cX12_codes 1 = .ok (.istore_n 2, 1) := by decide +kernel
theorem dX12_codes_2 : decode cX12_codes 2 = .ok (.bipush 10, 2) := by decide +kernel
theorem dX12_codes_4 : decode cX12_codes 4 = .ok (.iload_n 1, 1) := by decide +kernel
theorem dX12_codes_5 : decode cX12_codes 5 = .ok (.imul, 1) := by decide +kernel
theorem dX12_codes_6 : decode cX12_codes 6 = .ok (.istore_n 3, 1) := by decide +kernel
theorem dX12_codes_7 : decode cX12_codes 7 = .ok (.iload_n 3, 1) := by decide +kernel
theorem dX12_codes_8 : decode cX12_codes 8 = .ok (.bipush 10, 2) := by decide +kernel
theorem dX12_codes_10 : decode cX12_codes 10 = .ok (.iload_n 1, 1) := by decide +kernel
theorem dX12_codes_11 : decode cX12_codes 11 = .ok (.imul, 1) := by decide +kernel
theorem dX12_codes_12 : decode cX12_codes 12 = .ok (.aload_n 0, 1) := by decide +kernel
theorem dX12_codes_13 : decode cX12_codes 13 = .ok (.getfield 60, 3) := by decide +kernel
theorem dX12_codes_16 : decode cX12_codes 16 = .ok (.iload_n 1, 1) := by decide +kernel
theorem dX12_codes_17 : decode cX12_codes 17 = .ok (.iaload, 1) := by decide +kernel
theorem dX12_codes_18 : decode cX12_codes 18 = .ok (.iadd, 1) := by decide +kernel
theorem dX12_codes_19 : decode cX12_codes 19 = .ok (.if_icmp .ge 27, 3) := by decide +kernel
theorem dX12_codes_22 : decode cX12_codes 22 = .ok (.iload_n 2, 1) := by decide +kernel
theorem dX12_codes_23 : decode cX12_codes 23 = .ok (.aload_n 0, 1) := by decide +kernel
theorem dX12_codes_24 : decode cX12_codes 24 = .ok (.getfield 66, 3) := by decide +kernel
theorem dX12_codes_27 : decode cX12_codes 27 = .ok (.iload_n 3, 1) := by decide +kernel
theorem dX12_codes_28 : decode cX12_codes 28 = .ok (.iaload, 1) := by decide +kernel
theorem dX12_codes_29 : decode cX12_codes 29 = .ok (.aload_n 0, 1) := by decide +kernel
theorem dX12_codes_30 : decode cX12_codes 30 = .ok (.getfield 63, 3) := by decide +kernel
theorem dX12_codes_33 : decode cX12_codes 33 = .ok (.iload_n 3, 1) := by decide +kernel
theorem dX12_codes_34 : decode cX12_codes 34 = .ok (.iaload, 1) := by decide +kernel
theorem dX12_codes_35 : decode cX12_codes 35 = .ok (.isub, 1) := by decide +kernel
theorem dX12_codes_36 : decode cX12_codes 36 = .ok (.iconst 1, 1) := by decide +kernel
theorem dX12_codes_37 : decode cX12_codes 37 = .ok (.iadd, 1) := by decide +kernel
theorem dX12_codes_38 : decode cX12_codes 38 = .ok (.iadd, 1) := by decide +kernel
theorem dX12_codes_39 : decode cX12_codes 39 = .ok (.istore_n 2, 1) := by decide +kernel
theorem dX12_codes_40 : decode cX12_codes 40 = .ok (.iinc 3 1, 3) := by decide +kernel
theorem dX12_codes_43 : decode cX12_codes 43 = .ok (.goto (-36), 3) := by decide +kernel
theorem dX12_codes_46 : decode cX12_codes 46 = .ok (.iload_n 2, 1) := by decide +kernel
theorem dX12_codes_47 : decode cX12_codes 47 = .ok (.ireturn, 1) := by decide +kernel
theorem dX12_shot_0 : decode cX12_shot 0 = .ok (.aload_n 0, 1) := by decide +kernel
theorem dX12_shot_1 : decode cX12_shot 1 = .ok (.iload_n 2, 1) := by decide +kernel
theorem dX12_shot_2 : decode cX12_shot 2 = .ok (.iconst 0, 1) := by decide +kernel
theorem dX12_shot_3 : decode cX12_shot 3 = .ok (.sipush 999, 3) := by decide +kernel
theorem dX12_shot_6 : decode cX12_shot 6 = .ok (.invokevirtual 146, 3) := by decide +kernel
theorem dX12_shot_9 : decode cX12_shot 9 = .ok (.ifCond .eq 19, 3) := by decide +kernel
theorem dX12_shot_12 : decode cX12_shot 12 = .ok (.aload_n 0, 1) := by decide +kernel
theorem dX12_shot_13 : decode cX12_shot 13 = .ok (.iload_n 3, 1) := by decide +kernel
theorem dX12_shot_14 : decode cX12_shot 14 = .ok (.iload_n 2, 1) := by decide +kernel
theorem dX12_shot_15 : decode cX12_shot 15 = .ok (.sipush 999, 3) := by decide +kernel
theorem dX12_shot_18 : decode cX12_shot 18 = .ok (.invokevirtual 146, 3) := by decide +kernel
theorem dX12_shot_21 : decode cX12_shot 21 = .ok (.ifCond .eq 7, 3) := by decide +kernel
theorem dX12_shot_24 : decode cX12_shot 24 = .ok (.iconst 1, 1) := by decide +kernel
theorem dX12_shot_25 : decode cX12_shot 25 = .ok (.goto 4, 3) := by decide +kernel
theorem dX12_shot_28 : decode cX12_shot 28 = .ok (.iconst 0, 1) := by decide +kernel
theorem dX12_shot_29 : decode cX12_shot 29 = .ok (.istore 4, 2) := by decide +kernel
theorem dX12_shot_31 : decode cX12_shot 31 = .ok (.aload_n 0, 1) := by decide +kernel
theorem dX12_shot_32 : decode cX12_shot 32 = .ok (.iload_n 1, 1) := by decide +kernel
theorem dX12_shot_33 : decode cX12_shot 33 = .ok (.invokevirtual 222, 3) := by decide +kernel
theorem dX12_shot_36 : decode cX12_shot 36 = .ok (.ifCond .ne 7, 3) := by decide +kernel
theorem dX12_shot_39 : decode cX12_shot 39 = .ok (.iconst 1, 1) := by decide +kernel
theorem dX12_shot_40 : decode cX12_shot 40 = .ok (.goto 44, 3) := by decide +kernel
theorem dX12_shot_43 : decode cX12_shot 43 = .ok (.iload 4, 2) := by decide +kernel
theorem dX12_shot_45 : decode cX12_shot 45 = .ok (.ifCond .ne 7, 3) := by decide +kernel
theorem dX12_shot_48 : decode cX12_shot 48 = .ok (.iconst 2, 1) := by decide +kernel
theorem dX12_shot_49 : decode cX12_shot 49 = .ok (.goto 35, 3) := by decide +kernel
theorem dX12_shot_52 : decode cX12_shot 52 = .ok (.aload_n 0, 1) := by decide +kernel
theorem dX12_shot_53 : decode cX12_shot 53 = .ok (.getfield 60, 3) := by decide +kernel
theorem dX12_shot_56 : decode cX12_shot 56 = .ok (.iload_n 1, 1) := by decide +kernel
theorem dX12_shot_57 : decode cX12_shot 57 = .ok (.iaload, 1) := by decide +kernel
theorem dX12_shot_58 : decode cX12_shot 58 = .ok (.bipush 10, 2) := by decide +kernel
theorem dX12_shot_60 : decode cX12_shot 60 = .ok (.if_icmp .eq 19, 3) := by decide +kernel
theorem dX12_shot_63 : decode cX12_shot 63 = .ok (.aload_n 0, 1) := by decide +kernel
theorem dX12_shot_64 : decode cX12_shot 64 = .ok (.iload_n 1, 1) := by decide +kernel
theorem dX12_shot_65 : decode cX12_shot 65 = .ok (.invokevirtual 225, 3) := by decide +kernel
theorem dX12_shot_68 : decode cX12_shot 68 = .ok (.iload_n 3, 1) := by decide +kernel
theorem dX12_shot_69 : decode cX12_shot 69 = .ok (.iadd, 1) := by decide +kernel
theorem dX12_shot_70 : decode cX12_shot 70 = .ok (.iload_n 2, 1) := by decide +kernel
theorem dX12_shot_71 : decode cX12_shot 71 = .ok (.isub, 1) := by decide +kernel
theorem dX12_shot_72 : decode cX12_shot 72 = .ok (.iconst 1, 1) := by decide +kernel
theorem dX12_shot_73 : decode cX12_shot 73 = .ok (.iadd, 1) := by decide +kernel
theorem dX12_shot_74 : decode cX12_shot 74 = .ok (.bipush 120, 2) := by decide +kernel
theorem dX12_shot_76 : decode cX12_shot 76 = .ok (.if_icmp .le 7, 3) := by decide +kernel
theorem dX12_shot_79 : decode cX12_shot 79 = .ok (.iconst 3, 1) := by decide +kernel
theorem dX12_shot_80 : decode cX12_shot 80 = .ok (.goto 4, 3) := by decide +kernel
theorem dX12_shot_83 : decode cX12_shot 83 = .ok (.iconst 0, 1) := by decide +kernel
theorem dX12_shot_84 : decode cX12_shot 84 = .ok (.istore 5, 2) := by decide +kernel
theorem dX12_shot_86 : decode cX12_shot 86 = .ok (.aload_n 0, 1) := by decide +kernel
theorem dX12_shot_87 : decode cX12_shot 87 = .ok (.iload 5, 2) := by decide +kernel
theorem dX12_shot_89 : decode cX12_shot 89 = .ok (.invokevirtual 158, 3) := by decide +kernel
theorem dX12_shot_92 : decode cX12_shot 92 = .ok (.ifCond .eq 5, 3) := by decide +kernel
theorem dX12_shot_95 : decode cX12_shot 95 = .ok (.iconst (-1), 1) := by decide +kernel
theorem dX12_shot_96 : decode cX12_shot 96 = .ok (.ireturn, 1) := by decide +kernel
theorem dX12_shot_97 : decode cX12_shot 97 = .ok (.bipush 10, 2) := by decide +kernel
theorem dX12_shot_99 : decode cX12_shot 99 = .ok (.iload_n 1, 1) := by decide +kernel
theorem dX12_shot_100 : decode cX12_shot 100 = .ok (.imul, 1) := by decide +kernel
theorem dX12_shot_101 : decode cX12_shot 101 = .ok (.aload_n 0, 1) := by decide +kernel
theorem dX12_shot_102 : decode cX12_shot 102 = .ok (.getfield 60, 3) := by decide +kernel
theorem dX12_shot_105 : decode cX12_shot 105 = .ok (.iload_n 1, 1) := by decide +kernel
theorem dX12_shot_106 : decode cX12_shot 106 = .ok (.iaload, 1) := by decide +kernel
theorem dX12_shot_107 : decode cX12_shot 107 = .ok (.iadd, 1) := by decide +kernel
theorem dX12_shot_108 : decode cX12_shot 108 = .ok (.istore 6, 2) := by decide +kernel
theorem dX12_shot_110 : decode cX12_shot 110 = .ok (.aload_n 0, 1) := by decide +kernel
theorem dX12_shot_111 : decode cX12_shot 111 = .ok (.getfield 63, 3) := by decide +kernel
theorem dX12_shot_114 : decode cX12_shot 114 = .ok (.iload 6, 2) := by decide +kernel
theorem dX12_shot_116 : decode cX12_shot 116 = .ok (.iload_n 2, 1) := by decide +kernel
theorem dX12_shot_117 : decode cX12_shot 117 = .ok (.iastore, 1) := by decide +kernel
theorem dX12_shot_118 : decode cX12_shot 118 = .ok (.aload_n 0, 1) := by decide +kernel
theorem dX12_shot_119 : decode cX12_shot 119 = .ok (.getfield 66, 3) := by decide +kernel
theorem dX12_shot_122 : decode cX12_shot 122 = .ok (.iload 6, 2) := by decide +kernel
theorem dX12_shot_124 : decode cX12_shot 124 = .ok (.iload_n 3, 1) := by decide +kernel
theorem dX12_shot_125 : decode cX12_shot 125 = .ok (.iastore, 1) := by decide +kernel
theorem dX12_shot_126 : decode cX12_shot 126 = .ok (.aload_n 0, 1) := by decide +kernel
theorem dX12_shot_127 : decode cX12_shot 127 = .ok (.getfield 69, 3) := by decide +kernel
theorem dX12_shot_130 : decode cX12_shot 130 = .ok (.iload 6, 2) := by decide +kernel
theorem dX12_shot_132 : decode cX12_shot 132 = .ok (.bipush 16, 2) := by decide +kernel
theorem dX12_shot_134 : decode cX12_shot 134 = .ok (.iastore, 1) := by decide +kernel
theorem dX12_shot_135 : decode cX12_shot 135 = .ok (.aload_n 0, 1) := by decide +kernel
theorem dX12_shot_136 : decode cX12_shot 136 = .ok (.getfield 60, 3) := by decide +kernel
theorem dX12_shot_139 : decode cX12_shot 139 = .ok (.iload_n 1, 1) := by decide +kernel
theorem dX12_shot_140 : decode cX12_shot 140 = .ok (.dup2, 1) := by decide +kernel
theorem dX12_shot_141 : decode cX12_shot 141 = .ok (.iaload, 1) := by decide +kernel
theorem dX12_shot_142 : decode cX12_shot 142 = .ok (.iconst 1, 1) := by decide +kernel
theorem dX12_shot_143 : decode cX12_shot 143 = .ok (.iadd, 1) := by decide +kernel
theorem dX12_shot_144 : decode cX12_shot 144 = .ok (.iastore, 1) := by decide +kernel
theorem dX12_shot_145 : decode cX12_shot 145 = .ok (.aload_n 0, 1) := by decide +kernel
theorem dX12_shot_146 : decode cX12_shot 146 = .ok (.iload_n 1, 1) := by decide +kernel
theorem dX12_shot_147 : decode cX12_shot 147 = .ok (.invokevirtual 225, 3) := by decide +kernel
theorem dX12_shot_150 : decode cX12_shot 150 = .ok (.ireturn, 1) := by decide +kernel
theorem dX12_proof_0 : decode cX12_proof 0 = .ok (.aload_n 0, 1) := by decide +kernel
theorem dX12_proof_1 : decode cX12_proof 1 = .ok (.aload_n 0, 1) := by decide +kernel
theorem dX12_proof_2 : decode cX12_proof 2 = .ok (.iload_n 1, 1) := by decide +kernel
theorem dX12_proof_3 : decode cX12_proof 3 = .ok (.invokevirtual 222, 3) := by decide +kernel
theorem dX12_proof_6 : decode cX12_proof 6 = .ok (.ifCond .eq 7, 3) := by decide +kernel
theorem dX12_proof_9 : decode cX12_proof 9 = .ok (.iconst 0, 1) := by decide +kernel
theorem dX12_proof_10 : decode cX12_proof 10 = .ok (.goto 4, 3) := by decide +kernel
theorem dX12_proof_13 : decode cX12_proof 13 = .ok (.iconst 1, 1) := by decide +kernel
theorem dX12_proof_14 : decode cX12_proof 14 = .ok (.invokevirtual 158, 3) := by decide +kernel
theorem dX12_proof_17 : decode cX12_proof 17 = .ok (.ifCond .eq 5, 3) := by decide +kernel
theorem dX12_proof_20 : decode cX12_proof 20 = .ok (.iconst (-1), 1) := by decide +kernel
theorem dX12_proof_21 : decode cX12_proof 21 = .ok (.ireturn, 1) := by decide +kernel
theorem dX12_proof_22 : decode cX12_proof 22 = .ok (.aload_n 0, 1) := by decide +kernel
theorem dX12_proof_23 : decode cX12_proof 23 = .ok (.getfield 57, 3) := by decide +kernel
theorem dX12_proof_26 : decode cX12_proof 26 = .ok (.iload_n 1, 1) := by decide +kernel
theorem dX12_proof_27 : decode cX12_proof 27 = .ok (.dup2, 1) := by decide +kernel
theorem dX12_proof_28 : decode cX12_proof 28 = .ok (.iaload, 1) := by decide +kernel
theorem dX12_proof_29 : decode cX12_proof 29 = .ok (.iconst 1, 1) := by decide +kernel
theorem dX12_proof_30 : decode cX12_proof 30 = .ok (.iadd, 1) := by decide +kernel
theorem dX12_proof_31 : decode cX12_proof 31 = .ok (.iastore, 1) := by decide +kernel
theorem dX12_proof_32 : decode cX12_proof 32 = .ok (.aload_n 0, 1) := by decide +kernel
theorem dX12_proof_33 : decode cX12_proof 33 = .ok (.getfield 57, 3) := by decide +kernel
theorem dX12_proof_36 : decode cX12_proof 36 = .ok (.iload_n 1, 1) := by decide +kernel
theorem dX12_proof_37 : decode cX12_proof 37 = .ok (.iaload, 1) := by decide +kernel
theorem dX12_proof_38 : decode cX12_proof 38 = .ok (.ireturn, 1) := by decide +kernel
theorem dX12_isShot_0 : decode cX12_isShot 0 = .ok (.aload_n 0, 1) := by decide +kernel
theorem dX12_isShot_1 : decode cX12_isShot 1 = .ok (.iload_n 1, 1) := by decide +kernel
theorem dX12_isShot_2 : decode cX12_isShot 2 = .ok (.invokevirtual 222, 3) := by decide +kernel
theorem dX12_isShot_5 : decode cX12_isShot 5 = .ok (.ifCond .eq 24, 3) := by decide +kernel
theorem dX12_isShot_8 : decode cX12_isShot 8 = .ok (.aload_n 0, 1) := by decide +kernel
theorem dX12_isShot_9 : decode cX12_isShot 9 = .ok (.iload_n 2, 1) := by decide +kernel
theorem dX12_isShot_10 : decode cX12_isShot 10 = .ok (.iconst 0, 1) := by decide +kernel
theorem dX12_isShot_11 : decode cX12_isShot 11 = .ok (.aload_n 0, 1) := by decide +kernel
theorem dX12_isShot_12 : decode cX12_isShot 12 = .ok (.getfield 60, 3) := by decide +kernel
theorem dX12_isShot_15 : decode cX12_isShot 15 = .ok (.iload_n 1, 1) := by decide +kernel
theorem dX12_isShot_16 : decode cX12_isShot 16 = .ok (.iaload, 1) := by decide +kernel
theorem dX12_isShot_17 : decode cX12_isShot 17 = .ok (.iconst 1, 1) := by decide +kernel
theorem dX12_isShot_18 : decode cX12_isShot 18 = .ok (.isub, 1) := by decide +kernel
theorem dX12_isShot_19 : decode cX12_isShot 19 = .ok (.invokevirtual 146, 3) := by decide +kernel
theorem dX12_isShot_22 : decode cX12_isShot 22 = .ok (.ifCond .eq 7, 3) := by decide +kernel
theorem dX12_isShot_25 : decode cX12_isShot 25 = .ok (.iconst 1, 1) := by decide +kernel
theorem dX12_isShot_26 : decode cX12_isShot 26 = .ok (.goto 4, 3) := by decide +kernel
theorem dX12_isShot_29 : decode cX12_isShot 29 = .ok (.iconst 0, 1) := by decide +kernel
theorem dX12_isShot_30 : decode cX12_isShot 30 = .ok (.ireturn, 1) := by decide +kernel
theorem dX12_speed_0 : decode cX12_speed 0 = .ok (.aload_n 0, 1) := by decide +kernel
theorem dX12_speed_1 : decode cX12_speed 1 = .ok (.aload_n 0, 1) := by decide +kernel
theorem dX12_speed_2 : decode cX12_speed 2 = .ok (.iload_n 1, 1) := by decide +kernel
theorem dX12_speed_3 : decode cX12_speed 3 = .ok (.iload_n 2, 1) := by decide +kernel
theorem dX12_speed_4 : decode cX12_speed 4 = .ok (.invokevirtual 228, 3) := by decide +kernel
theorem dX12_speed_7 : decode cX12_speed 7 = .ok (.ifCond .ne 7, 3) := by decide +kernel
theorem dX12_speed_10 : decode cX12_speed 10 = .ok (.iconst 1, 1) := by decide +kernel
theorem dX12_speed_11 : decode cX12_speed 11 = .ok (.goto 20, 3) := by decide +kernel
theorem dX12_speed_14 : decode cX12_speed 14 = .ok (.aload_n 0, 1) := by decide +kernel
theorem dX12_speed_15 : decode cX12_speed 15 = .ok (.iload_n 3, 1) := by decide +kernel
theorem dX12_speed_16 : decode cX12_speed 16 = .ok (.bipush 8, 2) := by decide +kernel
theorem dX12_speed_18 : decode cX12_speed 18 = .ok (.bipush 30, 2) := by decide +kernel
theorem dX12_speed_20 : decode cX12_speed 20 = .ok (.invokevirtual 146, 3) := by decide +kernel
theorem dX12_speed_23 : decode cX12_speed 23 = .ok (.ifCond .eq 7, 3) := by decide +kernel
theorem dX12_speed_26 : decode cX12_speed 26 = .ok (.iconst 0, 1) := by decide +kernel
theorem dX12_speed_27 : decode cX12_speed 27 = .ok (.goto 4, 3) := by decide +kernel
theorem dX12_speed_30 : decode cX12_speed 30 = .ok (.iconst 2, 1) := by decide +kernel
theorem dX12_speed_31 : decode cX12_speed 31 = .ok (.invokevirtual 158, 3) := by decide +kernel
theorem dX12_speed_34 : decode cX12_speed 34 = .ok (.ifCond .eq 5, 3) := by decide +kernel
theorem dX12_speed_37 : decode cX12_speed 37 = .ok (.iconst (-1), 1) := by decide +kernel
theorem dX12_speed_38 : decode cX12_speed 38 = .ok (.ireturn, 1) := by decide +kernel
theorem dX12_speed_39 : decode cX12_speed 39 = .ok (.aload_n 0, 1) := by decide +kernel
theorem dX12_speed_40 : decode cX12_speed 40 = .ok (.getfield 69, 3) := by decide +kernel
theorem dX12_speed_43 : decode cX12_speed 43 = .ok (.bipush 10, 2) := by decide +kernel
theorem dX12_speed_45 : decode cX12_speed 45 = .ok (.iload_n 1, 1) := by decide +kernel
theorem dX12_speed_46 : decode cX12_speed 46 = .ok (.imul, 1) := by decide +kernel
theorem dX12_speed_47 : decode cX12_speed 47 = .ok (.iload_n 2, 1) := by decide +kernel
theorem dX12_speed_48 : decode cX12_speed 48 = .ok (.iadd, 1) := by decide +kernel
theorem dX12_speed_49 : decode cX12_speed 49 = .ok (.iaload, 1) := by decide +kernel
theorem dX12_speed_50 : decode cX12_speed 50 = .ok (.istore 4, 2) := by decide +kernel
theorem dX12_speed_52 : decode cX12_speed 52 = .ok (.aload_n 0, 1) := by decide +kernel
theorem dX12_speed_53 : decode cX12_speed 53 = .ok (.getfield 69, 3) := by decide +kernel
theorem dX12_speed_56 : decode cX12_speed 56 = .ok (.bipush 10, 2) := by decide +kernel
theorem dX12_speed_58 : decode cX12_speed 58 = .ok (.iload_n 1, 1) := by decide +kernel
theorem dX12_speed_59 : decode cX12_speed 59 = .ok (.imul, 1) := by decide +kernel
theorem dX12_speed_60 : decode cX12_speed 60 = .ok (.iload_n 2, 1) := by decide +kernel
theorem dX12_speed_61 : decode cX12_speed 61 = .ok (.iadd, 1) := by decide +kernel
theorem dX12_speed_62 : decode cX12_speed 62 = .ok (.iload_n 3, 1) := by decide +kernel
theorem dX12_speed_63 : decode cX12_speed 63 = .ok (.iastore, 1) := by decide +kernel
theorem dX12_speed_64 : decode cX12_speed 64 = .ok (.iload 4, 2) := by decide +kernel
theorem dX12_speed_66 : decode cX12_speed 66 = .ok (.ireturn, 1) := by decide +kernel
theorem dX12_reelFor_0 : decode cX12_reelFor 0 = .ok (.iconst (-1), 1) := by decide +kernel
theorem dX12_reelFor_1 : decode cX12_reelFor 1 = .ok (.istore_n 2, 1) := by decide +kernel
theorem dX12_reelFor_2 : decode cX12_reelFor 2 = .ok (.iconst 0, 1) := by decide +kernel
theorem dX12_reelFor_3 : decode cX12_reelFor 3 = .ok (.istore_n 3, 1) := by decide +kernel
theorem dX12_reelFor_4 : decode cX12_reelFor 4 = .ok (.iload_n 3, 1) := by decide +kernel
theorem dX12_reelFor_5 : decode cX12_reelFor 5 = .ok (.aload_n 0, 1) := by decide +kernel
theorem dX12_reelFor_6 : decode cX12_reelFor 6 = .ok (.getfield 143, 3) := by decide +kernel
theorem dX12_reelFor_9 : decode cX12_reelFor 9 = .ok (.if_icmp .ge 105, 3) := by decide +kernel
theorem dX12_reelFor_12 : decode cX12_reelFor 12 = .ok (.aload_n 0, 1) := by decide +kernel
theorem dX12_reelFor_13 : decode cX12_reelFor 13 = .ok (.iload_n 3, 1) := by decide +kernel
theorem dX12_reelFor_14 : decode cX12_reelFor 14 = .ok (.invokevirtual 175, 3) := by decide +kernel
theorem dX12_reelFor_17 : decode cX12_reelFor 17 = .ok (.ifCond .eq 16, 3) := by decide +kernel
theorem dX12_reelFor_20 : decode cX12_reelFor 20 = .ok (.aload_n 0, 1) := by decide +kernel
theorem dX12_reelFor_21 : decode cX12_reelFor 21 = .ok (.iload_n 3, 1) := by decide +kernel
theorem dX12_reelFor_22 : decode cX12_reelFor 22 = .ok (.iload_n 1, 1) := by decide +kernel
theorem dX12_reelFor_23 : decode cX12_reelFor 23 = .ok (.invokevirtual 231, 3) := by decide +kernel
theorem dX12_reelFor_26 : decode cX12_reelFor 26 = .ok (.ifCond .lt 7, 3) := by decide +kernel
theorem dX12_reelFor_29 : decode cX12_reelFor 29 = .ok (.iconst 1, 1) := by decide +kernel
theorem dX12_reelFor_30 : decode cX12_reelFor 30 = .ok (.goto 4, 3) := by decide +kernel
theorem dX12_reelFor_33 : decode cX12_reelFor 33 = .ok (.iconst 0, 1) := by decide +kernel
theorem dX12_reelFor_34 : decode cX12_reelFor 34 = .ok (.istore 4, 2) := by decide +kernel
theorem dX12_reelFor_36 : decode cX12_reelFor 36 = .ok (.iload_n 2, 1) := by decide +kernel
theorem dX12_reelFor_37 : decode cX12_reelFor 37 = .ok (.ifCond .lt 48, 3) := by decide +kernel
theorem dX12_reelFor_40 : decode cX12_reelFor 40 = .ok (.aload_n 0, 1) := by decide +kernel
theorem dX12_reelFor_41 : decode cX12_reelFor 41 = .ok (.getfield 22, 3) := by decide +kernel
theorem dX12_reelFor_44 : decode cX12_reelFor 44 = .ok (.iload_n 3, 1) := by decide +kernel
theorem dX12_reelFor_45 : decode cX12_reelFor 45 = .ok (.iaload, 1) := by decide +kernel
theorem dX12_reelFor_46 : decode cX12_reelFor 46 = .ok (.aload_n 0, 1) := by decide +kernel
theorem dX12_reelFor_47 : decode cX12_reelFor 47 = .ok (.getfield 22, 3) := by decide +kernel
theorem dX12_reelFor_50 : decode cX12_reelFor 50 = .ok (.iload_n 2, 1) := by decide +kernel
theorem dX12_reelFor_51 : decode cX12_reelFor 51 = .ok (.iaload, 1) := by decide +kernel
theorem dX12_reelFor_52 : decode cX12_reelFor 52 = .ok (.if_icmp .lt 33, 3) := by decide +kernel
theorem dX12_reelFor_55 : decode cX12_reelFor 55 = .ok (.aload_n 0, 1) := by decide +kernel
theorem dX12_reelFor_56 : decode cX12_reelFor 56 = .ok (.getfield 22, 3) := by decide +kernel
theorem dX12_reelFor_59 : decode cX12_reelFor 59 = .ok (.iload_n 3, 1) := by decide +kernel
theorem dX12_reelFor_60 : decode cX12_reelFor 60 = .ok (.iaload, 1) := by decide +kernel
theorem dX12_reelFor_61 : decode cX12_reelFor 61 = .ok (.aload_n 0, 1) := by decide +kernel
theorem dX12_reelFor_62 : decode cX12_reelFor 62 = .ok (.getfield 22, 3) := by decide +kernel
theorem dX12_reelFor_65 : decode cX12_reelFor 65 = .ok (.iload_n 2, 1) := by decide +kernel
theorem dX12_reelFor_66 : decode cX12_reelFor 66 = .ok (.iaload, 1) := by decide +kernel
theorem dX12_reelFor_67 : decode cX12_reelFor 67 = .ok (.if_icmp .ne 22, 3) := by decide +kernel
theorem dX12_reelFor_70 : decode cX12_reelFor 70 = .ok (.aload_n 0, 1) := by decide +kernel
theorem dX12_reelFor_71 : decode cX12_reelFor 71 = .ok (.getfield 19, 3) := by decide +kernel
theorem dX12_reelFor_74 : decode cX12_reelFor 74 = .ok (.iload_n 3, 1) := by decide +kernel
theorem dX12_reelFor_75 : decode cX12_reelFor 75 = .ok (.iaload, 1) := by decide +kernel
theorem dX12_reelFor_76 : decode cX12_reelFor 76 = .ok (.aload_n 0, 1) := by decide +kernel
theorem dX12_reelFor_77 : decode cX12_reelFor 77 = .ok (.getfield 19, 3) := by decide +kernel
theorem dX12_reelFor_80 : decode cX12_reelFor 80 = .ok (.iload_n 2, 1) := by decide +kernel
theorem dX12_reelFor_81 : decode cX12_reelFor 81 = .ok (.iaload, 1) := by decide +kernel
theorem dX12_reelFor_82 : decode cX12_reelFor 82 = .ok (.if_icmp .ge 7, 3) := by decide +kernel
theorem dX12_reelFor_85 : decode cX12_reelFor 85 = .ok (.iconst 1, 1) := by decide +kernel
theorem dX12_reelFor_86 : decode cX12_reelFor 86 = .ok (.goto 4, 3) := by decide +kernel
theorem dX12_reelFor_89 : decode cX12_reelFor 89 = .ok (.iconst 0, 1) := by decide +kernel
theorem dX12_reelFor_90 : decode cX12_reelFor 90 = .ok (.istore 5, 2) := by decide +kernel
theorem dX12_reelFor_92 : decode cX12_reelFor 92 = .ok (.iload 4, 2) := by decide +kernel
theorem dX12_reelFor_94 : decode cX12_reelFor 94 = .ok (.ifCond .eq 12, 3) := by decide +kernel
theorem dX12_reelFor_97 : decode cX12_reelFor 97 = .ok (.iload 5, 2) := by decide +kernel
theorem dX12_reelFor_99 : decode cX12_reelFor 99 = .ok (.ifCond .eq 7, 3) := by decide +kernel
theorem dX12_reelFor_102 : decode cX12_reelFor 102 = .ok (.iload_n 3, 1) := by decide +kernel
theorem dX12_reelFor_103 : decode cX12_reelFor 103 = .ok (.goto 4, 3) := by decide +kernel
theorem dX12_reelFor_106 : decode cX12_reelFor 106 = .ok (.iload_n 2, 1) := by decide +kernel
theorem dX12_reelFor_107 : decode cX12_reelFor 107 = .ok (.istore_n 2, 1) := by decide +kernel
theorem dX12_reelFor_108 : decode cX12_reelFor 108 = .ok (.iinc 3 1, 3) := by decide +kernel
theorem dX12_reelFor_111 : decode cX12_reelFor 111 = .ok (.goto (-107), 3) := by decide +kernel
theorem dX12_reelFor_114 : decode cX12_reelFor 114 = .ok (.iload_n 2, 1) := by decide +kernel
theorem dX12_reelFor_115 : decode cX12_reelFor 115 = .ok (.ireturn, 1) := by decide +kernel
theorem dX12_had_0 : decode cX12_had 0 = .ok (.iconst 0, 1) := by decide +kernel
theorem dX12_had_1 : decode cX12_had 1 = .ok (.istore_n 2, 1) := by decide +kernel
theorem dX12_had_2 : decode cX12_had 2 = .ok (.bipush 10, 2) := by decide +kernel
theorem dX12_had_4 : decode cX12_had 4 = .ok (.iload_n 1, 1) := by decide +kernel
theorem dX12_had_5 : decode cX12_had 5 = .ok (.imul, 1) := by decide +kernel
theorem dX12_had_6 : decode cX12_had 6 = .ok (.istore_n 3, 1) := by decide +kernel
theorem dX12_had_7 : decode cX12_had 7 = .ok (.iload_n 3, 1) := by decide +kernel
theorem dX12_had_8 : decode cX12_had 8 = .ok (.bipush 10, 2) := by decide +kernel
theorem dX12_had_10 : decode cX12_had 10 = .ok (.iload_n 1, 1) := by decide +kernel
theorem dX12_had_11 : decode cX12_had 11 = .ok (.imul, 1) := by decide +kernel
theorem dX12_had_12 : decode cX12_had 12 = .ok (.aload_n 0, 1) := by decide +kernel
theorem dX12_had_13 : decode cX12_had 13 = .ok (.getfield 60, 3) := by decide +kernel
theorem dX12_had_16 : decode cX12_had 16 = .ok (.iload_n 1, 1) := by decide +kernel
theorem dX12_had_17 : decode cX12_had 17 = .ok (.iaload, 1) := by decide +kernel
theorem dX12_had_18 : decode cX12_had 18 = .ok (.iadd, 1) := by decide +kernel
theorem dX12_had_19 : decode cX12_had 19 = .ok (.if_icmp .ge 51, 3) := by decide +kernel
theorem dX12_had_22 : decode cX12_had 22 = .ok (.aload_n 0, 1) := by decide +kernel
theorem dX12_had_23 : decode cX12_had 23 = .ok (.getfield 63, 3) := by decide +kernel
theorem dX12_had_26 : decode cX12_had 26 = .ok (.iload_n 3, 1) := by decide +kernel
theorem dX12_had_27 : decode cX12_had 27 = .ok (.iaload, 1) := by decide +kernel
theorem dX12_had_28 : decode cX12_had 28 = .ok (.istore 4, 2) := by decide +kernel
theorem dX12_had_30 : decode cX12_had 30 = .ok (.iload 4, 2) := by decide +kernel
theorem dX12_had_32 : decode cX12_had 32 = .ok (.aload_n 0, 1) := by decide +kernel
theorem dX12_had_33 : decode cX12_had 33 = .ok (.getfield 66, 3) := by decide +kernel
theorem dX12_had_36 : decode cX12_had 36 = .ok (.iload_n 3, 1) := by decide +kernel
theorem dX12_had_37 : decode cX12_had 37 = .ok (.iaload, 1) := by decide +kernel
theorem dX12_had_38 : decode cX12_had 38 = .ok (.if_icmp .gt 26, 3) := by decide +kernel
theorem dX12_had_41 : decode cX12_had 41 = .ok (.iload_n 2, 1) := by decide +kernel
theorem dX12_had_42 : decode cX12_had 42 = .ok (.aload_n 0, 1) := by decide +kernel
theorem dX12_had_43 : decode cX12_had 43 = .ok (.iload 4, 2) := by decide +kernel
theorem dX12_had_45 : decode cX12_had 45 = .ok (.invokevirtual 234, 3) := by decide +kernel
theorem dX12_had_48 : decode cX12_had 48 = .ok (.ifCond .lt 7, 3) := by decide +kernel
theorem dX12_had_51 : decode cX12_had 51 = .ok (.iconst 1, 1) := by decide +kernel
theorem dX12_had_52 : decode cX12_had 52 = .ok (.goto 4, 3) := by decide +kernel
theorem dX12_had_55 : decode cX12_had 55 = .ok (.iconst 0, 1) := by decide +kernel
theorem dX12_had_56 : decode cX12_had 56 = .ok (.iadd, 1) := by decide +kernel
theorem dX12_had_57 : decode cX12_had 57 = .ok (.istore_n 2, 1) := by decide +kernel
theorem dX12_had_58 : decode cX12_had 58 = .ok (.iinc 4 1, 3) := by decide +kernel
theorem dX12_had_61 : decode cX12_had 61 = .ok (.goto (-31), 3) := by decide +kernel
theorem dX12_had_64 : decode cX12_had 64 = .ok (.iinc 3 1, 3) := by decide +kernel
theorem dX12_had_67 : decode cX12_had 67 = .ok (.goto (-60), 3) := by decide +kernel
theorem dX12_had_70 : decode cX12_had 70 = .ok (.iload_n 2, 1) := by decide +kernel
theorem dX12_had_71 : decode cX12_had 71 = .ok (.ireturn, 1) := by decide +kernel
theorem dX12_lasts_0 : decode cX12_lasts 0 = .ok (.iconst 0, 1) := by decide +kernel
theorem dX12_lasts_1 : decode cX12_lasts 1 = .ok (.istore_n 2, 1) := by decide +kernel
theorem dX12_lasts_2 : decode cX12_lasts 2 = .ok (.bipush 10, 2) := by decide +kernel
theorem dX12_lasts_4 : decode cX12_lasts 4 = .ok (.iload_n 1, 1) := by decide +kernel
theorem dX12_lasts_5 : decode cX12_lasts 5 = .ok (.imul, 1) := by decide +kernel
theorem dX12_lasts_6 : decode cX12_lasts 6 = .ok (.istore_n 3, 1) := by decide +kernel
theorem dX12_lasts_7 : decode cX12_lasts 7 = .ok (.iload_n 3, 1) := by decide +kernel
theorem dX12_lasts_8 : decode cX12_lasts 8 = .ok (.bipush 10, 2) := by decide +kernel
theorem dX12_lasts_10 : decode cX12_lasts 10 = .ok (.iload_n 1, 1) := by decide +kernel
theorem dX12_lasts_11 : decode cX12_lasts 11 = .ok (.imul, 1) := by decide +kernel
theorem dX12_lasts_12 : decode cX12_lasts 12 = .ok (.aload_n 0, 1) := by decide +kernel
theorem dX12_lasts_13 : decode cX12_lasts 13 = .ok (.getfield 60, 3) := by decide +kernel
theorem dX12_lasts_16 : decode cX12_lasts 16 = .ok (.iload_n 1, 1) := by decide +kernel
theorem dX12_lasts_17 : decode cX12_lasts 17 = .ok (.iaload, 1) := by decide +kernel
theorem dX12_lasts_18 : decode cX12_lasts 18 = .ok (.iadd, 1) := by decide +kernel
theorem dX12_lasts_19 : decode cX12_lasts 19 = .ok (.if_icmp .ge 38, 3) := by decide +kernel
theorem dX12_lasts_22 : decode cX12_lasts 22 = .ok (.iload_n 2, 1) := by decide +kernel
theorem dX12_lasts_23 : decode cX12_lasts 23 = .ok (.aload_n 0, 1) := by decide +kernel
theorem dX12_lasts_24 : decode cX12_lasts 24 = .ok (.getfield 66, 3) := by decide +kernel
theorem dX12_lasts_27 : decode cX12_lasts 27 = .ok (.iload_n 3, 1) := by decide +kernel
theorem dX12_lasts_28 : decode cX12_lasts 28 = .ok (.iaload, 1) := by decide +kernel
theorem dX12_lasts_29 : decode cX12_lasts 29 = .ok (.aload_n 0, 1) := by decide +kernel
theorem dX12_lasts_30 : decode cX12_lasts 30 = .ok (.getfield 63, 3) := by decide +kernel
theorem dX12_lasts_33 : decode cX12_lasts 33 = .ok (.iload_n 3, 1) := by decide +kernel
theorem dX12_lasts_34 : decode cX12_lasts 34 = .ok (.iaload, 1) := by decide +kernel
theorem dX12_lasts_35 : decode cX12_lasts 35 = .ok (.isub, 1) := by decide +kernel
theorem dX12_lasts_36 : decode cX12_lasts 36 = .ok (.iconst 1, 1) := by decide +kernel
theorem dX12_lasts_37 : decode cX12_lasts 37 = .ok (.iadd, 1) := by decide +kernel
theorem dX12_lasts_38 : decode cX12_lasts 38 = .ok (.sipush 1000, 3) := by decide +kernel
theorem dX12_lasts_41 : decode cX12_lasts 41 = .ok (.imul, 1) := by decide +kernel
theorem dX12_lasts_42 : decode cX12_lasts 42 = .ok (.aload_n 0, 1) := by decide +kernel
theorem dX12_lasts_43 : decode cX12_lasts 43 = .ok (.getfield 69, 3) := by decide +kernel
theorem dX12_lasts_46 : decode cX12_lasts 46 = .ok (.iload_n 3, 1) := by decide +kernel
theorem dX12_lasts_47 : decode cX12_lasts 47 = .ok (.iaload, 1) := by decide +kernel
theorem dX12_lasts_48 : decode cX12_lasts 48 = .ok (.idiv, 1) := by decide +kernel
theorem dX12_lasts_49 : decode cX12_lasts 49 = .ok (.iadd, 1) := by decide +kernel
theorem dX12_lasts_50 : decode cX12_lasts 50 = .ok (.istore_n 2, 1) := by decide +kernel
theorem dX12_lasts_51 : decode cX12_lasts 51 = .ok (.iinc 3 1, 3) := by decide +kernel
theorem dX12_lasts_54 : decode cX12_lasts 54 = .ok (.goto (-47), 3) := by decide +kernel
theorem dX12_lasts_57 : decode cX12_lasts 57 = .ok (.iload_n 2, 1) := by decide +kernel
theorem dX12_lasts_58 : decode cX12_lasts 58 = .ok (.ireturn, 1) := by decide +kernel
theorem dX12_ofVersion_0 : decode cX12_ofVersion 0 = .ok (.aload_n 0, 1) := by decide +kernel
theorem dX12_ofVersion_1 : decode cX12_ofVersion 1 = .ok (.aload_n 0, 1) := by decide +kernel
theorem dX12_ofVersion_2 : decode cX12_ofVersion 2 = .ok (.iload_n 1, 1) := by decide +kernel
theorem dX12_ofVersion_3 : decode cX12_ofVersion 3 = .ok (.invokevirtual 222, 3) := by decide +kernel
theorem dX12_ofVersion_6 : decode cX12_ofVersion 6 = .ok (.ifCond .ne 7, 3) := by decide +kernel
theorem dX12_ofVersion_9 : decode cX12_ofVersion 9 = .ok (.iconst 1, 1) := by decide +kernel
theorem dX12_ofVersion_10 : decode cX12_ofVersion 10 = .ok (.goto 18, 3) := by decide +kernel
theorem dX12_ofVersion_13 : decode cX12_ofVersion 13 = .ok (.aload_n 0, 1) := by decide +kernel
theorem dX12_ofVersion_14 : decode cX12_ofVersion 14 = .ok (.iload_n 2, 1) := by decide +kernel
theorem dX12_ofVersion_15 : decode cX12_ofVersion 15 = .ok (.iconst 0, 1) := by decide +kernel
theorem dX12_ofVersion_16 : decode cX12_ofVersion 16 = .ok (.iconst 5, 1) := by decide +kernel
theorem dX12_ofVersion_17 : decode cX12_ofVersion 17 = .ok (.invokevirtual 146, 3) := by decide +kernel
theorem dX12_ofVersion_20 : decode cX12_ofVersion 20 = .ok (.ifCond .eq 7, 3) := by decide +kernel
theorem dX12_ofVersion_23 : decode cX12_ofVersion 23 = .ok (.iconst 0, 1) := by decide +kernel
theorem dX12_ofVersion_24 : decode cX12_ofVersion 24 = .ok (.goto 4, 3) := by decide +kernel
theorem dX12_ofVersion_27 : decode cX12_ofVersion 27 = .ok (.iconst 2, 1) := by decide +kernel
theorem dX12_ofVersion_28 : decode cX12_ofVersion 28 = .ok (.invokevirtual 158, 3) := by decide +kernel
theorem dX12_ofVersion_31 : decode cX12_ofVersion 31 = .ok (.ifCond .eq 5, 3) := by decide +kernel
theorem dX12_ofVersion_34 : decode cX12_ofVersion 34 = .ok (.iconst (-1), 1) := by decide +kernel
theorem dX12_ofVersion_35 : decode cX12_ofVersion 35 = .ok (.ireturn, 1) := by decide +kernel
theorem dX12_ofVersion_36 : decode cX12_ofVersion 36 = .ok (.iload_n 2, 1) := by decide +kernel
theorem dX12_ofVersion_37 : decode cX12_ofVersion 37 = .ok (.tableswitch 81 0 4 #[35, 41, 47, 68, 74], 35) := by decide +kernel
theorem dX12_ofVersion_72 : decode cX12_ofVersion 72 = .ok (.aload_n 0, 1) := by decide +kernel
theorem dX12_ofVersion_73 : decode cX12_ofVersion 73 = .ok (.iload_n 1, 1) := by decide +kernel
theorem dX12_ofVersion_74 : decode cX12_ofVersion 74 = .ok (.invokevirtual 225, 3) := by decide +kernel
theorem dX12_ofVersion_77 : decode cX12_ofVersion 77 = .ok (.ireturn, 1) := by decide +kernel
theorem dX12_ofVersion_78 : decode cX12_ofVersion 78 = .ok (.aload_n 0, 1) := by decide +kernel
theorem dX12_ofVersion_79 : decode cX12_ofVersion 79 = .ok (.iload_n 1, 1) := by decide +kernel
theorem dX12_ofVersion_80 : decode cX12_ofVersion 80 = .ok (.invokevirtual 237, 3) := by decide +kernel
theorem dX12_ofVersion_83 : decode cX12_ofVersion 83 = .ok (.ireturn, 1) := by decide +kernel
theorem dX12_ofVersion_84 : decode cX12_ofVersion 84 = .ok (.aload_n 0, 1) := by decide +kernel
theorem dX12_ofVersion_85 : decode cX12_ofVersion 85 = .ok (.getfield 57, 3) := by decide +kernel
theorem dX12_ofVersion_88 : decode cX12_ofVersion 88 = .ok (.iload_n 1, 1) := by decide +kernel
theorem dX12_ofVersion_89 : decode cX12_ofVersion 89 = .ok (.iaload, 1) := by decide +kernel
theorem dX12_ofVersion_90 : decode cX12_ofVersion 90 = .ok (.iconst 2, 1) := by decide +kernel
theorem dX12_ofVersion_91 : decode cX12_ofVersion 91 = .ok (.if_icmp .le 7, 3) := by decide +kernel
theorem dX12_ofVersion_94 : decode cX12_ofVersion 94 = .ok (.iconst 2, 1) := by decide +kernel
theorem dX12_ofVersion_95 : decode cX12_ofVersion 95 = .ok (.goto 9, 3) := by decide +kernel
theorem dX12_ofVersion_98 : decode cX12_ofVersion 98 = .ok (.aload_n 0, 1) := by decide +kernel
theorem dX12_ofVersion_99 : decode cX12_ofVersion 99 = .ok (.getfield 57, 3) := by decide +kernel
theorem dX12_ofVersion_102 : decode cX12_ofVersion 102 = .ok (.iload_n 1, 1) := by decide +kernel
theorem dX12_ofVersion_103 : decode cX12_ofVersion 103 = .ok (.iaload, 1) := by decide +kernel
theorem dX12_ofVersion_104 : decode cX12_ofVersion 104 = .ok (.ireturn, 1) := by decide +kernel
theorem dX12_ofVersion_105 : decode cX12_ofVersion 105 = .ok (.aload_n 0, 1) := by decide +kernel
theorem dX12_ofVersion_106 : decode cX12_ofVersion 106 = .ok (.iload_n 1, 1) := by decide +kernel
theorem dX12_ofVersion_107 : decode cX12_ofVersion 107 = .ok (.invokevirtual 240, 3) := by decide +kernel
theorem dX12_ofVersion_110 : decode cX12_ofVersion 110 = .ok (.ireturn, 1) := by decide +kernel
theorem dX12_ofVersion_111 : decode cX12_ofVersion 111 = .ok (.aload_n 0, 1) := by decide +kernel
theorem dX12_ofVersion_112 : decode cX12_ofVersion 112 = .ok (.getfield 51, 3) := by decide +kernel
theorem dX12_ofVersion_115 : decode cX12_ofVersion 115 = .ok (.iload_n 1, 1) := by decide +kernel
theorem dX12_ofVersion_116 : decode cX12_ofVersion 116 = .ok (.iaload, 1) := by decide +kernel
theorem dX12_ofVersion_117 : decode cX12_ofVersion 117 = .ok (.ireturn, 1) := by decide +kernel
theorem dX12_ofVersion_118 : decode cX12_ofVersion 118 = .ok (.aload_n 0, 1) := by decide +kernel
theorem dX12_ofVersion_119 : decode cX12_ofVersion 119 = .ok (.getfield 54, 3) := by decide +kernel
theorem dX12_ofVersion_122 : decode cX12_ofVersion 122 = .ok (.iload_n 1, 1) := by decide +kernel
theorem dX12_ofVersion_123 : decode cX12_ofVersion 123 = .ok (.iaload, 1) := by decide +kernel
theorem dX12_ofVersion_124 : decode cX12_ofVersion 124 = .ok (.ireturn, 1) := by decide +kernel
theorem dX12_scrap_0 : decode cX12_scrap 0 = .ok (.aload_n 0, 1) := by decide +kernel
theorem dX12_scrap_1 : decode cX12_scrap 1 = .ok (.aload_n 0, 1) := by decide +kernel
theorem dX12_scrap_2 : decode cX12_scrap 2 = .ok (.iload_n 1, 1) := by decide +kernel
theorem dX12_scrap_3 : decode cX12_scrap 3 = .ok (.iconst 0, 1) := by decide +kernel
theorem dX12_scrap_4 : decode cX12_scrap 4 = .ok (.sipush 999, 3) := by decide +kernel
theorem dX12_scrap_7 : decode cX12_scrap 7 = .ok (.invokevirtual 146, 3) := by decide +kernel
theorem dX12_scrap_10 : decode cX12_scrap 10 = .ok (.ifCond .eq 14, 3) := by decide +kernel
theorem dX12_scrap_13 : decode cX12_scrap 13 = .ok (.aload_n 0, 1) := by decide +kernel
theorem dX12_scrap_14 : decode cX12_scrap 14 = .ok (.iload_n 2, 1) := by decide +kernel
theorem dX12_scrap_15 : decode cX12_scrap 15 = .ok (.iconst 0, 1) := by decide +kernel
theorem dX12_scrap_16 : decode cX12_scrap 16 = .ok (.bipush 9, 2) := by decide +kernel
theorem dX12_scrap_18 : decode cX12_scrap 18 = .ok (.invokevirtual 146, 3) := by decide +kernel
theorem dX12_scrap_21 : decode cX12_scrap 21 = .ok (.ifCond .ne 7, 3) := by decide +kernel
theorem dX12_scrap_24 : decode cX12_scrap 24 = .ok (.iconst 1, 1) := by decide +kernel
theorem dX12_scrap_25 : decode cX12_scrap 25 = .ok (.goto 17, 3) := by decide +kernel
theorem dX12_scrap_28 : decode cX12_scrap 28 = .ok (.aload_n 0, 1) := by decide +kernel
theorem dX12_scrap_29 : decode cX12_scrap 29 = .ok (.getfield 243, 3) := by decide +kernel
theorem dX12_scrap_32 : decode cX12_scrap 32 = .ok (.bipush 100, 2) := by decide +kernel
theorem dX12_scrap_34 : decode cX12_scrap 34 = .ok (.if_icmp .ne 7, 3) := by decide +kernel
theorem dX12_scrap_37 : decode cX12_scrap 37 = .ok (.iconst 2, 1) := by decide +kernel
theorem dX12_scrap_38 : decode cX12_scrap 38 = .ok (.goto 4, 3) := by decide +kernel
theorem dX12_scrap_41 : decode cX12_scrap 41 = .ok (.iconst 0, 1) := by decide +kernel
theorem dX12_scrap_42 : decode cX12_scrap 42 = .ok (.invokevirtual 158, 3) := by decide +kernel
theorem dX12_scrap_45 : decode cX12_scrap 45 = .ok (.ifCond .eq 5, 3) := by decide +kernel
theorem dX12_scrap_48 : decode cX12_scrap 48 = .ok (.iconst (-1), 1) := by decide +kernel
theorem dX12_scrap_49 : decode cX12_scrap 49 = .ok (.ireturn, 1) := by decide +kernel
theorem dX12_scrap_50 : decode cX12_scrap 50 = .ok (.aload_n 0, 1) := by decide +kernel
theorem dX12_scrap_51 : decode cX12_scrap 51 = .ok (.getfield 75, 3) := by decide +kernel
theorem dX12_scrap_54 : decode cX12_scrap 54 = .ok (.aload_n 0, 1) := by decide +kernel
theorem dX12_scrap_55 : decode cX12_scrap 55 = .ok (.getfield 243, 3) := by decide +kernel
theorem dX12_scrap_58 : decode cX12_scrap 58 = .ok (.iload_n 1, 1) := by decide +kernel
theorem dX12_scrap_59 : decode cX12_scrap 59 = .ok (.iastore, 1) := by decide +kernel
theorem dX12_scrap_60 : decode cX12_scrap 60 = .ok (.aload_n 0, 1) := by decide +kernel
theorem dX12_scrap_61 : decode cX12_scrap 61 = .ok (.getfield 78, 3) := by decide +kernel
theorem dX12_scrap_64 : decode cX12_scrap 64 = .ok (.aload_n 0, 1) := by decide +kernel
theorem dX12_scrap_65 : decode cX12_scrap 65 = .ok (.getfield 243, 3) := by decide +kernel
theorem dX12_scrap_68 : decode cX12_scrap 68 = .ok (.iload_n 2, 1) := by decide +kernel
theorem dX12_scrap_69 : decode cX12_scrap 69 = .ok (.iastore, 1) := by decide +kernel
theorem dX12_scrap_70 : decode cX12_scrap 70 = .ok (.aload_n 0, 1) := by decide +kernel
theorem dX12_scrap_71 : decode cX12_scrap 71 = .ok (.dup, 1) := by decide +kernel
theorem dX12_scrap_72 : decode cX12_scrap 72 = .ok (.getfield 243, 3) := by decide +kernel
theorem dX12_scrap_75 : decode cX12_scrap 75 = .ok (.iconst 1, 1) := by decide +kernel
theorem dX12_scrap_76 : decode cX12_scrap 76 = .ok (.iadd, 1) := by decide +kernel
theorem dX12_scrap_77 : decode cX12_scrap 77 = .ok (.putfield 243, 3) := by decide +kernel
theorem dX12_scrap_80 : decode cX12_scrap 80 = .ok (.iconst 0, 1) := by decide +kernel
theorem dX12_scrap_81 : decode cX12_scrap 81 = .ok (.istore_n 3, 1) := by decide +kernel
theorem dX12_scrap_82 : decode cX12_scrap 82 = .ok (.iconst 0, 1) := by decide +kernel
theorem dX12_scrap_83 : decode cX12_scrap 83 = .ok (.istore 4, 2) := by decide +kernel
theorem dX12_scrap_85 : decode cX12_scrap 85 = .ok (.iload 4, 2) := by decide +kernel
theorem dX12_scrap_87 : decode cX12_scrap 87 = .ok (.aload_n 0, 1) := by decide +kernel
theorem dX12_scrap_88 : decode cX12_scrap 88 = .ok (.getfield 243, 3) := by decide +kernel
theorem dX12_scrap_91 : decode cX12_scrap 91 = .ok (.if_icmp .ge 28, 3) := by decide +kernel
theorem dX12_scrap_94 : decode cX12_scrap 94 = .ok (.iload_n 3, 1) := by decide +kernel
theorem dX12_scrap_95 : decode cX12_scrap 95 = .ok (.aload_n 0, 1) := by decide +kernel
theorem dX12_scrap_96 : decode cX12_scrap 96 = .ok (.getfield 75, 3) := by decide +kernel
theorem dX12_scrap_99 : decode cX12_scrap 99 = .ok (.iload 4, 2) := by decide +kernel
theorem dX12_scrap_101 : decode cX12_scrap 101 = .ok (.iaload, 1) := by decide +kernel
theorem dX12_scrap_102 : decode cX12_scrap 102 = .ok (.iload_n 1, 1) := by decide +kernel
theorem dX12_scrap_103 : decode cX12_scrap 103 = .ok (.if_icmp .ne 7, 3) := by decide +kernel
theorem dX12_scrap_106 : decode cX12_scrap 106 = .ok (.iconst 1, 1) := by decide +kernel
theorem dX12_scrap_107 : decode cX12_scrap 107 = .ok (.goto 4, 3) := by decide +kernel
theorem dX12_scrap_110 : decode cX12_scrap 110 = .ok (.iconst 0, 1) := by decide +kernel
theorem dX12_scrap_111 : decode cX12_scrap 111 = .ok (.iadd, 1) := by decide +kernel
theorem dX12_scrap_112 : decode cX12_scrap 112 = .ok (.istore_n 3, 1) := by decide +kernel
theorem dX12_scrap_113 : decode cX12_scrap 113 = .ok (.iinc 4 1, 3) := by decide +kernel
theorem dX12_scrap_116 : decode cX12_scrap 116 = .ok (.goto (-31), 3) := by decide +kernel
theorem dX12_scrap_119 : decode cX12_scrap 119 = .ok (.iload_n 3, 1) := by decide +kernel
theorem dX12_scrap_120 : decode cX12_scrap 120 = .ok (.ireturn, 1) := by decide +kernel
theorem dX12_tint_0 : decode cX12_tint 0 = .ok (.aload_n 0, 1) := by decide +kernel
theorem dX12_tint_1 : decode cX12_tint 1 = .ok (.aload_n 0, 1) := by decide +kernel
theorem dX12_tint_2 : decode cX12_tint 2 = .ok (.iload_n 1, 1) := by decide +kernel
theorem dX12_tint_3 : decode cX12_tint 3 = .ok (.iload_n 2, 1) := by decide +kernel
theorem dX12_tint_4 : decode cX12_tint 4 = .ok (.invokevirtual 228, 3) := by decide +kernel
theorem dX12_tint_7 : decode cX12_tint 7 = .ok (.ifCond .eq 7, 3) := by decide +kernel
theorem dX12_tint_10 : decode cX12_tint 10 = .ok (.iconst 0, 1) := by decide +kernel
theorem dX12_tint_11 : decode cX12_tint 11 = .ok (.goto 4, 3) := by decide +kernel
theorem dX12_tint_14 : decode cX12_tint 14 = .ok (.iconst 1, 1) := by decide +kernel
theorem dX12_tint_15 : decode cX12_tint 15 = .ok (.invokevirtual 158, 3) := by decide +kernel
theorem dX12_tint_18 : decode cX12_tint 18 = .ok (.ifCond .eq 5, 3) := by decide +kernel
theorem dX12_tint_21 : decode cX12_tint 21 = .ok (.iconst (-1), 1) := by decide +kernel
theorem dX12_tint_22 : decode cX12_tint 22 = .ok (.ireturn, 1) := by decide +kernel
theorem dX12_tint_23 : decode cX12_tint 23 = .ok (.iconst 0, 1) := by decide +kernel
theorem dX12_tint_24 : decode cX12_tint 24 = .ok (.istore_n 3, 1) := by decide +kernel
theorem dX12_tint_25 : decode cX12_tint 25 = .ok (.iload_n 3, 1) := by decide +kernel
theorem dX12_tint_26 : decode cX12_tint 26 = .ok (.bipush 10, 2) := by decide +kernel
theorem dX12_tint_28 : decode cX12_tint 28 = .ok (.if_icmp .ge 16, 3) := by decide +kernel
theorem dX12_tint_31 : decode cX12_tint 31 = .ok (.aload_n 0, 1) := by decide +kernel
theorem dX12_tint_32 : decode cX12_tint 32 = .ok (.getfield 130, 3) := by decide +kernel
theorem dX12_tint_35 : decode cX12_tint 35 = .ok (.iload_n 3, 1) := by decide +kernel
theorem dX12_tint_36 : decode cX12_tint 36 = .ok (.iconst 0, 1) := by decide +kernel
theorem dX12_tint_37 : decode cX12_tint 37 = .ok (.iastore, 1) := by decide +kernel
theorem dX12_tint_38 : decode cX12_tint 38 = .ok (.iinc 3 1, 3) := by decide +kernel
theorem dX12_tint_41 : decode cX12_tint 41 = .ok (.goto (-16), 3) := by decide +kernel
theorem dX12_tint_44 : decode cX12_tint 44 = .ok (.iconst 0, 1) := by decide +kernel
theorem dX12_tint_45 : decode cX12_tint 45 = .ok (.istore_n 3, 1) := by decide +kernel
theorem dX12_tint_46 : decode cX12_tint 46 = .ok (.iload_n 3, 1) := by decide +kernel
theorem dX12_tint_47 : decode cX12_tint 47 = .ok (.aload_n 0, 1) := by decide +kernel
theorem dX12_tint_48 : decode cX12_tint 48 = .ok (.getfield 243, 3) := by decide +kernel
theorem dX12_tint_51 : decode cX12_tint 51 = .ok (.if_icmp .ge 63, 3) := by decide +kernel
theorem dX12_tint_54 : decode cX12_tint 54 = .ok (.aload_n 0, 1) := by decide +kernel
theorem dX12_tint_55 : decode cX12_tint 55 = .ok (.getfield 130, 3) := by decide +kernel
theorem dX12_tint_58 : decode cX12_tint 58 = .ok (.aload_n 0, 1) := by decide +kernel
theorem dX12_tint_59 : decode cX12_tint 59 = .ok (.getfield 78, 3) := by decide +kernel
theorem dX12_tint_62 : decode cX12_tint 62 = .ok (.iload_n 3, 1) := by decide +kernel
theorem dX12_tint_63 : decode cX12_tint 63 = .ok (.iaload, 1) := by decide +kernel
theorem dX12_tint_64 : decode cX12_tint 64 = .ok (.dup2, 1) := by decide +kernel
theorem dX12_tint_65 : decode cX12_tint 65 = .ok (.iaload, 1) := by decide +kernel
theorem dX12_tint_66 : decode cX12_tint 66 = .ok (.aload_n 0, 1) := by decide +kernel
theorem dX12_tint_67 : decode cX12_tint 67 = .ok (.aload_n 0, 1) := by decide +kernel
theorem dX12_tint_68 : decode cX12_tint 68 = .ok (.getfield 75, 3) := by decide +kernel
theorem dX12_tint_71 : decode cX12_tint 71 = .ok (.iload_n 3, 1) := by decide +kernel
theorem dX12_tint_72 : decode cX12_tint 72 = .ok (.iaload, 1) := by decide +kernel
theorem dX12_tint_73 : decode cX12_tint 73 = .ok (.aload_n 0, 1) := by decide +kernel
theorem dX12_tint_74 : decode cX12_tint 74 = .ok (.getfield 63, 3) := by decide +kernel
theorem dX12_tint_77 : decode cX12_tint 77 = .ok (.bipush 10, 2) := by decide +kernel
theorem dX12_tint_79 : decode cX12_tint 79 = .ok (.iload_n 1, 1) := by decide +kernel
theorem dX12_tint_80 : decode cX12_tint 80 = .ok (.imul, 1) := by decide +kernel
theorem dX12_tint_81 : decode cX12_tint 81 = .ok (.iload_n 2, 1) := by decide +kernel
theorem dX12_tint_82 : decode cX12_tint 82 = .ok (.iadd, 1) := by decide +kernel
theorem dX12_tint_83 : decode cX12_tint 83 = .ok (.iaload, 1) := by decide +kernel
theorem dX12_tint_84 : decode cX12_tint 84 = .ok (.aload_n 0, 1) := by decide +kernel
theorem dX12_tint_85 : decode cX12_tint 85 = .ok (.getfield 66, 3) := by decide +kernel
theorem dX12_tint_88 : decode cX12_tint 88 = .ok (.bipush 10, 2) := by decide +kernel
theorem dX12_tint_90 : decode cX12_tint 90 = .ok (.iload_n 1, 1) := by decide +kernel
theorem dX12_tint_91 : decode cX12_tint 91 = .ok (.imul, 1) := by decide +kernel
theorem dX12_tint_92 : decode cX12_tint 92 = .ok (.iload_n 2, 1) := by decide +kernel
theorem dX12_tint_93 : decode cX12_tint 93 = .ok (.iadd, 1) := by decide +kernel
theorem dX12_tint_94 : decode cX12_tint 94 = .ok (.iaload, 1) := by decide +kernel
theorem dX12_tint_95 : decode cX12_tint 95 = .ok (.invokevirtual 146, 3) := by decide +kernel
theorem dX12_tint_98 : decode cX12_tint 98 = .ok (.ifCond .eq 7, 3) := by decide +kernel
theorem dX12_tint_101 : decode cX12_tint 101 = .ok (.iconst 1, 1) := by decide +kernel
theorem dX12_tint_102 : decode cX12_tint 102 = .ok (.goto 4, 3) := by decide +kernel
theorem dX12_tint_105 : decode cX12_tint 105 = .ok (.iconst 0, 1) := by decide +kernel
theorem dX12_tint_106 : decode cX12_tint 106 = .ok (.iadd, 1) := by decide +kernel
theorem dX12_tint_107 : decode cX12_tint 107 = .ok (.iastore, 1) := by decide +kernel
theorem dX12_tint_108 : decode cX12_tint 108 = .ok (.iinc 3 1, 3) := by decide +kernel
theorem dX12_tint_111 : decode cX12_tint 111 = .ok (.goto (-65), 3) := by decide +kernel
theorem dX12_tint_114 : decode cX12_tint 114 = .ok (.iconst (-1), 1) := by decide +kernel
theorem dX12_tint_115 : decode cX12_tint 115 = .ok (.istore_n 3, 1) := by decide +kernel
theorem dX12_tint_116 : decode cX12_tint 116 = .ok (.iconst 0, 1) := by decide +kernel
theorem dX12_tint_117 : decode cX12_tint 117 = .ok (.istore 4, 2) := by decide +kernel
theorem dX12_tint_119 : decode cX12_tint 119 = .ok (.iload 4, 2) := by decide +kernel
theorem dX12_tint_121 : decode cX12_tint 121 = .ok (.bipush 10, 2) := by decide +kernel
theorem dX12_tint_123 : decode cX12_tint 123 = .ok (.if_icmp .ge 40, 3) := by decide +kernel
theorem dX12_tint_126 : decode cX12_tint 126 = .ok (.aload_n 0, 1) := by decide +kernel
theorem dX12_tint_127 : decode cX12_tint 127 = .ok (.getfield 130, 3) := by decide +kernel
theorem dX12_tint_130 : decode cX12_tint 130 = .ok (.iload 4, 2) := by decide +kernel
theorem dX12_tint_132 : decode cX12_tint 132 = .ok (.iaload, 1) := by decide +kernel
theorem dX12_tint_133 : decode cX12_tint 133 = .ok (.iload_n 3, 1) := by decide +kernel
theorem dX12_tint_134 : decode cX12_tint 134 = .ok (.ifCond .ge 7, 3) := by decide +kernel
theorem dX12_tint_137 : decode cX12_tint 137 = .ok (.iconst 0, 1) := by decide +kernel
theorem dX12_tint_138 : decode cX12_tint 138 = .ok (.goto 9, 3) := by decide +kernel
theorem dX12_tint_141 : decode cX12_tint 141 = .ok (.aload_n 0, 1) := by decide +kernel
theorem dX12_tint_142 : decode cX12_tint 142 = .ok (.getfield 130, 3) := by decide +kernel
theorem dX12_tint_145 : decode cX12_tint 145 = .ok (.iload_n 3, 1) := by decide +kernel
theorem dX12_tint_146 : decode cX12_tint 146 = .ok (.iaload, 1) := by decide +kernel
theorem dX12_tint_147 : decode cX12_tint 147 = .ok (.if_icmp .le 8, 3) := by decide +kernel
theorem dX12_tint_150 : decode cX12_tint 150 = .ok (.iload 4, 2) := by decide +kernel
theorem dX12_tint_152 : decode cX12_tint 152 = .ok (.goto 4, 3) := by decide +kernel
theorem dX12_tint_155 : decode cX12_tint 155 = .ok (.iload_n 3, 1) := by decide +kernel
theorem dX12_tint_156 : decode cX12_tint 156 = .ok (.istore_n 3, 1) := by decide +kernel
theorem dX12_tint_157 : decode cX12_tint 157 = .ok (.iinc 4 1, 3) := by decide +kernel
theorem dX12_tint_160 : decode cX12_tint 160 = .ok (.goto (-41), 3) := by decide +kernel
theorem dX12_tint_163 : decode cX12_tint 163 = .ok (.iload_n 3, 1) := by decide +kernel
theorem dX12_tint_164 : decode cX12_tint 164 = .ok (.ireturn, 1) := by decide +kernel
theorem dX12_right_0 : decode cX12_right 0 = .ok (.aload_n 0, 1) := by decide +kernel
theorem dX12_right_1 : decode cX12_right 1 = .ok (.iload_n 1, 1) := by decide +kernel
theorem dX12_right_2 : decode cX12_right 2 = .ok (.invokevirtual 222, 3) := by decide +kernel
theorem dX12_right_5 : decode cX12_right 5 = .ok (.ifCond .eq 18, 3) := by decide +kernel
theorem dX12_right_8 : decode cX12_right 8 = .ok (.aload_n 0, 1) := by decide +kernel
theorem dX12_right_9 : decode cX12_right 9 = .ok (.iload_n 2, 1) := by decide +kernel
theorem dX12_right_10 : decode cX12_right 10 = .ok (.iconst 0, 1) := by decide +kernel
theorem dX12_right_11 : decode cX12_right 11 = .ok (.bipush 9, 2) := by decide +kernel
theorem dX12_right_13 : decode cX12_right 13 = .ok (.invokevirtual 146, 3) := by decide +kernel
theorem dX12_right_16 : decode cX12_right 16 = .ok (.ifCond .eq 7, 3) := by decide +kernel
theorem dX12_right_19 : decode cX12_right 19 = .ok (.iconst 1, 1) := by decide +kernel
theorem dX12_right_20 : decode cX12_right 20 = .ok (.goto 4, 3) := by decide +kernel
theorem dX12_right_23 : decode cX12_right 23 = .ok (.iconst 0, 1) := by decide +kernel
theorem dX12_right_24 : decode cX12_right 24 = .ok (.istore 6, 2) := by decide +kernel
theorem dX12_right_26 : decode cX12_right 26 = .ok (.aload_n 0, 1) := by decide +kernel
theorem dX12_right_27 : decode cX12_right 27 = .ok (.iload_n 3, 1) := by decide +kernel
theorem dX12_right_28 : decode cX12_right 28 = .ok (.iconst 0, 1) := by decide +kernel
theorem dX12_right_29 : decode cX12_right 29 = .ok (.iconst 3, 1) := by decide +kernel
theorem dX12_right_30 : decode cX12_right 30 = .ok (.invokevirtual 146, 3) := by decide +kernel
theorem dX12_right_33 : decode cX12_right 33 = .ok (.ifCond .eq 36, 3) := by decide +kernel
theorem dX12_right_36 : decode cX12_right 36 = .ok (.aload_n 0, 1) := by decide +kernel
theorem dX12_right_37 : decode cX12_right 37 = .ok (.iload 4, 2) := by decide +kernel
theorem dX12_right_39 : decode cX12_right 39 = .ok (.sipush 1890, 3) := by decide +kernel
theorem dX12_right_42 : decode cX12_right 42 = .ok (.sipush 2200, 3) := by decide +kernel
theorem dX12_right_45 : decode cX12_right 45 = .ok (.invokevirtual 146, 3) := by decide +kernel
theorem dX12_right_48 : decode cX12_right 48 = .ok (.ifCond .eq 21, 3) := by decide +kernel
theorem dX12_right_51 : decode cX12_right 51 = .ok (.aload_n 0, 1) := by decide +kernel
theorem dX12_right_52 : decode cX12_right 52 = .ok (.iload 5, 2) := by decide +kernel
theorem dX12_right_54 : decode cX12_right 54 = .ok (.iload 4, 2) := by decide +kernel
theorem dX12_right_56 : decode cX12_right 56 = .ok (.sipush 2200, 3) := by decide +kernel
theorem dX12_right_59 : decode cX12_right 59 = .ok (.invokevirtual 146, 3) := by decide +kernel
theorem dX12_right_62 : decode cX12_right 62 = .ok (.ifCond .eq 7, 3) := by decide +kernel
theorem dX12_right_65 : decode cX12_right 65 = .ok (.iconst 1, 1) := by decide +kernel
theorem dX12_right_66 : decode cX12_right 66 = .ok (.goto 4, 3) := by decide +kernel
theorem dX12_right_69 : decode cX12_right 69 = .ok (.iconst 0, 1) := by decide +kernel
theorem dX12_right_70 : decode cX12_right 70 = .ok (.istore 7, 2) := by decide +kernel
theorem dX12_right_72 : decode cX12_right 72 = .ok (.aload_n 0, 1) := by decide +kernel
theorem dX12_right_73 : decode cX12_right 73 = .ok (.iload 6, 2) := by decide +kernel
theorem dX12_right_75 : decode cX12_right 75 = .ok (.ifCond .ne 7, 3) := by decide +kernel
theorem dX12_right_78 : decode cX12_right 78 = .ok (.iconst 1, 1) := by decide +kernel
theorem dX12_right_79 : decode cX12_right 79 = .ok (.goto 26, 3) := by decide +kernel
theorem dX12_right_82 : decode cX12_right 82 = .ok (.iload 7, 2) := by decide +kernel
theorem dX12_right_84 : decode cX12_right 84 = .ok (.ifCond .ne 7, 3) := by decide +kernel
theorem dX12_right_87 : decode cX12_right 87 = .ok (.iconst 2, 1) := by decide +kernel
theorem dX12_right_88 : decode cX12_right 88 = .ok (.goto 17, 3) := by decide +kernel
theorem dX12_right_91 : decode cX12_right 91 = .ok (.aload_n 0, 1) := by decide +kernel
theorem dX12_right_92 : decode cX12_right 92 = .ok (.getfield 246, 3) := by decide +kernel
theorem dX12_right_95 : decode cX12_right 95 = .ok (.bipush 40, 2) := by decide +kernel
theorem dX12_right_97 : decode cX12_right 97 = .ok (.if_icmp .ne 7, 3) := by decide +kernel
theorem dX12_right_100 : decode cX12_right 100 = .ok (.iconst 3, 1) := by decide +kernel
theorem dX12_right_101 : decode cX12_right 101 = .ok (.goto 4, 3) := by decide +kernel
theorem dX12_right_104 : decode cX12_right 104 = .ok (.iconst 0, 1) := by decide +kernel
theorem dX12_right_105 : decode cX12_right 105 = .ok (.invokevirtual 158, 3) := by decide +kernel
theorem dX12_right_108 : decode cX12_right 108 = .ok (.ifCond .eq 5, 3) := by decide +kernel
theorem dX12_right_111 : decode cX12_right 111 = .ok (.iconst (-1), 1) := by decide +kernel
theorem dX12_right_112 : decode cX12_right 112 = .ok (.ireturn, 1) := by decide +kernel
theorem dX12_right_113 : decode cX12_right 113 = .ok (.aload_n 0, 1) := by decide +kernel
theorem dX12_right_114 : decode cX12_right 114 = .ok (.getfield 81, 3) := by decide +kernel
theorem dX12_right_117 : decode cX12_right 117 = .ok (.aload_n 0, 1) := by decide +kernel
theorem dX12_right_118 : decode cX12_right 118 = .ok (.getfield 246, 3) := by decide +kernel
theorem dX12_right_121 : decode cX12_right 121 = .ok (.iload_n 1, 1) := by decide +kernel
theorem dX12_right_122 : decode cX12_right 122 = .ok (.iastore, 1) := by decide +kernel
theorem dX12_right_123 : decode cX12_right 123 = .ok (.aload_n 0, 1) := by decide +kernel
theorem dX12_right_124 : decode cX12_right 124 = .ok (.getfield 84, 3) := by decide +kernel
theorem dX12_right_127 : decode cX12_right 127 = .ok (.aload_n 0, 1) := by decide +kernel
theorem dX12_right_128 : decode cX12_right 128 = .ok (.getfield 246, 3) := by decide +kernel
theorem dX12_right_131 : decode cX12_right 131 = .ok (.iload_n 2, 1) := by decide +kernel
theorem dX12_right_132 : decode cX12_right 132 = .ok (.iastore, 1) := by decide +kernel
theorem dX12_right_133 : decode cX12_right 133 = .ok (.aload_n 0, 1) := by decide +kernel
theorem dX12_right_134 : decode cX12_right 134 = .ok (.getfield 87, 3) := by decide +kernel
theorem dX12_right_137 : decode cX12_right 137 = .ok (.aload_n 0, 1) := by decide +kernel
theorem dX12_right_138 : decode cX12_right 138 = .ok (.getfield 246, 3) := by decide +kernel
theorem dX12_right_141 : decode cX12_right 141 = .ok (.iload_n 3, 1) := by decide +kernel
theorem dX12_right_142 : decode cX12_right 142 = .ok (.iastore, 1) := by decide +kernel
theorem dX12_right_143 : decode cX12_right 143 = .ok (.aload_n 0, 1) := by decide +kernel
theorem dX12_right_144 : decode cX12_right 144 = .ok (.getfield 90, 3) := by decide +kernel
theorem dX12_right_147 : decode cX12_right 147 = .ok (.aload_n 0, 1) := by decide +kernel
theorem dX12_right_148 : decode cX12_right 148 = .ok (.getfield 246, 3) := by decide +kernel
theorem dX12_right_151 : decode cX12_right 151 = .ok (.iload 4, 2) := by decide +kernel
theorem dX12_right_153 : decode cX12_right 153 = .ok (.iastore, 1) := by decide +kernel
theorem dX12_right_154 : decode cX12_right 154 = .ok (.aload_n 0, 1) := by decide +kernel
theorem dX12_right_155 : decode cX12_right 155 = .ok (.getfield 93, 3) := by decide +kernel
theorem dX12_right_158 : decode cX12_right 158 = .ok (.aload_n 0, 1) := by decide +kernel
theorem dX12_right_159 : decode cX12_right 159 = .ok (.getfield 246, 3) := by decide +kernel
theorem dX12_right_162 : decode cX12_right 162 = .ok (.iload 5, 2) := by decide +kernel
theorem dX12_right_164 : decode cX12_right 164 = .ok (.iastore, 1) := by decide +kernel
theorem dX12_right_165 : decode cX12_right 165 = .ok (.aload_n 0, 1) := by decide +kernel
theorem dX12_right_166 : decode cX12_right 166 = .ok (.dup, 1) := by decide +kernel
theorem dX12_right_167 : decode cX12_right 167 = .ok (.getfield 246, 3) := by decide +kernel
theorem dX12_right_170 : decode cX12_right 170 = .ok (.iconst 1, 1) := by decide +kernel
theorem dX12_right_171 : decode cX12_right 171 = .ok (.iadd, 1) := by decide +kernel
theorem dX12_right_172 : decode cX12_right 172 = .ok (.putfield 246, 3) := by decide +kernel
theorem dX12_right_175 : decode cX12_right 175 = .ok (.iconst 0, 1) := by decide +kernel
theorem dX12_right_176 : decode cX12_right 176 = .ok (.istore 8, 2) := by decide +kernel
theorem dX12_right_178 : decode cX12_right 178 = .ok (.iconst 0, 1) := by decide +kernel
theorem dX12_right_179 : decode cX12_right 179 = .ok (.istore 9, 2) := by decide +kernel
theorem dX12_right_181 : decode cX12_right 181 = .ok (.iload 9, 2) := by decide +kernel
theorem dX12_right_183 : decode cX12_right 183 = .ok (.aload_n 0, 1) := by decide +kernel
theorem dX12_right_184 : decode cX12_right 184 = .ok (.getfield 246, 3) := by decide +kernel
theorem dX12_right_187 : decode cX12_right 187 = .ok (.if_icmp .ge 30, 3) := by decide +kernel
theorem dX12_right_190 : decode cX12_right 190 = .ok (.iload 8, 2) := by decide +kernel
theorem dX12_right_192 : decode cX12_right 192 = .ok (.aload_n 0, 1) := by decide +kernel
theorem dX12_right_193 : decode cX12_right 193 = .ok (.getfield 81, 3) := by decide +kernel
theorem dX12_right_196 : decode cX12_right 196 = .ok (.iload 9, 2) := by decide +kernel
theorem dX12_right_198 : decode cX12_right 198 = .ok (.iaload, 1) := by decide +kernel
theorem dX12_right_199 : decode cX12_right 199 = .ok (.iload_n 1, 1) := by decide +kernel
theorem dX12_right_200 : decode cX12_right 200 = .ok (.if_icmp .ne 7, 3) := by decide +kernel
theorem dX12_right_203 : decode cX12_right 203 = .ok (.iconst 1, 1) := by decide +kernel
theorem dX12_right_204 : decode cX12_right 204 = .ok (.goto 4, 3) := by decide +kernel
theorem dX12_right_207 : decode cX12_right 207 = .ok (.iconst 0, 1) := by decide +kernel
theorem dX12_right_208 : decode cX12_right 208 = .ok (.iadd, 1) := by decide +kernel
theorem dX12_right_209 : decode cX12_right 209 = .ok (.istore 8, 2) := by decide +kernel
theorem dX12_right_211 : decode cX12_right 211 = .ok (.iinc 9 1, 3) := by decide +kernel
theorem dX12_right_214 : decode cX12_right 214 = .ok (.goto (-33), 3) := by decide +kernel
theorem dX12_right_217 : decode cX12_right 217 = .ok (.iload 8, 2) := by decide +kernel
theorem dX12_right_219 : decode cX12_right 219 = .ok (.ireturn, 1) := by decide +kernel
theorem dX12_allow_0 : decode cX12_allow 0 = .ok (.aload_n 0, 1) := by decide +kernel
theorem dX12_allow_1 : decode cX12_allow 1 = .ok (.aload_n 0, 1) := by decide +kernel
theorem dX12_allow_2 : decode cX12_allow 2 = .ok (.iload_n 1, 1) := by decide +kernel
theorem dX12_allow_3 : decode cX12_allow 3 = .ok (.invokevirtual 222, 3) := by decide +kernel
theorem dX12_allow_6 : decode cX12_allow 6 = .ok (.ifCond .eq 18, 3) := by decide +kernel
theorem dX12_allow_9 : decode cX12_allow 9 = .ok (.aload_n 0, 1) := by decide +kernel
theorem dX12_allow_10 : decode cX12_allow 10 = .ok (.iload_n 2, 1) := by decide +kernel
theorem dX12_allow_11 : decode cX12_allow 11 = .ok (.iconst 0, 1) := by decide +kernel
theorem dX12_allow_12 : decode cX12_allow 12 = .ok (.bipush 9, 2) := by decide +kernel
theorem dX12_allow_14 : decode cX12_allow 14 = .ok (.invokevirtual 146, 3) := by decide +kernel
theorem dX12_allow_17 : decode cX12_allow 17 = .ok (.ifCond .eq 7, 3) := by decide +kernel
theorem dX12_allow_20 : decode cX12_allow 20 = .ok (.iconst 0, 1) := by decide +kernel
theorem dX12_allow_21 : decode cX12_allow 21 = .ok (.goto 4, 3) := by decide +kernel
theorem dX12_allow_24 : decode cX12_allow 24 = .ok (.iconst 1, 1) := by decide +kernel
theorem dX12_allow_25 : decode cX12_allow 25 = .ok (.invokevirtual 158, 3) := by decide +kernel
theorem dX12_allow_28 : decode cX12_allow 28 = .ok (.ifCond .eq 5, 3) := by decide +kernel
theorem dX12_allow_31 : decode cX12_allow 31 = .ok (.iconst 0, 1) := by decide +kernel
theorem dX12_allow_32 : decode cX12_allow 32 = .ok (.ireturn, 1) := by decide +kernel
theorem dX12_allow_33 : decode cX12_allow 33 = .ok (.aload_n 0, 1) := by decide +kernel
theorem dX12_allow_34 : decode cX12_allow 34 = .ok (.getfield 72, 3) := by decide +kernel
theorem dX12_allow_37 : decode cX12_allow 37 = .ok (.iload_n 1, 1) := by decide +kernel
theorem dX12_allow_38 : decode cX12_allow 38 = .ok (.iaload, 1) := by decide +kernel
theorem dX12_allow_39 : decode cX12_allow 39 = .ok (.iload_n 2, 1) := by decide +kernel
theorem dX12_allow_40 : decode cX12_allow 40 = .ok (.ishr, 1) := by decide +kernel
theorem dX12_allow_41 : decode cX12_allow 41 = .ok (.iconst 1, 1) := by decide +kernel
theorem dX12_allow_42 : decode cX12_allow 42 = .ok (.iand, 1) := by decide +kernel
theorem dX12_allow_43 : decode cX12_allow 43 = .ok (.iconst 1, 1) := by decide +kernel
theorem dX12_allow_44 : decode cX12_allow 44 = .ok (.if_icmp .ne 7, 3) := by decide +kernel
theorem dX12_allow_47 : decode cX12_allow 47 = .ok (.iconst 1, 1) := by decide +kernel
theorem dX12_allow_48 : decode cX12_allow 48 = .ok (.goto 4, 3) := by decide +kernel
theorem dX12_allow_51 : decode cX12_allow 51 = .ok (.iconst 0, 1) := by decide +kernel
theorem dX12_allow_52 : decode cX12_allow 52 = .ok (.istore 4, 2) := by decide +kernel
theorem dX12_allow_54 : decode cX12_allow 54 = .ok (.aload_n 0, 1) := by decide +kernel
theorem dX12_allow_55 : decode cX12_allow 55 = .ok (.getfield 72, 3) := by decide +kernel
theorem dX12_allow_58 : decode cX12_allow 58 = .ok (.iload_n 1, 1) := by decide +kernel
theorem dX12_allow_59 : decode cX12_allow 59 = .ok (.iload_n 3, 1) := by decide +kernel
theorem dX12_allow_60 : decode cX12_allow 60 = .ok (.ifCond .eq 16, 3) := by decide +kernel
theorem dX12_allow_63 : decode cX12_allow 63 = .ok (.aload_n 0, 1) := by decide +kernel
theorem dX12_allow_64 : decode cX12_allow 64 = .ok (.getfield 72, 3) := by decide +kernel
theorem dX12_allow_67 : decode cX12_allow 67 = .ok (.iload_n 1, 1) := by decide +kernel
theorem dX12_allow_68 : decode cX12_allow 68 = .ok (.iaload, 1) := by decide +kernel
theorem dX12_allow_69 : decode cX12_allow 69 = .ok (.iconst 1, 1) := by decide +kernel
theorem dX12_allow_70 : decode cX12_allow 70 = .ok (.iload_n 2, 1) := by decide +kernel
theorem dX12_allow_71 : decode cX12_allow 71 = .ok (.ishl, 1) := by decide +kernel
theorem dX12_allow_72 : decode cX12_allow 72 = .ok (.ior, 1) := by decide +kernel
theorem dX12_allow_73 : decode cX12_allow 73 = .ok (.goto 15, 3) := by decide +kernel
theorem dX12_allow_76 : decode cX12_allow 76 = .ok (.aload_n 0, 1) := by decide +kernel
theorem dX12_allow_77 : decode cX12_allow 77 = .ok (.getfield 72, 3) := by decide +kernel
theorem dX12_allow_80 : decode cX12_allow 80 = .ok (.iload_n 1, 1) := by decide +kernel
theorem dX12_allow_81 : decode cX12_allow 81 = .ok (.iaload, 1) := by decide +kernel
theorem dX12_allow_82 : decode cX12_allow 82 = .ok (.iconst 1, 1) := by decide +kernel
theorem dX12_allow_83 : decode cX12_allow 83 = .ok (.iload_n 2, 1) := by decide +kernel
theorem dX12_allow_84 : decode cX12_allow 84 = .ok (.ishl, 1) := by decide +kernel
theorem dX12_allow_85 : decode cX12_allow 85 = .ok (.iconst (-1), 1) := by decide +kernel
theorem dX12_allow_86 : decode cX12_allow 86 = .ok (.ixor, 1) := by decide +kernel
theorem dX12_allow_87 : decode cX12_allow 87 = .ok (.iand, 1) := by decide +kernel
theorem dX12_allow_88 : decode cX12_allow 88 = .ok (.iastore, 1) := by decide +kernel
theorem dX12_allow_89 : decode cX12_allow 89 = .ok (.iload 4, 2) := by decide +kernel
theorem dX12_allow_91 : decode cX12_allow 91 = .ok (.ireturn, 1) := by decide +kernel
theorem dX12_mayShow_0 : decode cX12_mayShow 0 = .ok (.aload_n 0, 1) := by decide +kernel
theorem dX12_mayShow_1 : decode cX12_mayShow 1 = .ok (.aload_n 0, 1) := by decide +kernel
theorem dX12_mayShow_2 : decode cX12_mayShow 2 = .ok (.iload_n 1, 1) := by decide +kernel
theorem dX12_mayShow_3 : decode cX12_mayShow 3 = .ok (.invokevirtual 222, 3) := by decide +kernel
theorem dX12_mayShow_6 : decode cX12_mayShow 6 = .ok (.ifCond .ne 7, 3) := by decide +kernel
theorem dX12_mayShow_9 : decode cX12_mayShow 9 = .ok (.iconst 1, 1) := by decide +kernel
theorem dX12_mayShow_10 : decode cX12_mayShow 10 = .ok (.goto 32, 3) := by decide +kernel
theorem dX12_mayShow_13 : decode cX12_mayShow 13 = .ok (.aload_n 0, 1) := by decide +kernel
theorem dX12_mayShow_14 : decode cX12_mayShow 14 = .ok (.iload_n 2, 1) := by decide +kernel
theorem dX12_mayShow_15 : decode cX12_mayShow 15 = .ok (.iconst 0, 1) := by decide +kernel
theorem dX12_mayShow_16 : decode cX12_mayShow 16 = .ok (.iconst 3, 1) := by decide +kernel
theorem dX12_mayShow_17 : decode cX12_mayShow 17 = .ok (.invokevirtual 146, 3) := by decide +kernel
theorem dX12_mayShow_20 : decode cX12_mayShow 20 = .ok (.ifCond .eq 21, 3) := by decide +kernel
theorem dX12_mayShow_23 : decode cX12_mayShow 23 = .ok (.aload_n 0, 1) := by decide +kernel
theorem dX12_mayShow_24 : decode cX12_mayShow 24 = .ok (.iload_n 3, 1) := by decide +kernel
theorem dX12_mayShow_25 : decode cX12_mayShow 25 = .ok (.sipush 1890, 3) := by decide +kernel
theorem dX12_mayShow_28 : decode cX12_mayShow 28 = .ok (.sipush 2200, 3) := by decide +kernel
theorem dX12_mayShow_31 : decode cX12_mayShow 31 = .ok (.invokevirtual 146, 3) := by decide +kernel
theorem dX12_mayShow_34 : decode cX12_mayShow 34 = .ok (.ifCond .eq 7, 3) := by decide +kernel
theorem dX12_mayShow_37 : decode cX12_mayShow 37 = .ok (.iconst 0, 1) := by decide +kernel
theorem dX12_mayShow_38 : decode cX12_mayShow 38 = .ok (.goto 4, 3) := by decide +kernel
theorem dX12_mayShow_41 : decode cX12_mayShow 41 = .ok (.iconst 2, 1) := by decide +kernel
theorem dX12_mayShow_42 : decode cX12_mayShow 42 = .ok (.invokevirtual 158, 3) := by decide +kernel
theorem dX12_mayShow_45 : decode cX12_mayShow 45 = .ok (.ifCond .eq 5, 3) := by decide +kernel
theorem dX12_mayShow_48 : decode cX12_mayShow 48 = .ok (.iconst 0, 1) := by decide +kernel
theorem dX12_mayShow_49 : decode cX12_mayShow 49 = .ok (.ireturn, 1) := by decide +kernel
theorem dX12_mayShow_50 : decode cX12_mayShow 50 = .ok (.iconst 1, 1) := by decide +kernel
theorem dX12_mayShow_51 : decode cX12_mayShow 51 = .ok (.istore 4, 2) := by decide +kernel
theorem dX12_mayShow_53 : decode cX12_mayShow 53 = .ok (.iconst 0, 1) := by decide +kernel
theorem dX12_mayShow_54 : decode cX12_mayShow 54 = .ok (.istore 5, 2) := by decide +kernel
theorem dX12_mayShow_56 : decode cX12_mayShow 56 = .ok (.iload 5, 2) := by decide +kernel
theorem dX12_mayShow_58 : decode cX12_mayShow 58 = .ok (.aload_n 0, 1) := by decide +kernel
theorem dX12_mayShow_59 : decode cX12_mayShow 59 = .ok (.getfield 246, 3) := by decide +kernel
theorem dX12_mayShow_62 : decode cX12_mayShow 62 = .ok (.if_icmp .ge 83, 3) := by decide +kernel
theorem dX12_mayShow_65 : decode cX12_mayShow 65 = .ok (.iload 4, 2) := by decide +kernel
theorem dX12_mayShow_67 : decode cX12_mayShow 67 = .ok (.aload_n 0, 1) := by decide +kernel
theorem dX12_mayShow_68 : decode cX12_mayShow 68 = .ok (.getfield 81, 3) := by decide +kernel
theorem dX12_mayShow_71 : decode cX12_mayShow 71 = .ok (.iload 5, 2) := by decide +kernel
theorem dX12_mayShow_73 : decode cX12_mayShow 73 = .ok (.iaload, 1) := by decide +kernel
theorem dX12_mayShow_74 : decode cX12_mayShow 74 = .ok (.iload_n 1, 1) := by decide +kernel
theorem dX12_mayShow_75 : decode cX12_mayShow 75 = .ok (.if_icmp .ne 56, 3) := by decide +kernel
theorem dX12_mayShow_78 : decode cX12_mayShow 78 = .ok (.aload_n 0, 1) := by decide +kernel
theorem dX12_mayShow_79 : decode cX12_mayShow 79 = .ok (.getfield 87, 3) := by decide +kernel
theorem dX12_mayShow_82 : decode cX12_mayShow 82 = .ok (.iload 5, 2) := by decide +kernel
theorem dX12_mayShow_84 : decode cX12_mayShow 84 = .ok (.iaload, 1) := by decide +kernel
theorem dX12_mayShow_85 : decode cX12_mayShow 85 = .ok (.iload_n 2, 1) := by decide +kernel
theorem dX12_mayShow_86 : decode cX12_mayShow 86 = .ok (.if_icmp .ne 45, 3) := by decide +kernel
theorem dX12_mayShow_89 : decode cX12_mayShow 89 = .ok (.aload_n 0, 1) := by decide +kernel
theorem dX12_mayShow_90 : decode cX12_mayShow 90 = .ok (.iload_n 3, 1) := by decide +kernel
theorem dX12_mayShow_91 : decode cX12_mayShow 91 = .ok (.aload_n 0, 1) := by decide +kernel
theorem dX12_mayShow_92 : decode cX12_mayShow 92 = .ok (.getfield 90, 3) := by decide +kernel
theorem dX12_mayShow_95 : decode cX12_mayShow 95 = .ok (.iload 5, 2) := by decide +kernel
theorem dX12_mayShow_97 : decode cX12_mayShow 97 = .ok (.iaload, 1) := by decide +kernel
theorem dX12_mayShow_98 : decode cX12_mayShow 98 = .ok (.aload_n 0, 1) := by decide +kernel
theorem dX12_mayShow_99 : decode cX12_mayShow 99 = .ok (.getfield 93, 3) := by decide +kernel
theorem dX12_mayShow_102 : decode cX12_mayShow 102 = .ok (.iload 5, 2) := by decide +kernel
theorem dX12_mayShow_104 : decode cX12_mayShow 104 = .ok (.iaload, 1) := by decide +kernel
theorem dX12_mayShow_105 : decode cX12_mayShow 105 = .ok (.invokevirtual 146, 3) := by decide +kernel
theorem dX12_mayShow_108 : decode cX12_mayShow 108 = .ok (.ifCond .eq 23, 3) := by decide +kernel
theorem dX12_mayShow_111 : decode cX12_mayShow 111 = .ok (.aload_n 0, 1) := by decide +kernel
theorem dX12_mayShow_112 : decode cX12_mayShow 112 = .ok (.getfield 72, 3) := by decide +kernel
theorem dX12_mayShow_115 : decode cX12_mayShow 115 = .ok (.iload_n 1, 1) := by decide +kernel
theorem dX12_mayShow_116 : decode cX12_mayShow 116 = .ok (.iaload, 1) := by decide +kernel
theorem dX12_mayShow_117 : decode cX12_mayShow 117 = .ok (.aload_n 0, 1) := by decide +kernel
theorem dX12_mayShow_118 : decode cX12_mayShow 118 = .ok (.getfield 84, 3) := by decide +kernel
theorem dX12_mayShow_121 : decode cX12_mayShow 121 = .ok (.iload 5, 2) := by decide +kernel
theorem dX12_mayShow_123 : decode cX12_mayShow 123 = .ok (.iaload, 1) := by decide +kernel
theorem dX12_mayShow_124 : decode cX12_mayShow 124 = .ok (.ishr, 1) := by decide +kernel
theorem dX12_mayShow_125 : decode cX12_mayShow 125 = .ok (.iconst 1, 1) := by decide +kernel
theorem dX12_mayShow_126 : decode cX12_mayShow 126 = .ok (.iand, 1) := by decide +kernel
theorem dX12_mayShow_127 : decode cX12_mayShow 127 = .ok (.iconst 1, 1) := by decide +kernel
theorem dX12_mayShow_128 : decode cX12_mayShow 128 = .ok (.if_icmp .ne 7, 3) := by decide +kernel
theorem dX12_mayShow_131 : decode cX12_mayShow 131 = .ok (.iconst 1, 1) := by decide +kernel
theorem dX12_mayShow_132 : decode cX12_mayShow 132 = .ok (.goto 4, 3) := by decide +kernel
theorem dX12_mayShow_135 : decode cX12_mayShow 135 = .ok (.iconst 0, 1) := by decide +kernel
theorem dX12_mayShow_136 : decode cX12_mayShow 136 = .ok (.iand, 1) := by decide +kernel
theorem dX12_mayShow_137 : decode cX12_mayShow 137 = .ok (.istore 4, 2) := by decide +kernel
theorem dX12_mayShow_139 : decode cX12_mayShow 139 = .ok (.iinc 5 1, 3) := by decide +kernel
theorem dX12_mayShow_142 : decode cX12_mayShow 142 = .ok (.goto (-86), 3) := by decide +kernel
theorem dX12_mayShow_145 : decode cX12_mayShow 145 = .ok (.iload 4, 2) := by decide +kernel
theorem dX12_mayShow_147 : decode cX12_mayShow 147 = .ok (.ireturn, 1) := by decide +kernel
theorem dX12_edition_0 : decode cX12_edition 0 = .ok (.aload_n 0, 1) := by decide +kernel
theorem dX12_edition_1 : decode cX12_edition 1 = .ok (.aload_n 0, 1) := by decide +kernel
theorem dX12_edition_2 : decode cX12_edition 2 = .ok (.iload_n 1, 1) := by decide +kernel
theorem dX12_edition_3 : decode cX12_edition 3 = .ok (.invokevirtual 222, 3) := by decide +kernel
theorem dX12_edition_6 : decode cX12_edition 6 = .ok (.ifCond .eq 7, 3) := by decide +kernel
theorem dX12_edition_9 : decode cX12_edition 9 = .ok (.iconst 0, 1) := by decide +kernel
theorem dX12_edition_10 : decode cX12_edition 10 = .ok (.goto 4, 3) := by decide +kernel
theorem dX12_edition_13 : decode cX12_edition 13 = .ok (.iconst 1, 1) := by decide +kernel
theorem dX12_edition_14 : decode cX12_edition 14 = .ok (.invokevirtual 158, 3) := by decide +kernel
theorem dX12_edition_17 : decode cX12_edition 17 = .ok (.ifCond .eq 5, 3) := by decide +kernel
theorem dX12_edition_20 : decode cX12_edition 20 = .ok (.iconst (-1), 1) := by decide +kernel
theorem dX12_edition_21 : decode cX12_edition 21 = .ok (.ireturn, 1) := by decide +kernel
theorem dX12_edition_22 : decode cX12_edition 22 = .ok (.aload_n 0, 1) := by decide +kernel
theorem dX12_edition_23 : decode cX12_edition 23 = .ok (.iconst 0, 1) := by decide +kernel
theorem dX12_edition_24 : decode cX12_edition 24 = .ok (.putfield 249, 3) := by decide +kernel
theorem dX12_edition_27 : decode cX12_edition 27 = .ok (.aload_n 0, 1) := by decide +kernel
theorem dX12_edition_28 : decode cX12_edition 28 = .ok (.iconst 0, 1) := by decide +kernel
theorem dX12_edition_29 : decode cX12_edition 29 = .ok (.putfield 252, 3) := by decide +kernel
theorem dX12_edition_32 : decode cX12_edition 32 = .ok (.iconst 0, 1) := by decide +kernel
theorem dX12_edition_33 : decode cX12_edition 33 = .ok (.istore_n 2, 1) := by decide +kernel
theorem dX12_edition_34 : decode cX12_edition 34 = .ok (.bipush 10, 2) := by decide +kernel
theorem dX12_edition_36 : decode cX12_edition 36 = .ok (.iload_n 1, 1) := by decide +kernel
theorem dX12_edition_37 : decode cX12_edition 37 = .ok (.imul, 1) := by decide +kernel
theorem dX12_edition_38 : decode cX12_edition 38 = .ok (.istore_n 3, 1) := by decide +kernel
theorem dX12_edition_39 : decode cX12_edition 39 = .ok (.iload_n 3, 1) := by decide +kernel
theorem dX12_edition_40 : decode cX12_edition 40 = .ok (.bipush 10, 2) := by decide +kernel
theorem dX12_edition_42 : decode cX12_edition 42 = .ok (.iload_n 1, 1) := by decide +kernel
theorem dX12_edition_43 : decode cX12_edition 43 = .ok (.imul, 1) := by decide +kernel
theorem dX12_edition_44 : decode cX12_edition 44 = .ok (.aload_n 0, 1) := by decide +kernel
theorem dX12_edition_45 : decode cX12_edition 45 = .ok (.getfield 60, 3) := by decide +kernel
theorem dX12_edition_48 : decode cX12_edition 48 = .ok (.iload_n 1, 1) := by decide +kernel
theorem dX12_edition_49 : decode cX12_edition 49 = .ok (.iaload, 1) := by decide +kernel
theorem dX12_edition_50 : decode cX12_edition 50 = .ok (.iadd, 1) := by decide +kernel
theorem dX12_edition_51 : decode cX12_edition 51 = .ok (.if_icmp .ge 179, 3) := by decide +kernel
theorem dX12_edition_54 : decode cX12_edition 54 = .ok (.aload_n 0, 1) := by decide +kernel
theorem dX12_edition_55 : decode cX12_edition 55 = .ok (.getfield 63, 3) := by decide +kernel
theorem dX12_edition_58 : decode cX12_edition 58 = .ok (.iload_n 3, 1) := by decide +kernel
theorem dX12_edition_59 : decode cX12_edition 59 = .ok (.iaload, 1) := by decide +kernel
theorem dX12_edition_60 : decode cX12_edition 60 = .ok (.istore 4, 2) := by decide +kernel
theorem dX12_edition_62 : decode cX12_edition 62 = .ok (.iload 4, 2) := by decide +kernel
theorem dX12_edition_64 : decode cX12_edition 64 = .ok (.aload_n 0, 1) := by decide +kernel
theorem dX12_edition_65 : decode cX12_edition 65 = .ok (.getfield 66, 3) := by decide +kernel
theorem dX12_edition_68 : decode cX12_edition 68 = .ok (.iload_n 3, 1) := by decide +kernel
theorem dX12_edition_69 : decode cX12_edition 69 = .ok (.iaload, 1) := by decide +kernel
theorem dX12_edition_70 : decode cX12_edition 70 = .ok (.if_icmp .gt 154, 3) := by decide +kernel
theorem dX12_edition_73 : decode cX12_edition 73 = .ok (.aload_n 0, 1) := by decide +kernel
theorem dX12_edition_74 : decode cX12_edition 74 = .ok (.iload 4, 2) := by decide +kernel
theorem dX12_edition_76 : decode cX12_edition 76 = .ok (.invokevirtual 234, 3) := by decide +kernel
theorem dX12_edition_79 : decode cX12_edition 79 = .ok (.istore 5, 2) := by decide +kernel
theorem dX12_edition_81 : decode cX12_edition 81 = .ok (.aload_n 0, 1) := by decide +kernel
theorem dX12_edition_82 : decode cX12_edition 82 = .ok (.getfield 96, 3) := by decide +kernel
theorem dX12_edition_85 : decode cX12_edition 85 = .ok (.aload_n 0, 1) := by decide +kernel
theorem dX12_edition_86 : decode cX12_edition 86 = .ok (.getfield 249, 3) := by decide +kernel
theorem dX12_edition_89 : decode cX12_edition 89 = .ok (.iload 4, 2) := by decide +kernel
theorem dX12_edition_91 : decode cX12_edition 91 = .ok (.iastore, 1) := by decide +kernel
theorem dX12_edition_92 : decode cX12_edition 92 = .ok (.aload_n 0, 1) := by decide +kernel
theorem dX12_edition_93 : decode cX12_edition 93 = .ok (.getfield 99, 3) := by decide +kernel
theorem dX12_edition_96 : decode cX12_edition 96 = .ok (.aload_n 0, 1) := by decide +kernel
theorem dX12_edition_97 : decode cX12_edition 97 = .ok (.getfield 249, 3) := by decide +kernel
theorem dX12_edition_100 : decode cX12_edition 100 = .ok (.iload 5, 2) := by decide +kernel
theorem dX12_edition_102 : decode cX12_edition 102 = .ok (.iastore, 1) := by decide +kernel
theorem dX12_edition_103 : decode cX12_edition 103 = .ok (.aload_n 0, 1) := by decide +kernel
theorem dX12_edition_104 : decode cX12_edition 104 = .ok (.getfield 102, 3) := by decide +kernel
theorem dX12_edition_107 : decode cX12_edition 107 = .ok (.aload_n 0, 1) := by decide +kernel
theorem dX12_edition_108 : decode cX12_edition 108 = .ok (.getfield 249, 3) := by decide +kernel
theorem dX12_edition_111 : decode cX12_edition 111 = .ok (.iload 5, 2) := by decide +kernel
theorem dX12_edition_113 : decode cX12_edition 113 = .ok (.ifCond .ge 7, 3) := by decide +kernel
theorem dX12_edition_116 : decode cX12_edition 116 = .ok (.iconst (-1), 1) := by decide +kernel
theorem dX12_edition_117 : decode cX12_edition 117 = .ok (.goto 11, 3) := by decide +kernel
theorem dX12_edition_120 : decode cX12_edition 120 = .ok (.aload_n 0, 1) := by decide +kernel
theorem dX12_edition_121 : decode cX12_edition 121 = .ok (.iload 5, 2) := by decide +kernel
theorem dX12_edition_123 : decode cX12_edition 123 = .ok (.iload 4, 2) := by decide +kernel
theorem dX12_edition_125 : decode cX12_edition 125 = .ok (.invokevirtual 231, 3) := by decide +kernel
theorem dX12_edition_128 : decode cX12_edition 128 = .ok (.iastore, 1) := by decide +kernel
theorem dX12_edition_129 : decode cX12_edition 129 = .ok (.aload_n 0, 1) := by decide +kernel
theorem dX12_edition_130 : decode cX12_edition 130 = .ok (.getfield 105, 3) := by decide +kernel
theorem dX12_edition_133 : decode cX12_edition 133 = .ok (.aload_n 0, 1) := by decide +kernel
theorem dX12_edition_134 : decode cX12_edition 134 = .ok (.getfield 249, 3) := by decide +kernel
theorem dX12_edition_137 : decode cX12_edition 137 = .ok (.iload 5, 2) := by decide +kernel
theorem dX12_edition_139 : decode cX12_edition 139 = .ok (.ifCond .ge 7, 3) := by decide +kernel
theorem dX12_edition_142 : decode cX12_edition 142 = .ok (.lconst 0, 1) := by decide +kernel
theorem dX12_edition_143 : decode cX12_edition 143 = .ok (.goto 23, 3) := by decide +kernel
theorem dX12_edition_146 : decode cX12_edition 146 = .ok (.aload_n 0, 1) := by decide +kernel
theorem dX12_edition_147 : decode cX12_edition 147 = .ok (.getfield 34, 3) := by decide +kernel
theorem dX12_edition_150 : decode cX12_edition 150 = .ok (.bipush 60, 2) := by decide +kernel
theorem dX12_edition_152 : decode cX12_edition 152 = .ok (.iload 5, 2) := by decide +kernel
theorem dX12_edition_154 : decode cX12_edition 154 = .ok (.imul, 1) := by decide +kernel
theorem dX12_edition_155 : decode cX12_edition 155 = .ok (.aload_n 0, 1) := by decide +kernel
theorem dX12_edition_156 : decode cX12_edition 156 = .ok (.getfield 102, 3) := by decide +kernel
theorem dX12_edition_159 : decode cX12_edition 159 = .ok (.aload_n 0, 1) := by decide +kernel
theorem dX12_edition_160 : decode cX12_edition 160 = .ok (.getfield 249, 3) := by decide +kernel
theorem dX12_edition_163 : decode cX12_edition 163 = .ok (.iaload, 1) := by decide +kernel
theorem dX12_edition_164 : decode cX12_edition 164 = .ok (.iadd, 1) := by decide +kernel
theorem dX12_edition_165 : decode cX12_edition 165 = .ok (.laload, 1) := by decide +kernel
theorem dX12_edition_166 : decode cX12_edition 166 = .ok (.lastore, 1) := by decide +kernel
theorem dX12_edition_167 : decode cX12_edition 167 = .ok (.aload_n 0, 1) := by decide +kernel
theorem dX12_edition_168 : decode cX12_edition 168 = .ok (.getfield 108, 3) := by decide +kernel
theorem dX12_edition_171 : decode cX12_edition 171 = .ok (.aload_n 0, 1) := by decide +kernel
theorem dX12_edition_172 : decode cX12_edition 172 = .ok (.getfield 249, 3) := by decide +kernel
theorem dX12_edition_175 : decode cX12_edition 175 = .ok (.aload_n 0, 1) := by decide +kernel
theorem dX12_edition_176 : decode cX12_edition 176 = .ok (.getfield 105, 3) := by decide +kernel
theorem dX12_edition_179 : decode cX12_edition 179 = .ok (.aload_n 0, 1) := by decide +kernel
theorem dX12_edition_180 : decode cX12_edition 180 = .ok (.getfield 249, 3) := by decide +kernel
theorem dX12_edition_183 : decode cX12_edition 183 = .ok (.laload, 1) := by decide +kernel
theorem dX12_edition_184 : decode cX12_edition 184 = .ok (.lastore, 1) := by decide +kernel
theorem dX12_edition_185 : decode cX12_edition 185 = .ok (.aload_n 0, 1) := by decide +kernel
theorem dX12_edition_186 : decode cX12_edition 186 = .ok (.getfield 111, 3) := by decide +kernel
theorem dX12_edition_189 : decode cX12_edition 189 = .ok (.aload_n 0, 1) := by decide +kernel
theorem dX12_edition_190 : decode cX12_edition 190 = .ok (.getfield 249, 3) := by decide +kernel
theorem dX12_edition_193 : decode cX12_edition 193 = .ok (.iconst 0, 1) := by decide +kernel
theorem dX12_edition_194 : decode cX12_edition 194 = .ok (.iastore, 1) := by decide +kernel
theorem dX12_edition_195 : decode cX12_edition 195 = .ok (.iload_n 2, 1) := by decide +kernel
theorem dX12_edition_196 : decode cX12_edition 196 = .ok (.iload 5, 2) := by decide +kernel
theorem dX12_edition_198 : decode cX12_edition 198 = .ok (.ifCond .ge 7, 3) := by decide +kernel
theorem dX12_edition_201 : decode cX12_edition 201 = .ok (.iconst 1, 1) := by decide +kernel
theorem dX12_edition_202 : decode cX12_edition 202 = .ok (.goto 4, 3) := by decide +kernel
theorem dX12_edition_205 : decode cX12_edition 205 = .ok (.iconst 0, 1) := by decide +kernel
theorem dX12_edition_206 : decode cX12_edition 206 = .ok (.iadd, 1) := by decide +kernel
theorem dX12_edition_207 : decode cX12_edition 207 = .ok (.istore_n 2, 1) := by decide +kernel
theorem dX12_edition_208 : decode cX12_edition 208 = .ok (.aload_n 0, 1) := by decide +kernel
theorem dX12_edition_209 : decode cX12_edition 209 = .ok (.dup, 1) := by decide +kernel
theorem dX12_edition_210 : decode cX12_edition 210 = .ok (.getfield 249, 3) := by decide +kernel
theorem dX12_edition_213 : decode cX12_edition 213 = .ok (.iconst 1, 1) := by decide +kernel
theorem dX12_edition_214 : decode cX12_edition 214 = .ok (.iadd, 1) := by decide +kernel
theorem dX12_edition_215 : decode cX12_edition 215 = .ok (.putfield 249, 3) := by decide +kernel
theorem dX12_edition_218 : decode cX12_edition 218 = .ok (.iinc 4 1, 3) := by decide +kernel
theorem dX12_edition_221 : decode cX12_edition 221 = .ok (.goto (-159), 3) := by decide +kernel
theorem dX12_edition_224 : decode cX12_edition 224 = .ok (.iinc 3 1, 3) := by decide +kernel
theorem dX12_edition_227 : decode cX12_edition 227 = .ok (.goto (-188), 3) := by decide +kernel
theorem dX12_edition_230 : decode cX12_edition 230 = .ok (.iload_n 2, 1) := by decide +kernel
theorem dX12_edition_231 : decode cX12_edition 231 = .ok (.ireturn, 1) := by decide +kernel
theorem dX12_isPlace_0 : decode cX12_isPlace 0 = .ok (.aload_n 0, 1) := by decide +kernel
theorem dX12_isPlace_1 : decode cX12_isPlace 1 = .ok (.iload_n 1, 1) := by decide +kernel
theorem dX12_isPlace_2 : decode cX12_isPlace 2 = .ok (.iconst 0, 1) := by decide +kernel
theorem dX12_isPlace_3 : decode cX12_isPlace 3 = .ok (.aload_n 0, 1) := by decide +kernel
theorem dX12_isPlace_4 : decode cX12_isPlace 4 = .ok (.getfield 249, 3) := by decide +kernel
theorem dX12_isPlace_7 : decode cX12_isPlace 7 = .ok (.iconst 1, 1) := by decide +kernel
theorem dX12_isPlace_8 : decode cX12_isPlace 8 = .ok (.isub, 1) := by decide +kernel
theorem dX12_isPlace_9 : decode cX12_isPlace 9 = .ok (.invokevirtual 146, 3) := by decide +kernel
theorem dX12_isPlace_12 : decode cX12_isPlace 12 = .ok (.ireturn, 1) := by decide +kernel
theorem dX12_protect_0 : decode cX12_protect 0 = .ok (.aload_n 0, 1) := by decide +kernel
theorem dX12_protect_1 : decode cX12_protect 1 = .ok (.aload_n 0, 1) := by decide +kernel
theorem dX12_protect_2 : decode cX12_protect 2 = .ok (.iload_n 1, 1) := by decide +kernel
theorem dX12_protect_3 : decode cX12_protect 3 = .ok (.invokevirtual 255, 3) := by decide +kernel
theorem dX12_protect_6 : decode cX12_protect 6 = .ok (.ifCond .eq 7, 3) := by decide +kernel
theorem dX12_protect_9 : decode cX12_protect 9 = .ok (.iconst 0, 1) := by decide +kernel
theorem dX12_protect_10 : decode cX12_protect 10 = .ok (.goto 4, 3) := by decide +kernel
theorem dX12_protect_13 : decode cX12_protect 13 = .ok (.iconst 1, 1) := by decide +kernel
theorem dX12_protect_14 : decode cX12_protect 14 = .ok (.invokevirtual 158, 3) := by decide +kernel
theorem dX12_protect_17 : decode cX12_protect 17 = .ok (.ifCond .eq 5, 3) := by decide +kernel
theorem dX12_protect_20 : decode cX12_protect 20 = .ok (.iconst 0, 1) := by decide +kernel
theorem dX12_protect_21 : decode cX12_protect 21 = .ok (.ireturn, 1) := by decide +kernel
theorem dX12_protect_22 : decode cX12_protect 22 = .ok (.aload_n 0, 1) := by decide +kernel
theorem dX12_protect_23 : decode cX12_protect 23 = .ok (.getfield 111, 3) := by decide +kernel
theorem dX12_protect_26 : decode cX12_protect 26 = .ok (.iload_n 1, 1) := by decide +kernel
theorem dX12_protect_27 : decode cX12_protect 27 = .ok (.iaload, 1) := by decide +kernel
theorem dX12_protect_28 : decode cX12_protect 28 = .ok (.iconst 1, 1) := by decide +kernel
theorem dX12_protect_29 : decode cX12_protect 29 = .ok (.if_icmp .ne 7, 3) := by decide +kernel
theorem dX12_protect_32 : decode cX12_protect 32 = .ok (.iconst 1, 1) := by decide +kernel
theorem dX12_protect_33 : decode cX12_protect 33 = .ok (.goto 4, 3) := by decide +kernel
theorem dX12_protect_36 : decode cX12_protect 36 = .ok (.iconst 0, 1) := by decide +kernel
theorem dX12_protect_37 : decode cX12_protect 37 = .ok (.istore_n 3, 1) := by decide +kernel
theorem dX12_protect_38 : decode cX12_protect 38 = .ok (.aload_n 0, 1) := by decide +kernel
theorem dX12_protect_39 : decode cX12_protect 39 = .ok (.getfield 111, 3) := by decide +kernel
theorem dX12_protect_42 : decode cX12_protect 42 = .ok (.iload_n 1, 1) := by decide +kernel
theorem dX12_protect_43 : decode cX12_protect 43 = .ok (.iload_n 2, 1) := by decide +kernel
theorem dX12_protect_44 : decode cX12_protect 44 = .ok (.ifCond .eq 7, 3) := by decide +kernel
theorem dX12_protect_47 : decode cX12_protect 47 = .ok (.iconst 1, 1) := by decide +kernel
theorem dX12_protect_48 : decode cX12_protect 48 = .ok (.goto 4, 3) := by decide +kernel
theorem dX12_protect_51 : decode cX12_protect 51 = .ok (.iconst 0, 1) := by decide +kernel
theorem dX12_protect_52 : decode cX12_protect 52 = .ok (.iastore, 1) := by decide +kernel
theorem dX12_protect_53 : decode cX12_protect 53 = .ok (.iload_n 3, 1) := by decide +kernel
theorem dX12_protect_54 : decode cX12_protect 54 = .ok (.ireturn, 1) := by decide +kernel
theorem dX12_limit_0 : decode cX12_limit 0 = .ok (.aload_n 0, 1) := by decide +kernel
theorem dX12_limit_1 : decode cX12_limit 1 = .ok (.aload_n 0, 1) := by decide +kernel
theorem dX12_limit_2 : decode cX12_limit 2 = .ok (.iload_n 1, 1) := by decide +kernel
theorem dX12_limit_3 : decode cX12_limit 3 = .ok (.iconst 0, 1) := by decide +kernel
theorem dX12_limit_4 : decode cX12_limit 4 = .ok (.bipush 8, 2) := by decide +kernel
theorem dX12_limit_6 : decode cX12_limit 6 = .ok (.invokevirtual 146, 3) := by decide +kernel
theorem dX12_limit_9 : decode cX12_limit 9 = .ok (.ifCond .eq 7, 3) := by decide +kernel
theorem dX12_limit_12 : decode cX12_limit 12 = .ok (.iconst 0, 1) := by decide +kernel
theorem dX12_limit_13 : decode cX12_limit 13 = .ok (.goto 4, 3) := by decide +kernel
theorem dX12_limit_16 : decode cX12_limit 16 = .ok (.iconst 1, 1) := by decide +kernel
theorem dX12_limit_17 : decode cX12_limit 17 = .ok (.invokevirtual 158, 3) := by decide +kernel
theorem dX12_limit_20 : decode cX12_limit 20 = .ok (.ifCond .eq 5, 3) := by decide +kernel
theorem dX12_limit_23 : decode cX12_limit 23 = .ok (.iconst (-1), 1) := by decide +kernel
theorem dX12_limit_24 : decode cX12_limit 24 = .ok (.ireturn, 1) := by decide +kernel
theorem dX12_limit_25 : decode cX12_limit 25 = .ok (.aload_n 0, 1) := by decide +kernel
theorem dX12_limit_26 : decode cX12_limit 26 = .ok (.getfield 117, 3) := by decide +kernel
theorem dX12_limit_29 : decode cX12_limit 29 = .ok (.istore_n 2, 1) := by decide +kernel
theorem dX12_limit_30 : decode cX12_limit 30 = .ok (.aload_n 0, 1) := by decide +kernel
theorem dX12_limit_31 : decode cX12_limit 31 = .ok (.iload_n 1, 1) := by decide +kernel
theorem dX12_limit_32 : decode cX12_limit 32 = .ok (.putfield 117, 3) := by decide +kernel
theorem dX12_limit_35 : decode cX12_limit 35 = .ok (.iload_n 2, 1) := by decide +kernel
theorem dX12_limit_36 : decode cX12_limit 36 = .ok (.ireturn, 1) := by decide +kernel
theorem dX12_isFree_0 : decode cX12_isFree 0 = .ok (.aload_n 0, 1) := by decide +kernel
theorem dX12_isFree_1 : decode cX12_isFree 1 = .ok (.iload_n 1, 1) := by decide +kernel
theorem dX12_isFree_2 : decode cX12_isFree 2 = .ok (.invokevirtual 255, 3) := by decide +kernel
theorem dX12_isFree_5 : decode cX12_isFree 5 = .ok (.ifCond .eq 25, 3) := by decide +kernel
theorem dX12_isFree_8 : decode cX12_isFree 8 = .ok (.aload_n 0, 1) := by decide +kernel
theorem dX12_isFree_9 : decode cX12_isFree 9 = .ok (.getfield 99, 3) := by decide +kernel
theorem dX12_isFree_12 : decode cX12_isFree 12 = .ok (.iload_n 1, 1) := by decide +kernel
theorem dX12_isFree_13 : decode cX12_isFree 13 = .ok (.iaload, 1) := by decide +kernel
theorem dX12_isFree_14 : decode cX12_isFree 14 = .ok (.ifCond .lt 16, 3) := by decide +kernel
theorem dX12_isFree_17 : decode cX12_isFree 17 = .ok (.aload_n 0, 1) := by decide +kernel
theorem dX12_isFree_18 : decode cX12_isFree 18 = .ok (.getfield 111, 3) := by decide +kernel
theorem dX12_isFree_21 : decode cX12_isFree 21 = .ok (.iload_n 1, 1) := by decide +kernel
theorem dX12_isFree_22 : decode cX12_isFree 22 = .ok (.iaload, 1) := by decide +kernel
theorem dX12_isFree_23 : decode cX12_isFree 23 = .ok (.ifCond .ne 7, 3) := by decide +kernel
theorem dX12_isFree_26 : decode cX12_isFree 26 = .ok (.iconst 1, 1) := by decide +kernel
theorem dX12_isFree_27 : decode cX12_isFree 27 = .ok (.goto 4, 3) := by decide +kernel
theorem dX12_isFree_30 : decode cX12_isFree 30 = .ok (.iconst 0, 1) := by decide +kernel
theorem dX12_isFree_31 : decode cX12_isFree 31 = .ok (.ireturn, 1) := by decide +kernel
theorem dX12_hasBoth_0 : decode cX12_hasBoth 0 = .ok (.aload_n 0, 1) := by decide +kernel
theorem dX12_hasBoth_1 : decode cX12_hasBoth 1 = .ok (.iload_n 1, 1) := by decide +kernel
theorem dX12_hasBoth_2 : decode cX12_hasBoth 2 = .ok (.invokevirtual 258, 3) := by decide +kernel
theorem dX12_hasBoth_5 : decode cX12_hasBoth 5 = .ok (.ifCond .eq 27, 3) := by decide +kernel
theorem dX12_hasBoth_8 : decode cX12_hasBoth 8 = .ok (.aload_n 0, 1) := by decide +kernel
theorem dX12_hasBoth_9 : decode cX12_hasBoth 9 = .ok (.iload_n 1, 1) := by decide +kernel
theorem dX12_hasBoth_10 : decode cX12_hasBoth 10 = .ok (.iconst 1, 1) := by decide +kernel
theorem dX12_hasBoth_11 : decode cX12_hasBoth 11 = .ok (.isub, 1) := by decide +kernel
theorem dX12_hasBoth_12 : decode cX12_hasBoth 12 = .ok (.invokevirtual 258, 3) := by decide +kernel
theorem dX12_hasBoth_15 : decode cX12_hasBoth 15 = .ok (.ifCond .eq 17, 3) := by decide +kernel
theorem dX12_hasBoth_18 : decode cX12_hasBoth 18 = .ok (.aload_n 0, 1) := by decide +kernel
theorem dX12_hasBoth_19 : decode cX12_hasBoth 19 = .ok (.iload_n 1, 1) := by decide +kernel
theorem dX12_hasBoth_20 : decode cX12_hasBoth 20 = .ok (.iconst 1, 1) := by decide +kernel
theorem dX12_hasBoth_21 : decode cX12_hasBoth 21 = .ok (.iadd, 1) := by decide +kernel
theorem dX12_hasBoth_22 : decode cX12_hasBoth 22 = .ok (.invokevirtual 258, 3) := by decide +kernel
theorem dX12_hasBoth_25 : decode cX12_hasBoth 25 = .ok (.ifCond .eq 7, 3) := by decide +kernel
theorem dX12_hasBoth_28 : decode cX12_hasBoth 28 = .ok (.iconst 1, 1) := by decide +kernel
theorem dX12_hasBoth_29 : decode cX12_hasBoth 29 = .ok (.goto 4, 3) := by decide +kernel
theorem dX12_hasBoth_32 : decode cX12_hasBoth 32 = .ok (.iconst 0, 1) := by decide +kernel
theorem dX12_hasBoth_33 : decode cX12_hasBoth 33 = .ok (.ireturn, 1) := by decide +kernel
theorem dX12_unlike_0 : decode cX12_unlike 0 = .ok (.iconst 0, 1) := by decide +kernel
theorem dX12_unlike_1 : decode cX12_unlike 1 = .ok (.istore 5, 2) := by decide +kernel
theorem dX12_unlike_3 : decode cX12_unlike 3 = .ok (.iconst 0, 1) := by decide +kernel
theorem dX12_unlike_4 : decode cX12_unlike 4 = .ok (.istore 6, 2) := by decide +kernel
theorem dX12_unlike_6 : decode cX12_unlike 6 = .ok (.iload 6, 2) := by decide +kernel
theorem dX12_unlike_8 : decode cX12_unlike 8 = .ok (.bipush 8, 2) := by decide +kernel
theorem dX12_unlike_10 : decode cX12_unlike 10 = .ok (.if_icmp .ge 36, 3) := by decide +kernel
theorem dX12_unlike_13 : decode cX12_unlike 13 = .ok (.iload 5, 2) := by decide +kernel
theorem dX12_unlike_15 : decode cX12_unlike 15 = .ok (.aload_n 0, 1) := by decide +kernel
theorem dX12_unlike_16 : decode cX12_unlike 16 = .ok (.lload_n 1, 1) := by decide +kernel
theorem dX12_unlike_17 : decode cX12_unlike 17 = .ok (.iload 6, 2) := by decide +kernel
theorem dX12_unlike_19 : decode cX12_unlike 19 = .ok (.invokevirtual 150, 3) := by decide +kernel
theorem dX12_unlike_22 : decode cX12_unlike 22 = .ok (.aload_n 0, 1) := by decide +kernel
theorem dX12_unlike_23 : decode cX12_unlike 23 = .ok (.lload_n 3, 1) := by decide +kernel
theorem dX12_unlike_24 : decode cX12_unlike 24 = .ok (.iload 6, 2) := by decide +kernel
theorem dX12_unlike_26 : decode cX12_unlike 26 = .ok (.invokevirtual 150, 3) := by decide +kernel
theorem dX12_unlike_29 : decode cX12_unlike 29 = .ok (.if_icmp .eq 7, 3) := by decide +kernel
theorem dX12_unlike_32 : decode cX12_unlike 32 = .ok (.iconst 1, 1) := by decide +kernel
theorem dX12_unlike_33 : decode cX12_unlike 33 = .ok (.goto 4, 3) := by decide +kernel
theorem dX12_unlike_36 : decode cX12_unlike 36 = .ok (.iconst 0, 1) := by decide +kernel
theorem dX12_unlike_37 : decode cX12_unlike 37 = .ok (.iadd, 1) := by decide +kernel
theorem dX12_unlike_38 : decode cX12_unlike 38 = .ok (.istore 5, 2) := by decide +kernel
theorem dX12_unlike_40 : decode cX12_unlike 40 = .ok (.iinc 6 1, 3) := by decide +kernel
theorem dX12_unlike_43 : decode cX12_unlike 43 = .ok (.goto (-37), 3) := by decide +kernel
theorem dX12_unlike_46 : decode cX12_unlike 46 = .ok (.iload 5, 2) := by decide +kernel
theorem dX12_unlike_48 : decode cX12_unlike 48 = .ok (.ireturn, 1) := by decide +kernel
theorem dX12_changes_0 : decode cX12_changes 0 = .ok (.lload_n 2, 1) := by decide +kernel
theorem dX12_changes_1 : decode cX12_changes 1 = .ok (.aload_n 0, 1) := by decide +kernel
theorem dX12_changes_2 : decode cX12_changes 2 = .ok (.getfield 108, 3) := by decide +kernel
theorem dX12_changes_5 : decode cX12_changes 5 = .ok (.iload_n 1, 1) := by decide +kernel
theorem dX12_changes_6 : decode cX12_changes 6 = .ok (.laload, 1) := by decide +kernel
theorem dX12_changes_7 : decode cX12_changes 7 = .ok (.lcmp, 1) := by decide +kernel
theorem dX12_changes_8 : decode cX12_changes 8 = .ok (.ifCond .eq 21, 3) := by decide +kernel
theorem dX12_changes_11 : decode cX12_changes 11 = .ok (.aload_n 0, 1) := by decide +kernel
theorem dX12_changes_12 : decode cX12_changes 12 = .ok (.lload_n 2, 1) := by decide +kernel
theorem dX12_changes_13 : decode cX12_changes 13 = .ok (.aload_n 0, 1) := by decide +kernel
theorem dX12_changes_14 : decode cX12_changes 14 = .ok (.getfield 105, 3) := by decide +kernel
theorem dX12_changes_17 : decode cX12_changes 17 = .ok (.iload_n 1, 1) := by decide +kernel
theorem dX12_changes_18 : decode cX12_changes 18 = .ok (.laload, 1) := by decide +kernel
theorem dX12_changes_19 : decode cX12_changes 19 = .ok (.invokevirtual 261, 3) := by decide +kernel
theorem dX12_changes_22 : decode cX12_changes 22 = .ok (.aload_n 0, 1) := by decide +kernel
theorem dX12_changes_23 : decode cX12_changes 23 = .ok (.getfield 117, 3) := by decide +kernel
theorem dX12_changes_26 : decode cX12_changes 26 = .ok (.if_icmp .le 5, 3) := by decide +kernel
theorem dX12_changes_29 : decode cX12_changes 29 = .ok (.iconst 0, 1) := by decide +kernel
theorem dX12_changes_30 : decode cX12_changes 30 = .ok (.ireturn, 1) := by decide +kernel
theorem dX12_changes_31 : decode cX12_changes 31 = .ok (.aload_n 0, 1) := by decide +kernel
theorem dX12_changes_32 : decode cX12_changes 32 = .ok (.getfield 121, 3) := by decide +kernel
theorem dX12_changes_35 : decode cX12_changes 35 = .ok (.aload_n 0, 1) := by decide +kernel
theorem dX12_changes_36 : decode cX12_changes 36 = .ok (.getfield 252, 3) := by decide +kernel
theorem dX12_changes_39 : decode cX12_changes 39 = .ok (.iload_n 1, 1) := by decide +kernel
theorem dX12_changes_40 : decode cX12_changes 40 = .ok (.iastore, 1) := by decide +kernel
theorem dX12_changes_41 : decode cX12_changes 41 = .ok (.aload_n 0, 1) := by decide +kernel
theorem dX12_changes_42 : decode cX12_changes 42 = .ok (.getfield 124, 3) := by decide +kernel
theorem dX12_changes_45 : decode cX12_changes 45 = .ok (.aload_n 0, 1) := by decide +kernel
theorem dX12_changes_46 : decode cX12_changes 46 = .ok (.getfield 252, 3) := by decide +kernel
theorem dX12_changes_49 : decode cX12_changes 49 = .ok (.aload_n 0, 1) := by decide +kernel
theorem dX12_changes_50 : decode cX12_changes 50 = .ok (.getfield 108, 3) := by decide +kernel
theorem dX12_changes_53 : decode cX12_changes 53 = .ok (.iload_n 1, 1) := by decide +kernel
theorem dX12_changes_54 : decode cX12_changes 54 = .ok (.laload, 1) := by decide +kernel
theorem dX12_changes_55 : decode cX12_changes 55 = .ok (.lastore, 1) := by decide +kernel
theorem dX12_changes_56 : decode cX12_changes 56 = .ok (.aload_n 0, 1) := by decide +kernel
theorem dX12_changes_57 : decode cX12_changes 57 = .ok (.getfield 127, 3) := by decide +kernel
theorem dX12_changes_60 : decode cX12_changes 60 = .ok (.aload_n 0, 1) := by decide +kernel
theorem dX12_changes_61 : decode cX12_changes 61 = .ok (.getfield 252, 3) := by decide +kernel
theorem dX12_changes_64 : decode cX12_changes 64 = .ok (.iconst 0, 1) := by decide +kernel
theorem dX12_changes_65 : decode cX12_changes 65 = .ok (.iastore, 1) := by decide +kernel
theorem dX12_changes_66 : decode cX12_changes 66 = .ok (.aload_n 0, 1) := by decide +kernel
theorem dX12_changes_67 : decode cX12_changes 67 = .ok (.dup, 1) := by decide +kernel
theorem dX12_changes_68 : decode cX12_changes 68 = .ok (.getfield 252, 3) := by decide +kernel
theorem dX12_changes_71 : decode cX12_changes 71 = .ok (.iconst 1, 1) := by decide +kernel
theorem dX12_changes_72 : decode cX12_changes 72 = .ok (.iadd, 1) := by decide +kernel
theorem dX12_changes_73 : decode cX12_changes 73 = .ok (.putfield 252, 3) := by decide +kernel
theorem dX12_changes_76 : decode cX12_changes 76 = .ok (.aload_n 0, 1) := by decide +kernel
theorem dX12_changes_77 : decode cX12_changes 77 = .ok (.getfield 108, 3) := by decide +kernel
theorem dX12_changes_80 : decode cX12_changes 80 = .ok (.iload_n 1, 1) := by decide +kernel
theorem dX12_changes_81 : decode cX12_changes 81 = .ok (.lload_n 2, 1) := by decide +kernel
theorem dX12_changes_82 : decode cX12_changes 82 = .ok (.lastore, 1) := by decide +kernel
theorem dX12_changes_83 : decode cX12_changes 83 = .ok (.iconst 1, 1) := by decide +kernel
theorem dX12_changes_84 : decode cX12_changes 84 = .ok (.ireturn, 1) := by decide +kernel
theorem dX12_keep_0 : decode cX12_keep 0 = .ok (.iconst 0, 1) := by decide +kernel
theorem dX12_keep_1 : decode cX12_keep 1 = .ok (.istore_n 1, 1) := by decide +kernel
theorem dX12_keep_2 : decode cX12_keep 2 = .ok (.iload_n 1, 1) := by decide +kernel
theorem dX12_keep_3 : decode cX12_keep 3 = .ok (.aload_n 0, 1) := by decide +kernel
theorem dX12_keep_4 : decode cX12_keep 4 = .ok (.getfield 249, 3) := by decide +kernel
theorem dX12_keep_7 : decode cX12_keep 7 = .ok (.if_icmp .ge 21, 3) := by decide +kernel
theorem dX12_keep_10 : decode cX12_keep 10 = .ok (.aload_n 0, 1) := by decide +kernel
theorem dX12_keep_11 : decode cX12_keep 11 = .ok (.getfield 114, 3) := by decide +kernel
theorem dX12_keep_14 : decode cX12_keep 14 = .ok (.iload_n 1, 1) := by decide +kernel
theorem dX12_keep_15 : decode cX12_keep 15 = .ok (.aload_n 0, 1) := by decide +kernel
theorem dX12_keep_16 : decode cX12_keep 16 = .ok (.getfield 108, 3) := by decide +kernel
theorem dX12_keep_19 : decode cX12_keep 19 = .ok (.iload_n 1, 1) := by decide +kernel
theorem dX12_keep_20 : decode cX12_keep 20 = .ok (.laload, 1) := by decide +kernel
theorem dX12_keep_21 : decode cX12_keep 21 = .ok (.lastore, 1) := by decide +kernel
theorem dX12_keep_22 : decode cX12_keep 22 = .ok (.iinc 1 1, 3) := by decide +kernel
theorem dX12_keep_25 : decode cX12_keep 25 = .ok (.goto (-23), 3) := by decide +kernel
theorem dX12_keep_28 : decode cX12_keep 28 = .ok (.return_, 1) := by decide +kernel
theorem dX12_between_0 : decode cX12_between 0 = .ok (.iload_n 1, 1) := by decide +kernel
theorem dX12_between_1 : decode cX12_between 1 = .ok (.iload_n 2, 1) := by decide +kernel
theorem dX12_between_2 : decode cX12_between 2 = .ok (.if_icmp .ge 9, 3) := by decide +kernel
theorem dX12_between_5 : decode cX12_between 5 = .ok (.iload_n 2, 1) := by decide +kernel
theorem dX12_between_6 : decode cX12_between 6 = .ok (.iload_n 1, 1) := by decide +kernel
theorem dX12_between_7 : decode cX12_between 7 = .ok (.isub, 1) := by decide +kernel
theorem dX12_between_8 : decode cX12_between 8 = .ok (.goto 6, 3) := by decide +kernel
theorem dX12_between_11 : decode cX12_between 11 = .ok (.iload_n 1, 1) := by decide +kernel
theorem dX12_between_12 : decode cX12_between 12 = .ok (.iload_n 2, 1) := by decide +kernel
theorem dX12_between_13 : decode cX12_between 13 = .ok (.isub, 1) := by decide +kernel
theorem dX12_between_14 : decode cX12_between 14 = .ok (.ireturn, 1) := by decide +kernel
theorem dX12_set_0 : decode cX12_set 0 = .ok (.lload_n 1, 1) := by decide +kernel
theorem dX12_set_1 : decode cX12_set 1 = .ok (.ldc2_w 264, 3) := by decide +kernel
theorem dX12_set_4 : decode cX12_set 4 = .ok (.bipush 8, 2) := by decide +kernel
theorem dX12_set_6 : decode cX12_set 6 = .ok (.iload_n 3, 1) := by decide +kernel
theorem dX12_set_7 : decode cX12_set 7 = .ok (.imul, 1) := by decide +kernel
theorem dX12_set_8 : decode cX12_set 8 = .ok (.lshl, 1) := by decide +kernel
theorem dX12_set_9 : decode cX12_set 9 = .ok (.ldc2_w 266, 3) := by decide +kernel
theorem dX12_set_12 : decode cX12_set 12 = .ok (.lxor, 1) := by decide +kernel
theorem dX12_set_13 : decode cX12_set 13 = .ok (.land, 1) := by decide +kernel
theorem dX12_set_14 : decode cX12_set 14 = .ok (.iload 4, 2) := by decide +kernel
theorem dX12_set_16 : decode cX12_set 16 = .ok (.i2l, 1) := by decide +kernel
theorem dX12_set_17 : decode cX12_set 17 = .ok (.bipush 8, 2) := by decide +kernel
theorem dX12_set_19 : decode cX12_set 19 = .ok (.iload_n 3, 1) := by decide +kernel
theorem dX12_set_20 : decode cX12_set 20 = .ok (.imul, 1) := by decide +kernel
theorem dX12_set_21 : decode cX12_set 21 = .ok (.lshl, 1) := by decide +kernel
theorem dX12_set_22 : decode cX12_set 22 = .ok (.lor, 1) := by decide +kernel
theorem dX12_set_23 : decode cX12_set 23 = .ok (.lreturn, 1) := by decide +kernel
theorem dX12_cleaned_0 : decode cX12_cleaned 0 = .ok (.aload_n 0, 1) := by decide +kernel
theorem dX12_cleaned_1 : decode cX12_cleaned 1 = .ok (.getfield 114, 3) := by decide +kernel
theorem dX12_cleaned_4 : decode cX12_cleaned 4 = .ok (.iload_n 1, 1) := by decide +kernel
theorem dX12_cleaned_5 : decode cX12_cleaned 5 = .ok (.laload, 1) := by decide +kernel
theorem dX12_cleaned_6 : decode cX12_cleaned 6 = .ok (.lstore_n 3, 1) := by decide +kernel
theorem dX12_cleaned_7 : decode cX12_cleaned 7 = .ok (.iconst 0, 1) := by decide +kernel
theorem dX12_cleaned_8 : decode cX12_cleaned 8 = .ok (.istore 5, 2) := by decide +kernel
theorem dX12_cleaned_10 : decode cX12_cleaned 10 = .ok (.iload 5, 2) := by decide +kernel
theorem dX12_cleaned_12 : decode cX12_cleaned 12 = .ok (.bipush 8, 2) := by decide +kernel
theorem dX12_cleaned_14 : decode cX12_cleaned 14 = .ok (.if_icmp .ge 106, 3) := by decide +kernel
theorem dX12_cleaned_17 : decode cX12_cleaned 17 = .ok (.aload_n 0, 1) := by decide +kernel
theorem dX12_cleaned_18 : decode cX12_cleaned 18 = .ok (.aload_n 0, 1) := by decide +kernel
theorem dX12_cleaned_19 : decode cX12_cleaned 19 = .ok (.getfield 114, 3) := by decide +kernel
theorem dX12_cleaned_22 : decode cX12_cleaned 22 = .ok (.iload_n 1, 1) := by decide +kernel
theorem dX12_cleaned_23 : decode cX12_cleaned 23 = .ok (.laload, 1) := by decide +kernel
theorem dX12_cleaned_24 : decode cX12_cleaned 24 = .ok (.iload 5, 2) := by decide +kernel
theorem dX12_cleaned_26 : decode cX12_cleaned 26 = .ok (.invokevirtual 150, 3) := by decide +kernel
theorem dX12_cleaned_29 : decode cX12_cleaned 29 = .ok (.istore 6, 2) := by decide +kernel
theorem dX12_cleaned_31 : decode cX12_cleaned 31 = .ok (.aload_n 0, 1) := by decide +kernel
theorem dX12_cleaned_32 : decode cX12_cleaned 32 = .ok (.aload_n 0, 1) := by decide +kernel
theorem dX12_cleaned_33 : decode cX12_cleaned 33 = .ok (.getfield 114, 3) := by decide +kernel
theorem dX12_cleaned_36 : decode cX12_cleaned 36 = .ok (.iload_n 1, 1) := by decide +kernel
theorem dX12_cleaned_37 : decode cX12_cleaned 37 = .ok (.iconst 1, 1) := by decide +kernel
theorem dX12_cleaned_38 : decode cX12_cleaned 38 = .ok (.isub, 1) := by decide +kernel
theorem dX12_cleaned_39 : decode cX12_cleaned 39 = .ok (.laload, 1) := by decide +kernel
theorem dX12_cleaned_40 : decode cX12_cleaned 40 = .ok (.iload 5, 2) := by decide +kernel
theorem dX12_cleaned_42 : decode cX12_cleaned 42 = .ok (.invokevirtual 150, 3) := by decide +kernel
theorem dX12_cleaned_45 : decode cX12_cleaned 45 = .ok (.istore 7, 2) := by decide +kernel
theorem dX12_cleaned_47 : decode cX12_cleaned 47 = .ok (.aload_n 0, 1) := by decide +kernel
theorem dX12_cleaned_48 : decode cX12_cleaned 48 = .ok (.aload_n 0, 1) := by decide +kernel
theorem dX12_cleaned_49 : decode cX12_cleaned 49 = .ok (.getfield 114, 3) := by decide +kernel
theorem dX12_cleaned_52 : decode cX12_cleaned 52 = .ok (.iload_n 1, 1) := by decide +kernel
theorem dX12_cleaned_53 : decode cX12_cleaned 53 = .ok (.iconst 1, 1) := by decide +kernel
theorem dX12_cleaned_54 : decode cX12_cleaned 54 = .ok (.iadd, 1) := by decide +kernel
theorem dX12_cleaned_55 : decode cX12_cleaned 55 = .ok (.laload, 1) := by decide +kernel
theorem dX12_cleaned_56 : decode cX12_cleaned 56 = .ok (.iload 5, 2) := by decide +kernel
theorem dX12_cleaned_58 : decode cX12_cleaned 58 = .ok (.invokevirtual 150, 3) := by decide +kernel
theorem dX12_cleaned_61 : decode cX12_cleaned 61 = .ok (.istore 8, 2) := by decide +kernel
theorem dX12_cleaned_63 : decode cX12_cleaned 63 = .ok (.aload_n 0, 1) := by decide +kernel
theorem dX12_cleaned_64 : decode cX12_cleaned 64 = .ok (.iload 6, 2) := by decide +kernel
theorem dX12_cleaned_66 : decode cX12_cleaned 66 = .ok (.iload 7, 2) := by decide +kernel
theorem dX12_cleaned_68 : decode cX12_cleaned 68 = .ok (.invokevirtual 268, 3) := by decide +kernel
theorem dX12_cleaned_71 : decode cX12_cleaned 71 = .ok (.iload_n 2, 1) := by decide +kernel
theorem dX12_cleaned_72 : decode cX12_cleaned 72 = .ok (.if_icmp .le 42, 3) := by decide +kernel
theorem dX12_cleaned_75 : decode cX12_cleaned 75 = .ok (.aload_n 0, 1) := by decide +kernel
theorem dX12_cleaned_76 : decode cX12_cleaned 76 = .ok (.iload 6, 2) := by decide +kernel
theorem dX12_cleaned_78 : decode cX12_cleaned 78 = .ok (.iload 8, 2) := by decide +kernel
theorem dX12_cleaned_80 : decode cX12_cleaned 80 = .ok (.invokevirtual 268, 3) := by decide +kernel
theorem dX12_cleaned_83 : decode cX12_cleaned 83 = .ok (.iload_n 2, 1) := by decide +kernel
theorem dX12_cleaned_84 : decode cX12_cleaned 84 = .ok (.if_icmp .le 30, 3) := by decide +kernel
theorem dX12_cleaned_87 : decode cX12_cleaned 87 = .ok (.aload_n 0, 1) := by decide +kernel
theorem dX12_cleaned_88 : decode cX12_cleaned 88 = .ok (.iload 7, 2) := by decide +kernel
theorem dX12_cleaned_90 : decode cX12_cleaned 90 = .ok (.iload 8, 2) := by decide +kernel
theorem dX12_cleaned_92 : decode cX12_cleaned 92 = .ok (.invokevirtual 268, 3) := by decide +kernel
theorem dX12_cleaned_95 : decode cX12_cleaned 95 = .ok (.iload_n 2, 1) := by decide +kernel
theorem dX12_cleaned_96 : decode cX12_cleaned 96 = .ok (.if_icmp .gt 18, 3) := by decide +kernel
theorem dX12_cleaned_99 : decode cX12_cleaned 99 = .ok (.aload_n 0, 1) := by decide +kernel
theorem dX12_cleaned_100 : decode cX12_cleaned 100 = .ok (.lload_n 3, 1) := by decide +kernel
theorem dX12_cleaned_101 : decode cX12_cleaned 101 = .ok (.iload 5, 2) := by decide +kernel
theorem dX12_cleaned_103 : decode cX12_cleaned 103 = .ok (.iload 7, 2) := by decide +kernel
theorem dX12_cleaned_105 : decode cX12_cleaned 105 = .ok (.iload 8, 2) := by decide +kernel
theorem dX12_cleaned_107 : decode cX12_cleaned 107 = .ok (.iadd, 1) := by decide +kernel
theorem dX12_cleaned_108 : decode cX12_cleaned 108 = .ok (.iconst 2, 1) := by decide +kernel
theorem dX12_cleaned_109 : decode cX12_cleaned 109 = .ok (.idiv, 1) := by decide +kernel
theorem dX12_cleaned_110 : decode cX12_cleaned 110 = .ok (.invokevirtual 271, 3) := by decide +kernel
theorem dX12_cleaned_113 : decode cX12_cleaned 113 = .ok (.lstore_n 3, 1) := by decide +kernel
theorem dX12_cleaned_114 : decode cX12_cleaned 114 = .ok (.iinc 5 1, 3) := by decide +kernel
theorem dX12_cleaned_117 : decode cX12_cleaned 117 = .ok (.goto (-107), 3) := by decide +kernel
theorem dX12_cleaned_120 : decode cX12_cleaned 120 = .ok (.lload_n 3, 1) := by decide +kernel
theorem dX12_cleaned_121 : decode cX12_cleaned 121 = .ok (.lreturn, 1) := by decide +kernel
theorem dX12_dirt_0 : decode cX12_dirt 0 = .ok (.aload_n 0, 1) := by decide +kernel
theorem dX12_dirt_1 : decode cX12_dirt 1 = .ok (.aload_n 0, 1) := by decide +kernel
theorem dX12_dirt_2 : decode cX12_dirt 2 = .ok (.iload_n 1, 1) := by decide +kernel
theorem dX12_dirt_3 : decode cX12_dirt 3 = .ok (.iconst 0, 1) := by decide +kernel
theorem dX12_dirt_4 : decode cX12_dirt 4 = .ok (.sipush 255, 3) := by decide +kernel
theorem dX12_dirt_7 : decode cX12_dirt 7 = .ok (.invokevirtual 146, 3) := by decide +kernel
theorem dX12_dirt_10 : decode cX12_dirt 10 = .ok (.ifCond .eq 7, 3) := by decide +kernel
theorem dX12_dirt_13 : decode cX12_dirt 13 = .ok (.iconst 0, 1) := by decide +kernel
theorem dX12_dirt_14 : decode cX12_dirt 14 = .ok (.goto 4, 3) := by decide +kernel
theorem dX12_dirt_17 : decode cX12_dirt 17 = .ok (.iconst 1, 1) := by decide +kernel
theorem dX12_dirt_18 : decode cX12_dirt 18 = .ok (.invokevirtual 158, 3) := by decide +kernel
theorem dX12_dirt_21 : decode cX12_dirt 21 = .ok (.ifCond .eq 5, 3) := by decide +kernel
theorem dX12_dirt_24 : decode cX12_dirt 24 = .ok (.iconst (-1), 1) := by decide +kernel
theorem dX12_dirt_25 : decode cX12_dirt 25 = .ok (.ireturn, 1) := by decide +kernel
theorem dX12_dirt_26 : decode cX12_dirt 26 = .ok (.aload_n 0, 1) := by decide +kernel
theorem dX12_dirt_27 : decode cX12_dirt 27 = .ok (.invokevirtual 275, 3) := by decide +kernel
theorem dX12_dirt_30 : decode cX12_dirt 30 = .ok (.iconst 0, 1) := by decide +kernel
theorem dX12_dirt_31 : decode cX12_dirt 31 = .ok (.istore_n 2, 1) := by decide +kernel
theorem dX12_dirt_32 : decode cX12_dirt 32 = .ok (.iconst 0, 1) := by decide +kernel
theorem dX12_dirt_33 : decode cX12_dirt 33 = .ok (.istore_n 3, 1) := by decide +kernel
theorem dX12_dirt_34 : decode cX12_dirt 34 = .ok (.iload_n 3, 1) := by decide +kernel
theorem dX12_dirt_35 : decode cX12_dirt 35 = .ok (.aload_n 0, 1) := by decide +kernel
theorem dX12_dirt_36 : decode cX12_dirt 36 = .ok (.getfield 249, 3) := by decide +kernel
theorem dX12_dirt_39 : decode cX12_dirt 39 = .ok (.if_icmp .ge 35, 3) := by decide +kernel
theorem dX12_dirt_42 : decode cX12_dirt 42 = .ok (.iload_n 2, 1) := by decide +kernel
theorem dX12_dirt_43 : decode cX12_dirt 43 = .ok (.aload_n 0, 1) := by decide +kernel
theorem dX12_dirt_44 : decode cX12_dirt 44 = .ok (.iload_n 3, 1) := by decide +kernel
theorem dX12_dirt_45 : decode cX12_dirt 45 = .ok (.invokevirtual 278, 3) := by decide +kernel
theorem dX12_dirt_48 : decode cX12_dirt 48 = .ok (.ifCond .eq 17, 3) := by decide +kernel
theorem dX12_dirt_51 : decode cX12_dirt 51 = .ok (.aload_n 0, 1) := by decide +kernel
theorem dX12_dirt_52 : decode cX12_dirt 52 = .ok (.iload_n 3, 1) := by decide +kernel
theorem dX12_dirt_53 : decode cX12_dirt 53 = .ok (.aload_n 0, 1) := by decide +kernel
theorem dX12_dirt_54 : decode cX12_dirt 54 = .ok (.iload_n 3, 1) := by decide +kernel
theorem dX12_dirt_55 : decode cX12_dirt 55 = .ok (.iload_n 1, 1) := by decide +kernel
theorem dX12_dirt_56 : decode cX12_dirt 56 = .ok (.invokevirtual 281, 3) := by decide +kernel
theorem dX12_dirt_59 : decode cX12_dirt 59 = .ok (.invokevirtual 285, 3) := by decide +kernel
theorem dX12_dirt_62 : decode cX12_dirt 62 = .ok (.goto 4, 3) := by decide +kernel
theorem dX12_dirt_65 : decode cX12_dirt 65 = .ok (.iconst 0, 1) := by decide +kernel
theorem dX12_dirt_66 : decode cX12_dirt 66 = .ok (.iadd, 1) := by decide +kernel
theorem dX12_dirt_67 : decode cX12_dirt 67 = .ok (.istore_n 2, 1) := by decide +kernel
theorem dX12_dirt_68 : decode cX12_dirt 68 = .ok (.iinc 3 1, 3) := by decide +kernel
theorem dX12_dirt_71 : decode cX12_dirt 71 = .ok (.goto (-37), 3) := by decide +kernel
theorem dX12_dirt_74 : decode cX12_dirt 74 = .ok (.iload_n 2, 1) := by decide +kernel
theorem dX12_dirt_75 : decode cX12_dirt 75 = .ok (.ireturn, 1) := by decide +kernel
theorem dX12_scratch_0 : decode cX12_scratch 0 = .ok (.aload_n 0, 1) := by decide +kernel
theorem dX12_scratch_1 : decode cX12_scratch 1 = .ok (.iload_n 2, 1) := by decide +kernel
theorem dX12_scratch_2 : decode cX12_scratch 2 = .ok (.invokevirtual 255, 3) := by decide +kernel
theorem dX12_scratch_5 : decode cX12_scratch 5 = .ok (.ifCond .eq 15, 3) := by decide +kernel
theorem dX12_scratch_8 : decode cX12_scratch 8 = .ok (.aload_n 0, 1) := by decide +kernel
theorem dX12_scratch_9 : decode cX12_scratch 9 = .ok (.iload_n 3, 1) := by decide +kernel
theorem dX12_scratch_10 : decode cX12_scratch 10 = .ok (.invokevirtual 255, 3) := by decide +kernel
theorem dX12_scratch_13 : decode cX12_scratch 13 = .ok (.ifCond .eq 7, 3) := by decide +kernel
theorem dX12_scratch_16 : decode cX12_scratch 16 = .ok (.iconst 1, 1) := by decide +kernel
theorem dX12_scratch_17 : decode cX12_scratch 17 = .ok (.goto 4, 3) := by decide +kernel
theorem dX12_scratch_20 : decode cX12_scratch 20 = .ok (.iconst 0, 1) := by decide +kernel
theorem dX12_scratch_21 : decode cX12_scratch 21 = .ok (.istore 5, 2) := by decide +kernel
theorem dX12_scratch_23 : decode cX12_scratch 23 = .ok (.aload_n 0, 1) := by decide +kernel
theorem dX12_scratch_24 : decode cX12_scratch 24 = .ok (.iload_n 1, 1) := by decide +kernel
theorem dX12_scratch_25 : decode cX12_scratch 25 = .ok (.iconst 1, 1) := by decide +kernel
theorem dX12_scratch_26 : decode cX12_scratch 26 = .ok (.bipush 6, 2) := by decide +kernel
theorem dX12_scratch_28 : decode cX12_scratch 28 = .ok (.invokevirtual 146, 3) := by decide +kernel
theorem dX12_scratch_31 : decode cX12_scratch 31 = .ok (.ifCond .eq 25, 3) := by decide +kernel
theorem dX12_scratch_34 : decode cX12_scratch 34 = .ok (.aload_n 0, 1) := by decide +kernel
theorem dX12_scratch_35 : decode cX12_scratch 35 = .ok (.iload 4, 2) := by decide +kernel
theorem dX12_scratch_37 : decode cX12_scratch 37 = .ok (.iconst 0, 1) := by decide +kernel
theorem dX12_scratch_38 : decode cX12_scratch 38 = .ok (.sipush 255, 3) := by decide +kernel
theorem dX12_scratch_41 : decode cX12_scratch 41 = .ok (.invokevirtual 146, 3) := by decide +kernel
theorem dX12_scratch_44 : decode cX12_scratch 44 = .ok (.ifCond .eq 12, 3) := by decide +kernel
theorem dX12_scratch_47 : decode cX12_scratch 47 = .ok (.iload_n 3, 1) := by decide +kernel
theorem dX12_scratch_48 : decode cX12_scratch 48 = .ok (.iload_n 2, 1) := by decide +kernel
theorem dX12_scratch_49 : decode cX12_scratch 49 = .ok (.if_icmp .lt 7, 3) := by decide +kernel
theorem dX12_scratch_52 : decode cX12_scratch 52 = .ok (.iconst 1, 1) := by decide +kernel
theorem dX12_scratch_53 : decode cX12_scratch 53 = .ok (.goto 4, 3) := by decide +kernel
theorem dX12_scratch_56 : decode cX12_scratch 56 = .ok (.iconst 0, 1) := by decide +kernel
theorem dX12_scratch_57 : decode cX12_scratch 57 = .ok (.istore 6, 2) := by decide +kernel
theorem dX12_scratch_59 : decode cX12_scratch 59 = .ok (.aload_n 0, 1) := by decide +kernel
theorem dX12_scratch_60 : decode cX12_scratch 60 = .ok (.iload 5, 2) := by decide +kernel
theorem dX12_scratch_62 : decode cX12_scratch 62 = .ok (.ifCond .ne 7, 3) := by decide +kernel
theorem dX12_scratch_65 : decode cX12_scratch 65 = .ok (.iconst 1, 1) := by decide +kernel
theorem dX12_scratch_66 : decode cX12_scratch 66 = .ok (.goto 13, 3) := by decide +kernel
theorem dX12_scratch_69 : decode cX12_scratch 69 = .ok (.iload 6, 2) := by decide +kernel
theorem dX12_scratch_71 : decode cX12_scratch 71 = .ok (.ifCond .eq 7, 3) := by decide +kernel
theorem dX12_scratch_74 : decode cX12_scratch 74 = .ok (.iconst 0, 1) := by decide +kernel
theorem dX12_scratch_75 : decode cX12_scratch 75 = .ok (.goto 4, 3) := by decide +kernel
theorem dX12_scratch_78 : decode cX12_scratch 78 = .ok (.iconst 2, 1) := by decide +kernel
theorem dX12_scratch_79 : decode cX12_scratch 79 = .ok (.invokevirtual 158, 3) := by decide +kernel
theorem dX12_scratch_82 : decode cX12_scratch 82 = .ok (.ifCond .eq 5, 3) := by decide +kernel
theorem dX12_scratch_85 : decode cX12_scratch 85 = .ok (.iconst (-1), 1) := by decide +kernel
theorem dX12_scratch_86 : decode cX12_scratch 86 = .ok (.ireturn, 1) := by decide +kernel
theorem dX12_scratch_87 : decode cX12_scratch 87 = .ok (.iconst 1, 1) := by decide +kernel
theorem dX12_scratch_88 : decode cX12_scratch 88 = .ok (.istore 7, 2) := by decide +kernel
theorem dX12_scratch_90 : decode cX12_scratch 90 = .ok (.iload_n 2, 1) := by decide +kernel
theorem dX12_scratch_91 : decode cX12_scratch 91 = .ok (.istore 8, 2) := by decide +kernel
theorem dX12_scratch_93 : decode cX12_scratch 93 = .ok (.iload 8, 2) := by decide +kernel
theorem dX12_scratch_95 : decode cX12_scratch 95 = .ok (.iload_n 3, 1) := by decide +kernel
theorem dX12_scratch_96 : decode cX12_scratch 96 = .ok (.if_icmp .gt 92, 3) := by decide +kernel
theorem dX12_scratch_99 : decode cX12_scratch 99 = .ok (.aload_n 0, 1) := by decide +kernel
theorem dX12_scratch_100 : decode cX12_scratch 100 = .ok (.aload_n 0, 1) := by decide +kernel
theorem dX12_scratch_101 : decode cX12_scratch 101 = .ok (.getfield 108, 3) := by decide +kernel
theorem dX12_scratch_104 : decode cX12_scratch 104 = .ok (.iload 8, 2) := by decide +kernel
theorem dX12_scratch_106 : decode cX12_scratch 106 = .ok (.laload, 1) := by decide +kernel
theorem dX12_scratch_107 : decode cX12_scratch 107 = .ok (.iload_n 1, 1) := by decide +kernel
theorem dX12_scratch_108 : decode cX12_scratch 108 = .ok (.iconst 1, 1) := by decide +kernel
theorem dX12_scratch_109 : decode cX12_scratch 109 = .ok (.isub, 1) := by decide +kernel
theorem dX12_scratch_110 : decode cX12_scratch 110 = .ok (.invokevirtual 150, 3) := by decide +kernel
theorem dX12_scratch_113 : decode cX12_scratch 113 = .ok (.istore 9, 2) := by decide +kernel
theorem dX12_scratch_115 : decode cX12_scratch 115 = .ok (.aload_n 0, 1) := by decide +kernel
theorem dX12_scratch_116 : decode cX12_scratch 116 = .ok (.aload_n 0, 1) := by decide +kernel
theorem dX12_scratch_117 : decode cX12_scratch 117 = .ok (.getfield 108, 3) := by decide +kernel
theorem dX12_scratch_120 : decode cX12_scratch 120 = .ok (.iload 8, 2) := by decide +kernel
theorem dX12_scratch_122 : decode cX12_scratch 122 = .ok (.laload, 1) := by decide +kernel
theorem dX12_scratch_123 : decode cX12_scratch 123 = .ok (.iload_n 1, 1) := by decide +kernel
theorem dX12_scratch_124 : decode cX12_scratch 124 = .ok (.iconst 1, 1) := by decide +kernel
theorem dX12_scratch_125 : decode cX12_scratch 125 = .ok (.iadd, 1) := by decide +kernel
theorem dX12_scratch_126 : decode cX12_scratch 126 = .ok (.invokevirtual 150, 3) := by decide +kernel
theorem dX12_scratch_129 : decode cX12_scratch 129 = .ok (.istore 10, 2) := by decide +kernel
theorem dX12_scratch_131 : decode cX12_scratch 131 = .ok (.iload 7, 2) := by decide +kernel
theorem dX12_scratch_133 : decode cX12_scratch 133 = .ok (.aload_n 0, 1) := by decide +kernel
theorem dX12_scratch_134 : decode cX12_scratch 134 = .ok (.iload 8, 2) := by decide +kernel
theorem dX12_scratch_136 : decode cX12_scratch 136 = .ok (.invokevirtual 258, 3) := by decide +kernel
theorem dX12_scratch_139 : decode cX12_scratch 139 = .ok (.ifCond .eq 35, 3) := by decide +kernel
theorem dX12_scratch_142 : decode cX12_scratch 142 = .ok (.aload_n 0, 1) := by decide +kernel
theorem dX12_scratch_143 : decode cX12_scratch 143 = .ok (.aload_n 0, 1) := by decide +kernel
theorem dX12_scratch_144 : decode cX12_scratch 144 = .ok (.getfield 108, 3) := by decide +kernel
theorem dX12_scratch_147 : decode cX12_scratch 147 = .ok (.iload 8, 2) := by decide +kernel
theorem dX12_scratch_149 : decode cX12_scratch 149 = .ok (.laload, 1) := by decide +kernel
theorem dX12_scratch_150 : decode cX12_scratch 150 = .ok (.iload_n 1, 1) := by decide +kernel
theorem dX12_scratch_151 : decode cX12_scratch 151 = .ok (.invokevirtual 150, 3) := by decide +kernel
theorem dX12_scratch_154 : decode cX12_scratch 154 = .ok (.iload 9, 2) := by decide +kernel
theorem dX12_scratch_156 : decode cX12_scratch 156 = .ok (.iload 10, 2) := by decide +kernel
theorem dX12_scratch_158 : decode cX12_scratch 158 = .ok (.if_icmp .le 8, 3) := by decide +kernel
theorem dX12_scratch_161 : decode cX12_scratch 161 = .ok (.iload 9, 2) := by decide +kernel
theorem dX12_scratch_163 : decode cX12_scratch 163 = .ok (.goto 5, 3) := by decide +kernel
theorem dX12_scratch_166 : decode cX12_scratch 166 = .ok (.iload 10, 2) := by decide +kernel
theorem dX12_scratch_168 : decode cX12_scratch 168 = .ok (.iload 4, 2) := by decide +kernel
theorem dX12_scratch_170 : decode cX12_scratch 170 = .ok (.iadd, 1) := by decide +kernel
theorem dX12_scratch_171 : decode cX12_scratch 171 = .ok (.if_icmp .le 7, 3) := by decide +kernel
theorem dX12_scratch_174 : decode cX12_scratch 174 = .ok (.iconst 1, 1) := by decide +kernel
theorem dX12_scratch_175 : decode cX12_scratch 175 = .ok (.goto 4, 3) := by decide +kernel
theorem dX12_scratch_178 : decode cX12_scratch 178 = .ok (.iconst 0, 1) := by decide +kernel
theorem dX12_scratch_179 : decode cX12_scratch 179 = .ok (.iand, 1) := by decide +kernel
theorem dX12_scratch_180 : decode cX12_scratch 180 = .ok (.istore 7, 2) := by decide +kernel
theorem dX12_scratch_182 : decode cX12_scratch 182 = .ok (.iinc 8 1, 3) := by decide +kernel
theorem dX12_scratch_185 : decode cX12_scratch 185 = .ok (.goto (-92), 3) := by decide +kernel
theorem dX12_scratch_188 : decode cX12_scratch 188 = .ok (.iconst 0, 1) := by decide +kernel
theorem dX12_scratch_189 : decode cX12_scratch 189 = .ok (.istore 8, 2) := by decide +kernel
theorem dX12_scratch_191 : decode cX12_scratch 191 = .ok (.iload_n 2, 1) := by decide +kernel
theorem dX12_scratch_192 : decode cX12_scratch 192 = .ok (.istore 9, 2) := by decide +kernel
theorem dX12_scratch_194 : decode cX12_scratch 194 = .ok (.iload 9, 2) := by decide +kernel
theorem dX12_scratch_196 : decode cX12_scratch 196 = .ok (.iload_n 3, 1) := by decide +kernel
theorem dX12_scratch_197 : decode cX12_scratch 197 = .ok (.if_icmp .gt 85, 3) := by decide +kernel
theorem dX12_scratch_200 : decode cX12_scratch 200 = .ok (.iload 7, 2) := by decide +kernel
theorem dX12_scratch_202 : decode cX12_scratch 202 = .ok (.ifCond .eq 80, 3) := by decide +kernel
theorem dX12_scratch_205 : decode cX12_scratch 205 = .ok (.aload_n 0, 1) := by decide +kernel
theorem dX12_scratch_206 : decode cX12_scratch 206 = .ok (.aload_n 0, 1) := by decide +kernel
theorem dX12_scratch_207 : decode cX12_scratch 207 = .ok (.getfield 108, 3) := by decide +kernel
theorem dX12_scratch_210 : decode cX12_scratch 210 = .ok (.iload 9, 2) := by decide +kernel
theorem dX12_scratch_212 : decode cX12_scratch 212 = .ok (.laload, 1) := by decide +kernel
theorem dX12_scratch_213 : decode cX12_scratch 213 = .ok (.iload_n 1, 1) := by decide +kernel
theorem dX12_scratch_214 : decode cX12_scratch 214 = .ok (.iconst 1, 1) := by decide +kernel
theorem dX12_scratch_215 : decode cX12_scratch 215 = .ok (.isub, 1) := by decide +kernel
theorem dX12_scratch_216 : decode cX12_scratch 216 = .ok (.invokevirtual 150, 3) := by decide +kernel
theorem dX12_scratch_219 : decode cX12_scratch 219 = .ok (.aload_n 0, 1) := by decide +kernel
theorem dX12_scratch_220 : decode cX12_scratch 220 = .ok (.aload_n 0, 1) := by decide +kernel
theorem dX12_scratch_221 : decode cX12_scratch 221 = .ok (.getfield 108, 3) := by decide +kernel
theorem dX12_scratch_224 : decode cX12_scratch 224 = .ok (.iload 9, 2) := by decide +kernel
theorem dX12_scratch_226 : decode cX12_scratch 226 = .ok (.laload, 1) := by decide +kernel
theorem dX12_scratch_227 : decode cX12_scratch 227 = .ok (.iload_n 1, 1) := by decide +kernel
theorem dX12_scratch_228 : decode cX12_scratch 228 = .ok (.iconst 1, 1) := by decide +kernel
theorem dX12_scratch_229 : decode cX12_scratch 229 = .ok (.iadd, 1) := by decide +kernel
theorem dX12_scratch_230 : decode cX12_scratch 230 = .ok (.invokevirtual 150, 3) := by decide +kernel
theorem dX12_scratch_233 : decode cX12_scratch 233 = .ok (.iadd, 1) := by decide +kernel
theorem dX12_scratch_234 : decode cX12_scratch 234 = .ok (.iconst 2, 1) := by decide +kernel
theorem dX12_scratch_235 : decode cX12_scratch 235 = .ok (.idiv, 1) := by decide +kernel
theorem dX12_scratch_236 : decode cX12_scratch 236 = .ok (.istore 10, 2) := by decide +kernel
theorem dX12_scratch_238 : decode cX12_scratch 238 = .ok (.iload 8, 2) := by decide +kernel
theorem dX12_scratch_240 : decode cX12_scratch 240 = .ok (.aload_n 0, 1) := by decide +kernel
theorem dX12_scratch_241 : decode cX12_scratch 241 = .ok (.iload 9, 2) := by decide +kernel
theorem dX12_scratch_243 : decode cX12_scratch 243 = .ok (.invokevirtual 258, 3) := by decide +kernel
theorem dX12_scratch_246 : decode cX12_scratch 246 = .ok (.ifCond .eq 26, 3) := by decide +kernel
theorem dX12_scratch_249 : decode cX12_scratch 249 = .ok (.aload_n 0, 1) := by decide +kernel
theorem dX12_scratch_250 : decode cX12_scratch 250 = .ok (.iload 9, 2) := by decide +kernel
theorem dX12_scratch_252 : decode cX12_scratch 252 = .ok (.aload_n 0, 1) := by decide +kernel
theorem dX12_scratch_253 : decode cX12_scratch 253 = .ok (.aload_n 0, 1) := by decide +kernel
theorem dX12_scratch_254 : decode cX12_scratch 254 = .ok (.getfield 108, 3) := by decide +kernel
theorem dX12_scratch_257 : decode cX12_scratch 257 = .ok (.iload 9, 2) := by decide +kernel
theorem dX12_scratch_259 : decode cX12_scratch 259 = .ok (.laload, 1) := by decide +kernel
theorem dX12_scratch_260 : decode cX12_scratch 260 = .ok (.iload_n 1, 1) := by decide +kernel
theorem dX12_scratch_261 : decode cX12_scratch 261 = .ok (.iload 10, 2) := by decide +kernel
theorem dX12_scratch_263 : decode cX12_scratch 263 = .ok (.invokevirtual 271, 3) := by decide +kernel
theorem dX12_scratch_266 : decode cX12_scratch 266 = .ok (.invokevirtual 285, 3) := by decide +kernel
theorem dX12_scratch_269 : decode cX12_scratch 269 = .ok (.goto 4, 3) := by decide +kernel
theorem dX12_scratch_272 : decode cX12_scratch 272 = .ok (.iconst 0, 1) := by decide +kernel
theorem dX12_scratch_273 : decode cX12_scratch 273 = .ok (.iadd, 1) := by decide +kernel
theorem dX12_scratch_274 : decode cX12_scratch 274 = .ok (.istore 8, 2) := by decide +kernel
theorem dX12_scratch_276 : decode cX12_scratch 276 = .ok (.iinc 9 1, 3) := by decide +kernel
theorem dX12_scratch_279 : decode cX12_scratch 279 = .ok (.goto (-85), 3) := by decide +kernel
theorem dX12_scratch_282 : decode cX12_scratch 282 = .ok (.iload 8, 2) := by decide +kernel
theorem dX12_scratch_284 : decode cX12_scratch 284 = .ok (.ireturn, 1) := by decide +kernel
theorem dX12_sumOf_0 : decode cX12_sumOf 0 = .ok (.iconst 0, 1) := by decide +kernel
theorem dX12_sumOf_1 : decode cX12_sumOf 1 = .ok (.istore_n 3, 1) := by decide +kernel
theorem dX12_sumOf_2 : decode cX12_sumOf 2 = .ok (.iconst 0, 1) := by decide +kernel
theorem dX12_sumOf_3 : decode cX12_sumOf 3 = .ok (.istore 4, 2) := by decide +kernel
theorem dX12_sumOf_5 : decode cX12_sumOf 5 = .ok (.iload 4, 2) := by decide +kernel
theorem dX12_sumOf_7 : decode cX12_sumOf 7 = .ok (.bipush 8, 2) := by decide +kernel
theorem dX12_sumOf_9 : decode cX12_sumOf 9 = .ok (.if_icmp .ge 19, 3) := by decide +kernel
theorem dX12_sumOf_12 : decode cX12_sumOf 12 = .ok (.iload_n 3, 1) := by decide +kernel
theorem dX12_sumOf_13 : decode cX12_sumOf 13 = .ok (.aload_n 0, 1) := by decide +kernel
theorem dX12_sumOf_14 : decode cX12_sumOf 14 = .ok (.lload_n 1, 1) := by decide +kernel
theorem dX12_sumOf_15 : decode cX12_sumOf 15 = .ok (.iload 4, 2) := by decide +kernel
theorem dX12_sumOf_17 : decode cX12_sumOf 17 = .ok (.invokevirtual 150, 3) := by decide +kernel
theorem dX12_sumOf_20 : decode cX12_sumOf 20 = .ok (.iadd, 1) := by decide +kernel
theorem dX12_sumOf_21 : decode cX12_sumOf 21 = .ok (.istore_n 3, 1) := by decide +kernel
theorem dX12_sumOf_22 : decode cX12_sumOf 22 = .ok (.iinc 4 1, 3) := by decide +kernel
theorem dX12_sumOf_25 : decode cX12_sumOf 25 = .ok (.goto (-20), 3) := by decide +kernel
theorem dX12_sumOf_28 : decode cX12_sumOf 28 = .ok (.iload_n 3, 1) := by decide +kernel
theorem dX12_sumOf_29 : decode cX12_sumOf 29 = .ok (.ireturn, 1) := by decide +kernel
theorem dX12_levelled_0 : decode cX12_levelled 0 = .ok (.aload_n 0, 1) := by decide +kernel
theorem dX12_levelled_1 : decode cX12_levelled 1 = .ok (.aload_n 0, 1) := by decide +kernel
theorem dX12_levelled_2 : decode cX12_levelled 2 = .ok (.getfield 114, 3) := by decide +kernel
theorem dX12_levelled_5 : decode cX12_levelled 5 = .ok (.iload_n 1, 1) := by decide +kernel
theorem dX12_levelled_6 : decode cX12_levelled 6 = .ok (.iconst 1, 1) := by decide +kernel
theorem dX12_levelled_7 : decode cX12_levelled 7 = .ok (.isub, 1) := by decide +kernel
theorem dX12_levelled_8 : decode cX12_levelled 8 = .ok (.laload, 1) := by decide +kernel
theorem dX12_levelled_9 : decode cX12_levelled 9 = .ok (.invokevirtual 288, 3) := by decide +kernel
theorem dX12_levelled_12 : decode cX12_levelled 12 = .ok (.aload_n 0, 1) := by decide +kernel
theorem dX12_levelled_13 : decode cX12_levelled 13 = .ok (.aload_n 0, 1) := by decide +kernel
theorem dX12_levelled_14 : decode cX12_levelled 14 = .ok (.getfield 114, 3) := by decide +kernel
theorem dX12_levelled_17 : decode cX12_levelled 17 = .ok (.iload_n 1, 1) := by decide +kernel
theorem dX12_levelled_18 : decode cX12_levelled 18 = .ok (.iconst 1, 1) := by decide +kernel
theorem dX12_levelled_19 : decode cX12_levelled 19 = .ok (.iadd, 1) := by decide +kernel
theorem dX12_levelled_20 : decode cX12_levelled 20 = .ok (.laload, 1) := by decide +kernel
theorem dX12_levelled_21 : decode cX12_levelled 21 = .ok (.invokevirtual 288, 3) := by decide +kernel
theorem dX12_levelled_24 : decode cX12_levelled 24 = .ok (.iadd, 1) := by decide +kernel
theorem dX12_levelled_25 : decode cX12_levelled 25 = .ok (.iconst 2, 1) := by decide +kernel
theorem dX12_levelled_26 : decode cX12_levelled 26 = .ok (.idiv, 1) := by decide +kernel
theorem dX12_levelled_27 : decode cX12_levelled 27 = .ok (.aload_n 0, 1) := by decide +kernel
theorem dX12_levelled_28 : decode cX12_levelled 28 = .ok (.aload_n 0, 1) := by decide +kernel
theorem dX12_levelled_29 : decode cX12_levelled 29 = .ok (.getfield 114, 3) := by decide +kernel
theorem dX12_levelled_32 : decode cX12_levelled 32 = .ok (.iload_n 1, 1) := by decide +kernel
theorem dX12_levelled_33 : decode cX12_levelled 33 = .ok (.laload, 1) := by decide +kernel
theorem dX12_levelled_34 : decode cX12_levelled 34 = .ok (.invokevirtual 288, 3) := by decide +kernel
theorem dX12_levelled_37 : decode cX12_levelled 37 = .ok (.isub, 1) := by decide +kernel
theorem dX12_levelled_38 : decode cX12_levelled 38 = .ok (.bipush 8, 2) := by decide +kernel
theorem dX12_levelled_40 : decode cX12_levelled 40 = .ok (.idiv, 1) := by decide +kernel
theorem dX12_levelled_41 : decode cX12_levelled 41 = .ok (.istore_n 2, 1) := by decide +kernel
theorem dX12_levelled_42 : decode cX12_levelled 42 = .ok (.aload_n 0, 1) := by decide +kernel
theorem dX12_levelled_43 : decode cX12_levelled 43 = .ok (.getfield 114, 3) := by decide +kernel
theorem dX12_levelled_46 : decode cX12_levelled 46 = .ok (.iload_n 1, 1) := by decide +kernel
theorem dX12_levelled_47 : decode cX12_levelled 47 = .ok (.laload, 1) := by decide +kernel
theorem dX12_levelled_48 : decode cX12_levelled 48 = .ok (.lstore_n 3, 1) := by decide +kernel
theorem dX12_levelled_49 : decode cX12_levelled 49 = .ok (.iconst 0, 1) := by decide +kernel
theorem dX12_levelled_50 : decode cX12_levelled 50 = .ok (.istore 5, 2) := by decide +kernel
theorem dX12_levelled_52 : decode cX12_levelled 52 = .ok (.iload 5, 2) := by decide +kernel
theorem dX12_levelled_54 : decode cX12_levelled 54 = .ok (.bipush 8, 2) := by decide +kernel
theorem dX12_levelled_56 : decode cX12_levelled 56 = .ok (.if_icmp .ge 58, 3) := by decide +kernel
theorem dX12_levelled_59 : decode cX12_levelled 59 = .ok (.aload_n 0, 1) := by decide +kernel
theorem dX12_levelled_60 : decode cX12_levelled 60 = .ok (.aload_n 0, 1) := by decide +kernel
theorem dX12_levelled_61 : decode cX12_levelled 61 = .ok (.getfield 114, 3) := by decide +kernel
theorem dX12_levelled_64 : decode cX12_levelled 64 = .ok (.iload_n 1, 1) := by decide +kernel
theorem dX12_levelled_65 : decode cX12_levelled 65 = .ok (.laload, 1) := by decide +kernel
theorem dX12_levelled_66 : decode cX12_levelled 66 = .ok (.iload 5, 2) := by decide +kernel
theorem dX12_levelled_68 : decode cX12_levelled 68 = .ok (.invokevirtual 150, 3) := by decide +kernel
theorem dX12_levelled_71 : decode cX12_levelled 71 = .ok (.iload_n 2, 1) := by decide +kernel
theorem dX12_levelled_72 : decode cX12_levelled 72 = .ok (.iadd, 1) := by decide +kernel
theorem dX12_levelled_73 : decode cX12_levelled 73 = .ok (.istore 6, 2) := by decide +kernel
theorem dX12_levelled_75 : decode cX12_levelled 75 = .ok (.aload_n 0, 1) := by decide +kernel
theorem dX12_levelled_76 : decode cX12_levelled 76 = .ok (.lload_n 3, 1) := by decide +kernel
theorem dX12_levelled_77 : decode cX12_levelled 77 = .ok (.iload 5, 2) := by decide +kernel
theorem dX12_levelled_79 : decode cX12_levelled 79 = .ok (.iload 6, 2) := by decide +kernel
theorem dX12_levelled_81 : decode cX12_levelled 81 = .ok (.ifCond .ge 7, 3) := by decide +kernel
theorem dX12_levelled_84 : decode cX12_levelled 84 = .ok (.iconst 0, 1) := by decide +kernel
theorem dX12_levelled_85 : decode cX12_levelled 85 = .ok (.goto 19, 3) := by decide +kernel
theorem dX12_levelled_88 : decode cX12_levelled 88 = .ok (.iload 6, 2) := by decide +kernel
theorem dX12_levelled_90 : decode cX12_levelled 90 = .ok (.sipush 255, 3) := by decide +kernel
theorem dX12_levelled_93 : decode cX12_levelled 93 = .ok (.if_icmp .le 9, 3) := by decide +kernel
theorem dX12_levelled_96 : decode cX12_levelled 96 = .ok (.sipush 255, 3) := by decide +kernel
theorem dX12_levelled_99 : decode cX12_levelled 99 = .ok (.goto 5, 3) := by decide +kernel
theorem dX12_levelled_102 : decode cX12_levelled 102 = .ok (.iload 6, 2) := by decide +kernel
theorem dX12_levelled_104 : decode cX12_levelled 104 = .ok (.invokevirtual 271, 3) := by decide +kernel
theorem dX12_levelled_107 : decode cX12_levelled 107 = .ok (.lstore_n 3, 1) := by decide +kernel
theorem dX12_levelled_108 : decode cX12_levelled 108 = .ok (.iinc 5 1, 3) := by decide +kernel
theorem dX12_levelled_111 : decode cX12_levelled 111 = .ok (.goto (-59), 3) := by decide +kernel
theorem dX12_levelled_114 : decode cX12_levelled 114 = .ok (.lload_n 3, 1) := by decide +kernel
theorem dX12_levelled_115 : decode cX12_levelled 115 = .ok (.lreturn, 1) := by decide +kernel
theorem dX12_flicker_0 : decode cX12_flicker 0 = .ok (.aload_n 0, 1) := by decide +kernel
theorem dX12_flicker_1 : decode cX12_flicker 1 = .ok (.iconst 0, 1) := by decide +kernel
theorem dX12_flicker_2 : decode cX12_flicker 2 = .ok (.invokevirtual 158, 3) := by decide +kernel
theorem dX12_flicker_5 : decode cX12_flicker 5 = .ok (.pop, 1) := by decide +kernel
theorem dX12_flicker_6 : decode cX12_flicker 6 = .ok (.aload_n 0, 1) := by decide +kernel
theorem dX12_flicker_7 : decode cX12_flicker 7 = .ok (.invokevirtual 275, 3) := by decide +kernel
theorem dX12_flicker_10 : decode cX12_flicker 10 = .ok (.iconst 0, 1) := by decide +kernel
theorem dX12_flicker_11 : decode cX12_flicker 11 = .ok (.istore_n 1, 1) := by decide +kernel
theorem dX12_flicker_12 : decode cX12_flicker 12 = .ok (.iconst 0, 1) := by decide +kernel
theorem dX12_flicker_13 : decode cX12_flicker 13 = .ok (.istore_n 2, 1) := by decide +kernel
theorem dX12_flicker_14 : decode cX12_flicker 14 = .ok (.iload_n 2, 1) := by decide +kernel
theorem dX12_flicker_15 : decode cX12_flicker 15 = .ok (.aload_n 0, 1) := by decide +kernel
theorem dX12_flicker_16 : decode cX12_flicker 16 = .ok (.getfield 249, 3) := by decide +kernel
theorem dX12_flicker_19 : decode cX12_flicker 19 = .ok (.if_icmp .ge 34, 3) := by decide +kernel
theorem dX12_flicker_22 : decode cX12_flicker 22 = .ok (.iload_n 1, 1) := by decide +kernel
theorem dX12_flicker_23 : decode cX12_flicker 23 = .ok (.aload_n 0, 1) := by decide +kernel
theorem dX12_flicker_24 : decode cX12_flicker 24 = .ok (.iload_n 2, 1) := by decide +kernel
theorem dX12_flicker_25 : decode cX12_flicker 25 = .ok (.invokevirtual 278, 3) := by decide +kernel
theorem dX12_flicker_28 : decode cX12_flicker 28 = .ok (.ifCond .eq 16, 3) := by decide +kernel
theorem dX12_flicker_31 : decode cX12_flicker 31 = .ok (.aload_n 0, 1) := by decide +kernel
theorem dX12_flicker_32 : decode cX12_flicker 32 = .ok (.iload_n 2, 1) := by decide +kernel
theorem dX12_flicker_33 : decode cX12_flicker 33 = .ok (.aload_n 0, 1) := by decide +kernel
theorem dX12_flicker_34 : decode cX12_flicker 34 = .ok (.iload_n 2, 1) := by decide +kernel
theorem dX12_flicker_35 : decode cX12_flicker 35 = .ok (.invokevirtual 292, 3) := by decide +kernel
theorem dX12_flicker_38 : decode cX12_flicker 38 = .ok (.invokevirtual 285, 3) := by decide +kernel
theorem dX12_flicker_41 : decode cX12_flicker 41 = .ok (.goto 4, 3) := by decide +kernel
theorem dX12_flicker_44 : decode cX12_flicker 44 = .ok (.iconst 0, 1) := by decide +kernel
theorem dX12_flicker_45 : decode cX12_flicker 45 = .ok (.iadd, 1) := by decide +kernel
theorem dX12_flicker_46 : decode cX12_flicker 46 = .ok (.istore_n 1, 1) := by decide +kernel
theorem dX12_flicker_47 : decode cX12_flicker 47 = .ok (.iinc 2 1, 3) := by decide +kernel
theorem dX12_flicker_50 : decode cX12_flicker 50 = .ok (.goto (-36), 3) := by decide +kernel
theorem dX12_flicker_53 : decode cX12_flicker 53 = .ok (.iload_n 1, 1) := by decide +kernel
theorem dX12_flicker_54 : decode cX12_flicker 54 = .ok (.ireturn, 1) := by decide +kernel
theorem dX12_isLast_0 : decode cX12_isLast 0 = .ok (.iconst 1, 1) := by decide +kernel
theorem dX12_isLast_1 : decode cX12_isLast 1 = .ok (.istore_n 2, 1) := by decide +kernel
theorem dX12_isLast_2 : decode cX12_isLast 2 = .ok (.iload_n 1, 1) := by decide +kernel
theorem dX12_isLast_3 : decode cX12_isLast 3 = .ok (.iconst 1, 1) := by decide +kernel
theorem dX12_isLast_4 : decode cX12_isLast 4 = .ok (.iadd, 1) := by decide +kernel
theorem dX12_isLast_5 : decode cX12_isLast 5 = .ok (.istore_n 3, 1) := by decide +kernel
theorem dX12_isLast_6 : decode cX12_isLast 6 = .ok (.iload_n 3, 1) := by decide +kernel
theorem dX12_isLast_7 : decode cX12_isLast 7 = .ok (.aload_n 0, 1) := by decide +kernel
theorem dX12_isLast_8 : decode cX12_isLast 8 = .ok (.getfield 252, 3) := by decide +kernel
theorem dX12_isLast_11 : decode cX12_isLast 11 = .ok (.if_icmp .ge 42, 3) := by decide +kernel
theorem dX12_isLast_14 : decode cX12_isLast 14 = .ok (.iload_n 2, 1) := by decide +kernel
theorem dX12_isLast_15 : decode cX12_isLast 15 = .ok (.aload_n 0, 1) := by decide +kernel
theorem dX12_isLast_16 : decode cX12_isLast 16 = .ok (.getfield 127, 3) := by decide +kernel
theorem dX12_isLast_19 : decode cX12_isLast 19 = .ok (.iload_n 3, 1) := by decide +kernel
theorem dX12_isLast_20 : decode cX12_isLast 20 = .ok (.iaload, 1) := by decide +kernel
theorem dX12_isLast_21 : decode cX12_isLast 21 = .ok (.iconst 1, 1) := by decide +kernel
theorem dX12_isLast_22 : decode cX12_isLast 22 = .ok (.if_icmp .eq 18, 3) := by decide +kernel
theorem dX12_isLast_25 : decode cX12_isLast 25 = .ok (.aload_n 0, 1) := by decide +kernel
theorem dX12_isLast_26 : decode cX12_isLast 26 = .ok (.getfield 121, 3) := by decide +kernel
theorem dX12_isLast_29 : decode cX12_isLast 29 = .ok (.iload_n 3, 1) := by decide +kernel
theorem dX12_isLast_30 : decode cX12_isLast 30 = .ok (.iaload, 1) := by decide +kernel
theorem dX12_isLast_31 : decode cX12_isLast 31 = .ok (.aload_n 0, 1) := by decide +kernel
theorem dX12_isLast_32 : decode cX12_isLast 32 = .ok (.getfield 121, 3) := by decide +kernel
theorem dX12_isLast_35 : decode cX12_isLast 35 = .ok (.iload_n 1, 1) := by decide +kernel
theorem dX12_isLast_36 : decode cX12_isLast 36 = .ok (.iaload, 1) := by decide +kernel
theorem dX12_isLast_37 : decode cX12_isLast 37 = .ok (.if_icmp .eq 7, 3) := by decide +kernel
theorem dX12_isLast_40 : decode cX12_isLast 40 = .ok (.iconst 1, 1) := by decide +kernel
theorem dX12_isLast_41 : decode cX12_isLast 41 = .ok (.goto 4, 3) := by decide +kernel
theorem dX12_isLast_44 : decode cX12_isLast 44 = .ok (.iconst 0, 1) := by decide +kernel
theorem dX12_isLast_45 : decode cX12_isLast 45 = .ok (.iand, 1) := by decide +kernel
theorem dX12_isLast_46 : decode cX12_isLast 46 = .ok (.istore_n 2, 1) := by decide +kernel
theorem dX12_isLast_47 : decode cX12_isLast 47 = .ok (.iinc 3 1, 3) := by decide +kernel
theorem dX12_isLast_50 : decode cX12_isLast 50 = .ok (.goto (-44), 3) := by decide +kernel
theorem dX12_isLast_53 : decode cX12_isLast 53 = .ok (.iload_n 2, 1) := by decide +kernel
theorem dX12_isLast_54 : decode cX12_isLast 54 = .ok (.ireturn, 1) := by decide +kernel
theorem dX12_takeBack_0 : decode cX12_takeBack 0 = .ok (.aload_n 0, 1) := by decide +kernel
theorem dX12_takeBack_1 : decode cX12_takeBack 1 = .ok (.iload_n 1, 1) := by decide +kernel
theorem dX12_takeBack_2 : decode cX12_takeBack 2 = .ok (.iconst 0, 1) := by decide +kernel
theorem dX12_takeBack_3 : decode cX12_takeBack 3 = .ok (.aload_n 0, 1) := by decide +kernel
theorem dX12_takeBack_4 : decode cX12_takeBack 4 = .ok (.getfield 252, 3) := by decide +kernel
theorem dX12_takeBack_7 : decode cX12_takeBack 7 = .ok (.iconst 1, 1) := by decide +kernel
theorem dX12_takeBack_8 : decode cX12_takeBack 8 = .ok (.isub, 1) := by decide +kernel
theorem dX12_takeBack_9 : decode cX12_takeBack 9 = .ok (.invokevirtual 146, 3) := by decide +kernel
theorem dX12_takeBack_12 : decode cX12_takeBack 12 = .ok (.istore_n 2, 1) := by decide +kernel
theorem dX12_takeBack_13 : decode cX12_takeBack 13 = .ok (.aload_n 0, 1) := by decide +kernel
theorem dX12_takeBack_14 : decode cX12_takeBack 14 = .ok (.iload_n 2, 1) := by decide +kernel
theorem dX12_takeBack_15 : decode cX12_takeBack 15 = .ok (.ifCond .ne 7, 3) := by decide +kernel
theorem dX12_takeBack_18 : decode cX12_takeBack 18 = .ok (.iconst 1, 1) := by decide +kernel
theorem dX12_takeBack_19 : decode cX12_takeBack 19 = .ok (.goto 26, 3) := by decide +kernel
theorem dX12_takeBack_22 : decode cX12_takeBack 22 = .ok (.aload_n 0, 1) := by decide +kernel
theorem dX12_takeBack_23 : decode cX12_takeBack 23 = .ok (.getfield 127, 3) := by decide +kernel
theorem dX12_takeBack_26 : decode cX12_takeBack 26 = .ok (.iload_n 1, 1) := by decide +kernel
theorem dX12_takeBack_27 : decode cX12_takeBack 27 = .ok (.iaload, 1) := by decide +kernel
theorem dX12_takeBack_28 : decode cX12_takeBack 28 = .ok (.iconst 1, 1) := by decide +kernel
theorem dX12_takeBack_29 : decode cX12_takeBack 29 = .ok (.if_icmp .eq 11, 3) := by decide +kernel
theorem dX12_takeBack_32 : decode cX12_takeBack 32 = .ok (.aload_n 0, 1) := by decide +kernel
theorem dX12_takeBack_33 : decode cX12_takeBack 33 = .ok (.iload_n 1, 1) := by decide +kernel
theorem dX12_takeBack_34 : decode cX12_takeBack 34 = .ok (.invokevirtual 296, 3) := by decide +kernel
theorem dX12_takeBack_37 : decode cX12_takeBack 37 = .ok (.ifCond .ne 7, 3) := by decide +kernel
theorem dX12_takeBack_40 : decode cX12_takeBack 40 = .ok (.iconst 2, 1) := by decide +kernel
theorem dX12_takeBack_41 : decode cX12_takeBack 41 = .ok (.goto 4, 3) := by decide +kernel
theorem dX12_takeBack_44 : decode cX12_takeBack 44 = .ok (.iconst 0, 1) := by decide +kernel
theorem dX12_takeBack_45 : decode cX12_takeBack 45 = .ok (.invokevirtual 158, 3) := by decide +kernel
theorem dX12_takeBack_48 : decode cX12_takeBack 48 = .ok (.ifCond .eq 5, 3) := by decide +kernel
theorem dX12_takeBack_51 : decode cX12_takeBack 51 = .ok (.iconst (-1), 1) := by decide +kernel
theorem dX12_takeBack_52 : decode cX12_takeBack 52 = .ok (.ireturn, 1) := by decide +kernel
theorem dX12_takeBack_53 : decode cX12_takeBack 53 = .ok (.aload_n 0, 1) := by decide +kernel
theorem dX12_takeBack_54 : decode cX12_takeBack 54 = .ok (.getfield 127, 3) := by decide +kernel
theorem dX12_takeBack_57 : decode cX12_takeBack 57 = .ok (.iload_n 1, 1) := by decide +kernel
theorem dX12_takeBack_58 : decode cX12_takeBack 58 = .ok (.iconst 1, 1) := by decide +kernel
theorem dX12_takeBack_59 : decode cX12_takeBack 59 = .ok (.iastore, 1) := by decide +kernel
theorem dX12_takeBack_60 : decode cX12_takeBack 60 = .ok (.aload_n 0, 1) := by decide +kernel
theorem dX12_takeBack_61 : decode cX12_takeBack 61 = .ok (.getfield 108, 3) := by decide +kernel
theorem dX12_takeBack_64 : decode cX12_takeBack 64 = .ok (.aload_n 0, 1) := by decide +kernel
theorem dX12_takeBack_65 : decode cX12_takeBack 65 = .ok (.getfield 121, 3) := by decide +kernel
theorem dX12_takeBack_68 : decode cX12_takeBack 68 = .ok (.iload_n 1, 1) := by decide +kernel
theorem dX12_takeBack_69 : decode cX12_takeBack 69 = .ok (.iaload, 1) := by decide +kernel
theorem dX12_takeBack_70 : decode cX12_takeBack 70 = .ok (.aload_n 0, 1) := by decide +kernel
theorem dX12_takeBack_71 : decode cX12_takeBack 71 = .ok (.getfield 124, 3) := by decide +kernel
theorem dX12_takeBack_74 : decode cX12_takeBack 74 = .ok (.iload_n 1, 1) := by decide +kernel
theorem dX12_takeBack_75 : decode cX12_takeBack 75 = .ok (.laload, 1) := by decide +kernel
theorem dX12_takeBack_76 : decode cX12_takeBack 76 = .ok (.lastore, 1) := by decide +kernel
theorem dX12_takeBack_77 : decode cX12_takeBack 77 = .ok (.aload_n 0, 1) := by decide +kernel
theorem dX12_takeBack_78 : decode cX12_takeBack 78 = .ok (.getfield 121, 3) := by decide +kernel
theorem dX12_takeBack_81 : decode cX12_takeBack 81 = .ok (.iload_n 1, 1) := by decide +kernel
theorem dX12_takeBack_82 : decode cX12_takeBack 82 = .ok (.iaload, 1) := by decide +kernel
theorem dX12_takeBack_83 : decode cX12_takeBack 83 = .ok (.ireturn, 1) := by decide +kernel
theorem dX12_changesOf_0 : decode cX12_changesOf 0 = .ok (.iconst 0, 1) := by decide +kernel
theorem dX12_changesOf_1 : decode cX12_changesOf 1 = .ok (.istore_n 2, 1) := by decide +kernel
theorem dX12_changesOf_2 : decode cX12_changesOf 2 = .ok (.iconst 0, 1) := by decide +kernel
theorem dX12_changesOf_3 : decode cX12_changesOf 3 = .ok (.istore_n 3, 1) := by decide +kernel
theorem dX12_changesOf_4 : decode cX12_changesOf 4 = .ok (.iload_n 3, 1) := by decide +kernel
theorem dX12_changesOf_5 : decode cX12_changesOf 5 = .ok (.aload_n 0, 1) := by decide +kernel
theorem dX12_changesOf_6 : decode cX12_changesOf 6 = .ok (.getfield 252, 3) := by decide +kernel
theorem dX12_changesOf_9 : decode cX12_changesOf 9 = .ok (.if_icmp .ge 36, 3) := by decide +kernel
theorem dX12_changesOf_12 : decode cX12_changesOf 12 = .ok (.iload_n 2, 1) := by decide +kernel
theorem dX12_changesOf_13 : decode cX12_changesOf 13 = .ok (.aload_n 0, 1) := by decide +kernel
theorem dX12_changesOf_14 : decode cX12_changesOf 14 = .ok (.getfield 127, 3) := by decide +kernel
theorem dX12_changesOf_17 : decode cX12_changesOf 17 = .ok (.iload_n 3, 1) := by decide +kernel
theorem dX12_changesOf_18 : decode cX12_changesOf 18 = .ok (.iaload, 1) := by decide +kernel
theorem dX12_changesOf_19 : decode cX12_changesOf 19 = .ok (.ifCond .ne 17, 3) := by decide +kernel
theorem dX12_changesOf_22 : decode cX12_changesOf 22 = .ok (.aload_n 0, 1) := by decide +kernel
theorem dX12_changesOf_23 : decode cX12_changesOf 23 = .ok (.getfield 121, 3) := by decide +kernel
theorem dX12_changesOf_26 : decode cX12_changesOf 26 = .ok (.iload_n 3, 1) := by decide +kernel
theorem dX12_changesOf_27 : decode cX12_changesOf 27 = .ok (.iaload, 1) := by decide +kernel
theorem dX12_changesOf_28 : decode cX12_changesOf 28 = .ok (.iload_n 1, 1) := by decide +kernel
theorem dX12_changesOf_29 : decode cX12_changesOf 29 = .ok (.if_icmp .ne 7, 3) := by decide +kernel
theorem dX12_changesOf_32 : decode cX12_changesOf 32 = .ok (.iconst 1, 1) := by decide +kernel
theorem dX12_changesOf_33 : decode cX12_changesOf 33 = .ok (.goto 4, 3) := by decide +kernel
theorem dX12_changesOf_36 : decode cX12_changesOf 36 = .ok (.iconst 0, 1) := by decide +kernel
theorem dX12_changesOf_37 : decode cX12_changesOf 37 = .ok (.iadd, 1) := by decide +kernel
theorem dX12_changesOf_38 : decode cX12_changesOf 38 = .ok (.istore_n 2, 1) := by decide +kernel
theorem dX12_changesOf_39 : decode cX12_changesOf 39 = .ok (.iinc 3 1, 3) := by decide +kernel
theorem dX12_changesOf_42 : decode cX12_changesOf 42 = .ok (.goto (-38), 3) := by decide +kernel
theorem dX12_changesOf_45 : decode cX12_changesOf 45 = .ok (.iload_n 2, 1) := by decide +kernel
theorem dX12_changesOf_46 : decode cX12_changesOf 46 = .ok (.ireturn, 1) := by decide +kernel
theorem dX12_ofFrame_0 : decode cX12_ofFrame 0 = .ok (.aload_n 0, 1) := by decide +kernel
theorem dX12_ofFrame_1 : decode cX12_ofFrame 1 = .ok (.aload_n 0, 1) := by decide +kernel
theorem dX12_ofFrame_2 : decode cX12_ofFrame 2 = .ok (.iload_n 1, 1) := by decide +kernel
theorem dX12_ofFrame_3 : decode cX12_ofFrame 3 = .ok (.invokevirtual 255, 3) := by decide +kernel
theorem dX12_ofFrame_6 : decode cX12_ofFrame 6 = .ok (.ifCond .ne 7, 3) := by decide +kernel
theorem dX12_ofFrame_9 : decode cX12_ofFrame 9 = .ok (.iconst 1, 1) := by decide +kernel
theorem dX12_ofFrame_10 : decode cX12_ofFrame 10 = .ok (.goto 18, 3) := by decide +kernel
theorem dX12_ofFrame_13 : decode cX12_ofFrame 13 = .ok (.aload_n 0, 1) := by decide +kernel
theorem dX12_ofFrame_14 : decode cX12_ofFrame 14 = .ok (.iload_n 2, 1) := by decide +kernel
theorem dX12_ofFrame_15 : decode cX12_ofFrame 15 = .ok (.iconst 0, 1) := by decide +kernel
theorem dX12_ofFrame_16 : decode cX12_ofFrame 16 = .ok (.iconst 4, 1) := by decide +kernel
theorem dX12_ofFrame_17 : decode cX12_ofFrame 17 = .ok (.invokevirtual 146, 3) := by decide +kernel
theorem dX12_ofFrame_20 : decode cX12_ofFrame 20 = .ok (.ifCond .eq 7, 3) := by decide +kernel
theorem dX12_ofFrame_23 : decode cX12_ofFrame 23 = .ok (.iconst 0, 1) := by decide +kernel
theorem dX12_ofFrame_24 : decode cX12_ofFrame 24 = .ok (.goto 4, 3) := by decide +kernel
theorem dX12_ofFrame_27 : decode cX12_ofFrame 27 = .ok (.iconst 2, 1) := by decide +kernel
theorem dX12_ofFrame_28 : decode cX12_ofFrame 28 = .ok (.invokevirtual 158, 3) := by decide +kernel
theorem dX12_ofFrame_31 : decode cX12_ofFrame 31 = .ok (.ifCond .eq 5, 3) := by decide +kernel
theorem dX12_ofFrame_34 : decode cX12_ofFrame 34 = .ok (.iconst (-1), 1) := by decide +kernel
theorem dX12_ofFrame_35 : decode cX12_ofFrame 35 = .ok (.ireturn, 1) := by decide +kernel
theorem dX12_ofFrame_36 : decode cX12_ofFrame 36 = .ok (.iload_n 2, 1) := by decide +kernel
theorem dX12_ofFrame_37 : decode cX12_ofFrame 37 = .ok (.tableswitch 69 0 3 #[31, 38, 45, 52], 31) := by decide +kernel
theorem dX12_ofFrame_68 : decode cX12_ofFrame 68 = .ok (.aload_n 0, 1) := by decide +kernel
theorem dX12_ofFrame_69 : decode cX12_ofFrame 69 = .ok (.getfield 96, 3) := by decide +kernel
theorem dX12_ofFrame_72 : decode cX12_ofFrame 72 = .ok (.iload_n 1, 1) := by decide +kernel
theorem dX12_ofFrame_73 : decode cX12_ofFrame 73 = .ok (.iaload, 1) := by decide +kernel
theorem dX12_ofFrame_74 : decode cX12_ofFrame 74 = .ok (.ireturn, 1) := by decide +kernel
theorem dX12_ofFrame_75 : decode cX12_ofFrame 75 = .ok (.aload_n 0, 1) := by decide +kernel
theorem dX12_ofFrame_76 : decode cX12_ofFrame 76 = .ok (.getfield 99, 3) := by decide +kernel
theorem dX12_ofFrame_79 : decode cX12_ofFrame 79 = .ok (.iload_n 1, 1) := by decide +kernel
theorem dX12_ofFrame_80 : decode cX12_ofFrame 80 = .ok (.iaload, 1) := by decide +kernel
theorem dX12_ofFrame_81 : decode cX12_ofFrame 81 = .ok (.ireturn, 1) := by decide +kernel
theorem dX12_ofFrame_82 : decode cX12_ofFrame 82 = .ok (.aload_n 0, 1) := by decide +kernel
theorem dX12_ofFrame_83 : decode cX12_ofFrame 83 = .ok (.getfield 102, 3) := by decide +kernel
theorem dX12_ofFrame_86 : decode cX12_ofFrame 86 = .ok (.iload_n 1, 1) := by decide +kernel
theorem dX12_ofFrame_87 : decode cX12_ofFrame 87 = .ok (.iaload, 1) := by decide +kernel
theorem dX12_ofFrame_88 : decode cX12_ofFrame 88 = .ok (.ireturn, 1) := by decide +kernel
theorem dX12_ofFrame_89 : decode cX12_ofFrame 89 = .ok (.aload_n 0, 1) := by decide +kernel
theorem dX12_ofFrame_90 : decode cX12_ofFrame 90 = .ok (.aload_n 0, 1) := by decide +kernel
theorem dX12_ofFrame_91 : decode cX12_ofFrame 91 = .ok (.getfield 108, 3) := by decide +kernel
theorem dX12_ofFrame_94 : decode cX12_ofFrame 94 = .ok (.iload_n 1, 1) := by decide +kernel
theorem dX12_ofFrame_95 : decode cX12_ofFrame 95 = .ok (.laload, 1) := by decide +kernel
theorem dX12_ofFrame_96 : decode cX12_ofFrame 96 = .ok (.aload_n 0, 1) := by decide +kernel
theorem dX12_ofFrame_97 : decode cX12_ofFrame 97 = .ok (.getfield 105, 3) := by decide +kernel
theorem dX12_ofFrame_100 : decode cX12_ofFrame 100 = .ok (.iload_n 1, 1) := by decide +kernel
theorem dX12_ofFrame_101 : decode cX12_ofFrame 101 = .ok (.laload, 1) := by decide +kernel
theorem dX12_ofFrame_102 : decode cX12_ofFrame 102 = .ok (.invokevirtual 261, 3) := by decide +kernel
theorem dX12_ofFrame_105 : decode cX12_ofFrame 105 = .ok (.ireturn, 1) := by decide +kernel
theorem dX12_ofFrame_106 : decode cX12_ofFrame 106 = .ok (.aload_n 0, 1) := by decide +kernel
theorem dX12_ofFrame_107 : decode cX12_ofFrame 107 = .ok (.iload_n 1, 1) := by decide +kernel
theorem dX12_ofFrame_108 : decode cX12_ofFrame 108 = .ok (.invokevirtual 299, 3) := by decide +kernel
theorem dX12_ofFrame_111 : decode cX12_ofFrame 111 = .ok (.ireturn, 1) := by decide +kernel
theorem dX12_seen_0 : decode cX12_seen 0 = .ok (.aload_n 0, 1) := by decide +kernel
theorem dX12_seen_1 : decode cX12_seen 1 = .ok (.aload_n 0, 1) := by decide +kernel
theorem dX12_seen_2 : decode cX12_seen 2 = .ok (.iload_n 1, 1) := by decide +kernel
theorem dX12_seen_3 : decode cX12_seen 3 = .ok (.invokevirtual 255, 3) := by decide +kernel
theorem dX12_seen_6 : decode cX12_seen 6 = .ok (.ifCond .eq 7, 3) := by decide +kernel
theorem dX12_seen_9 : decode cX12_seen 9 = .ok (.iconst 0, 1) := by decide +kernel
theorem dX12_seen_10 : decode cX12_seen 10 = .ok (.goto 4, 3) := by decide +kernel
theorem dX12_seen_13 : decode cX12_seen 13 = .ok (.iconst 1, 1) := by decide +kernel
theorem dX12_seen_14 : decode cX12_seen 14 = .ok (.invokevirtual 158, 3) := by decide +kernel
theorem dX12_seen_17 : decode cX12_seen 17 = .ok (.ifCond .eq 9, 3) := by decide +kernel
theorem dX12_seen_20 : decode cX12_seen 20 = .ok (.ldc2_w 266, 3) := by decide +kernel
theorem dX12_seen_23 : decode cX12_seen 23 = .ok (.goto 9, 3) := by decide +kernel
theorem dX12_seen_26 : decode cX12_seen 26 = .ok (.aload_n 0, 1) := by decide +kernel
theorem dX12_seen_27 : decode cX12_seen 27 = .ok (.getfield 108, 3) := by decide +kernel
theorem dX12_seen_30 : decode cX12_seen 30 = .ok (.iload_n 1, 1) := by decide +kernel
theorem dX12_seen_31 : decode cX12_seen 31 = .ok (.laload, 1) := by decide +kernel
theorem dX12_seen_32 : decode cX12_seen 32 = .ok (.lreturn, 1) := by decide +kernel
theorem dX12_sum_0 : decode cX12_sum 0 = .ok (.aload_n 0, 1) := by decide +kernel
theorem dX12_sum_1 : decode cX12_sum 1 = .ok (.iconst 0, 1) := by decide +kernel
theorem dX12_sum_2 : decode cX12_sum 2 = .ok (.invokevirtual 158, 3) := by decide +kernel
theorem dX12_sum_5 : decode cX12_sum 5 = .ok (.pop, 1) := by decide +kernel
theorem dX12_sum_6 : decode cX12_sum 6 = .ok (.ldc2_w 302, 3) := by decide +kernel
theorem dX12_sum_9 : decode cX12_sum 9 = .ok (.lstore_n 2, 1) := by decide +kernel
theorem dX12_sum_10 : decode cX12_sum 10 = .ok (.iconst 0, 1) := by decide +kernel
theorem dX12_sum_11 : decode cX12_sum 11 = .ok (.istore 4, 2) := by decide +kernel
theorem dX12_sum_13 : decode cX12_sum 13 = .ok (.iload 4, 2) := by decide +kernel
theorem dX12_sum_15 : decode cX12_sum 15 = .ok (.aload_n 0, 1) := by decide +kernel
theorem dX12_sum_16 : decode cX12_sum 16 = .ok (.getfield 249, 3) := by decide +kernel
theorem dX12_sum_19 : decode cX12_sum 19 = .ok (.if_icmp .ge 37, 3) := by decide +kernel
theorem dX12_sum_22 : decode cX12_sum 22 = .ok (.lload_n 2, 1) := by decide +kernel
theorem dX12_sum_23 : decode cX12_sum 23 = .ok (.iload_n 1, 1) := by decide +kernel
theorem dX12_sum_24 : decode cX12_sum 24 = .ok (.ifCond .eq 13, 3) := by decide +kernel
theorem dX12_sum_27 : decode cX12_sum 27 = .ok (.aload_n 0, 1) := by decide +kernel
theorem dX12_sum_28 : decode cX12_sum 28 = .ok (.getfield 108, 3) := by decide +kernel
theorem dX12_sum_31 : decode cX12_sum 31 = .ok (.iload 4, 2) := by decide +kernel
theorem dX12_sum_33 : decode cX12_sum 33 = .ok (.laload, 1) := by decide +kernel
theorem dX12_sum_34 : decode cX12_sum 34 = .ok (.goto 10, 3) := by decide +kernel
theorem dX12_sum_37 : decode cX12_sum 37 = .ok (.aload_n 0, 1) := by decide +kernel
theorem dX12_sum_38 : decode cX12_sum 38 = .ok (.getfield 105, 3) := by decide +kernel
theorem dX12_sum_41 : decode cX12_sum 41 = .ok (.iload 4, 2) := by decide +kernel
theorem dX12_sum_43 : decode cX12_sum 43 = .ok (.laload, 1) := by decide +kernel
theorem dX12_sum_44 : decode cX12_sum 44 = .ok (.lxor, 1) := by decide +kernel
theorem dX12_sum_45 : decode cX12_sum 45 = .ok (.ldc2_w 304, 3) := by decide +kernel
theorem dX12_sum_48 : decode cX12_sum 48 = .ok (.lmul, 1) := by decide +kernel
theorem dX12_sum_49 : decode cX12_sum 49 = .ok (.lstore_n 2, 1) := by decide +kernel
theorem dX12_sum_50 : decode cX12_sum 50 = .ok (.iinc 4 1, 3) := by decide +kernel
theorem dX12_sum_53 : decode cX12_sum 53 = .ok (.goto (-40), 3) := by decide +kernel
theorem dX12_sum_56 : decode cX12_sum 56 = .ok (.lload_n 2, 1) := by decide +kernel
theorem dX12_sum_57 : decode cX12_sum 57 = .ok (.lreturn, 1) := by decide +kernel
theorem dX12_pass_0 : decode cX12_pass 0 = .ok (.aload_n 0, 1) := by decide +kernel
theorem dX12_pass_1 : decode cX12_pass 1 = .ok (.aload_n 0, 1) := by decide +kernel
theorem dX12_pass_2 : decode cX12_pass 2 = .ok (.iload_n 1, 1) := by decide +kernel
theorem dX12_pass_3 : decode cX12_pass 3 = .ok (.iconst 1, 1) := by decide +kernel
theorem dX12_pass_4 : decode cX12_pass 4 = .ok (.bipush 100, 2) := by decide +kernel
theorem dX12_pass_6 : decode cX12_pass 6 = .ok (.invokevirtual 146, 3) := by decide +kernel
theorem dX12_pass_9 : decode cX12_pass 9 = .ok (.ifCond .ne 7, 3) := by decide +kernel
theorem dX12_pass_12 : decode cX12_pass 12 = .ok (.iconst 1, 1) := by decide +kernel
theorem dX12_pass_13 : decode cX12_pass 13 = .ok (.goto 20, 3) := by decide +kernel
theorem dX12_pass_16 : decode cX12_pass 16 = .ok (.aload_n 0, 1) := by decide +kernel
theorem dX12_pass_17 : decode cX12_pass 17 = .ok (.getfield 45, 3) := by decide +kernel
theorem dX12_pass_20 : decode cX12_pass 20 = .ok (.iload_n 1, 1) := by decide +kernel
theorem dX12_pass_21 : decode cX12_pass 21 = .ok (.iadd, 1) := by decide +kernel
theorem dX12_pass_22 : decode cX12_pass 22 = .ok (.sipush 2200, 3) := by decide +kernel
theorem dX12_pass_25 : decode cX12_pass 25 = .ok (.if_icmp .le 7, 3) := by decide +kernel
theorem dX12_pass_28 : decode cX12_pass 28 = .ok (.iconst 2, 1) := by decide +kernel
theorem dX12_pass_29 : decode cX12_pass 29 = .ok (.goto 4, 3) := by decide +kernel
theorem dX12_pass_32 : decode cX12_pass 32 = .ok (.iconst 0, 1) := by decide +kernel
theorem dX12_pass_33 : decode cX12_pass 33 = .ok (.invokevirtual 158, 3) := by decide +kernel
theorem dX12_pass_36 : decode cX12_pass 36 = .ok (.ifCond .eq 5, 3) := by decide +kernel
theorem dX12_pass_39 : decode cX12_pass 39 = .ok (.iconst (-1), 1) := by decide +kernel
theorem dX12_pass_40 : decode cX12_pass 40 = .ok (.ireturn, 1) := by decide +kernel
theorem dX12_pass_41 : decode cX12_pass 41 = .ok (.aload_n 0, 1) := by decide +kernel
theorem dX12_pass_42 : decode cX12_pass 42 = .ok (.dup, 1) := by decide +kernel
theorem dX12_pass_43 : decode cX12_pass 43 = .ok (.getfield 45, 3) := by decide +kernel
theorem dX12_pass_46 : decode cX12_pass 46 = .ok (.iload_n 1, 1) := by decide +kernel
theorem dX12_pass_47 : decode cX12_pass 47 = .ok (.iadd, 1) := by decide +kernel
theorem dX12_pass_48 : decode cX12_pass 48 = .ok (.putfield 45, 3) := by decide +kernel
theorem dX12_pass_51 : decode cX12_pass 51 = .ok (.iconst 0, 1) := by decide +kernel
theorem dX12_pass_52 : decode cX12_pass 52 = .ok (.istore_n 2, 1) := by decide +kernel
theorem dX12_pass_53 : decode cX12_pass 53 = .ok (.iload_n 2, 1) := by decide +kernel
theorem dX12_pass_54 : decode cX12_pass 54 = .ok (.aload_n 0, 1) := by decide +kernel
theorem dX12_pass_55 : decode cX12_pass 55 = .ok (.getfield 143, 3) := by decide +kernel
theorem dX12_pass_58 : decode cX12_pass 58 = .ok (.if_icmp .ge 25, 3) := by decide +kernel
theorem dX12_pass_61 : decode cX12_pass 61 = .ok (.aload_n 0, 1) := by decide +kernel
theorem dX12_pass_62 : decode cX12_pass 62 = .ok (.getfield 22, 3) := by decide +kernel
theorem dX12_pass_65 : decode cX12_pass 65 = .ok (.iload_n 2, 1) := by decide +kernel
theorem dX12_pass_66 : decode cX12_pass 66 = .ok (.dup2, 1) := by decide +kernel
theorem dX12_pass_67 : decode cX12_pass 67 = .ok (.iaload, 1) := by decide +kernel
theorem dX12_pass_68 : decode cX12_pass 68 = .ok (.iload_n 1, 1) := by decide +kernel
theorem dX12_pass_69 : decode cX12_pass 69 = .ok (.aload_n 0, 1) := by decide +kernel
theorem dX12_pass_70 : decode cX12_pass 70 = .ok (.iload_n 2, 1) := by decide +kernel
theorem dX12_pass_71 : decode cX12_pass 71 = .ok (.invokevirtual 171, 3) := by decide +kernel
theorem dX12_pass_74 : decode cX12_pass 74 = .ok (.imul, 1) := by decide +kernel
theorem dX12_pass_75 : decode cX12_pass 75 = .ok (.iadd, 1) := by decide +kernel
theorem dX12_pass_76 : decode cX12_pass 76 = .ok (.iastore, 1) := by decide +kernel
theorem dX12_pass_77 : decode cX12_pass 77 = .ok (.iinc 2 1, 3) := by decide +kernel
theorem dX12_pass_80 : decode cX12_pass 80 = .ok (.goto (-27), 3) := by decide +kernel
theorem dX12_pass_83 : decode cX12_pass 83 = .ok (.aload_n 0, 1) := by decide +kernel
theorem dX12_pass_84 : decode cX12_pass 84 = .ok (.getfield 45, 3) := by decide +kernel
theorem dX12_pass_87 : decode cX12_pass 87 = .ok (.ireturn, 1) := by decide +kernel
theorem dJ9_abs_0f7a4_0 : decode cJ9_abs_0f7a4 0 = .ok (.iload_n 0, 1) := by decide +kernel
theorem dJ9_abs_0f7a4_1 : decode cJ9_abs_0f7a4 1 = .ok (.ifCond .ge 8, 3) := by decide +kernel
theorem dJ9_abs_0f7a4_4 : decode cJ9_abs_0f7a4 4 = .ok (.iload_n 0, 1) := by decide +kernel
theorem dJ9_abs_0f7a4_5 : decode cJ9_abs_0f7a4 5 = .ok (.ineg, 1) := by decide +kernel
theorem dJ9_abs_0f7a4_6 : decode cJ9_abs_0f7a4 6 = .ok (.goto 4, 3) := by decide +kernel
theorem dJ9_abs_0f7a4_9 : decode cJ9_abs_0f7a4 9 = .ok (.iload_n 0, 1) := by decide +kernel
theorem dJ9_abs_0f7a4_10 : decode cJ9_abs_0f7a4 10 = .ok (.ireturn, 1) := by decide +kernel
theorem dJ9_max_7cf53_0 : decode cJ9_max_7cf53 0 = .ok (.iload_n 0, 1) := by decide +kernel
theorem dJ9_max_7cf53_1 : decode cJ9_max_7cf53 1 = .ok (.iload_n 1, 1) := by decide +kernel
theorem dJ9_max_7cf53_2 : decode cJ9_max_7cf53 2 = .ok (.if_icmp .lt 7, 3) := by decide +kernel
theorem dJ9_max_7cf53_5 : decode cJ9_max_7cf53 5 = .ok (.iload_n 0, 1) := by decide +kernel
theorem dJ9_max_7cf53_6 : decode cJ9_max_7cf53 6 = .ok (.goto 4, 3) := by decide +kernel
theorem dJ9_max_7cf53_9 : decode cJ9_max_7cf53 9 = .ok (.iload_n 1, 1) := by decide +kernel
theorem dJ9_max_7cf53_10 : decode cJ9_max_7cf53 10 = .ok (.ireturn, 1) := by decide +kernel
theorem dJ9_min_7cf53_0 : decode cJ9_min_7cf53 0 = .ok (.iload_n 0, 1) := by decide +kernel
theorem dJ9_min_7cf53_1 : decode cJ9_min_7cf53 1 = .ok (.iload_n 1, 1) := by decide +kernel
theorem dJ9_min_7cf53_2 : decode cJ9_min_7cf53 2 = .ok (.if_icmp .gt 7, 3) := by decide +kernel
theorem dJ9_min_7cf53_5 : decode cJ9_min_7cf53 5 = .ok (.iload_n 0, 1) := by decide +kernel
theorem dJ9_min_7cf53_6 : decode cJ9_min_7cf53 6 = .ok (.goto 4, 3) := by decide +kernel
theorem dJ9_min_7cf53_9 : decode cJ9_min_7cf53 9 = .ok (.iload_n 1, 1) := by decide +kernel
theorem dJ9_min_7cf53_10 : decode cJ9_min_7cf53 10 = .ok (.ireturn, 1) := by decide +kernel
theorem dJ7_fill_53178_0 : decode cJ7_fill_53178 0 = .ok (.iconst 0, 1) := by decide +kernel
theorem dJ7_fill_53178_1 : decode cJ7_fill_53178 1 = .ok (.istore_n 2, 1) := by decide +kernel
theorem dJ7_fill_53178_2 : decode cJ7_fill_53178 2 = .ok (.aload_n 0, 1) := by decide +kernel
theorem dJ7_fill_53178_3 : decode cJ7_fill_53178 3 = .ok (.arraylength, 1) := by decide +kernel
theorem dJ7_fill_53178_4 : decode cJ7_fill_53178 4 = .ok (.istore_n 3, 1) := by decide +kernel
theorem dJ7_fill_53178_5 : decode cJ7_fill_53178 5 = .ok (.iload_n 2, 1) := by decide +kernel
theorem dJ7_fill_53178_6 : decode cJ7_fill_53178 6 = .ok (.iload_n 3, 1) := by decide +kernel
theorem dJ7_fill_53178_7 : decode cJ7_fill_53178 7 = .ok (.if_icmp .ge 13, 3) := by decide +kernel
theorem dJ7_fill_53178_10 : decode cJ7_fill_53178 10 = .ok (.aload_n 0, 1) := by decide +kernel
theorem dJ7_fill_53178_11 : decode cJ7_fill_53178 11 = .ok (.iload_n 2, 1) := by decide +kernel
theorem dJ7_fill_53178_12 : decode cJ7_fill_53178 12 = .ok (.iload_n 1, 1) := by decide +kernel
theorem dJ7_fill_53178_13 : decode cJ7_fill_53178 13 = .ok (.iastore, 1) := by decide +kernel
theorem dJ7_fill_53178_14 : decode cJ7_fill_53178 14 = .ok (.iinc 2 1, 3) := by decide +kernel
theorem dJ7_fill_53178_17 : decode cJ7_fill_53178 17 = .ok (.goto (-12), 3) := by decide +kernel
theorem dJ7_fill_53178_20 : decode cJ7_fill_53178 20 = .ok (.return_, 1) := by decide +kernel
theorem dJ7_copyOf_59c91_0 : decode cJ7_copyOf_59c91 0 = .ok (.iload_n 1, 1) := by decide +kernel
theorem dJ7_copyOf_59c91_1 : decode cJ7_copyOf_59c91 1 = .ok (.aload_n 0, 1) := by decide +kernel
theorem dJ7_copyOf_59c91_2 : decode cJ7_copyOf_59c91 2 = .ok (.arraylength, 1) := by decide +kernel
theorem dJ7_copyOf_59c91_3 : decode cJ7_copyOf_59c91 3 = .ok (.if_icmp .ne 11, 3) := by decide +kernel
theorem dJ7_copyOf_59c91_6 : decode cJ7_copyOf_59c91 6 = .ok (.aload_n 0, 1) := by decide +kernel
theorem dJ7_copyOf_59c91_7 : decode cJ7_copyOf_59c91 7 = .ok (.invokevirtual 316, 3) := by decide +kernel
theorem dJ7_copyOf_59c91_10 : decode cJ7_copyOf_59c91 10 = .ok (.checkcast 317, 3) := by decide +kernel
theorem dJ7_copyOf_59c91_13 : decode cJ7_copyOf_59c91 13 = .ok (.areturn, 1) := by decide +kernel
theorem dJ7_copyOf_59c91_14 : decode cJ7_copyOf_59c91 14 = .ok (.iload_n 1, 1) := by decide +kernel
theorem dJ7_copyOf_59c91_15 : decode cJ7_copyOf_59c91 15 = .ok (.newarray .int, 2) := by decide +kernel
theorem dJ7_copyOf_59c91_17 : decode cJ7_copyOf_59c91 17 = .ok (.astore_n 2, 1) := by decide +kernel
theorem dJ7_copyOf_59c91_18 : decode cJ7_copyOf_59c91 18 = .ok (.aload_n 0, 1) := by decide +kernel
theorem dJ7_copyOf_59c91_19 : decode cJ7_copyOf_59c91 19 = .ok (.iconst 0, 1) := by decide +kernel
theorem dJ7_copyOf_59c91_20 : decode cJ7_copyOf_59c91 20 = .ok (.aload_n 2, 1) := by decide +kernel
theorem dJ7_copyOf_59c91_21 : decode cJ7_copyOf_59c91 21 = .ok (.iconst 0, 1) := by decide +kernel
theorem dJ7_copyOf_59c91_22 : decode cJ7_copyOf_59c91 22 = .ok (.aload_n 0, 1) := by decide +kernel
theorem dJ7_copyOf_59c91_23 : decode cJ7_copyOf_59c91 23 = .ok (.arraylength, 1) := by decide +kernel
theorem dJ7_copyOf_59c91_24 : decode cJ7_copyOf_59c91 24 = .ok (.iload_n 1, 1) := by decide +kernel
theorem dJ7_copyOf_59c91_25 : decode cJ7_copyOf_59c91 25 = .ok (.invokestatic 304, 3) := by decide +kernel
theorem dJ7_copyOf_59c91_28 : decode cJ7_copyOf_59c91 28 = .ok (.invokestatic 150, 3) := by decide +kernel
theorem dJ7_copyOf_59c91_31 : decode cJ7_copyOf_59c91 31 = .ok (.aload_n 2, 1) := by decide +kernel
theorem dJ7_copyOf_59c91_32 : decode cJ7_copyOf_59c91 32 = .ok (.areturn, 1) := by decide +kernel
theorem dJ7_copyOf_c38d5_0 : decode cJ7_copyOf_c38d5 0 = .ok (.iload_n 1, 1) := by decide +kernel
theorem dJ7_copyOf_c38d5_1 : decode cJ7_copyOf_c38d5 1 = .ok (.aload_n 0, 1) := by decide +kernel
theorem dJ7_copyOf_c38d5_2 : decode cJ7_copyOf_c38d5 2 = .ok (.arraylength, 1) := by decide +kernel
theorem dJ7_copyOf_c38d5_3 : decode cJ7_copyOf_c38d5 3 = .ok (.if_icmp .ne 11, 3) := by decide +kernel
theorem dJ7_copyOf_c38d5_6 : decode cJ7_copyOf_c38d5 6 = .ok (.aload_n 0, 1) := by decide +kernel
theorem dJ7_copyOf_c38d5_7 : decode cJ7_copyOf_c38d5 7 = .ok (.invokevirtual 319, 3) := by decide +kernel
theorem dJ7_copyOf_c38d5_10 : decode cJ7_copyOf_c38d5 10 = .ok (.checkcast 320, 3) := by decide +kernel
theorem dJ7_copyOf_c38d5_13 : decode cJ7_copyOf_c38d5 13 = .ok (.areturn, 1) := by decide +kernel
theorem dJ7_copyOf_c38d5_14 : decode cJ7_copyOf_c38d5 14 = .ok (.iload_n 1, 1) := by decide +kernel
theorem dJ7_copyOf_c38d5_15 : decode cJ7_copyOf_c38d5 15 = .ok (.newarray .long, 2) := by decide +kernel
theorem dJ7_copyOf_c38d5_17 : decode cJ7_copyOf_c38d5 17 = .ok (.astore_n 2, 1) := by decide +kernel
theorem dJ7_copyOf_c38d5_18 : decode cJ7_copyOf_c38d5 18 = .ok (.aload_n 0, 1) := by decide +kernel
theorem dJ7_copyOf_c38d5_19 : decode cJ7_copyOf_c38d5 19 = .ok (.iconst 0, 1) := by decide +kernel
theorem dJ7_copyOf_c38d5_20 : decode cJ7_copyOf_c38d5 20 = .ok (.aload_n 2, 1) := by decide +kernel
theorem dJ7_copyOf_c38d5_21 : decode cJ7_copyOf_c38d5 21 = .ok (.iconst 0, 1) := by decide +kernel
theorem dJ7_copyOf_c38d5_22 : decode cJ7_copyOf_c38d5 22 = .ok (.aload_n 0, 1) := by decide +kernel
theorem dJ7_copyOf_c38d5_23 : decode cJ7_copyOf_c38d5 23 = .ok (.arraylength, 1) := by decide +kernel
theorem dJ7_copyOf_c38d5_24 : decode cJ7_copyOf_c38d5 24 = .ok (.iload_n 1, 1) := by decide +kernel
theorem dJ7_copyOf_c38d5_25 : decode cJ7_copyOf_c38d5 25 = .ok (.invokestatic 304, 3) := by decide +kernel
theorem dJ7_copyOf_c38d5_28 : decode cJ7_copyOf_c38d5 28 = .ok (.invokestatic 150, 3) := by decide +kernel
theorem dJ7_copyOf_c38d5_31 : decode cJ7_copyOf_c38d5 31 = .ok (.aload_n 2, 1) := by decide +kernel
theorem dJ7_copyOf_c38d5_32 : decode cJ7_copyOf_c38d5 32 = .ok (.areturn, 1) := by decide +kernel
theorem dL_reel_0 : decode cL_reel 0 = .ok (.aload 6, 2) := by decide +kernel
theorem dL_reel_2 : decode cL_reel 2 = .ok (.iconst 0, 1) := by decide +kernel
theorem dL_reel_3 : decode cL_reel 3 = .ok (.aload_n 0, 1) := by decide +kernel
theorem dL_reel_4 : decode cL_reel 4 = .ok (.iload_n 1, 1) := by decide +kernel
theorem dL_reel_5 : decode cL_reel 5 = .ok (.iload_n 2, 1) := by decide +kernel
theorem dL_reel_6 : decode cL_reel 6 = .ok (.iload_n 3, 1) := by decide +kernel
theorem dL_reel_7 : decode cL_reel 7 = .ok (.iload 4, 2) := by decide +kernel
theorem dL_reel_9 : decode cL_reel 9 = .ok (.iload 5, 2) := by decide +kernel
theorem dL_reel_11 : decode cL_reel 11 = .ok (.invokevirtual 7, 3) := by decide +kernel
theorem dL_reel_14 : decode cL_reel 14 = .ok (.i2l, 1) := by decide +kernel
theorem dL_reel_15 : decode cL_reel 15 = .ok (.lastore, 1) := by decide +kernel
theorem dL_reel_16 : decode cL_reel 16 = .ok (.goto 15, 3) := by decide +kernel
theorem dL_reel_19 : decode cL_reel 19 = .ok (.astore 7, 2) := by decide +kernel
theorem dL_reel_21 : decode cL_reel 21 = .ok (.iconst 1, 1) := by decide +kernel
theorem dL_reel_22 : decode cL_reel 22 = .ok (.ireturn, 1) := by decide +kernel
theorem dL_reel_23 : decode cL_reel 23 = .ok (.astore 7, 2) := by decide +kernel
theorem dL_reel_25 : decode cL_reel 25 = .ok (.iconst 2, 1) := by decide +kernel
theorem dL_reel_26 : decode cL_reel 26 = .ok (.ireturn, 1) := by decide +kernel
theorem dL_reel_27 : decode cL_reel 27 = .ok (.astore 7, 2) := by decide +kernel
theorem dL_reel_29 : decode cL_reel 29 = .ok (.iconst 3, 1) := by decide +kernel
theorem dL_reel_30 : decode cL_reel 30 = .ok (.ireturn, 1) := by decide +kernel
theorem dL_reel_31 : decode cL_reel 31 = .ok (.iconst 0, 1) := by decide +kernel
theorem dL_reel_32 : decode cL_reel 32 = .ok (.ireturn, 1) := by decide +kernel
theorem dL_frame_0 : decode cL_frame 0 = .ok (.aload 5, 2) := by decide +kernel
theorem dL_frame_2 : decode cL_frame 2 = .ok (.iconst 0, 1) := by decide +kernel
theorem dL_frame_3 : decode cL_frame 3 = .ok (.aload_n 0, 1) := by decide +kernel
theorem dL_frame_4 : decode cL_frame 4 = .ok (.iload_n 1, 1) := by decide +kernel
theorem dL_frame_5 : decode cL_frame 5 = .ok (.iload_n 2, 1) := by decide +kernel
theorem dL_frame_6 : decode cL_frame 6 = .ok (.iload_n 3, 1) := by decide +kernel
theorem dL_frame_7 : decode cL_frame 7 = .ok (.iload 4, 2) := by decide +kernel
theorem dL_frame_9 : decode cL_frame 9 = .ok (.invokevirtual 19, 3) := by decide +kernel
theorem dL_frame_12 : decode cL_frame 12 = .ok (.i2l, 1) := by decide +kernel
theorem dL_frame_13 : decode cL_frame 13 = .ok (.lastore, 1) := by decide +kernel
theorem dL_frame_14 : decode cL_frame 14 = .ok (.goto 15, 3) := by decide +kernel
theorem dL_frame_17 : decode cL_frame 17 = .ok (.astore 6, 2) := by decide +kernel
theorem dL_frame_19 : decode cL_frame 19 = .ok (.iconst 1, 1) := by decide +kernel
theorem dL_frame_20 : decode cL_frame 20 = .ok (.ireturn, 1) := by decide +kernel
theorem dL_frame_21 : decode cL_frame 21 = .ok (.astore 6, 2) := by decide +kernel
theorem dL_frame_23 : decode cL_frame 23 = .ok (.iconst 2, 1) := by decide +kernel
theorem dL_frame_24 : decode cL_frame 24 = .ok (.ireturn, 1) := by decide +kernel
theorem dL_frame_25 : decode cL_frame 25 = .ok (.astore 6, 2) := by decide +kernel
theorem dL_frame_27 : decode cL_frame 27 = .ok (.iconst 3, 1) := by decide +kernel
theorem dL_frame_28 : decode cL_frame 28 = .ok (.ireturn, 1) := by decide +kernel
theorem dL_frame_29 : decode cL_frame 29 = .ok (.iconst 0, 1) := by decide +kernel
theorem dL_frame_30 : decode cL_frame 30 = .ok (.ireturn, 1) := by decide +kernel
theorem dL_splice_0 : decode cL_splice 0 = .ok (.aload_n 3, 1) := by decide +kernel
theorem dL_splice_1 : decode cL_splice 1 = .ok (.iconst 0, 1) := by decide +kernel
theorem dL_splice_2 : decode cL_splice 2 = .ok (.aload_n 0, 1) := by decide +kernel
theorem dL_splice_3 : decode cL_splice 3 = .ok (.iload_n 1, 1) := by decide +kernel
theorem dL_splice_4 : decode cL_splice 4 = .ok (.iload_n 2, 1) := by decide +kernel
theorem dL_splice_5 : decode cL_splice 5 = .ok (.invokevirtual 23, 3) := by decide +kernel
theorem dL_splice_8 : decode cL_splice 8 = .ok (.i2l, 1) := by decide +kernel
theorem dL_splice_9 : decode cL_splice 9 = .ok (.lastore, 1) := by decide +kernel
theorem dL_splice_10 : decode cL_splice 10 = .ok (.goto 7, 3) := by decide +kernel
theorem dL_splice_13 : decode cL_splice 13 = .ok (.astore 4, 2) := by decide +kernel
theorem dL_splice_15 : decode cL_splice 15 = .ok (.iconst 1, 1) := by decide +kernel
theorem dL_splice_16 : decode cL_splice 16 = .ok (.ireturn, 1) := by decide +kernel
theorem dL_splice_17 : decode cL_splice 17 = .ok (.iconst 0, 1) := by decide +kernel
theorem dL_splice_18 : decode cL_splice 18 = .ok (.ireturn, 1) := by decide +kernel
theorem dL_cold_0 : decode cL_cold 0 = .ok (.aload_n 3, 1) := by decide +kernel
theorem dL_cold_1 : decode cL_cold 1 = .ok (.iconst 0, 1) := by decide +kernel
theorem dL_cold_2 : decode cL_cold 2 = .ok (.aload_n 0, 1) := by decide +kernel
theorem dL_cold_3 : decode cL_cold 3 = .ok (.iload_n 1, 1) := by decide +kernel
theorem dL_cold_4 : decode cL_cold 4 = .ok (.iload_n 2, 1) := by decide +kernel
theorem dL_cold_5 : decode cL_cold 5 = .ok (.invokevirtual 27, 3) := by decide +kernel
theorem dL_cold_8 : decode cL_cold 8 = .ok (.i2l, 1) := by decide +kernel
theorem dL_cold_9 : decode cL_cold 9 = .ok (.lastore, 1) := by decide +kernel
theorem dL_cold_10 : decode cL_cold 10 = .ok (.goto 7, 3) := by decide +kernel
theorem dL_cold_13 : decode cL_cold 13 = .ok (.astore 4, 2) := by decide +kernel
theorem dL_cold_15 : decode cL_cold 15 = .ok (.iconst 1, 1) := by decide +kernel
theorem dL_cold_16 : decode cL_cold 16 = .ok (.ireturn, 1) := by decide +kernel
theorem dL_cold_17 : decode cL_cold 17 = .ok (.iconst 0, 1) := by decide +kernel
theorem dL_cold_18 : decode cL_cold 18 = .ok (.ireturn, 1) := by decide +kernel
theorem dL_copy_0 : decode cL_copy 0 = .ok (.aload_n 2, 1) := by decide +kernel
theorem dL_copy_1 : decode cL_copy 1 = .ok (.iconst 0, 1) := by decide +kernel
theorem dL_copy_2 : decode cL_copy 2 = .ok (.aload_n 0, 1) := by decide +kernel
theorem dL_copy_3 : decode cL_copy 3 = .ok (.iload_n 1, 1) := by decide +kernel
theorem dL_copy_4 : decode cL_copy 4 = .ok (.invokevirtual 31, 3) := by decide +kernel
theorem dL_copy_7 : decode cL_copy 7 = .ok (.i2l, 1) := by decide +kernel
theorem dL_copy_8 : decode cL_copy 8 = .ok (.lastore, 1) := by decide +kernel
theorem dL_copy_9 : decode cL_copy 9 = .ok (.goto 9, 3) := by decide +kernel
theorem dL_copy_12 : decode cL_copy 12 = .ok (.astore_n 3, 1) := by decide +kernel
theorem dL_copy_13 : decode cL_copy 13 = .ok (.iconst 1, 1) := by decide +kernel
theorem dL_copy_14 : decode cL_copy 14 = .ok (.ireturn, 1) := by decide +kernel
theorem dL_copy_15 : decode cL_copy 15 = .ok (.astore_n 3, 1) := by decide +kernel
theorem dL_copy_16 : decode cL_copy 16 = .ok (.iconst 2, 1) := by decide +kernel
theorem dL_copy_17 : decode cL_copy 17 = .ok (.ireturn, 1) := by decide +kernel
theorem dL_copy_18 : decode cL_copy 18 = .ok (.iconst 0, 1) := by decide +kernel
theorem dL_copy_19 : decode cL_copy 19 = .ok (.ireturn, 1) := by decide +kernel
theorem dL_ofReel_0 : decode cL_ofReel 0 = .ok (.aload_n 3, 1) := by decide +kernel
theorem dL_ofReel_1 : decode cL_ofReel 1 = .ok (.iconst 0, 1) := by decide +kernel
theorem dL_ofReel_2 : decode cL_ofReel 2 = .ok (.aload_n 0, 1) := by decide +kernel
theorem dL_ofReel_3 : decode cL_ofReel 3 = .ok (.iload_n 1, 1) := by decide +kernel
theorem dL_ofReel_4 : decode cL_ofReel 4 = .ok (.iload_n 2, 1) := by decide +kernel
theorem dL_ofReel_5 : decode cL_ofReel 5 = .ok (.invokevirtual 35, 3) := by decide +kernel
theorem dL_ofReel_8 : decode cL_ofReel 8 = .ok (.i2l, 1) := by decide +kernel
theorem dL_ofReel_9 : decode cL_ofReel 9 = .ok (.lastore, 1) := by decide +kernel
theorem dL_ofReel_10 : decode cL_ofReel 10 = .ok (.goto 11, 3) := by decide +kernel
theorem dL_ofReel_13 : decode cL_ofReel 13 = .ok (.astore 4, 2) := by decide +kernel
theorem dL_ofReel_15 : decode cL_ofReel 15 = .ok (.iconst 1, 1) := by decide +kernel
theorem dL_ofReel_16 : decode cL_ofReel 16 = .ok (.ireturn, 1) := by decide +kernel
theorem dL_ofReel_17 : decode cL_ofReel 17 = .ok (.astore 4, 2) := by decide +kernel
theorem dL_ofReel_19 : decode cL_ofReel 19 = .ok (.iconst 2, 1) := by decide +kernel
theorem dL_ofReel_20 : decode cL_ofReel 20 = .ok (.ireturn, 1) := by decide +kernel
theorem dL_ofReel_21 : decode cL_ofReel 21 = .ok (.iconst 0, 1) := by decide +kernel
theorem dL_ofReel_22 : decode cL_ofReel 22 = .ok (.ireturn, 1) := by decide +kernel
theorem dL_tolerance_0 : decode cL_tolerance 0 = .ok (.aload_n 2, 1) := by decide +kernel
theorem dL_tolerance_1 : decode cL_tolerance 1 = .ok (.iconst 0, 1) := by decide +kernel
theorem dL_tolerance_2 : decode cL_tolerance 2 = .ok (.aload_n 0, 1) := by decide +kernel
theorem dL_tolerance_3 : decode cL_tolerance 3 = .ok (.iload_n 1, 1) := by decide +kernel
theorem dL_tolerance_4 : decode cL_tolerance 4 = .ok (.invokevirtual 38, 3) := by decide +kernel
theorem dL_tolerance_7 : decode cL_tolerance 7 = .ok (.i2l, 1) := by decide +kernel
theorem dL_tolerance_8 : decode cL_tolerance 8 = .ok (.lastore, 1) := by decide +kernel
theorem dL_tolerance_9 : decode cL_tolerance 9 = .ok (.goto 6, 3) := by decide +kernel
theorem dL_tolerance_12 : decode cL_tolerance 12 = .ok (.astore_n 3, 1) := by decide +kernel
theorem dL_tolerance_13 : decode cL_tolerance 13 = .ok (.iconst 1, 1) := by decide +kernel
theorem dL_tolerance_14 : decode cL_tolerance 14 = .ok (.ireturn, 1) := by decide +kernel
theorem dL_tolerance_15 : decode cL_tolerance 15 = .ok (.iconst 0, 1) := by decide +kernel
theorem dL_tolerance_16 : decode cL_tolerance 16 = .ok (.ireturn, 1) := by decide +kernel
theorem dL_align_0 : decode cL_align 0 = .ok (.aload_n 3, 1) := by decide +kernel
theorem dL_align_1 : decode cL_align 1 = .ok (.iconst 0, 1) := by decide +kernel
theorem dL_align_2 : decode cL_align 2 = .ok (.aload_n 0, 1) := by decide +kernel
theorem dL_align_3 : decode cL_align 3 = .ok (.iload_n 1, 1) := by decide +kernel
theorem dL_align_4 : decode cL_align 4 = .ok (.iload_n 2, 1) := by decide +kernel
theorem dL_align_5 : decode cL_align 5 = .ok (.invokevirtual 41, 3) := by decide +kernel
theorem dL_align_8 : decode cL_align 8 = .ok (.i2l, 1) := by decide +kernel
theorem dL_align_9 : decode cL_align 9 = .ok (.lastore, 1) := by decide +kernel
theorem dL_align_10 : decode cL_align 10 = .ok (.goto 11, 3) := by decide +kernel
theorem dL_align_13 : decode cL_align 13 = .ok (.astore 4, 2) := by decide +kernel
theorem dL_align_15 : decode cL_align 15 = .ok (.iconst 1, 1) := by decide +kernel
theorem dL_align_16 : decode cL_align 16 = .ok (.ireturn, 1) := by decide +kernel
theorem dL_align_17 : decode cL_align 17 = .ok (.astore 4, 2) := by decide +kernel
theorem dL_align_19 : decode cL_align 19 = .ok (.iconst 2, 1) := by decide +kernel
theorem dL_align_20 : decode cL_align 20 = .ok (.ireturn, 1) := by decide +kernel
theorem dL_align_21 : decode cL_align 21 = .ok (.iconst 0, 1) := by decide +kernel
theorem dL_align_22 : decode cL_align 22 = .ok (.ireturn, 1) := by decide +kernel
theorem dL_pairOf_0 : decode cL_pairOf 0 = .ok (.aload 4, 2) := by decide +kernel
theorem dL_pairOf_2 : decode cL_pairOf 2 = .ok (.iconst 0, 1) := by decide +kernel
theorem dL_pairOf_3 : decode cL_pairOf 3 = .ok (.aload_n 0, 1) := by decide +kernel
theorem dL_pairOf_4 : decode cL_pairOf 4 = .ok (.iload_n 1, 1) := by decide +kernel
theorem dL_pairOf_5 : decode cL_pairOf 5 = .ok (.iload_n 2, 1) := by decide +kernel
theorem dL_pairOf_6 : decode cL_pairOf 6 = .ok (.iload_n 3, 1) := by decide +kernel
theorem dL_pairOf_7 : decode cL_pairOf 7 = .ok (.invokevirtual 44, 3) := by decide +kernel
theorem dL_pairOf_10 : decode cL_pairOf 10 = .ok (.i2l, 1) := by decide +kernel
theorem dL_pairOf_11 : decode cL_pairOf 11 = .ok (.lastore, 1) := by decide +kernel
theorem dL_pairOf_12 : decode cL_pairOf 12 = .ok (.goto 11, 3) := by decide +kernel
theorem dL_pairOf_15 : decode cL_pairOf 15 = .ok (.astore 5, 2) := by decide +kernel
theorem dL_pairOf_17 : decode cL_pairOf 17 = .ok (.iconst 1, 1) := by decide +kernel
theorem dL_pairOf_18 : decode cL_pairOf 18 = .ok (.ireturn, 1) := by decide +kernel
theorem dL_pairOf_19 : decode cL_pairOf 19 = .ok (.astore 5, 2) := by decide +kernel
theorem dL_pairOf_21 : decode cL_pairOf 21 = .ok (.iconst 2, 1) := by decide +kernel
theorem dL_pairOf_22 : decode cL_pairOf 22 = .ok (.ireturn, 1) := by decide +kernel
theorem dL_pairOf_23 : decode cL_pairOf 23 = .ok (.iconst 0, 1) := by decide +kernel
theorem dL_pairOf_24 : decode cL_pairOf 24 = .ok (.ireturn, 1) := by decide +kernel
theorem dL_alike_0 : decode cL_alike 0 = .ok (.aload 5, 2) := by decide +kernel
theorem dL_alike_2 : decode cL_alike 2 = .ok (.iconst 0, 1) := by decide +kernel
theorem dL_alike_3 : decode cL_alike 3 = .ok (.aload_n 0, 1) := by decide +kernel
theorem dL_alike_4 : decode cL_alike 4 = .ok (.iload_n 1, 1) := by decide +kernel
theorem dL_alike_5 : decode cL_alike 5 = .ok (.iload_n 2, 1) := by decide +kernel
theorem dL_alike_6 : decode cL_alike 6 = .ok (.iload_n 3, 1) := by decide +kernel
theorem dL_alike_7 : decode cL_alike 7 = .ok (.iload 4, 2) := by decide +kernel
theorem dL_alike_9 : decode cL_alike 9 = .ok (.invokevirtual 48, 3) := by decide +kernel
theorem dL_alike_12 : decode cL_alike 12 = .ok (.f2d, 1) := by decide +kernel
theorem dL_alike_13 : decode cL_alike 13 = .ok (.dastore, 1) := by decide +kernel
theorem dL_alike_14 : decode cL_alike 14 = .ok (.goto 7, 3) := by decide +kernel
theorem dL_alike_17 : decode cL_alike 17 = .ok (.astore 6, 2) := by decide +kernel
theorem dL_alike_19 : decode cL_alike 19 = .ok (.iconst 1, 1) := by decide +kernel
theorem dL_alike_20 : decode cL_alike 20 = .ok (.ireturn, 1) := by decide +kernel
theorem dL_alike_21 : decode cL_alike 21 = .ok (.iconst 0, 1) := by decide +kernel
theorem dL_alike_22 : decode cL_alike 22 = .ok (.ireturn, 1) := by decide +kernel
theorem dL_version_0 : decode cL_version 0 = .ok (.aload_n 3, 1) := by decide +kernel
theorem dL_version_1 : decode cL_version 1 = .ok (.iconst 0, 1) := by decide +kernel
theorem dL_version_2 : decode cL_version 2 = .ok (.aload_n 0, 1) := by decide +kernel
theorem dL_version_3 : decode cL_version 3 = .ok (.iload_n 1, 1) := by decide +kernel
theorem dL_version_4 : decode cL_version 4 = .ok (.iload_n 2, 1) := by decide +kernel
theorem dL_version_5 : decode cL_version 5 = .ok (.invokevirtual 52, 3) := by decide +kernel
theorem dL_version_8 : decode cL_version 8 = .ok (.i2l, 1) := by decide +kernel
theorem dL_version_9 : decode cL_version 9 = .ok (.lastore, 1) := by decide +kernel
theorem dL_version_10 : decode cL_version 10 = .ok (.goto 11, 3) := by decide +kernel
theorem dL_version_13 : decode cL_version 13 = .ok (.astore 4, 2) := by decide +kernel
theorem dL_version_15 : decode cL_version 15 = .ok (.iconst 1, 1) := by decide +kernel
theorem dL_version_16 : decode cL_version 16 = .ok (.ireturn, 1) := by decide +kernel
theorem dL_version_17 : decode cL_version 17 = .ok (.astore 4, 2) := by decide +kernel
theorem dL_version_19 : decode cL_version 19 = .ok (.iconst 2, 1) := by decide +kernel
theorem dL_version_20 : decode cL_version 20 = .ok (.ireturn, 1) := by decide +kernel
theorem dL_version_21 : decode cL_version 21 = .ok (.iconst 0, 1) := by decide +kernel
theorem dL_version_22 : decode cL_version 22 = .ok (.ireturn, 1) := by decide +kernel
theorem dL_shot_0 : decode cL_shot 0 = .ok (.aload 4, 2) := by decide +kernel
theorem dL_shot_2 : decode cL_shot 2 = .ok (.iconst 0, 1) := by decide +kernel
theorem dL_shot_3 : decode cL_shot 3 = .ok (.aload_n 0, 1) := by decide +kernel
theorem dL_shot_4 : decode cL_shot 4 = .ok (.iload_n 1, 1) := by decide +kernel
theorem dL_shot_5 : decode cL_shot 5 = .ok (.iload_n 2, 1) := by decide +kernel
theorem dL_shot_6 : decode cL_shot 6 = .ok (.iload_n 3, 1) := by decide +kernel
theorem dL_shot_7 : decode cL_shot 7 = .ok (.invokevirtual 55, 3) := by decide +kernel
theorem dL_shot_10 : decode cL_shot 10 = .ok (.i2l, 1) := by decide +kernel
theorem dL_shot_11 : decode cL_shot 11 = .ok (.lastore, 1) := by decide +kernel
theorem dL_shot_12 : decode cL_shot 12 = .ok (.goto 15, 3) := by decide +kernel
theorem dL_shot_15 : decode cL_shot 15 = .ok (.astore 5, 2) := by decide +kernel
theorem dL_shot_17 : decode cL_shot 17 = .ok (.iconst 1, 1) := by decide +kernel
theorem dL_shot_18 : decode cL_shot 18 = .ok (.ireturn, 1) := by decide +kernel
theorem dL_shot_19 : decode cL_shot 19 = .ok (.astore 5, 2) := by decide +kernel
theorem dL_shot_21 : decode cL_shot 21 = .ok (.iconst 2, 1) := by decide +kernel
theorem dL_shot_22 : decode cL_shot 22 = .ok (.ireturn, 1) := by decide +kernel
theorem dL_shot_23 : decode cL_shot 23 = .ok (.astore 5, 2) := by decide +kernel
theorem dL_shot_25 : decode cL_shot 25 = .ok (.iconst 3, 1) := by decide +kernel
theorem dL_shot_26 : decode cL_shot 26 = .ok (.ireturn, 1) := by decide +kernel
theorem dL_shot_27 : decode cL_shot 27 = .ok (.iconst 0, 1) := by decide +kernel
theorem dL_shot_28 : decode cL_shot 28 = .ok (.ireturn, 1) := by decide +kernel
theorem dL_proof_0 : decode cL_proof 0 = .ok (.aload_n 2, 1) := by decide +kernel
theorem dL_proof_1 : decode cL_proof 1 = .ok (.iconst 0, 1) := by decide +kernel
theorem dL_proof_2 : decode cL_proof 2 = .ok (.aload_n 0, 1) := by decide +kernel
theorem dL_proof_3 : decode cL_proof 3 = .ok (.iload_n 1, 1) := by decide +kernel
theorem dL_proof_4 : decode cL_proof 4 = .ok (.invokevirtual 58, 3) := by decide +kernel
theorem dL_proof_7 : decode cL_proof 7 = .ok (.i2l, 1) := by decide +kernel
theorem dL_proof_8 : decode cL_proof 8 = .ok (.lastore, 1) := by decide +kernel
theorem dL_proof_9 : decode cL_proof 9 = .ok (.goto 6, 3) := by decide +kernel
theorem dL_proof_12 : decode cL_proof 12 = .ok (.astore_n 3, 1) := by decide +kernel
theorem dL_proof_13 : decode cL_proof 13 = .ok (.iconst 1, 1) := by decide +kernel
theorem dL_proof_14 : decode cL_proof 14 = .ok (.ireturn, 1) := by decide +kernel
theorem dL_proof_15 : decode cL_proof 15 = .ok (.iconst 0, 1) := by decide +kernel
theorem dL_proof_16 : decode cL_proof 16 = .ok (.ireturn, 1) := by decide +kernel
theorem dL_speed_0 : decode cL_speed 0 = .ok (.aload 4, 2) := by decide +kernel
theorem dL_speed_2 : decode cL_speed 2 = .ok (.iconst 0, 1) := by decide +kernel
theorem dL_speed_3 : decode cL_speed 3 = .ok (.aload_n 0, 1) := by decide +kernel
theorem dL_speed_4 : decode cL_speed 4 = .ok (.iload_n 1, 1) := by decide +kernel
theorem dL_speed_5 : decode cL_speed 5 = .ok (.iload_n 2, 1) := by decide +kernel
theorem dL_speed_6 : decode cL_speed 6 = .ok (.iload_n 3, 1) := by decide +kernel
theorem dL_speed_7 : decode cL_speed 7 = .ok (.invokevirtual 61, 3) := by decide +kernel
theorem dL_speed_10 : decode cL_speed 10 = .ok (.i2l, 1) := by decide +kernel
theorem dL_speed_11 : decode cL_speed 11 = .ok (.lastore, 1) := by decide +kernel
theorem dL_speed_12 : decode cL_speed 12 = .ok (.goto 11, 3) := by decide +kernel
theorem dL_speed_15 : decode cL_speed 15 = .ok (.astore 5, 2) := by decide +kernel
theorem dL_speed_17 : decode cL_speed 17 = .ok (.iconst 1, 1) := by decide +kernel
theorem dL_speed_18 : decode cL_speed 18 = .ok (.ireturn, 1) := by decide +kernel
theorem dL_speed_19 : decode cL_speed 19 = .ok (.astore 5, 2) := by decide +kernel
theorem dL_speed_21 : decode cL_speed 21 = .ok (.iconst 2, 1) := by decide +kernel
theorem dL_speed_22 : decode cL_speed 22 = .ok (.ireturn, 1) := by decide +kernel
theorem dL_speed_23 : decode cL_speed 23 = .ok (.iconst 0, 1) := by decide +kernel
theorem dL_speed_24 : decode cL_speed 24 = .ok (.ireturn, 1) := by decide +kernel
theorem dL_ofVersion_0 : decode cL_ofVersion 0 = .ok (.aload_n 3, 1) := by decide +kernel
theorem dL_ofVersion_1 : decode cL_ofVersion 1 = .ok (.iconst 0, 1) := by decide +kernel
theorem dL_ofVersion_2 : decode cL_ofVersion 2 = .ok (.aload_n 0, 1) := by decide +kernel
theorem dL_ofVersion_3 : decode cL_ofVersion 3 = .ok (.iload_n 1, 1) := by decide +kernel
theorem dL_ofVersion_4 : decode cL_ofVersion 4 = .ok (.iload_n 2, 1) := by decide +kernel
theorem dL_ofVersion_5 : decode cL_ofVersion 5 = .ok (.invokevirtual 64, 3) := by decide +kernel
theorem dL_ofVersion_8 : decode cL_ofVersion 8 = .ok (.i2l, 1) := by decide +kernel
theorem dL_ofVersion_9 : decode cL_ofVersion 9 = .ok (.lastore, 1) := by decide +kernel
theorem dL_ofVersion_10 : decode cL_ofVersion 10 = .ok (.goto 11, 3) := by decide +kernel
theorem dL_ofVersion_13 : decode cL_ofVersion 13 = .ok (.astore 4, 2) := by decide +kernel
theorem dL_ofVersion_15 : decode cL_ofVersion 15 = .ok (.iconst 1, 1) := by decide +kernel
theorem dL_ofVersion_16 : decode cL_ofVersion 16 = .ok (.ireturn, 1) := by decide +kernel
theorem dL_ofVersion_17 : decode cL_ofVersion 17 = .ok (.astore 4, 2) := by decide +kernel
theorem dL_ofVersion_19 : decode cL_ofVersion 19 = .ok (.iconst 2, 1) := by decide +kernel
theorem dL_ofVersion_20 : decode cL_ofVersion 20 = .ok (.ireturn, 1) := by decide +kernel
theorem dL_ofVersion_21 : decode cL_ofVersion 21 = .ok (.iconst 0, 1) := by decide +kernel
theorem dL_ofVersion_22 : decode cL_ofVersion 22 = .ok (.ireturn, 1) := by decide +kernel
theorem dL_scrap_0 : decode cL_scrap 0 = .ok (.aload_n 3, 1) := by decide +kernel
theorem dL_scrap_1 : decode cL_scrap 1 = .ok (.iconst 0, 1) := by decide +kernel
theorem dL_scrap_2 : decode cL_scrap 2 = .ok (.aload_n 0, 1) := by decide +kernel
theorem dL_scrap_3 : decode cL_scrap 3 = .ok (.iload_n 1, 1) := by decide +kernel
theorem dL_scrap_4 : decode cL_scrap 4 = .ok (.iload_n 2, 1) := by decide +kernel
theorem dL_scrap_5 : decode cL_scrap 5 = .ok (.invokevirtual 67, 3) := by decide +kernel
theorem dL_scrap_8 : decode cL_scrap 8 = .ok (.i2l, 1) := by decide +kernel
theorem dL_scrap_9 : decode cL_scrap 9 = .ok (.lastore, 1) := by decide +kernel
theorem dL_scrap_10 : decode cL_scrap 10 = .ok (.goto 11, 3) := by decide +kernel
theorem dL_scrap_13 : decode cL_scrap 13 = .ok (.astore 4, 2) := by decide +kernel
theorem dL_scrap_15 : decode cL_scrap 15 = .ok (.iconst 1, 1) := by decide +kernel
theorem dL_scrap_16 : decode cL_scrap 16 = .ok (.ireturn, 1) := by decide +kernel
theorem dL_scrap_17 : decode cL_scrap 17 = .ok (.astore 4, 2) := by decide +kernel
theorem dL_scrap_19 : decode cL_scrap 19 = .ok (.iconst 2, 1) := by decide +kernel
theorem dL_scrap_20 : decode cL_scrap 20 = .ok (.ireturn, 1) := by decide +kernel
theorem dL_scrap_21 : decode cL_scrap 21 = .ok (.iconst 0, 1) := by decide +kernel
theorem dL_scrap_22 : decode cL_scrap 22 = .ok (.ireturn, 1) := by decide +kernel
theorem dL_tint_0 : decode cL_tint 0 = .ok (.aload_n 3, 1) := by decide +kernel
theorem dL_tint_1 : decode cL_tint 1 = .ok (.iconst 0, 1) := by decide +kernel
theorem dL_tint_2 : decode cL_tint 2 = .ok (.aload_n 0, 1) := by decide +kernel
theorem dL_tint_3 : decode cL_tint 3 = .ok (.iload_n 1, 1) := by decide +kernel
theorem dL_tint_4 : decode cL_tint 4 = .ok (.iload_n 2, 1) := by decide +kernel
theorem dL_tint_5 : decode cL_tint 5 = .ok (.invokevirtual 70, 3) := by decide +kernel
theorem dL_tint_8 : decode cL_tint 8 = .ok (.i2l, 1) := by decide +kernel
theorem dL_tint_9 : decode cL_tint 9 = .ok (.lastore, 1) := by decide +kernel
theorem dL_tint_10 : decode cL_tint 10 = .ok (.goto 7, 3) := by decide +kernel
theorem dL_tint_13 : decode cL_tint 13 = .ok (.astore 4, 2) := by decide +kernel
theorem dL_tint_15 : decode cL_tint 15 = .ok (.iconst 1, 1) := by decide +kernel
theorem dL_tint_16 : decode cL_tint 16 = .ok (.ireturn, 1) := by decide +kernel
theorem dL_tint_17 : decode cL_tint 17 = .ok (.iconst 0, 1) := by decide +kernel
theorem dL_tint_18 : decode cL_tint 18 = .ok (.ireturn, 1) := by decide +kernel
theorem dL_right_0 : decode cL_right 0 = .ok (.aload 6, 2) := by decide +kernel
theorem dL_right_2 : decode cL_right 2 = .ok (.iconst 0, 1) := by decide +kernel
theorem dL_right_3 : decode cL_right 3 = .ok (.aload_n 0, 1) := by decide +kernel
theorem dL_right_4 : decode cL_right 4 = .ok (.iload_n 1, 1) := by decide +kernel
theorem dL_right_5 : decode cL_right 5 = .ok (.iload_n 2, 1) := by decide +kernel
theorem dL_right_6 : decode cL_right 6 = .ok (.iload_n 3, 1) := by decide +kernel
theorem dL_right_7 : decode cL_right 7 = .ok (.iload 4, 2) := by decide +kernel
theorem dL_right_9 : decode cL_right 9 = .ok (.iload 5, 2) := by decide +kernel
theorem dL_right_11 : decode cL_right 11 = .ok (.invokevirtual 73, 3) := by decide +kernel
theorem dL_right_14 : decode cL_right 14 = .ok (.i2l, 1) := by decide +kernel
theorem dL_right_15 : decode cL_right 15 = .ok (.lastore, 1) := by decide +kernel
theorem dL_right_16 : decode cL_right 16 = .ok (.goto 15, 3) := by decide +kernel
theorem dL_right_19 : decode cL_right 19 = .ok (.astore 7, 2) := by decide +kernel
theorem dL_right_21 : decode cL_right 21 = .ok (.iconst 1, 1) := by decide +kernel
theorem dL_right_22 : decode cL_right 22 = .ok (.ireturn, 1) := by decide +kernel
theorem dL_right_23 : decode cL_right 23 = .ok (.astore 7, 2) := by decide +kernel
theorem dL_right_25 : decode cL_right 25 = .ok (.iconst 2, 1) := by decide +kernel
theorem dL_right_26 : decode cL_right 26 = .ok (.ireturn, 1) := by decide +kernel
theorem dL_right_27 : decode cL_right 27 = .ok (.astore 7, 2) := by decide +kernel
theorem dL_right_29 : decode cL_right 29 = .ok (.iconst 3, 1) := by decide +kernel
theorem dL_right_30 : decode cL_right 30 = .ok (.ireturn, 1) := by decide +kernel
theorem dL_right_31 : decode cL_right 31 = .ok (.iconst 0, 1) := by decide +kernel
theorem dL_right_32 : decode cL_right 32 = .ok (.ireturn, 1) := by decide +kernel
theorem dL_allow_0 : decode cL_allow 0 = .ok (.aload 4, 2) := by decide +kernel
theorem dL_allow_2 : decode cL_allow 2 = .ok (.iconst 0, 1) := by decide +kernel
theorem dL_allow_3 : decode cL_allow 3 = .ok (.aload_n 0, 1) := by decide +kernel
theorem dL_allow_4 : decode cL_allow 4 = .ok (.iload_n 1, 1) := by decide +kernel
theorem dL_allow_5 : decode cL_allow 5 = .ok (.iload_n 2, 1) := by decide +kernel
theorem dL_allow_6 : decode cL_allow 6 = .ok (.iload_n 3, 1) := by decide +kernel
theorem dL_allow_7 : decode cL_allow 7 = .ok (.invokevirtual 76, 3) := by decide +kernel
theorem dL_allow_10 : decode cL_allow 10 = .ok (.ifCond .eq 7, 3) := by decide +kernel
theorem dL_allow_13 : decode cL_allow 13 = .ok (.lconst 1, 1) := by decide +kernel
theorem dL_allow_14 : decode cL_allow 14 = .ok (.goto 4, 3) := by decide +kernel
theorem dL_allow_17 : decode cL_allow 17 = .ok (.lconst 0, 1) := by decide +kernel
theorem dL_allow_18 : decode cL_allow 18 = .ok (.lastore, 1) := by decide +kernel
theorem dL_allow_19 : decode cL_allow 19 = .ok (.goto 7, 3) := by decide +kernel
theorem dL_allow_22 : decode cL_allow 22 = .ok (.astore 5, 2) := by decide +kernel
theorem dL_allow_24 : decode cL_allow 24 = .ok (.iconst 1, 1) := by decide +kernel
theorem dL_allow_25 : decode cL_allow 25 = .ok (.ireturn, 1) := by decide +kernel
theorem dL_allow_26 : decode cL_allow 26 = .ok (.iconst 0, 1) := by decide +kernel
theorem dL_allow_27 : decode cL_allow 27 = .ok (.ireturn, 1) := by decide +kernel
theorem dL_mayShow_0 : decode cL_mayShow 0 = .ok (.aload 4, 2) := by decide +kernel
theorem dL_mayShow_2 : decode cL_mayShow 2 = .ok (.iconst 0, 1) := by decide +kernel
theorem dL_mayShow_3 : decode cL_mayShow 3 = .ok (.aload_n 0, 1) := by decide +kernel
theorem dL_mayShow_4 : decode cL_mayShow 4 = .ok (.iload_n 1, 1) := by decide +kernel
theorem dL_mayShow_5 : decode cL_mayShow 5 = .ok (.iload_n 2, 1) := by decide +kernel
theorem dL_mayShow_6 : decode cL_mayShow 6 = .ok (.iload_n 3, 1) := by decide +kernel
theorem dL_mayShow_7 : decode cL_mayShow 7 = .ok (.invokevirtual 80, 3) := by decide +kernel
theorem dL_mayShow_10 : decode cL_mayShow 10 = .ok (.ifCond .eq 7, 3) := by decide +kernel
theorem dL_mayShow_13 : decode cL_mayShow 13 = .ok (.lconst 1, 1) := by decide +kernel
theorem dL_mayShow_14 : decode cL_mayShow 14 = .ok (.goto 4, 3) := by decide +kernel
theorem dL_mayShow_17 : decode cL_mayShow 17 = .ok (.lconst 0, 1) := by decide +kernel
theorem dL_mayShow_18 : decode cL_mayShow 18 = .ok (.lastore, 1) := by decide +kernel
theorem dL_mayShow_19 : decode cL_mayShow 19 = .ok (.goto 11, 3) := by decide +kernel
theorem dL_mayShow_22 : decode cL_mayShow 22 = .ok (.astore 5, 2) := by decide +kernel
theorem dL_mayShow_24 : decode cL_mayShow 24 = .ok (.iconst 1, 1) := by decide +kernel
theorem dL_mayShow_25 : decode cL_mayShow 25 = .ok (.ireturn, 1) := by decide +kernel
theorem dL_mayShow_26 : decode cL_mayShow 26 = .ok (.astore 5, 2) := by decide +kernel
theorem dL_mayShow_28 : decode cL_mayShow 28 = .ok (.iconst 2, 1) := by decide +kernel
theorem dL_mayShow_29 : decode cL_mayShow 29 = .ok (.ireturn, 1) := by decide +kernel
theorem dL_mayShow_30 : decode cL_mayShow 30 = .ok (.iconst 0, 1) := by decide +kernel
theorem dL_mayShow_31 : decode cL_mayShow 31 = .ok (.ireturn, 1) := by decide +kernel
theorem dL_edition_0 : decode cL_edition 0 = .ok (.aload_n 2, 1) := by decide +kernel
theorem dL_edition_1 : decode cL_edition 1 = .ok (.iconst 0, 1) := by decide +kernel
theorem dL_edition_2 : decode cL_edition 2 = .ok (.aload_n 0, 1) := by decide +kernel
theorem dL_edition_3 : decode cL_edition 3 = .ok (.iload_n 1, 1) := by decide +kernel
theorem dL_edition_4 : decode cL_edition 4 = .ok (.invokevirtual 84, 3) := by decide +kernel
theorem dL_edition_7 : decode cL_edition 7 = .ok (.i2l, 1) := by decide +kernel
theorem dL_edition_8 : decode cL_edition 8 = .ok (.lastore, 1) := by decide +kernel
theorem dL_edition_9 : decode cL_edition 9 = .ok (.goto 6, 3) := by decide +kernel
theorem dL_edition_12 : decode cL_edition 12 = .ok (.astore_n 3, 1) := by decide +kernel
theorem dL_edition_13 : decode cL_edition 13 = .ok (.iconst 1, 1) := by decide +kernel
theorem dL_edition_14 : decode cL_edition 14 = .ok (.ireturn, 1) := by decide +kernel
theorem dL_edition_15 : decode cL_edition 15 = .ok (.iconst 0, 1) := by decide +kernel
theorem dL_edition_16 : decode cL_edition 16 = .ok (.ireturn, 1) := by decide +kernel
theorem dL_protect_0 : decode cL_protect 0 = .ok (.aload_n 3, 1) := by decide +kernel
theorem dL_protect_1 : decode cL_protect 1 = .ok (.iconst 0, 1) := by decide +kernel
theorem dL_protect_2 : decode cL_protect 2 = .ok (.aload_n 0, 1) := by decide +kernel
theorem dL_protect_3 : decode cL_protect 3 = .ok (.iload_n 1, 1) := by decide +kernel
theorem dL_protect_4 : decode cL_protect 4 = .ok (.iload_n 2, 1) := by decide +kernel
theorem dL_protect_5 : decode cL_protect 5 = .ok (.invokevirtual 87, 3) := by decide +kernel
theorem dL_protect_8 : decode cL_protect 8 = .ok (.ifCond .eq 7, 3) := by decide +kernel
theorem dL_protect_11 : decode cL_protect 11 = .ok (.lconst 1, 1) := by decide +kernel
theorem dL_protect_12 : decode cL_protect 12 = .ok (.goto 4, 3) := by decide +kernel
theorem dL_protect_15 : decode cL_protect 15 = .ok (.lconst 0, 1) := by decide +kernel
theorem dL_protect_16 : decode cL_protect 16 = .ok (.lastore, 1) := by decide +kernel
theorem dL_protect_17 : decode cL_protect 17 = .ok (.goto 7, 3) := by decide +kernel
theorem dL_protect_20 : decode cL_protect 20 = .ok (.astore 4, 2) := by decide +kernel
theorem dL_protect_22 : decode cL_protect 22 = .ok (.iconst 1, 1) := by decide +kernel
theorem dL_protect_23 : decode cL_protect 23 = .ok (.ireturn, 1) := by decide +kernel
theorem dL_protect_24 : decode cL_protect 24 = .ok (.iconst 0, 1) := by decide +kernel
theorem dL_protect_25 : decode cL_protect 25 = .ok (.ireturn, 1) := by decide +kernel
theorem dL_limit_0 : decode cL_limit 0 = .ok (.aload_n 2, 1) := by decide +kernel
theorem dL_limit_1 : decode cL_limit 1 = .ok (.iconst 0, 1) := by decide +kernel
theorem dL_limit_2 : decode cL_limit 2 = .ok (.aload_n 0, 1) := by decide +kernel
theorem dL_limit_3 : decode cL_limit 3 = .ok (.iload_n 1, 1) := by decide +kernel
theorem dL_limit_4 : decode cL_limit 4 = .ok (.invokevirtual 91, 3) := by decide +kernel
theorem dL_limit_7 : decode cL_limit 7 = .ok (.i2l, 1) := by decide +kernel
theorem dL_limit_8 : decode cL_limit 8 = .ok (.lastore, 1) := by decide +kernel
theorem dL_limit_9 : decode cL_limit 9 = .ok (.goto 6, 3) := by decide +kernel
theorem dL_limit_12 : decode cL_limit 12 = .ok (.astore_n 3, 1) := by decide +kernel
theorem dL_limit_13 : decode cL_limit 13 = .ok (.iconst 1, 1) := by decide +kernel
theorem dL_limit_14 : decode cL_limit 14 = .ok (.ireturn, 1) := by decide +kernel
theorem dL_limit_15 : decode cL_limit 15 = .ok (.iconst 0, 1) := by decide +kernel
theorem dL_limit_16 : decode cL_limit 16 = .ok (.ireturn, 1) := by decide +kernel
theorem dL_dirt_0 : decode cL_dirt 0 = .ok (.aload_n 2, 1) := by decide +kernel
theorem dL_dirt_1 : decode cL_dirt 1 = .ok (.iconst 0, 1) := by decide +kernel
theorem dL_dirt_2 : decode cL_dirt 2 = .ok (.aload_n 0, 1) := by decide +kernel
theorem dL_dirt_3 : decode cL_dirt 3 = .ok (.iload_n 1, 1) := by decide +kernel
theorem dL_dirt_4 : decode cL_dirt 4 = .ok (.invokevirtual 94, 3) := by decide +kernel
theorem dL_dirt_7 : decode cL_dirt 7 = .ok (.i2l, 1) := by decide +kernel
theorem dL_dirt_8 : decode cL_dirt 8 = .ok (.lastore, 1) := by decide +kernel
theorem dL_dirt_9 : decode cL_dirt 9 = .ok (.goto 6, 3) := by decide +kernel
theorem dL_dirt_12 : decode cL_dirt 12 = .ok (.astore_n 3, 1) := by decide +kernel
theorem dL_dirt_13 : decode cL_dirt 13 = .ok (.iconst 1, 1) := by decide +kernel
theorem dL_dirt_14 : decode cL_dirt 14 = .ok (.ireturn, 1) := by decide +kernel
theorem dL_dirt_15 : decode cL_dirt 15 = .ok (.iconst 0, 1) := by decide +kernel
theorem dL_dirt_16 : decode cL_dirt 16 = .ok (.ireturn, 1) := by decide +kernel
theorem dL_scratch_0 : decode cL_scratch 0 = .ok (.aload 5, 2) := by decide +kernel
theorem dL_scratch_2 : decode cL_scratch 2 = .ok (.iconst 0, 1) := by decide +kernel
theorem dL_scratch_3 : decode cL_scratch 3 = .ok (.aload_n 0, 1) := by decide +kernel
theorem dL_scratch_4 : decode cL_scratch 4 = .ok (.iload_n 1, 1) := by decide +kernel
theorem dL_scratch_5 : decode cL_scratch 5 = .ok (.iload_n 2, 1) := by decide +kernel
theorem dL_scratch_6 : decode cL_scratch 6 = .ok (.iload_n 3, 1) := by decide +kernel
theorem dL_scratch_7 : decode cL_scratch 7 = .ok (.iload 4, 2) := by decide +kernel
theorem dL_scratch_9 : decode cL_scratch 9 = .ok (.invokevirtual 97, 3) := by decide +kernel
theorem dL_scratch_12 : decode cL_scratch 12 = .ok (.i2l, 1) := by decide +kernel
theorem dL_scratch_13 : decode cL_scratch 13 = .ok (.lastore, 1) := by decide +kernel
theorem dL_scratch_14 : decode cL_scratch 14 = .ok (.goto 11, 3) := by decide +kernel
theorem dL_scratch_17 : decode cL_scratch 17 = .ok (.astore 6, 2) := by decide +kernel
theorem dL_scratch_19 : decode cL_scratch 19 = .ok (.iconst 1, 1) := by decide +kernel
theorem dL_scratch_20 : decode cL_scratch 20 = .ok (.ireturn, 1) := by decide +kernel
theorem dL_scratch_21 : decode cL_scratch 21 = .ok (.astore 6, 2) := by decide +kernel
theorem dL_scratch_23 : decode cL_scratch 23 = .ok (.iconst 2, 1) := by decide +kernel
theorem dL_scratch_24 : decode cL_scratch 24 = .ok (.ireturn, 1) := by decide +kernel
theorem dL_scratch_25 : decode cL_scratch 25 = .ok (.iconst 0, 1) := by decide +kernel
theorem dL_scratch_26 : decode cL_scratch 26 = .ok (.ireturn, 1) := by decide +kernel
theorem dL_takeBack_0 : decode cL_takeBack 0 = .ok (.aload_n 2, 1) := by decide +kernel
theorem dL_takeBack_1 : decode cL_takeBack 1 = .ok (.iconst 0, 1) := by decide +kernel
theorem dL_takeBack_2 : decode cL_takeBack 2 = .ok (.aload_n 0, 1) := by decide +kernel
theorem dL_takeBack_3 : decode cL_takeBack 3 = .ok (.iload_n 1, 1) := by decide +kernel
theorem dL_takeBack_4 : decode cL_takeBack 4 = .ok (.invokevirtual 100, 3) := by decide +kernel
theorem dL_takeBack_7 : decode cL_takeBack 7 = .ok (.i2l, 1) := by decide +kernel
theorem dL_takeBack_8 : decode cL_takeBack 8 = .ok (.lastore, 1) := by decide +kernel
theorem dL_takeBack_9 : decode cL_takeBack 9 = .ok (.goto 9, 3) := by decide +kernel
theorem dL_takeBack_12 : decode cL_takeBack 12 = .ok (.astore_n 3, 1) := by decide +kernel
theorem dL_takeBack_13 : decode cL_takeBack 13 = .ok (.iconst 1, 1) := by decide +kernel
theorem dL_takeBack_14 : decode cL_takeBack 14 = .ok (.ireturn, 1) := by decide +kernel
theorem dL_takeBack_15 : decode cL_takeBack 15 = .ok (.astore_n 3, 1) := by decide +kernel
theorem dL_takeBack_16 : decode cL_takeBack 16 = .ok (.iconst 2, 1) := by decide +kernel
theorem dL_takeBack_17 : decode cL_takeBack 17 = .ok (.ireturn, 1) := by decide +kernel
theorem dL_takeBack_18 : decode cL_takeBack 18 = .ok (.iconst 0, 1) := by decide +kernel
theorem dL_takeBack_19 : decode cL_takeBack 19 = .ok (.ireturn, 1) := by decide +kernel
theorem dL_ofFrame_0 : decode cL_ofFrame 0 = .ok (.aload_n 3, 1) := by decide +kernel
theorem dL_ofFrame_1 : decode cL_ofFrame 1 = .ok (.iconst 0, 1) := by decide +kernel
theorem dL_ofFrame_2 : decode cL_ofFrame 2 = .ok (.aload_n 0, 1) := by decide +kernel
theorem dL_ofFrame_3 : decode cL_ofFrame 3 = .ok (.iload_n 1, 1) := by decide +kernel
theorem dL_ofFrame_4 : decode cL_ofFrame 4 = .ok (.iload_n 2, 1) := by decide +kernel
theorem dL_ofFrame_5 : decode cL_ofFrame 5 = .ok (.invokevirtual 103, 3) := by decide +kernel
theorem dL_ofFrame_8 : decode cL_ofFrame 8 = .ok (.i2l, 1) := by decide +kernel
theorem dL_ofFrame_9 : decode cL_ofFrame 9 = .ok (.lastore, 1) := by decide +kernel
theorem dL_ofFrame_10 : decode cL_ofFrame 10 = .ok (.goto 11, 3) := by decide +kernel
theorem dL_ofFrame_13 : decode cL_ofFrame 13 = .ok (.astore 4, 2) := by decide +kernel
theorem dL_ofFrame_15 : decode cL_ofFrame 15 = .ok (.iconst 1, 1) := by decide +kernel
theorem dL_ofFrame_16 : decode cL_ofFrame 16 = .ok (.ireturn, 1) := by decide +kernel
theorem dL_ofFrame_17 : decode cL_ofFrame 17 = .ok (.astore 4, 2) := by decide +kernel
theorem dL_ofFrame_19 : decode cL_ofFrame 19 = .ok (.iconst 2, 1) := by decide +kernel
theorem dL_ofFrame_20 : decode cL_ofFrame 20 = .ok (.ireturn, 1) := by decide +kernel
theorem dL_ofFrame_21 : decode cL_ofFrame 21 = .ok (.iconst 0, 1) := by decide +kernel
theorem dL_ofFrame_22 : decode cL_ofFrame 22 = .ok (.ireturn, 1) := by decide +kernel
theorem dL_seen_0 : decode cL_seen 0 = .ok (.aload_n 2, 1) := by decide +kernel
theorem dL_seen_1 : decode cL_seen 1 = .ok (.iconst 0, 1) := by decide +kernel
theorem dL_seen_2 : decode cL_seen 2 = .ok (.aload_n 0, 1) := by decide +kernel
theorem dL_seen_3 : decode cL_seen 3 = .ok (.iload_n 1, 1) := by decide +kernel
theorem dL_seen_4 : decode cL_seen 4 = .ok (.invokevirtual 106, 3) := by decide +kernel
theorem dL_seen_7 : decode cL_seen 7 = .ok (.lastore, 1) := by decide +kernel
theorem dL_seen_8 : decode cL_seen 8 = .ok (.goto 6, 3) := by decide +kernel
theorem dL_seen_11 : decode cL_seen 11 = .ok (.astore_n 3, 1) := by decide +kernel
theorem dL_seen_12 : decode cL_seen 12 = .ok (.iconst 1, 1) := by decide +kernel
theorem dL_seen_13 : decode cL_seen 13 = .ok (.ireturn, 1) := by decide +kernel
theorem dL_seen_14 : decode cL_seen 14 = .ok (.iconst 0, 1) := by decide +kernel
theorem dL_seen_15 : decode cL_seen 15 = .ok (.ireturn, 1) := by decide +kernel
theorem dL_pass_0 : decode cL_pass 0 = .ok (.aload_n 2, 1) := by decide +kernel
theorem dL_pass_1 : decode cL_pass 1 = .ok (.iconst 0, 1) := by decide +kernel
theorem dL_pass_2 : decode cL_pass 2 = .ok (.aload_n 0, 1) := by decide +kernel
theorem dL_pass_3 : decode cL_pass 3 = .ok (.iload_n 1, 1) := by decide +kernel
theorem dL_pass_4 : decode cL_pass 4 = .ok (.invokevirtual 110, 3) := by decide +kernel
theorem dL_pass_7 : decode cL_pass 7 = .ok (.i2l, 1) := by decide +kernel
theorem dL_pass_8 : decode cL_pass 8 = .ok (.lastore, 1) := by decide +kernel
theorem dL_pass_9 : decode cL_pass 9 = .ok (.goto 9, 3) := by decide +kernel
theorem dL_pass_12 : decode cL_pass 12 = .ok (.astore_n 3, 1) := by decide +kernel
theorem dL_pass_13 : decode cL_pass 13 = .ok (.iconst 1, 1) := by decide +kernel
theorem dL_pass_14 : decode cL_pass 14 = .ok (.ireturn, 1) := by decide +kernel
theorem dL_pass_15 : decode cL_pass 15 = .ok (.astore_n 3, 1) := by decide +kernel
theorem dL_pass_16 : decode cL_pass 16 = .ok (.iconst 2, 1) := by decide +kernel
theorem dL_pass_17 : decode cL_pass 17 = .ok (.ireturn, 1) := by decide +kernel
theorem dL_pass_18 : decode cL_pass 18 = .ok (.iconst 0, 1) := by decide +kernel
theorem dL_pass_19 : decode cL_pass 19 = .ok (.ireturn, 1) := by decide +kernel
end
section

/-! words -/
def Tb : List Cond := lw_tbl.filter goodWord
theorem Tb_of {w : Cond} (h : w ∈ lw_tbl) (g : goodWord w = true) : w ∈ Tb := List.mem_filter.mpr ⟨h, g⟩
theorem Tb_in {w : Cond} (h : w ∈ Tb) : w ∈ lw_tbl := (List.mem_filter.mp h).1
theorem Tb_good {w : Cond} (h : w ∈ Tb) : (w.onTables && w.keeps) = true ∨ ∃ ty, w = .arrayClass ty := good_of_word (List.mem_filter.mp h).2
/-! ints -/
def iI (z : Int) : Int32 := Int32.ofInt z
abbrev rng (z : Int) : Prop := -2147483648 ≤ z ∧ z ≤ 2147483647
theorem iI_toInt {z : Int} (h : rng z) : (iI z).toInt = z := Int32.toInt_ofInt_of_le (by have := h.1; omega) (by have := h.2; omega)
theorem iI_of (x : Int32) : iI x.toInt = x := Int32.ofInt_toInt x
theorem rng_of (x : Int32) : rng x.toInt := ⟨by have := Int32.le_toInt x; omega, by have := Int32.toInt_lt x; omega⟩
theorem iI_add (a b : Int) : iI a + iI b = iI (a + b) := (Int32.ofInt_add a b).symm
theorem iI_sub (a b : Int) : iI a - iI b = iI (a - b) := (Int32.ofInt_sub a b).symm
theorem iI_mul (a b : Int) : iI a * iI b = iI (a * b) := (Int32.ofInt_mul a b).symm
theorem iI_neg (a : Int) : -iI a = iI (-a) := (Int32.ofInt_neg a).symm
theorem iI_div {a b : Int} (ha : -2147483647 ≤ a ∧ a ≤ 2147483647) (hb : rng b) (h0 : b ≠ 0) (h1 : b ≠ -1) : iI a / iI b = iI (a.tdiv b) := by
  apply Int32.toInt_inj.mp
  have h2 : (a.tdiv b).natAbs = a.natAbs / b.natAbs := Int.natAbs_tdiv a b
  have h3 : a.natAbs / b.natAbs ≤ a.natAbs := Nat.div_le_self _ _
  have h4 := ha.1
  have h5 := ha.2
  rw [Int32.toInt_div_of_ne_right _ _ (fun h => h1 (by have h2 := congrArg Int32.toInt h; rw [iI_toInt hb] at h2; rw [h2]; rfl)), iI_toInt ⟨by omega, by omega⟩, iI_toInt hb, iI_toInt ⟨by omega, by omega⟩]
theorem iI_le {a b : Int} (ha : rng a) (hb : rng b) : iI a ≤ iI b ↔ a ≤ b := by rw [Int32.le_iff_toInt_le, iI_toInt ha, iI_toInt hb]
theorem iI_lt {a b : Int} (ha : rng a) (hb : rng b) : iI a < iI b ↔ a < b := by rw [Int32.lt_iff_toInt_lt, iI_toInt ha, iI_toInt hb]
theorem iI_eq {a b : Int} (ha : rng a) (hb : rng b) : iI a = iI b ↔ a = b := ⟨fun h => by have h2 := congrArg Int32.toInt h; rwa [iI_toInt ha, iI_toInt hb] at h2, fun h => by rw [h]⟩
theorem iI_cl {z : Int} (h0 : 0 ≤ z) (h : z ≤ 2147483647) : (iI z).toNatClampNeg = z.toNat := Int32.toNatClampNeg_ofInt_of_le (by omega) (by omega)
theorem iI_in {z : Int} {n : Nat} (h0 : 0 ≤ z) (h : z < n) (hn : n ≤ 2147483647) : vp_in (iI z) n := by
  refine vp_in_iff.mpr ?_
  rw [iI_toInt ⟨by omega, by omega⟩]
  exact ⟨h0, h⟩
/-- a truth as an int -/
def bI (P : Prop) [Decidable P] : Int := if P then 1 else 0
theorem bI_t {P : Prop} [Decidable P] (h : P) : bI P = 1 := if_pos h
theorem bI_f {P : Prop} [Decidable P] (h : ¬ P) : bI P = 0 := if_neg h
theorem bI_01 (P : Prop) [Decidable P] : bI P = 0 ∨ bI P = 1 := by unfold bI; split <;> simp
theorem bI_rng (P : Prop) [Decidable P] : rng (bI P) := by rcases bI_01 P with h | h <;> rw [h] <;> decide
theorem bI_c {P Q : Prop} [Decidable P] [Decidable Q] (h : P ↔ Q) : bI P = bI Q := by unfold bI; by_cases q : Q <;> simp [h, q]
/-! locals -/
def lvl : Nat → List (Option Value) → List (Nat × Value)
  | _, [] => []
  | n, some v :: t => (n, v) :: lvl (n + 1) t
  | n, none :: t => lvl (n + 1) t
theorem lvl_mem : ∀ (l : List (Option Value)) (n : Nat) (q : Nat × Value), q ∈ lvl n l ↔ ∃ j, l[j]? = some (some q.2) ∧ q.1 = n + j
  | [], n, q => by simp [lvl]
  | some v :: t, n, q => by
    rw [lvl, List.mem_cons, lvl_mem t (n + 1) q]
    constructor
    · rintro (h | ⟨j, h1, h2⟩)
      · subst h; exact ⟨0, rfl, rfl⟩
      · exact ⟨j + 1, h1, by omega⟩
    · rintro ⟨j, h1, h2⟩
      cases j with
      | zero =>
        left
        obtain ⟨a, b⟩ := q
        simp only [List.getElem?_cons_zero, Option.some.injEq] at h1
        simp only at h2
        rw [h1, h2]; rfl
      | succ j => exact Or.inr ⟨j, h1, by omega⟩
  | none :: t, n, q => by
    rw [lvl, lvl_mem t (n + 1) q]
    constructor
    · rintro ⟨j, h1, h2⟩
      exact ⟨j + 1, h1, by omega⟩
    · rintro ⟨j, h1, h2⟩
      cases j with
      | zero => simp at h1
      | succ j => exact ⟨j, h1, by omega⟩
theorem lvl_at {ls : Array Slot} {nL i : Nat} {lv : List (Option Value)} {v : Value} (h : lv_has ls nL (lvl 0 lv)) (hi : lv[i]? = some (some v)) : ls[i]? = some (.val v) := h.2.2 (i, v) ((lvl_mem lv 0 (i, v)).mpr ⟨i, hi, (Nat.zero_add i).symm⟩)
theorem lvl_sub {ls : Array Slot} {nL : Nat} {l l' : List (Nat × Value)} (h : lv_has ls nL l) (hs : ∀ q ∈ l', q ∈ l) : lv_has ls nL l' := ⟨h.1, h.2.1, fun q hq => h.2.2 q (hs q hq)⟩
def c1 : Option Value → Bool
  | some v => v.category == 1
  | none => true
/-- a store of one word at place k: what stands behind -/
theorem lvl_st1 {ls : Array Slot} {nL k : Nat} {lv : List (Option Value)} {v : Value} (h : lv_has ls nL ((k, v) :: (lvl 0 lv).filter (fun q => !(q.1 == k) && !(q.1 + 1 == k && q.2.category == 2)))) (hc : ∀ j, j + 1 = k → ∀ u, lv[j]? = some (some u) → c1 (some u) = true) : lv_has ls nL (lvl 0 (lv.set k (some v))) := by
  refine lvl_sub h fun q hq => ?_
  obtain ⟨j, h1, h2⟩ := (lvl_mem _ _ _).mp hq
  rw [Nat.zero_add] at h2
  by_cases e : j = k
  · subst e
    rw [List.getElem?_set_self'] at h1
    obtain ⟨a, b⟩ := q
    have hb : v = b := by
      cases hl : lv[j]? with
      | none => rw [hl] at h1; simp at h1
      | some x => rw [hl] at h1; simpa using h1
    rw [show (a, b) = (j, v) by rw [hb]; exact congrArg (fun z => (z, b)) h2]
    exact List.mem_cons_self
  · rw [List.getElem?_set_ne (fun z => e z.symm)] at h1
    refine List.mem_cons_of_mem _ (List.mem_filter.mpr ⟨(lvl_mem _ _ _).mpr ⟨j, h1, by omega⟩, ?_⟩)
    rw [h2]
    have e1 : (j == k) = false := by simpa using e
    rw [e1]
    by_cases e2 : j + 1 = k
    · have := hc j e2 _ h1
      have h3 : q.2.category = 1 := by simpa [c1] using this
      simp [h3]
    · have e3 : (j + 1 == k) = false := by simpa using e2
      simp [e3]
theorem lvl_st2 {ls : Array Slot} {nL k : Nat} {lv : List (Option Value)} {v : Value} (h : lv_has ls nL ((k, v) :: (lvl 0 lv).filter (fun q => !(q.1 == k) && (!(q.1 == k + 1) && !(q.1 + 1 == k && q.2.category == 2))))) (hc : ∀ j, j + 1 = k → ∀ u, lv[j]? = some (some u) → c1 (some u) = true) : lv_has ls nL (lvl 0 ((lv.set k (some v)).set (k + 1) none)) := by
  refine lvl_sub h fun q hq => ?_
  obtain ⟨j, h1, h2⟩ := (lvl_mem _ _ _).mp hq
  rw [Nat.zero_add] at h2
  by_cases e0 : j = k + 1
  · subst e0
    rw [List.getElem?_set_self'] at h1
    cases hl : (lv.set k (some v))[k + 1]? with
    | none => rw [hl] at h1; simp at h1
    | some x => rw [hl] at h1; simp at h1
  rw [List.getElem?_set_ne (fun z => e0 z.symm)] at h1
  by_cases e : j = k
  · subst e
    rw [List.getElem?_set_self'] at h1
    obtain ⟨a, b⟩ := q
    have hb : v = b := by
      cases hl : lv[j]? with
      | none => rw [hl] at h1; simp at h1
      | some x => rw [hl] at h1; simpa using h1
    rw [show (a, b) = (j, v) by rw [hb]; exact congrArg (fun z => (z, b)) h2]
    exact List.mem_cons_self
  · rw [List.getElem?_set_ne (fun z => e z.symm)] at h1
    refine List.mem_cons_of_mem _ (List.mem_filter.mpr ⟨(lvl_mem _ _ _).mpr ⟨j, h1, by omega⟩, ?_⟩)
    rw [h2]
    have e1 : (j == k) = false := by simpa using e
    have e4 : (j == k + 1) = false := by simpa using e0
    rw [e1, e4]
    by_cases e2 : j + 1 = k
    · have := hc j e2 _ h1
      have h3 : q.2.category = 1 := by simpa [c1] using this
      simp [h3]
    · have e3 : (j + 1 == k) = false := by simpa using e2
      simp [e3]
end
section
/-! the memory: what each kind's fields and places hold -/
abbrev Mem : Type := (Nat → Nat → Int → Int → Int) × (Nat → Nat → Int → Int → Int64)
abbrev Ad : Type := Nat → Int → Nat
def RM (M : Mem) : Prop := ∀ (k f : Nat) (i j : Int), rng (M.1 k f i j)
def setI (M : Mem) (k f : Nat) (i j v : Int) : Mem := (fun k' f' i' j' => if k' = k ∧ f' = f ∧ i' = i ∧ j' = j then v else M.1 k' f' i' j', M.2)
def setL (M : Mem) (k f : Nat) (i j : Int) (v : Int64) : Mem := (M.1, fun k' f' i' j' => if k' = k ∧ f' = f ∧ i' = i ∧ j' = j then v else M.2 k' f' i' j')
theorem setI_1 (M : Mem) (k f : Nat) (i j v : Int) (k' f' : Nat) (i' j' : Int) : (setI M k f i j v).1 k' f' i' j' = if k' = k ∧ f' = f ∧ i' = i ∧ j' = j then v else M.1 k' f' i' j' := rfl
theorem setI_2 (M : Mem) (k f : Nat) (i j v : Int) : (setI M k f i j v).2 = M.2 := rfl
theorem setL_1 (M : Mem) (k f : Nat) (i j : Int) (v : Int64) : (setL M k f i j v).1 = M.1 := rfl
theorem setL_2 (M : Mem) (k f : Nat) (i j : Int) (v : Int64) (k' f' : Nat) (i' j' : Int) : (setL M k f i j v).2 k' f' i' j' = if k' = k ∧ f' = f ∧ i' = i ∧ j' = j then v else M.2 k' f' i' j' := rfl
theorem RM_setI {M : Mem} (h : RM M) {k f : Nat} {i j v : Int} (hv : rng v) : RM (setI M k f i j v) := by
  intro k' f' i' j'
  rw [setI_1]
  split
  · exact hv
  · exact h _ _ _ _
theorem RM_setL {M : Mem} (h : RM M) {k f : Nat} {i j : Int} {v : Int64} : RM (setL M k f i j v) := h
abbrev vwCl : List vw_C := [(RX0, TX0, 4), (RX1, TX1, 1), (RX2, TX2, 4), (RX3, TX3, 8), (RX4, TX4, 0), (RX5, TX5, 0), (RX6, TX6, 1), (RX7, TX7, 0), (RX8, TX8, 15), (RX9, TX9, 4), (RX10, TX10, 14), (RX11, TX11, 10), (RX12, TX12, 49)]
abbrev tysO (c : Nat → ClassId) : List (ClassId × FieldType) := [(c 0, .int), (c 1, .long), (c 2, .boolean), (c 3, .double), (c 4, .object RX8), (c 5, .object RX10), (c 6, .object RX3), (c 7, .array .int)]
/-- a cell by its kind, its number and the slice of the memory that is its own -/
def entK (c : Nat → ClassId) (ad : Ad) (i : Int) (S1 : Nat → Int → Int) (S2 : Nat → Int → Int64) : Nat → va_E
  | 0 => .inr (11, [.ref (ad 1 i), .int (iI (S1 1 0)), .int (iI (S1 2 0)), .int (iI (S1 3 0)), .ref (ad 2 i), .ref (ad 5 i), .int (iI (S1 6 0)), .int (iI (S1 7 0)), .ref (ad 6 i), .ref (ad 10 i)])
  | 1 => .inl (c 4, 12, .inr (.inr (.inr (.inr (fun j : Nat => some (ad 16 (j : Int)))))))
  | 2 => .inr (6, [.ref (ad 3 i)])
  | 3 => .inl (c 7, 61, .inr (.inr (.inr (.inr (fun j : Nat => some (ad 4 (j : Int)))))))
  | 4 => .inl (c 0, 61, .inl (fun j : Nat => iI (S1 0 (j : Int))))
  | 5 => .inl (c 5, 6, .inr (.inr (.inr (.inr (fun j : Nat => some (ad 22 (j : Int)))))))
  | 6 => .inr (9, [.int (iI (S1 0 0)), .ref (ad 7 i), .ref (ad 8 i), .ref (ad 9 i)])
  | 7 => .inl (c 0, 100, .inl (fun j : Nat => iI (S1 0 (j : Int))))
  | 8 => .inl (c 0, 100, .inl (fun j : Nat => iI (S1 0 (j : Int))))
  | 9 => .inl (c 0, 10, .inl (fun j : Nat => iI (S1 0 (j : Int))))
  | 10 => .inr (2, [.int (iI (S1 0 0)), .int (iI (S1 1 0)), .ref (ad 11 i), .ref (ad 12 i)])
  | 11 => .inl (c 6, 120, .inr (.inr (.inr (.inr (fun j : Nat => some (ad 31 (j : Int)))))))
  | 12 => .inr (0, [.int (iI (S1 0 0)), .ref (ad 13 i), .ref (ad 14 i), .ref (ad 15 i)])
  | 13 => .inl (c 0, (S1 1 0).toNat, .inl (fun j : Nat => iI (S1 0 (j : Int))))
  | 14 => .inl (c 1, (S1 1 0).toNat, .inr (.inl (fun j : Nat => S2 0 (j : Int))))
  | 15 => .inl (c 0, (S1 1 0).toNat, .inl (fun j : Nat => iI (S1 0 (j : Int))))
  | 16 => .inr (8, [.int (iI (S1 0 0)), .int (iI (S1 1 0)), .int (iI (S1 2 0)), .int (iI (S1 3 0)), .int (iI (S1 4 0)), .int (iI (S1 5 0)), .int (iI (S1 6 0)), .int (iI (S1 7 0)), .int (iI (S1 8 0)), .int (iI (S1 9 0)), .ref (ad 17 i), .ref (ad 18 i), .ref (ad 19 i), .ref (ad 20 i), .ref (ad 21 i)])
  | 17 => .inl (c 0, 60, .inl (fun j : Nat => iI (S1 0 (j : Int))))
  | 18 => .inl (c 1, 60, .inr (.inl (fun j : Nat => S2 0 (j : Int))))
  | 19 => .inl (c 2, 60, .inl (fun j : Nat => iI (S1 0 (j : Int))))
  | 20 => .inl (c 0, 1000, .inl (fun j : Nat => iI (S1 0 (j : Int))))
  | 21 => .inl (c 2, 1000, .inl (fun j : Nat => iI (S1 0 (j : Int))))
  | 22 => .inr (10, [.int (iI (S1 0 0)), .int (iI (S1 1 0)), .int (iI (S1 2 0)), .int (iI (S1 3 0)), .int (iI (S1 4 0)), .ref (ad 23 i), .ref (ad 24 i), .ref (ad 25 i), .int (iI (S1 8 0)), .ref (ad 26 i), .ref (ad 27 i), .ref (ad 28 i), .ref (ad 29 i), .ref (ad 30 i)])
  | 23 => .inl (c 0, 10, .inl (fun j : Nat => iI (S1 0 (j : Int))))
  | 24 => .inl (c 0, 10, .inl (fun j : Nat => iI (S1 0 (j : Int))))
  | 25 => .inl (c 0, 10, .inl (fun j : Nat => iI (S1 0 (j : Int))))
  | 26 => .inl (c 0, 40, .inl (fun j : Nat => iI (S1 0 (j : Int))))
  | 27 => .inl (c 0, 40, .inl (fun j : Nat => iI (S1 0 (j : Int))))
  | 28 => .inl (c 0, 40, .inl (fun j : Nat => iI (S1 0 (j : Int))))
  | 29 => .inl (c 0, 40, .inl (fun j : Nat => iI (S1 0 (j : Int))))
  | 30 => .inl (c 2, 10, .inl (fun j : Nat => iI (S1 0 (j : Int))))
  | 31 => .inr (3, [.int (iI (S1 0 0)), .int (iI (S1 1 0)), .int (iI (S1 2 0)), .long (S2 3 0), .long (S2 4 0), .int (iI (S1 5 0)), .int (iI (S1 6 0)), .int (iI (S1 7 0))])
  | 40 => .inr (12, [.ref (ad 41 i), .ref (ad 42 i), .ref (ad 43 i), .ref (ad 44 i), .ref (ad 45 i), .ref (ad 46 i), .ref (ad 47 i), .ref (ad 48 i), .ref (ad 49 i), .ref (ad 50 i), .int (iI (S1 10 0)), .int (iI (S1 11 0)), .int (iI (S1 12 0)), .ref (ad 51 i), .ref (ad 52 i), .ref (ad 53 i), .ref (ad 54 i), .ref (ad 55 i), .ref (ad 56 i), .ref (ad 57 i), .ref (ad 58 i), .ref (ad 59 i), .int (iI (S1 22 0)), .ref (ad 60 i), .ref (ad 61 i), .int (iI (S1 25 0)), .ref (ad 62 i), .ref (ad 63 i), .ref (ad 64 i), .ref (ad 65 i), .ref (ad 66 i), .int (iI (S1 31 0)), .ref (ad 67 i), .ref (ad 68 i), .ref (ad 69 i), .ref (ad 70 i), .ref (ad 71 i), .ref (ad 72 i), .ref (ad 73 i), .int (iI (S1 39 0)), .int (iI (S1 40 0)), .ref (ad 74 i), .ref (ad 75 i), .ref (ad 76 i), .int (iI (S1 44 0)), .ref (ad 77 i), .int (iI (S1 46 0)), .ref (ad 78 i), .ref (ad 79 i)])
  | 41 => .inl (c 0, 12, .inl (fun j : Nat => iI (S1 0 (j : Int))))
  | 42 => .inl (c 0, 12, .inl (fun j : Nat => iI (S1 0 (j : Int))))
  | 43 => .inl (c 0, 12, .inl (fun j : Nat => iI (S1 0 (j : Int))))
  | 44 => .inl (c 0, 12, .inl (fun j : Nat => iI (S1 0 (j : Int))))
  | 45 => .inl (c 0, 12, .inl (fun j : Nat => iI (S1 0 (j : Int))))
  | 46 => .inl (c 0, 12, .inl (fun j : Nat => iI (S1 0 (j : Int))))
  | 47 => .inl (c 0, 12, .inl (fun j : Nat => iI (S1 0 (j : Int))))
  | 48 => .inl (c 0, 720, .inl (fun j : Nat => iI (S1 0 (j : Int))))
  | 49 => .inl (c 1, 720, .inr (.inl (fun j : Nat => S2 0 (j : Int))))
  | 50 => .inl (c 0, 720, .inl (fun j : Nat => iI (S1 0 (j : Int))))
  | 51 => .inl (c 0, 3721, .inl (fun j : Nat => iI (S1 0 (j : Int))))
  | 52 => .inl (c 0, 6, .inl (fun j : Nat => iI (S1 0 (j : Int))))
  | 53 => .inl (c 0, 6, .inl (fun j : Nat => iI (S1 0 (j : Int))))
  | 54 => .inl (c 0, 6, .inl (fun j : Nat => iI (S1 0 (j : Int))))
  | 55 => .inl (c 0, 6, .inl (fun j : Nat => iI (S1 0 (j : Int))))
  | 56 => .inl (c 0, 60, .inl (fun j : Nat => iI (S1 0 (j : Int))))
  | 57 => .inl (c 0, 60, .inl (fun j : Nat => iI (S1 0 (j : Int))))
  | 58 => .inl (c 0, 60, .inl (fun j : Nat => iI (S1 0 (j : Int))))
  | 59 => .inl (c 0, 6, .inl (fun j : Nat => iI (S1 0 (j : Int))))
  | 60 => .inl (c 0, 100, .inl (fun j : Nat => iI (S1 0 (j : Int))))
  | 61 => .inl (c 0, 100, .inl (fun j : Nat => iI (S1 0 (j : Int))))
  | 62 => .inl (c 0, 40, .inl (fun j : Nat => iI (S1 0 (j : Int))))
  | 63 => .inl (c 0, 40, .inl (fun j : Nat => iI (S1 0 (j : Int))))
  | 64 => .inl (c 0, 40, .inl (fun j : Nat => iI (S1 0 (j : Int))))
  | 65 => .inl (c 0, 40, .inl (fun j : Nat => iI (S1 0 (j : Int))))
  | 66 => .inl (c 0, 40, .inl (fun j : Nat => iI (S1 0 (j : Int))))
  | 67 => .inl (c 0, 120, .inl (fun j : Nat => iI (S1 0 (j : Int))))
  | 68 => .inl (c 0, 120, .inl (fun j : Nat => iI (S1 0 (j : Int))))
  | 69 => .inl (c 0, 120, .inl (fun j : Nat => iI (S1 0 (j : Int))))
  | 70 => .inl (c 1, 120, .inr (.inl (fun j : Nat => S2 0 (j : Int))))
  | 71 => .inl (c 1, 120, .inr (.inl (fun j : Nat => S2 0 (j : Int))))
  | 72 => .inl (c 0, 120, .inl (fun j : Nat => iI (S1 0 (j : Int))))
  | 73 => .inl (c 1, 120, .inr (.inl (fun j : Nat => S2 0 (j : Int))))
  | 74 => .inl (c 0, 62000, .inl (fun j : Nat => iI (S1 0 (j : Int))))
  | 75 => .inl (c 1, 62000, .inr (.inl (fun j : Nat => S2 0 (j : Int))))
  | 76 => .inl (c 0, 62000, .inl (fun j : Nat => iI (S1 0 (j : Int))))
  | 77 => .inl (c 0, 10, .inl (fun j : Nat => iI (S1 0 (j : Int))))
  | 78 => .inl (c 2, 1000, .inl (fun j : Nat => iI (S1 0 (j : Int))))
  | 79 => .inl (c 2, 1000, .inl (fun j : Nat => iI (S1 0 (j : Int))))
  | 90 => .inl (c 1, 1, .inr (.inl (fun j : Nat => S2 0 (j : Int))))
  | 91 => .inl (c 3, 1, .inr (.inr (.inr (.inl (fun j : Nat => (S2 0 (j : Int)).toUInt64)))))
  | 95 => .inr (1, [.int (iI (S1 0 0))])
  | 96 => .inr (4, [])
  | _ => .inr (0, [])
def ent (c : Nat → ClassId) (ad : Ad) (M : Mem) (k : Nat) (i : Int) : va_E := entK c ad i (fun f j => M.1 k f i j) (fun f j => M.2 k f i j) k
theorem ent_slice {c : Nat → ClassId} {ad : Ad} {M M' : Mem} {k : Nat} {i : Int} (h1 : ∀ f j, M'.1 k f i j = M.1 k f i j) (h2 : ∀ f j, M'.2 k f i j = M.2 k f i j) : ent c ad M' k i = ent c ad M k i := by
  unfold ent
  rw [show (fun f j => M'.1 k f i j) = (fun f j => M.1 k f i j) from funext fun f => funext fun j => h1 f j, show (fun f j => M'.2 k f i j) = (fun f j => M.2 k f i j) from funext fun f => funext fun j => h2 f j]
theorem en0 (c : Nat → ClassId) (ad : Ad) (M : Mem) (i : Int) : ent c ad M 0 i = .inr (11, [.ref (ad 1 i), .int (iI (M.1 0 1 i 0)), .int (iI (M.1 0 2 i 0)), .int (iI (M.1 0 3 i 0)), .ref (ad 2 i), .ref (ad 5 i), .int (iI (M.1 0 6 i 0)), .int (iI (M.1 0 7 i 0)), .ref (ad 6 i), .ref (ad 10 i)]) := rfl
theorem en1 (c : Nat → ClassId) (ad : Ad) (M : Mem) (i : Int) : ent c ad M 1 i = .inl (c 4, 12, .inr (.inr (.inr (.inr (fun j : Nat => some (ad 16 (j : Int))))))) := rfl
theorem en2 (c : Nat → ClassId) (ad : Ad) (M : Mem) (i : Int) : ent c ad M 2 i = .inr (6, [.ref (ad 3 i)]) := rfl
theorem en3 (c : Nat → ClassId) (ad : Ad) (M : Mem) (i : Int) : ent c ad M 3 i = .inl (c 7, 61, .inr (.inr (.inr (.inr (fun j : Nat => some (ad 4 (j : Int))))))) := rfl
theorem en4 (c : Nat → ClassId) (ad : Ad) (M : Mem) (i : Int) : ent c ad M 4 i = .inl (c 0, 61, .inl (fun j : Nat => iI (M.1 4 0 i (j : Int)))) := rfl
theorem en5 (c : Nat → ClassId) (ad : Ad) (M : Mem) (i : Int) : ent c ad M 5 i = .inl (c 5, 6, .inr (.inr (.inr (.inr (fun j : Nat => some (ad 22 (j : Int))))))) := rfl
theorem en6 (c : Nat → ClassId) (ad : Ad) (M : Mem) (i : Int) : ent c ad M 6 i = .inr (9, [.int (iI (M.1 6 0 i 0)), .ref (ad 7 i), .ref (ad 8 i), .ref (ad 9 i)]) := rfl
theorem en7 (c : Nat → ClassId) (ad : Ad) (M : Mem) (i : Int) : ent c ad M 7 i = .inl (c 0, 100, .inl (fun j : Nat => iI (M.1 7 0 i (j : Int)))) := rfl
theorem en8 (c : Nat → ClassId) (ad : Ad) (M : Mem) (i : Int) : ent c ad M 8 i = .inl (c 0, 100, .inl (fun j : Nat => iI (M.1 8 0 i (j : Int)))) := rfl
theorem en9 (c : Nat → ClassId) (ad : Ad) (M : Mem) (i : Int) : ent c ad M 9 i = .inl (c 0, 10, .inl (fun j : Nat => iI (M.1 9 0 i (j : Int)))) := rfl
theorem en10 (c : Nat → ClassId) (ad : Ad) (M : Mem) (i : Int) : ent c ad M 10 i = .inr (2, [.int (iI (M.1 10 0 i 0)), .int (iI (M.1 10 1 i 0)), .ref (ad 11 i), .ref (ad 12 i)]) := rfl
theorem en11 (c : Nat → ClassId) (ad : Ad) (M : Mem) (i : Int) : ent c ad M 11 i = .inl (c 6, 120, .inr (.inr (.inr (.inr (fun j : Nat => some (ad 31 (j : Int))))))) := rfl
theorem en12 (c : Nat → ClassId) (ad : Ad) (M : Mem) (i : Int) : ent c ad M 12 i = .inr (0, [.int (iI (M.1 12 0 i 0)), .ref (ad 13 i), .ref (ad 14 i), .ref (ad 15 i)]) := rfl
theorem en13 (c : Nat → ClassId) (ad : Ad) (M : Mem) (i : Int) : ent c ad M 13 i = .inl (c 0, (M.1 13 1 i 0).toNat, .inl (fun j : Nat => iI (M.1 13 0 i (j : Int)))) := rfl
theorem en14 (c : Nat → ClassId) (ad : Ad) (M : Mem) (i : Int) : ent c ad M 14 i = .inl (c 1, (M.1 14 1 i 0).toNat, .inr (.inl (fun j : Nat => M.2 14 0 i (j : Int)))) := rfl
theorem en15 (c : Nat → ClassId) (ad : Ad) (M : Mem) (i : Int) : ent c ad M 15 i = .inl (c 0, (M.1 15 1 i 0).toNat, .inl (fun j : Nat => iI (M.1 15 0 i (j : Int)))) := rfl
theorem en16 (c : Nat → ClassId) (ad : Ad) (M : Mem) (i : Int) : ent c ad M 16 i = .inr (8, [.int (iI (M.1 16 0 i 0)), .int (iI (M.1 16 1 i 0)), .int (iI (M.1 16 2 i 0)), .int (iI (M.1 16 3 i 0)), .int (iI (M.1 16 4 i 0)), .int (iI (M.1 16 5 i 0)), .int (iI (M.1 16 6 i 0)), .int (iI (M.1 16 7 i 0)), .int (iI (M.1 16 8 i 0)), .int (iI (M.1 16 9 i 0)), .ref (ad 17 i), .ref (ad 18 i), .ref (ad 19 i), .ref (ad 20 i), .ref (ad 21 i)]) := rfl
theorem en17 (c : Nat → ClassId) (ad : Ad) (M : Mem) (i : Int) : ent c ad M 17 i = .inl (c 0, 60, .inl (fun j : Nat => iI (M.1 17 0 i (j : Int)))) := rfl
theorem en18 (c : Nat → ClassId) (ad : Ad) (M : Mem) (i : Int) : ent c ad M 18 i = .inl (c 1, 60, .inr (.inl (fun j : Nat => M.2 18 0 i (j : Int)))) := rfl
theorem en19 (c : Nat → ClassId) (ad : Ad) (M : Mem) (i : Int) : ent c ad M 19 i = .inl (c 2, 60, .inl (fun j : Nat => iI (M.1 19 0 i (j : Int)))) := rfl
theorem en20 (c : Nat → ClassId) (ad : Ad) (M : Mem) (i : Int) : ent c ad M 20 i = .inl (c 0, 1000, .inl (fun j : Nat => iI (M.1 20 0 i (j : Int)))) := rfl
theorem en21 (c : Nat → ClassId) (ad : Ad) (M : Mem) (i : Int) : ent c ad M 21 i = .inl (c 2, 1000, .inl (fun j : Nat => iI (M.1 21 0 i (j : Int)))) := rfl
theorem en22 (c : Nat → ClassId) (ad : Ad) (M : Mem) (i : Int) : ent c ad M 22 i = .inr (10, [.int (iI (M.1 22 0 i 0)), .int (iI (M.1 22 1 i 0)), .int (iI (M.1 22 2 i 0)), .int (iI (M.1 22 3 i 0)), .int (iI (M.1 22 4 i 0)), .ref (ad 23 i), .ref (ad 24 i), .ref (ad 25 i), .int (iI (M.1 22 8 i 0)), .ref (ad 26 i), .ref (ad 27 i), .ref (ad 28 i), .ref (ad 29 i), .ref (ad 30 i)]) := rfl
theorem en23 (c : Nat → ClassId) (ad : Ad) (M : Mem) (i : Int) : ent c ad M 23 i = .inl (c 0, 10, .inl (fun j : Nat => iI (M.1 23 0 i (j : Int)))) := rfl
theorem en24 (c : Nat → ClassId) (ad : Ad) (M : Mem) (i : Int) : ent c ad M 24 i = .inl (c 0, 10, .inl (fun j : Nat => iI (M.1 24 0 i (j : Int)))) := rfl
theorem en25 (c : Nat → ClassId) (ad : Ad) (M : Mem) (i : Int) : ent c ad M 25 i = .inl (c 0, 10, .inl (fun j : Nat => iI (M.1 25 0 i (j : Int)))) := rfl
theorem en26 (c : Nat → ClassId) (ad : Ad) (M : Mem) (i : Int) : ent c ad M 26 i = .inl (c 0, 40, .inl (fun j : Nat => iI (M.1 26 0 i (j : Int)))) := rfl
theorem en27 (c : Nat → ClassId) (ad : Ad) (M : Mem) (i : Int) : ent c ad M 27 i = .inl (c 0, 40, .inl (fun j : Nat => iI (M.1 27 0 i (j : Int)))) := rfl
theorem en28 (c : Nat → ClassId) (ad : Ad) (M : Mem) (i : Int) : ent c ad M 28 i = .inl (c 0, 40, .inl (fun j : Nat => iI (M.1 28 0 i (j : Int)))) := rfl
theorem en29 (c : Nat → ClassId) (ad : Ad) (M : Mem) (i : Int) : ent c ad M 29 i = .inl (c 0, 40, .inl (fun j : Nat => iI (M.1 29 0 i (j : Int)))) := rfl
theorem en30 (c : Nat → ClassId) (ad : Ad) (M : Mem) (i : Int) : ent c ad M 30 i = .inl (c 2, 10, .inl (fun j : Nat => iI (M.1 30 0 i (j : Int)))) := rfl
theorem en31 (c : Nat → ClassId) (ad : Ad) (M : Mem) (i : Int) : ent c ad M 31 i = .inr (3, [.int (iI (M.1 31 0 i 0)), .int (iI (M.1 31 1 i 0)), .int (iI (M.1 31 2 i 0)), .long (M.2 31 3 i 0), .long (M.2 31 4 i 0), .int (iI (M.1 31 5 i 0)), .int (iI (M.1 31 6 i 0)), .int (iI (M.1 31 7 i 0))]) := rfl
theorem en40 (c : Nat → ClassId) (ad : Ad) (M : Mem) (i : Int) : ent c ad M 40 i = .inr (12, [.ref (ad 41 i), .ref (ad 42 i), .ref (ad 43 i), .ref (ad 44 i), .ref (ad 45 i), .ref (ad 46 i), .ref (ad 47 i), .ref (ad 48 i), .ref (ad 49 i), .ref (ad 50 i), .int (iI (M.1 40 10 i 0)), .int (iI (M.1 40 11 i 0)), .int (iI (M.1 40 12 i 0)), .ref (ad 51 i), .ref (ad 52 i), .ref (ad 53 i), .ref (ad 54 i), .ref (ad 55 i), .ref (ad 56 i), .ref (ad 57 i), .ref (ad 58 i), .ref (ad 59 i), .int (iI (M.1 40 22 i 0)), .ref (ad 60 i), .ref (ad 61 i), .int (iI (M.1 40 25 i 0)), .ref (ad 62 i), .ref (ad 63 i), .ref (ad 64 i), .ref (ad 65 i), .ref (ad 66 i), .int (iI (M.1 40 31 i 0)), .ref (ad 67 i), .ref (ad 68 i), .ref (ad 69 i), .ref (ad 70 i), .ref (ad 71 i), .ref (ad 72 i), .ref (ad 73 i), .int (iI (M.1 40 39 i 0)), .int (iI (M.1 40 40 i 0)), .ref (ad 74 i), .ref (ad 75 i), .ref (ad 76 i), .int (iI (M.1 40 44 i 0)), .ref (ad 77 i), .int (iI (M.1 40 46 i 0)), .ref (ad 78 i), .ref (ad 79 i)]) := rfl
theorem en41 (c : Nat → ClassId) (ad : Ad) (M : Mem) (i : Int) : ent c ad M 41 i = .inl (c 0, 12, .inl (fun j : Nat => iI (M.1 41 0 i (j : Int)))) := rfl
theorem en42 (c : Nat → ClassId) (ad : Ad) (M : Mem) (i : Int) : ent c ad M 42 i = .inl (c 0, 12, .inl (fun j : Nat => iI (M.1 42 0 i (j : Int)))) := rfl
theorem en43 (c : Nat → ClassId) (ad : Ad) (M : Mem) (i : Int) : ent c ad M 43 i = .inl (c 0, 12, .inl (fun j : Nat => iI (M.1 43 0 i (j : Int)))) := rfl
theorem en44 (c : Nat → ClassId) (ad : Ad) (M : Mem) (i : Int) : ent c ad M 44 i = .inl (c 0, 12, .inl (fun j : Nat => iI (M.1 44 0 i (j : Int)))) := rfl
theorem en45 (c : Nat → ClassId) (ad : Ad) (M : Mem) (i : Int) : ent c ad M 45 i = .inl (c 0, 12, .inl (fun j : Nat => iI (M.1 45 0 i (j : Int)))) := rfl
theorem en46 (c : Nat → ClassId) (ad : Ad) (M : Mem) (i : Int) : ent c ad M 46 i = .inl (c 0, 12, .inl (fun j : Nat => iI (M.1 46 0 i (j : Int)))) := rfl
theorem en47 (c : Nat → ClassId) (ad : Ad) (M : Mem) (i : Int) : ent c ad M 47 i = .inl (c 0, 12, .inl (fun j : Nat => iI (M.1 47 0 i (j : Int)))) := rfl
theorem en48 (c : Nat → ClassId) (ad : Ad) (M : Mem) (i : Int) : ent c ad M 48 i = .inl (c 0, 720, .inl (fun j : Nat => iI (M.1 48 0 i (j : Int)))) := rfl
theorem en49 (c : Nat → ClassId) (ad : Ad) (M : Mem) (i : Int) : ent c ad M 49 i = .inl (c 1, 720, .inr (.inl (fun j : Nat => M.2 49 0 i (j : Int)))) := rfl
theorem en50 (c : Nat → ClassId) (ad : Ad) (M : Mem) (i : Int) : ent c ad M 50 i = .inl (c 0, 720, .inl (fun j : Nat => iI (M.1 50 0 i (j : Int)))) := rfl
theorem en51 (c : Nat → ClassId) (ad : Ad) (M : Mem) (i : Int) : ent c ad M 51 i = .inl (c 0, 3721, .inl (fun j : Nat => iI (M.1 51 0 i (j : Int)))) := rfl
theorem en52 (c : Nat → ClassId) (ad : Ad) (M : Mem) (i : Int) : ent c ad M 52 i = .inl (c 0, 6, .inl (fun j : Nat => iI (M.1 52 0 i (j : Int)))) := rfl
theorem en53 (c : Nat → ClassId) (ad : Ad) (M : Mem) (i : Int) : ent c ad M 53 i = .inl (c 0, 6, .inl (fun j : Nat => iI (M.1 53 0 i (j : Int)))) := rfl
theorem en54 (c : Nat → ClassId) (ad : Ad) (M : Mem) (i : Int) : ent c ad M 54 i = .inl (c 0, 6, .inl (fun j : Nat => iI (M.1 54 0 i (j : Int)))) := rfl
theorem en55 (c : Nat → ClassId) (ad : Ad) (M : Mem) (i : Int) : ent c ad M 55 i = .inl (c 0, 6, .inl (fun j : Nat => iI (M.1 55 0 i (j : Int)))) := rfl
theorem en56 (c : Nat → ClassId) (ad : Ad) (M : Mem) (i : Int) : ent c ad M 56 i = .inl (c 0, 60, .inl (fun j : Nat => iI (M.1 56 0 i (j : Int)))) := rfl
theorem en57 (c : Nat → ClassId) (ad : Ad) (M : Mem) (i : Int) : ent c ad M 57 i = .inl (c 0, 60, .inl (fun j : Nat => iI (M.1 57 0 i (j : Int)))) := rfl
theorem en58 (c : Nat → ClassId) (ad : Ad) (M : Mem) (i : Int) : ent c ad M 58 i = .inl (c 0, 60, .inl (fun j : Nat => iI (M.1 58 0 i (j : Int)))) := rfl
theorem en59 (c : Nat → ClassId) (ad : Ad) (M : Mem) (i : Int) : ent c ad M 59 i = .inl (c 0, 6, .inl (fun j : Nat => iI (M.1 59 0 i (j : Int)))) := rfl
theorem en60 (c : Nat → ClassId) (ad : Ad) (M : Mem) (i : Int) : ent c ad M 60 i = .inl (c 0, 100, .inl (fun j : Nat => iI (M.1 60 0 i (j : Int)))) := rfl
theorem en61 (c : Nat → ClassId) (ad : Ad) (M : Mem) (i : Int) : ent c ad M 61 i = .inl (c 0, 100, .inl (fun j : Nat => iI (M.1 61 0 i (j : Int)))) := rfl
theorem en62 (c : Nat → ClassId) (ad : Ad) (M : Mem) (i : Int) : ent c ad M 62 i = .inl (c 0, 40, .inl (fun j : Nat => iI (M.1 62 0 i (j : Int)))) := rfl
theorem en63 (c : Nat → ClassId) (ad : Ad) (M : Mem) (i : Int) : ent c ad M 63 i = .inl (c 0, 40, .inl (fun j : Nat => iI (M.1 63 0 i (j : Int)))) := rfl
theorem en64 (c : Nat → ClassId) (ad : Ad) (M : Mem) (i : Int) : ent c ad M 64 i = .inl (c 0, 40, .inl (fun j : Nat => iI (M.1 64 0 i (j : Int)))) := rfl
theorem en65 (c : Nat → ClassId) (ad : Ad) (M : Mem) (i : Int) : ent c ad M 65 i = .inl (c 0, 40, .inl (fun j : Nat => iI (M.1 65 0 i (j : Int)))) := rfl
theorem en66 (c : Nat → ClassId) (ad : Ad) (M : Mem) (i : Int) : ent c ad M 66 i = .inl (c 0, 40, .inl (fun j : Nat => iI (M.1 66 0 i (j : Int)))) := rfl
theorem en67 (c : Nat → ClassId) (ad : Ad) (M : Mem) (i : Int) : ent c ad M 67 i = .inl (c 0, 120, .inl (fun j : Nat => iI (M.1 67 0 i (j : Int)))) := rfl
theorem en68 (c : Nat → ClassId) (ad : Ad) (M : Mem) (i : Int) : ent c ad M 68 i = .inl (c 0, 120, .inl (fun j : Nat => iI (M.1 68 0 i (j : Int)))) := rfl
theorem en69 (c : Nat → ClassId) (ad : Ad) (M : Mem) (i : Int) : ent c ad M 69 i = .inl (c 0, 120, .inl (fun j : Nat => iI (M.1 69 0 i (j : Int)))) := rfl
theorem en70 (c : Nat → ClassId) (ad : Ad) (M : Mem) (i : Int) : ent c ad M 70 i = .inl (c 1, 120, .inr (.inl (fun j : Nat => M.2 70 0 i (j : Int)))) := rfl
theorem en71 (c : Nat → ClassId) (ad : Ad) (M : Mem) (i : Int) : ent c ad M 71 i = .inl (c 1, 120, .inr (.inl (fun j : Nat => M.2 71 0 i (j : Int)))) := rfl
theorem en72 (c : Nat → ClassId) (ad : Ad) (M : Mem) (i : Int) : ent c ad M 72 i = .inl (c 0, 120, .inl (fun j : Nat => iI (M.1 72 0 i (j : Int)))) := rfl
theorem en73 (c : Nat → ClassId) (ad : Ad) (M : Mem) (i : Int) : ent c ad M 73 i = .inl (c 1, 120, .inr (.inl (fun j : Nat => M.2 73 0 i (j : Int)))) := rfl
theorem en74 (c : Nat → ClassId) (ad : Ad) (M : Mem) (i : Int) : ent c ad M 74 i = .inl (c 0, 62000, .inl (fun j : Nat => iI (M.1 74 0 i (j : Int)))) := rfl
theorem en75 (c : Nat → ClassId) (ad : Ad) (M : Mem) (i : Int) : ent c ad M 75 i = .inl (c 1, 62000, .inr (.inl (fun j : Nat => M.2 75 0 i (j : Int)))) := rfl
theorem en76 (c : Nat → ClassId) (ad : Ad) (M : Mem) (i : Int) : ent c ad M 76 i = .inl (c 0, 62000, .inl (fun j : Nat => iI (M.1 76 0 i (j : Int)))) := rfl
theorem en77 (c : Nat → ClassId) (ad : Ad) (M : Mem) (i : Int) : ent c ad M 77 i = .inl (c 0, 10, .inl (fun j : Nat => iI (M.1 77 0 i (j : Int)))) := rfl
theorem en78 (c : Nat → ClassId) (ad : Ad) (M : Mem) (i : Int) : ent c ad M 78 i = .inl (c 2, 1000, .inl (fun j : Nat => iI (M.1 78 0 i (j : Int)))) := rfl
theorem en79 (c : Nat → ClassId) (ad : Ad) (M : Mem) (i : Int) : ent c ad M 79 i = .inl (c 2, 1000, .inl (fun j : Nat => iI (M.1 79 0 i (j : Int)))) := rfl
theorem en90 (c : Nat → ClassId) (ad : Ad) (M : Mem) (i : Int) : ent c ad M 90 i = .inl (c 1, 1, .inr (.inl (fun j : Nat => M.2 90 0 i (j : Int)))) := rfl
theorem en91 (c : Nat → ClassId) (ad : Ad) (M : Mem) (i : Int) : ent c ad M 91 i = .inl (c 3, 1, .inr (.inr (.inr (.inl (fun j : Nat => (M.2 91 0 i (j : Int)).toUInt64))))) := rfl
theorem en95 (c : Nat → ClassId) (ad : Ad) (M : Mem) (i : Int) : ent c ad M 95 i = .inr (1, [.int (iI (M.1 95 0 i 0))]) := rfl
theorem en96 (c : Nat → ClassId) (ad : Ad) (M : Mem) (i : Int) : ent c ad M 96 i = .inr (4, []) := rfl
theorem ep0_1 (c : Nat → ClassId) (ad : Ad) (M : Mem) (i z : Int) : ent c ad (setI M 0 1 i 0 z) 0 i = .inr (11, ([.ref (ad 1 i), .int (iI (M.1 0 1 i 0)), .int (iI (M.1 0 2 i 0)), .int (iI (M.1 0 3 i 0)), .ref (ad 2 i), .ref (ad 5 i), .int (iI (M.1 0 6 i 0)), .int (iI (M.1 0 7 i 0)), .ref (ad 6 i), .ref (ad 10 i)] : List Value).set 1 (.int (iI z))) := by simp [en0, setI_1, setI_2]
theorem ep0_2 (c : Nat → ClassId) (ad : Ad) (M : Mem) (i z : Int) : ent c ad (setI M 0 2 i 0 z) 0 i = .inr (11, ([.ref (ad 1 i), .int (iI (M.1 0 1 i 0)), .int (iI (M.1 0 2 i 0)), .int (iI (M.1 0 3 i 0)), .ref (ad 2 i), .ref (ad 5 i), .int (iI (M.1 0 6 i 0)), .int (iI (M.1 0 7 i 0)), .ref (ad 6 i), .ref (ad 10 i)] : List Value).set 2 (.int (iI z))) := by simp [en0, setI_1, setI_2]
theorem ep0_3 (c : Nat → ClassId) (ad : Ad) (M : Mem) (i z : Int) : ent c ad (setI M 0 3 i 0 z) 0 i = .inr (11, ([.ref (ad 1 i), .int (iI (M.1 0 1 i 0)), .int (iI (M.1 0 2 i 0)), .int (iI (M.1 0 3 i 0)), .ref (ad 2 i), .ref (ad 5 i), .int (iI (M.1 0 6 i 0)), .int (iI (M.1 0 7 i 0)), .ref (ad 6 i), .ref (ad 10 i)] : List Value).set 3 (.int (iI z))) := by simp [en0, setI_1, setI_2]
theorem ep0_6 (c : Nat → ClassId) (ad : Ad) (M : Mem) (i z : Int) : ent c ad (setI M 0 6 i 0 z) 0 i = .inr (11, ([.ref (ad 1 i), .int (iI (M.1 0 1 i 0)), .int (iI (M.1 0 2 i 0)), .int (iI (M.1 0 3 i 0)), .ref (ad 2 i), .ref (ad 5 i), .int (iI (M.1 0 6 i 0)), .int (iI (M.1 0 7 i 0)), .ref (ad 6 i), .ref (ad 10 i)] : List Value).set 6 (.int (iI z))) := by simp [en0, setI_1, setI_2]
theorem ep0_7 (c : Nat → ClassId) (ad : Ad) (M : Mem) (i z : Int) : ent c ad (setI M 0 7 i 0 z) 0 i = .inr (11, ([.ref (ad 1 i), .int (iI (M.1 0 1 i 0)), .int (iI (M.1 0 2 i 0)), .int (iI (M.1 0 3 i 0)), .ref (ad 2 i), .ref (ad 5 i), .int (iI (M.1 0 6 i 0)), .int (iI (M.1 0 7 i 0)), .ref (ad 6 i), .ref (ad 10 i)] : List Value).set 7 (.int (iI z))) := by simp [en0, setI_1, setI_2]
theorem ep6_0 (c : Nat → ClassId) (ad : Ad) (M : Mem) (i z : Int) : ent c ad (setI M 6 0 i 0 z) 6 i = .inr (9, ([.int (iI (M.1 6 0 i 0)), .ref (ad 7 i), .ref (ad 8 i), .ref (ad 9 i)] : List Value).set 0 (.int (iI z))) := by simp [en6, setI_1, setI_2]
theorem ep10_0 (c : Nat → ClassId) (ad : Ad) (M : Mem) (i z : Int) : ent c ad (setI M 10 0 i 0 z) 10 i = .inr (2, ([.int (iI (M.1 10 0 i 0)), .int (iI (M.1 10 1 i 0)), .ref (ad 11 i), .ref (ad 12 i)] : List Value).set 0 (.int (iI z))) := by simp [en10, setI_1, setI_2]
theorem ep10_1 (c : Nat → ClassId) (ad : Ad) (M : Mem) (i z : Int) : ent c ad (setI M 10 1 i 0 z) 10 i = .inr (2, ([.int (iI (M.1 10 0 i 0)), .int (iI (M.1 10 1 i 0)), .ref (ad 11 i), .ref (ad 12 i)] : List Value).set 1 (.int (iI z))) := by simp [en10, setI_1, setI_2]
theorem ep12_0 (c : Nat → ClassId) (ad : Ad) (M : Mem) (i z : Int) : ent c ad (setI M 12 0 i 0 z) 12 i = .inr (0, ([.int (iI (M.1 12 0 i 0)), .ref (ad 13 i), .ref (ad 14 i), .ref (ad 15 i)] : List Value).set 0 (.int (iI z))) := by simp [en12, setI_1, setI_2]
theorem ep16_0 (c : Nat → ClassId) (ad : Ad) (M : Mem) (i z : Int) : ent c ad (setI M 16 0 i 0 z) 16 i = .inr (8, ([.int (iI (M.1 16 0 i 0)), .int (iI (M.1 16 1 i 0)), .int (iI (M.1 16 2 i 0)), .int (iI (M.1 16 3 i 0)), .int (iI (M.1 16 4 i 0)), .int (iI (M.1 16 5 i 0)), .int (iI (M.1 16 6 i 0)), .int (iI (M.1 16 7 i 0)), .int (iI (M.1 16 8 i 0)), .int (iI (M.1 16 9 i 0)), .ref (ad 17 i), .ref (ad 18 i), .ref (ad 19 i), .ref (ad 20 i), .ref (ad 21 i)] : List Value).set 0 (.int (iI z))) := by simp [en16, setI_1, setI_2]
theorem ep16_1 (c : Nat → ClassId) (ad : Ad) (M : Mem) (i z : Int) : ent c ad (setI M 16 1 i 0 z) 16 i = .inr (8, ([.int (iI (M.1 16 0 i 0)), .int (iI (M.1 16 1 i 0)), .int (iI (M.1 16 2 i 0)), .int (iI (M.1 16 3 i 0)), .int (iI (M.1 16 4 i 0)), .int (iI (M.1 16 5 i 0)), .int (iI (M.1 16 6 i 0)), .int (iI (M.1 16 7 i 0)), .int (iI (M.1 16 8 i 0)), .int (iI (M.1 16 9 i 0)), .ref (ad 17 i), .ref (ad 18 i), .ref (ad 19 i), .ref (ad 20 i), .ref (ad 21 i)] : List Value).set 1 (.int (iI z))) := by simp [en16, setI_1, setI_2]
theorem ep16_2 (c : Nat → ClassId) (ad : Ad) (M : Mem) (i z : Int) : ent c ad (setI M 16 2 i 0 z) 16 i = .inr (8, ([.int (iI (M.1 16 0 i 0)), .int (iI (M.1 16 1 i 0)), .int (iI (M.1 16 2 i 0)), .int (iI (M.1 16 3 i 0)), .int (iI (M.1 16 4 i 0)), .int (iI (M.1 16 5 i 0)), .int (iI (M.1 16 6 i 0)), .int (iI (M.1 16 7 i 0)), .int (iI (M.1 16 8 i 0)), .int (iI (M.1 16 9 i 0)), .ref (ad 17 i), .ref (ad 18 i), .ref (ad 19 i), .ref (ad 20 i), .ref (ad 21 i)] : List Value).set 2 (.int (iI z))) := by simp [en16, setI_1, setI_2]
theorem ep16_3 (c : Nat → ClassId) (ad : Ad) (M : Mem) (i z : Int) : ent c ad (setI M 16 3 i 0 z) 16 i = .inr (8, ([.int (iI (M.1 16 0 i 0)), .int (iI (M.1 16 1 i 0)), .int (iI (M.1 16 2 i 0)), .int (iI (M.1 16 3 i 0)), .int (iI (M.1 16 4 i 0)), .int (iI (M.1 16 5 i 0)), .int (iI (M.1 16 6 i 0)), .int (iI (M.1 16 7 i 0)), .int (iI (M.1 16 8 i 0)), .int (iI (M.1 16 9 i 0)), .ref (ad 17 i), .ref (ad 18 i), .ref (ad 19 i), .ref (ad 20 i), .ref (ad 21 i)] : List Value).set 3 (.int (iI z))) := by simp [en16, setI_1, setI_2]
theorem ep16_4 (c : Nat → ClassId) (ad : Ad) (M : Mem) (i z : Int) : ent c ad (setI M 16 4 i 0 z) 16 i = .inr (8, ([.int (iI (M.1 16 0 i 0)), .int (iI (M.1 16 1 i 0)), .int (iI (M.1 16 2 i 0)), .int (iI (M.1 16 3 i 0)), .int (iI (M.1 16 4 i 0)), .int (iI (M.1 16 5 i 0)), .int (iI (M.1 16 6 i 0)), .int (iI (M.1 16 7 i 0)), .int (iI (M.1 16 8 i 0)), .int (iI (M.1 16 9 i 0)), .ref (ad 17 i), .ref (ad 18 i), .ref (ad 19 i), .ref (ad 20 i), .ref (ad 21 i)] : List Value).set 4 (.int (iI z))) := by simp [en16, setI_1, setI_2]
theorem ep16_5 (c : Nat → ClassId) (ad : Ad) (M : Mem) (i z : Int) : ent c ad (setI M 16 5 i 0 z) 16 i = .inr (8, ([.int (iI (M.1 16 0 i 0)), .int (iI (M.1 16 1 i 0)), .int (iI (M.1 16 2 i 0)), .int (iI (M.1 16 3 i 0)), .int (iI (M.1 16 4 i 0)), .int (iI (M.1 16 5 i 0)), .int (iI (M.1 16 6 i 0)), .int (iI (M.1 16 7 i 0)), .int (iI (M.1 16 8 i 0)), .int (iI (M.1 16 9 i 0)), .ref (ad 17 i), .ref (ad 18 i), .ref (ad 19 i), .ref (ad 20 i), .ref (ad 21 i)] : List Value).set 5 (.int (iI z))) := by simp [en16, setI_1, setI_2]
theorem ep16_6 (c : Nat → ClassId) (ad : Ad) (M : Mem) (i z : Int) : ent c ad (setI M 16 6 i 0 z) 16 i = .inr (8, ([.int (iI (M.1 16 0 i 0)), .int (iI (M.1 16 1 i 0)), .int (iI (M.1 16 2 i 0)), .int (iI (M.1 16 3 i 0)), .int (iI (M.1 16 4 i 0)), .int (iI (M.1 16 5 i 0)), .int (iI (M.1 16 6 i 0)), .int (iI (M.1 16 7 i 0)), .int (iI (M.1 16 8 i 0)), .int (iI (M.1 16 9 i 0)), .ref (ad 17 i), .ref (ad 18 i), .ref (ad 19 i), .ref (ad 20 i), .ref (ad 21 i)] : List Value).set 6 (.int (iI z))) := by simp [en16, setI_1, setI_2]
theorem ep16_7 (c : Nat → ClassId) (ad : Ad) (M : Mem) (i z : Int) : ent c ad (setI M 16 7 i 0 z) 16 i = .inr (8, ([.int (iI (M.1 16 0 i 0)), .int (iI (M.1 16 1 i 0)), .int (iI (M.1 16 2 i 0)), .int (iI (M.1 16 3 i 0)), .int (iI (M.1 16 4 i 0)), .int (iI (M.1 16 5 i 0)), .int (iI (M.1 16 6 i 0)), .int (iI (M.1 16 7 i 0)), .int (iI (M.1 16 8 i 0)), .int (iI (M.1 16 9 i 0)), .ref (ad 17 i), .ref (ad 18 i), .ref (ad 19 i), .ref (ad 20 i), .ref (ad 21 i)] : List Value).set 7 (.int (iI z))) := by simp [en16, setI_1, setI_2]
theorem ep16_8 (c : Nat → ClassId) (ad : Ad) (M : Mem) (i z : Int) : ent c ad (setI M 16 8 i 0 z) 16 i = .inr (8, ([.int (iI (M.1 16 0 i 0)), .int (iI (M.1 16 1 i 0)), .int (iI (M.1 16 2 i 0)), .int (iI (M.1 16 3 i 0)), .int (iI (M.1 16 4 i 0)), .int (iI (M.1 16 5 i 0)), .int (iI (M.1 16 6 i 0)), .int (iI (M.1 16 7 i 0)), .int (iI (M.1 16 8 i 0)), .int (iI (M.1 16 9 i 0)), .ref (ad 17 i), .ref (ad 18 i), .ref (ad 19 i), .ref (ad 20 i), .ref (ad 21 i)] : List Value).set 8 (.int (iI z))) := by simp [en16, setI_1, setI_2]
theorem ep16_9 (c : Nat → ClassId) (ad : Ad) (M : Mem) (i z : Int) : ent c ad (setI M 16 9 i 0 z) 16 i = .inr (8, ([.int (iI (M.1 16 0 i 0)), .int (iI (M.1 16 1 i 0)), .int (iI (M.1 16 2 i 0)), .int (iI (M.1 16 3 i 0)), .int (iI (M.1 16 4 i 0)), .int (iI (M.1 16 5 i 0)), .int (iI (M.1 16 6 i 0)), .int (iI (M.1 16 7 i 0)), .int (iI (M.1 16 8 i 0)), .int (iI (M.1 16 9 i 0)), .ref (ad 17 i), .ref (ad 18 i), .ref (ad 19 i), .ref (ad 20 i), .ref (ad 21 i)] : List Value).set 9 (.int (iI z))) := by simp [en16, setI_1, setI_2]
theorem ep22_0 (c : Nat → ClassId) (ad : Ad) (M : Mem) (i z : Int) : ent c ad (setI M 22 0 i 0 z) 22 i = .inr (10, ([.int (iI (M.1 22 0 i 0)), .int (iI (M.1 22 1 i 0)), .int (iI (M.1 22 2 i 0)), .int (iI (M.1 22 3 i 0)), .int (iI (M.1 22 4 i 0)), .ref (ad 23 i), .ref (ad 24 i), .ref (ad 25 i), .int (iI (M.1 22 8 i 0)), .ref (ad 26 i), .ref (ad 27 i), .ref (ad 28 i), .ref (ad 29 i), .ref (ad 30 i)] : List Value).set 0 (.int (iI z))) := by simp [en22, setI_1, setI_2]
theorem ep22_1 (c : Nat → ClassId) (ad : Ad) (M : Mem) (i z : Int) : ent c ad (setI M 22 1 i 0 z) 22 i = .inr (10, ([.int (iI (M.1 22 0 i 0)), .int (iI (M.1 22 1 i 0)), .int (iI (M.1 22 2 i 0)), .int (iI (M.1 22 3 i 0)), .int (iI (M.1 22 4 i 0)), .ref (ad 23 i), .ref (ad 24 i), .ref (ad 25 i), .int (iI (M.1 22 8 i 0)), .ref (ad 26 i), .ref (ad 27 i), .ref (ad 28 i), .ref (ad 29 i), .ref (ad 30 i)] : List Value).set 1 (.int (iI z))) := by simp [en22, setI_1, setI_2]
theorem ep22_2 (c : Nat → ClassId) (ad : Ad) (M : Mem) (i z : Int) : ent c ad (setI M 22 2 i 0 z) 22 i = .inr (10, ([.int (iI (M.1 22 0 i 0)), .int (iI (M.1 22 1 i 0)), .int (iI (M.1 22 2 i 0)), .int (iI (M.1 22 3 i 0)), .int (iI (M.1 22 4 i 0)), .ref (ad 23 i), .ref (ad 24 i), .ref (ad 25 i), .int (iI (M.1 22 8 i 0)), .ref (ad 26 i), .ref (ad 27 i), .ref (ad 28 i), .ref (ad 29 i), .ref (ad 30 i)] : List Value).set 2 (.int (iI z))) := by simp [en22, setI_1, setI_2]
theorem ep22_3 (c : Nat → ClassId) (ad : Ad) (M : Mem) (i z : Int) : ent c ad (setI M 22 3 i 0 z) 22 i = .inr (10, ([.int (iI (M.1 22 0 i 0)), .int (iI (M.1 22 1 i 0)), .int (iI (M.1 22 2 i 0)), .int (iI (M.1 22 3 i 0)), .int (iI (M.1 22 4 i 0)), .ref (ad 23 i), .ref (ad 24 i), .ref (ad 25 i), .int (iI (M.1 22 8 i 0)), .ref (ad 26 i), .ref (ad 27 i), .ref (ad 28 i), .ref (ad 29 i), .ref (ad 30 i)] : List Value).set 3 (.int (iI z))) := by simp [en22, setI_1, setI_2]
theorem ep22_4 (c : Nat → ClassId) (ad : Ad) (M : Mem) (i z : Int) : ent c ad (setI M 22 4 i 0 z) 22 i = .inr (10, ([.int (iI (M.1 22 0 i 0)), .int (iI (M.1 22 1 i 0)), .int (iI (M.1 22 2 i 0)), .int (iI (M.1 22 3 i 0)), .int (iI (M.1 22 4 i 0)), .ref (ad 23 i), .ref (ad 24 i), .ref (ad 25 i), .int (iI (M.1 22 8 i 0)), .ref (ad 26 i), .ref (ad 27 i), .ref (ad 28 i), .ref (ad 29 i), .ref (ad 30 i)] : List Value).set 4 (.int (iI z))) := by simp [en22, setI_1, setI_2]
theorem ep22_8 (c : Nat → ClassId) (ad : Ad) (M : Mem) (i z : Int) : ent c ad (setI M 22 8 i 0 z) 22 i = .inr (10, ([.int (iI (M.1 22 0 i 0)), .int (iI (M.1 22 1 i 0)), .int (iI (M.1 22 2 i 0)), .int (iI (M.1 22 3 i 0)), .int (iI (M.1 22 4 i 0)), .ref (ad 23 i), .ref (ad 24 i), .ref (ad 25 i), .int (iI (M.1 22 8 i 0)), .ref (ad 26 i), .ref (ad 27 i), .ref (ad 28 i), .ref (ad 29 i), .ref (ad 30 i)] : List Value).set 8 (.int (iI z))) := by simp [en22, setI_1, setI_2]
theorem ep31_0 (c : Nat → ClassId) (ad : Ad) (M : Mem) (i z : Int) : ent c ad (setI M 31 0 i 0 z) 31 i = .inr (3, ([.int (iI (M.1 31 0 i 0)), .int (iI (M.1 31 1 i 0)), .int (iI (M.1 31 2 i 0)), .long (M.2 31 3 i 0), .long (M.2 31 4 i 0), .int (iI (M.1 31 5 i 0)), .int (iI (M.1 31 6 i 0)), .int (iI (M.1 31 7 i 0))] : List Value).set 0 (.int (iI z))) := by simp [en31, setI_1, setI_2]
theorem ep31_1 (c : Nat → ClassId) (ad : Ad) (M : Mem) (i z : Int) : ent c ad (setI M 31 1 i 0 z) 31 i = .inr (3, ([.int (iI (M.1 31 0 i 0)), .int (iI (M.1 31 1 i 0)), .int (iI (M.1 31 2 i 0)), .long (M.2 31 3 i 0), .long (M.2 31 4 i 0), .int (iI (M.1 31 5 i 0)), .int (iI (M.1 31 6 i 0)), .int (iI (M.1 31 7 i 0))] : List Value).set 1 (.int (iI z))) := by simp [en31, setI_1, setI_2]
theorem ep31_2 (c : Nat → ClassId) (ad : Ad) (M : Mem) (i z : Int) : ent c ad (setI M 31 2 i 0 z) 31 i = .inr (3, ([.int (iI (M.1 31 0 i 0)), .int (iI (M.1 31 1 i 0)), .int (iI (M.1 31 2 i 0)), .long (M.2 31 3 i 0), .long (M.2 31 4 i 0), .int (iI (M.1 31 5 i 0)), .int (iI (M.1 31 6 i 0)), .int (iI (M.1 31 7 i 0))] : List Value).set 2 (.int (iI z))) := by simp [en31, setI_1, setI_2]
theorem ep31_3 (c : Nat → ClassId) (ad : Ad) (M : Mem) (i : Int) (z : Int64) : ent c ad (setL M 31 3 i 0 z) 31 i = .inr (3, ([.int (iI (M.1 31 0 i 0)), .int (iI (M.1 31 1 i 0)), .int (iI (M.1 31 2 i 0)), .long (M.2 31 3 i 0), .long (M.2 31 4 i 0), .int (iI (M.1 31 5 i 0)), .int (iI (M.1 31 6 i 0)), .int (iI (M.1 31 7 i 0))] : List Value).set 3 (.long z)) := by simp [en31, setL_1, setL_2]
theorem ep31_4 (c : Nat → ClassId) (ad : Ad) (M : Mem) (i : Int) (z : Int64) : ent c ad (setL M 31 4 i 0 z) 31 i = .inr (3, ([.int (iI (M.1 31 0 i 0)), .int (iI (M.1 31 1 i 0)), .int (iI (M.1 31 2 i 0)), .long (M.2 31 3 i 0), .long (M.2 31 4 i 0), .int (iI (M.1 31 5 i 0)), .int (iI (M.1 31 6 i 0)), .int (iI (M.1 31 7 i 0))] : List Value).set 4 (.long z)) := by simp [en31, setL_1, setL_2]
theorem ep31_5 (c : Nat → ClassId) (ad : Ad) (M : Mem) (i z : Int) : ent c ad (setI M 31 5 i 0 z) 31 i = .inr (3, ([.int (iI (M.1 31 0 i 0)), .int (iI (M.1 31 1 i 0)), .int (iI (M.1 31 2 i 0)), .long (M.2 31 3 i 0), .long (M.2 31 4 i 0), .int (iI (M.1 31 5 i 0)), .int (iI (M.1 31 6 i 0)), .int (iI (M.1 31 7 i 0))] : List Value).set 5 (.int (iI z))) := by simp [en31, setI_1, setI_2]
theorem ep31_6 (c : Nat → ClassId) (ad : Ad) (M : Mem) (i z : Int) : ent c ad (setI M 31 6 i 0 z) 31 i = .inr (3, ([.int (iI (M.1 31 0 i 0)), .int (iI (M.1 31 1 i 0)), .int (iI (M.1 31 2 i 0)), .long (M.2 31 3 i 0), .long (M.2 31 4 i 0), .int (iI (M.1 31 5 i 0)), .int (iI (M.1 31 6 i 0)), .int (iI (M.1 31 7 i 0))] : List Value).set 6 (.int (iI z))) := by simp [en31, setI_1, setI_2]
theorem ep31_7 (c : Nat → ClassId) (ad : Ad) (M : Mem) (i z : Int) : ent c ad (setI M 31 7 i 0 z) 31 i = .inr (3, ([.int (iI (M.1 31 0 i 0)), .int (iI (M.1 31 1 i 0)), .int (iI (M.1 31 2 i 0)), .long (M.2 31 3 i 0), .long (M.2 31 4 i 0), .int (iI (M.1 31 5 i 0)), .int (iI (M.1 31 6 i 0)), .int (iI (M.1 31 7 i 0))] : List Value).set 7 (.int (iI z))) := by simp [en31, setI_1, setI_2]
theorem ep40_10 (c : Nat → ClassId) (ad : Ad) (M : Mem) (i z : Int) : ent c ad (setI M 40 10 i 0 z) 40 i = .inr (12, ([.ref (ad 41 i), .ref (ad 42 i), .ref (ad 43 i), .ref (ad 44 i), .ref (ad 45 i), .ref (ad 46 i), .ref (ad 47 i), .ref (ad 48 i), .ref (ad 49 i), .ref (ad 50 i), .int (iI (M.1 40 10 i 0)), .int (iI (M.1 40 11 i 0)), .int (iI (M.1 40 12 i 0)), .ref (ad 51 i), .ref (ad 52 i), .ref (ad 53 i), .ref (ad 54 i), .ref (ad 55 i), .ref (ad 56 i), .ref (ad 57 i), .ref (ad 58 i), .ref (ad 59 i), .int (iI (M.1 40 22 i 0)), .ref (ad 60 i), .ref (ad 61 i), .int (iI (M.1 40 25 i 0)), .ref (ad 62 i), .ref (ad 63 i), .ref (ad 64 i), .ref (ad 65 i), .ref (ad 66 i), .int (iI (M.1 40 31 i 0)), .ref (ad 67 i), .ref (ad 68 i), .ref (ad 69 i), .ref (ad 70 i), .ref (ad 71 i), .ref (ad 72 i), .ref (ad 73 i), .int (iI (M.1 40 39 i 0)), .int (iI (M.1 40 40 i 0)), .ref (ad 74 i), .ref (ad 75 i), .ref (ad 76 i), .int (iI (M.1 40 44 i 0)), .ref (ad 77 i), .int (iI (M.1 40 46 i 0)), .ref (ad 78 i), .ref (ad 79 i)] : List Value).set 10 (.int (iI z))) := by simp [en40, setI_1, setI_2]
theorem ep40_11 (c : Nat → ClassId) (ad : Ad) (M : Mem) (i z : Int) : ent c ad (setI M 40 11 i 0 z) 40 i = .inr (12, ([.ref (ad 41 i), .ref (ad 42 i), .ref (ad 43 i), .ref (ad 44 i), .ref (ad 45 i), .ref (ad 46 i), .ref (ad 47 i), .ref (ad 48 i), .ref (ad 49 i), .ref (ad 50 i), .int (iI (M.1 40 10 i 0)), .int (iI (M.1 40 11 i 0)), .int (iI (M.1 40 12 i 0)), .ref (ad 51 i), .ref (ad 52 i), .ref (ad 53 i), .ref (ad 54 i), .ref (ad 55 i), .ref (ad 56 i), .ref (ad 57 i), .ref (ad 58 i), .ref (ad 59 i), .int (iI (M.1 40 22 i 0)), .ref (ad 60 i), .ref (ad 61 i), .int (iI (M.1 40 25 i 0)), .ref (ad 62 i), .ref (ad 63 i), .ref (ad 64 i), .ref (ad 65 i), .ref (ad 66 i), .int (iI (M.1 40 31 i 0)), .ref (ad 67 i), .ref (ad 68 i), .ref (ad 69 i), .ref (ad 70 i), .ref (ad 71 i), .ref (ad 72 i), .ref (ad 73 i), .int (iI (M.1 40 39 i 0)), .int (iI (M.1 40 40 i 0)), .ref (ad 74 i), .ref (ad 75 i), .ref (ad 76 i), .int (iI (M.1 40 44 i 0)), .ref (ad 77 i), .int (iI (M.1 40 46 i 0)), .ref (ad 78 i), .ref (ad 79 i)] : List Value).set 11 (.int (iI z))) := by simp [en40, setI_1, setI_2]
theorem ep40_12 (c : Nat → ClassId) (ad : Ad) (M : Mem) (i z : Int) : ent c ad (setI M 40 12 i 0 z) 40 i = .inr (12, ([.ref (ad 41 i), .ref (ad 42 i), .ref (ad 43 i), .ref (ad 44 i), .ref (ad 45 i), .ref (ad 46 i), .ref (ad 47 i), .ref (ad 48 i), .ref (ad 49 i), .ref (ad 50 i), .int (iI (M.1 40 10 i 0)), .int (iI (M.1 40 11 i 0)), .int (iI (M.1 40 12 i 0)), .ref (ad 51 i), .ref (ad 52 i), .ref (ad 53 i), .ref (ad 54 i), .ref (ad 55 i), .ref (ad 56 i), .ref (ad 57 i), .ref (ad 58 i), .ref (ad 59 i), .int (iI (M.1 40 22 i 0)), .ref (ad 60 i), .ref (ad 61 i), .int (iI (M.1 40 25 i 0)), .ref (ad 62 i), .ref (ad 63 i), .ref (ad 64 i), .ref (ad 65 i), .ref (ad 66 i), .int (iI (M.1 40 31 i 0)), .ref (ad 67 i), .ref (ad 68 i), .ref (ad 69 i), .ref (ad 70 i), .ref (ad 71 i), .ref (ad 72 i), .ref (ad 73 i), .int (iI (M.1 40 39 i 0)), .int (iI (M.1 40 40 i 0)), .ref (ad 74 i), .ref (ad 75 i), .ref (ad 76 i), .int (iI (M.1 40 44 i 0)), .ref (ad 77 i), .int (iI (M.1 40 46 i 0)), .ref (ad 78 i), .ref (ad 79 i)] : List Value).set 12 (.int (iI z))) := by simp [en40, setI_1, setI_2]
theorem ep40_22 (c : Nat → ClassId) (ad : Ad) (M : Mem) (i z : Int) : ent c ad (setI M 40 22 i 0 z) 40 i = .inr (12, ([.ref (ad 41 i), .ref (ad 42 i), .ref (ad 43 i), .ref (ad 44 i), .ref (ad 45 i), .ref (ad 46 i), .ref (ad 47 i), .ref (ad 48 i), .ref (ad 49 i), .ref (ad 50 i), .int (iI (M.1 40 10 i 0)), .int (iI (M.1 40 11 i 0)), .int (iI (M.1 40 12 i 0)), .ref (ad 51 i), .ref (ad 52 i), .ref (ad 53 i), .ref (ad 54 i), .ref (ad 55 i), .ref (ad 56 i), .ref (ad 57 i), .ref (ad 58 i), .ref (ad 59 i), .int (iI (M.1 40 22 i 0)), .ref (ad 60 i), .ref (ad 61 i), .int (iI (M.1 40 25 i 0)), .ref (ad 62 i), .ref (ad 63 i), .ref (ad 64 i), .ref (ad 65 i), .ref (ad 66 i), .int (iI (M.1 40 31 i 0)), .ref (ad 67 i), .ref (ad 68 i), .ref (ad 69 i), .ref (ad 70 i), .ref (ad 71 i), .ref (ad 72 i), .ref (ad 73 i), .int (iI (M.1 40 39 i 0)), .int (iI (M.1 40 40 i 0)), .ref (ad 74 i), .ref (ad 75 i), .ref (ad 76 i), .int (iI (M.1 40 44 i 0)), .ref (ad 77 i), .int (iI (M.1 40 46 i 0)), .ref (ad 78 i), .ref (ad 79 i)] : List Value).set 22 (.int (iI z))) := by simp [en40, setI_1, setI_2]
theorem ep40_25 (c : Nat → ClassId) (ad : Ad) (M : Mem) (i z : Int) : ent c ad (setI M 40 25 i 0 z) 40 i = .inr (12, ([.ref (ad 41 i), .ref (ad 42 i), .ref (ad 43 i), .ref (ad 44 i), .ref (ad 45 i), .ref (ad 46 i), .ref (ad 47 i), .ref (ad 48 i), .ref (ad 49 i), .ref (ad 50 i), .int (iI (M.1 40 10 i 0)), .int (iI (M.1 40 11 i 0)), .int (iI (M.1 40 12 i 0)), .ref (ad 51 i), .ref (ad 52 i), .ref (ad 53 i), .ref (ad 54 i), .ref (ad 55 i), .ref (ad 56 i), .ref (ad 57 i), .ref (ad 58 i), .ref (ad 59 i), .int (iI (M.1 40 22 i 0)), .ref (ad 60 i), .ref (ad 61 i), .int (iI (M.1 40 25 i 0)), .ref (ad 62 i), .ref (ad 63 i), .ref (ad 64 i), .ref (ad 65 i), .ref (ad 66 i), .int (iI (M.1 40 31 i 0)), .ref (ad 67 i), .ref (ad 68 i), .ref (ad 69 i), .ref (ad 70 i), .ref (ad 71 i), .ref (ad 72 i), .ref (ad 73 i), .int (iI (M.1 40 39 i 0)), .int (iI (M.1 40 40 i 0)), .ref (ad 74 i), .ref (ad 75 i), .ref (ad 76 i), .int (iI (M.1 40 44 i 0)), .ref (ad 77 i), .int (iI (M.1 40 46 i 0)), .ref (ad 78 i), .ref (ad 79 i)] : List Value).set 25 (.int (iI z))) := by simp [en40, setI_1, setI_2]
theorem ep40_31 (c : Nat → ClassId) (ad : Ad) (M : Mem) (i z : Int) : ent c ad (setI M 40 31 i 0 z) 40 i = .inr (12, ([.ref (ad 41 i), .ref (ad 42 i), .ref (ad 43 i), .ref (ad 44 i), .ref (ad 45 i), .ref (ad 46 i), .ref (ad 47 i), .ref (ad 48 i), .ref (ad 49 i), .ref (ad 50 i), .int (iI (M.1 40 10 i 0)), .int (iI (M.1 40 11 i 0)), .int (iI (M.1 40 12 i 0)), .ref (ad 51 i), .ref (ad 52 i), .ref (ad 53 i), .ref (ad 54 i), .ref (ad 55 i), .ref (ad 56 i), .ref (ad 57 i), .ref (ad 58 i), .ref (ad 59 i), .int (iI (M.1 40 22 i 0)), .ref (ad 60 i), .ref (ad 61 i), .int (iI (M.1 40 25 i 0)), .ref (ad 62 i), .ref (ad 63 i), .ref (ad 64 i), .ref (ad 65 i), .ref (ad 66 i), .int (iI (M.1 40 31 i 0)), .ref (ad 67 i), .ref (ad 68 i), .ref (ad 69 i), .ref (ad 70 i), .ref (ad 71 i), .ref (ad 72 i), .ref (ad 73 i), .int (iI (M.1 40 39 i 0)), .int (iI (M.1 40 40 i 0)), .ref (ad 74 i), .ref (ad 75 i), .ref (ad 76 i), .int (iI (M.1 40 44 i 0)), .ref (ad 77 i), .int (iI (M.1 40 46 i 0)), .ref (ad 78 i), .ref (ad 79 i)] : List Value).set 31 (.int (iI z))) := by simp [en40, setI_1, setI_2]
theorem ep40_39 (c : Nat → ClassId) (ad : Ad) (M : Mem) (i z : Int) : ent c ad (setI M 40 39 i 0 z) 40 i = .inr (12, ([.ref (ad 41 i), .ref (ad 42 i), .ref (ad 43 i), .ref (ad 44 i), .ref (ad 45 i), .ref (ad 46 i), .ref (ad 47 i), .ref (ad 48 i), .ref (ad 49 i), .ref (ad 50 i), .int (iI (M.1 40 10 i 0)), .int (iI (M.1 40 11 i 0)), .int (iI (M.1 40 12 i 0)), .ref (ad 51 i), .ref (ad 52 i), .ref (ad 53 i), .ref (ad 54 i), .ref (ad 55 i), .ref (ad 56 i), .ref (ad 57 i), .ref (ad 58 i), .ref (ad 59 i), .int (iI (M.1 40 22 i 0)), .ref (ad 60 i), .ref (ad 61 i), .int (iI (M.1 40 25 i 0)), .ref (ad 62 i), .ref (ad 63 i), .ref (ad 64 i), .ref (ad 65 i), .ref (ad 66 i), .int (iI (M.1 40 31 i 0)), .ref (ad 67 i), .ref (ad 68 i), .ref (ad 69 i), .ref (ad 70 i), .ref (ad 71 i), .ref (ad 72 i), .ref (ad 73 i), .int (iI (M.1 40 39 i 0)), .int (iI (M.1 40 40 i 0)), .ref (ad 74 i), .ref (ad 75 i), .ref (ad 76 i), .int (iI (M.1 40 44 i 0)), .ref (ad 77 i), .int (iI (M.1 40 46 i 0)), .ref (ad 78 i), .ref (ad 79 i)] : List Value).set 39 (.int (iI z))) := by simp [en40, setI_1, setI_2]
theorem ep40_40 (c : Nat → ClassId) (ad : Ad) (M : Mem) (i z : Int) : ent c ad (setI M 40 40 i 0 z) 40 i = .inr (12, ([.ref (ad 41 i), .ref (ad 42 i), .ref (ad 43 i), .ref (ad 44 i), .ref (ad 45 i), .ref (ad 46 i), .ref (ad 47 i), .ref (ad 48 i), .ref (ad 49 i), .ref (ad 50 i), .int (iI (M.1 40 10 i 0)), .int (iI (M.1 40 11 i 0)), .int (iI (M.1 40 12 i 0)), .ref (ad 51 i), .ref (ad 52 i), .ref (ad 53 i), .ref (ad 54 i), .ref (ad 55 i), .ref (ad 56 i), .ref (ad 57 i), .ref (ad 58 i), .ref (ad 59 i), .int (iI (M.1 40 22 i 0)), .ref (ad 60 i), .ref (ad 61 i), .int (iI (M.1 40 25 i 0)), .ref (ad 62 i), .ref (ad 63 i), .ref (ad 64 i), .ref (ad 65 i), .ref (ad 66 i), .int (iI (M.1 40 31 i 0)), .ref (ad 67 i), .ref (ad 68 i), .ref (ad 69 i), .ref (ad 70 i), .ref (ad 71 i), .ref (ad 72 i), .ref (ad 73 i), .int (iI (M.1 40 39 i 0)), .int (iI (M.1 40 40 i 0)), .ref (ad 74 i), .ref (ad 75 i), .ref (ad 76 i), .int (iI (M.1 40 44 i 0)), .ref (ad 77 i), .int (iI (M.1 40 46 i 0)), .ref (ad 78 i), .ref (ad 79 i)] : List Value).set 40 (.int (iI z))) := by simp [en40, setI_1, setI_2]
theorem ep40_44 (c : Nat → ClassId) (ad : Ad) (M : Mem) (i z : Int) : ent c ad (setI M 40 44 i 0 z) 40 i = .inr (12, ([.ref (ad 41 i), .ref (ad 42 i), .ref (ad 43 i), .ref (ad 44 i), .ref (ad 45 i), .ref (ad 46 i), .ref (ad 47 i), .ref (ad 48 i), .ref (ad 49 i), .ref (ad 50 i), .int (iI (M.1 40 10 i 0)), .int (iI (M.1 40 11 i 0)), .int (iI (M.1 40 12 i 0)), .ref (ad 51 i), .ref (ad 52 i), .ref (ad 53 i), .ref (ad 54 i), .ref (ad 55 i), .ref (ad 56 i), .ref (ad 57 i), .ref (ad 58 i), .ref (ad 59 i), .int (iI (M.1 40 22 i 0)), .ref (ad 60 i), .ref (ad 61 i), .int (iI (M.1 40 25 i 0)), .ref (ad 62 i), .ref (ad 63 i), .ref (ad 64 i), .ref (ad 65 i), .ref (ad 66 i), .int (iI (M.1 40 31 i 0)), .ref (ad 67 i), .ref (ad 68 i), .ref (ad 69 i), .ref (ad 70 i), .ref (ad 71 i), .ref (ad 72 i), .ref (ad 73 i), .int (iI (M.1 40 39 i 0)), .int (iI (M.1 40 40 i 0)), .ref (ad 74 i), .ref (ad 75 i), .ref (ad 76 i), .int (iI (M.1 40 44 i 0)), .ref (ad 77 i), .int (iI (M.1 40 46 i 0)), .ref (ad 78 i), .ref (ad 79 i)] : List Value).set 44 (.int (iI z))) := by simp [en40, setI_1, setI_2]
theorem ep40_46 (c : Nat → ClassId) (ad : Ad) (M : Mem) (i z : Int) : ent c ad (setI M 40 46 i 0 z) 40 i = .inr (12, ([.ref (ad 41 i), .ref (ad 42 i), .ref (ad 43 i), .ref (ad 44 i), .ref (ad 45 i), .ref (ad 46 i), .ref (ad 47 i), .ref (ad 48 i), .ref (ad 49 i), .ref (ad 50 i), .int (iI (M.1 40 10 i 0)), .int (iI (M.1 40 11 i 0)), .int (iI (M.1 40 12 i 0)), .ref (ad 51 i), .ref (ad 52 i), .ref (ad 53 i), .ref (ad 54 i), .ref (ad 55 i), .ref (ad 56 i), .ref (ad 57 i), .ref (ad 58 i), .ref (ad 59 i), .int (iI (M.1 40 22 i 0)), .ref (ad 60 i), .ref (ad 61 i), .int (iI (M.1 40 25 i 0)), .ref (ad 62 i), .ref (ad 63 i), .ref (ad 64 i), .ref (ad 65 i), .ref (ad 66 i), .int (iI (M.1 40 31 i 0)), .ref (ad 67 i), .ref (ad 68 i), .ref (ad 69 i), .ref (ad 70 i), .ref (ad 71 i), .ref (ad 72 i), .ref (ad 73 i), .int (iI (M.1 40 39 i 0)), .int (iI (M.1 40 40 i 0)), .ref (ad 74 i), .ref (ad 75 i), .ref (ad 76 i), .int (iI (M.1 40 44 i 0)), .ref (ad 77 i), .int (iI (M.1 40 46 i 0)), .ref (ad 78 i), .ref (ad 79 i)] : List Value).set 46 (.int (iI z))) := by simp [en40, setI_1, setI_2]
theorem ep95_0 (c : Nat → ClassId) (ad : Ad) (M : Mem) (i z : Int) : ent c ad (setI M 95 0 i 0 z) 95 i = .inr (1, ([.int (iI (M.1 95 0 i 0))] : List Value).set 0 (.int (iI z))) := by simp [en95, setI_1, setI_2]
/-- the world: the cells of the names nm -/
def wl (c : Nat → ClassId) (nm : List (Nat × Int)) (ad : Ad) (M : Mem) : va_W := nm.map (fun n => (ad n.1 n.2, ent c ad M n.1 n.2))
theorem wl_get {c : Nat → ClassId} {nm : List (Nat × Int)} {ad : Ad} {M : Mem} {k : Nat} {i : Int} (h : (k, i) ∈ nm) : ∃ q0 : Nat, nm[q0]? = some (k, i) ∧ (wl c nm ad M)[q0]? = some (ad k i, ent c ad M k i) := by
  obtain ⟨q0, h0⟩ := List.getElem?_of_mem h
  exact ⟨q0, h0, by simp [wl, h0]⟩
theorem wl_set {c : Nat → ClassId} {nm : List (Nat × Int)} {ad : Ad} {M M' : Mem} {A : Nat → Prop} {k q0 : Nat} {i : Int} {e : va_E} (hD : va_D A (wl c nm ad M)) (h : nm[q0]? = some (k, i)) (he : ent c ad M' k i = e) (ho : ∀ k' i', (k', i') ≠ (k, i) → ent c ad M' k' i' = ent c ad M k' i') : (wl c nm ad M).set q0 (ad k i, e) = wl c nm ad M' := by
  have hl : q0 < nm.length := (List.getElem?_eq_some_iff.mp h).1
  apply List.ext_getElem?
  intro j
  by_cases e1 : j = q0
  · subst e1
    rw [List.getElem?_set_self (by simpa [wl] using hl)]
    simp [wl, h, he]
  · rw [List.getElem?_set_ne (fun z => e1 z.symm)]
    cases hj : nm[j]? with
    | none => simp [wl, hj]
    | some n =>
      obtain ⟨k', i'⟩ := n
      have h1 : (wl c nm ad M)[j]? = some (ad k' i', ent c ad M k' i') := by simp [wl, hj]
      have h2 : (wl c nm ad M)[q0]? = some (ad k i, ent c ad M k i) := by simp [wl, h]
      have hne : (k', i') ≠ (k, i) := fun z => e1 (hD.1 j q0 _ _ h1 h2 (by
        have z1 := congrArg Prod.fst z
        have z2 := congrArg Prod.snd z
        simp only at z1 z2
        rw [z1, z2]))
      rw [h1]
      simp [wl, hj, ho k' i' hne]
theorem ent_setI_ne {c : Nat → ClassId} {ad : Ad} {M : Mem} {k f : Nat} {i j v : Int} : ∀ k' i', (k', i') ≠ (k, i) → ent c ad (setI M k f i j v) k' i' = ent c ad M k' i' := by
  intro k' i' h
  refine ent_slice (fun f' j' => ?_) (fun f' j' => rfl)
  rw [setI_1, if_neg]
  rintro ⟨a, -, b, -⟩
  exact h (by rw [a, b])
theorem ent_setL_ne {c : Nat → ClassId} {ad : Ad} {M : Mem} {k f : Nat} {i j : Int} {v : Int64} : ∀ k' i', (k', i') ≠ (k, i) → ent c ad (setL M k f i j v) k' i' = ent c ad M k' i' := by
  intro k' i' h
  refine ent_slice (fun f' j' => rfl) (fun f' j' => ?_)
  rw [setL_2, if_neg]
  rintro ⟨a, -, b, -⟩
  exact h (by rw [a, b])
/-- what a throw needs of the start: two statics of Throwable, four texts -/
def Zz (A : Nat → Prop) (s : State) : Prop := vx_Zq Bundle.tN "UNASSIGNED_STACK" Bundle.steD A s s.heap ∧ vx_Zq Bundle.tN "SUPPRESSED_SENTINEL" Bundle.listD A s s.heap ∧ (∃ a, vk_R RX11 142 "no such what" a s) ∧ (∃ a, vk_R RX11 313 "out of range" a s) ∧ (∃ a, vk_R RX11 317 "not possible now" a s) ∧ (∃ a, vk_R RX11 322 "no such place" a s)
theorem Zz.on {A : Nat → Prop} {s U : State} {locs : List Loc} {H : Heap} (h : Zz A s) (hS : va_S A s.heap H locs) (hU : U.heap = H) (hW : s.WarmedH U.vm) : Zz A U := by
  obtain ⟨h1, h2, ⟨a3, h3⟩, ⟨a4, h4⟩, ⟨a5, h5⟩, ⟨a6, h6⟩⟩ := h
  have hk : ∀ a : Nat, a < s.heap.size → ¬ A a → U.heap[a]? = s.heap[a]? := fun a x y => by rw [hU]; exact hS.2.1 a x y
  exact ⟨(h1.kept hk).moved hW.alike, (h2.kept hk).moved hW.alike, ⟨a3, h3.warm hW⟩, ⟨a4, h4.warm hW⟩, ⟨a5, h5.warm hW⟩, ⟨a6, h6.warm hW⟩⟩
abbrev Kx : Type := (Program × Launch × Env × Room × State × MethodId) × (Array Value × List Frame × Method × Code × (State → Prop)) × (va_G × (Nat → ClassId) × (Nat → Prop) × Nat)
abbrev kp (κ : Kx) : Program := κ.1.1
abbrev kl (κ : Kx) : Launch := κ.1.2.1
abbrev ke (κ : Kx) : Env := κ.1.2.2.1
abbrev kR (κ : Kx) : Room := κ.1.2.2.2.1
abbrev ks (κ : Kx) : State := κ.1.2.2.2.2.1
abbrev km (κ : Kx) : MethodId := κ.1.2.2.2.2.2
abbrev ka (κ : Kx) : Array Value := κ.2.1.1
abbrev kb (κ : Kx) : List Frame := κ.2.1.2.1
abbrev kme (κ : Kx) : Method := κ.2.1.2.2.1
abbrev kc (κ : Kx) : Code := κ.2.1.2.2.2.1
abbrev kQ (κ : Kx) : State → Prop := κ.2.1.2.2.2.2
abbrev kD (κ : Kx) : va_G := κ.2.2.1
abbrev kC (κ : Kx) : Nat → ClassId := κ.2.2.2.1
abbrev kA (κ : Kx) : Nat → Prop := κ.2.2.2.2.1
abbrev kN (κ : Kx) : Nat := κ.2.2.2.2.2
/-- from this place on, over every heap that holds the world, the method comes to its end -/
def G (κ : Kx) (nm : List (Nat × Int)) (ad : Ad) (M : Mem) (pc : Nat) (lv : List (Option Value)) (st : List Value) (cl sl : Nat) : Prop :=
  RM M → ∀ (H : Heap) (locs : List Loc) (ls : Array Slot), va_P (kD κ) vwCl (wl (kC κ) nm ad M) H → va_D (kA κ) (wl (kC κ) nm ad M) → va_S (kA κ) (ks κ).heap H locs → lv_has ls (kN κ) (lvl 0 lv) →
    W (kp κ) (kl κ) (ke κ) (kR κ) (ks κ) (km κ) (ka κ) (kb κ) (kme κ) (kc κ) H locs cl sl (kQ κ) (F0 (km κ) pc ls st)
/-- what a method knows of itself -/
def Cx (κ : Kx) (cc : ByteArray) (own : String) (rm : Room) : Prop :=
  (kp κ).tables.exec = Jvm.exec ∧ (kc κ).code = cc ∧ (kc κ).maxLocals = kN κ ∧ (ks κ).vm.findClass own = some (km κ).cls ∧ (∀ w ∈ Tb, w.before (ka κ) (ks κ) = true) ∧ va_K (kD κ) vwCl (tysO (kC κ)) (ks κ) ∧ (∀ q, (ks κ).heap.size ≤ q → kA κ q) ∧ kR κ = rm ∧ (kl κ).stackTraces = false ∧ (kme κ).locks = false ∧ Zz (kA κ) (ks κ)
theorem lv_pv {lv : List (Option Value)} {k : Nat} {a : Option Value} (h : lv[k]? = some a) (hp : c1 a = true) : ∀ i, i + 1 = k + 1 → ∀ u, lv[i]? = some (some u) → c1 (some u) = true := fun i hi u hu => by
  have e : i = k := by omega
  subst e
  rw [h] at hu
  rw [← Option.some.inj hu]
  exact hp
section GR
variable {κ : Kx} {cc : ByteArray} {own : String} {rm : Room} {nm : List (Nat × Int)} {ad : Ad} {M : Mem} {pc pc' : Nat} {lv : List (Option Value)} {st : List Value} {cl sl : Nat}
theorem g_of {a : List (Option Value)} (hs : ∀ (k : Nat) (v : Value), a[k]? = some (some v) → lv[k]? = some (some v)) (k : G κ nm ad M pc a st cl sl) : G κ nm ad M pc lv st cl sl := by
  intro hM H locs ls hP hD hS hl
  refine k hM H locs ls hP hD hS (lvl_sub hl fun q hq => ?_)
  obtain ⟨j, h1, h2⟩ := (lvl_mem _ _ _).mp hq
  exact (lvl_mem _ _ _).mpr ⟨j, hs _ _ h1, h2⟩
theorem g_rm (k : RM M → G κ nm ad M pc lv st cl sl) : G κ nm ad M pc lv st cl sl := fun hM => k hM hM
theorem g_widen {cl' sl' : Nat} (h1 : cl ≤ cl') (h2 : sl ≤ sl') (k : G κ nm ad M pc lv st cl' sl') : G κ nm ad M pc lv st cl sl := fun hM H locs ls hP hD hS hl => W.widen h1 h2 (k hM H locs ls hP hD hS hl)
theorem g_iconst (X : Cx κ cc own rm) {n : Int} (d : decode cc pc = .ok (.iconst n, 1)) (e : pc + 1 = pc') (k : G κ nm ad M pc' lv (.int (iI n) :: st) cl sl) : G κ nm ad M pc lv st cl sl := by
  subst e; intro hM H locs ls hP hD hS hl
  exact lv_iconst X.1 X.2.1 d rfl (k hM H locs ls hP hD hS hl)
theorem g_bipush (X : Cx κ cc own rm) {n : Int} (hn : (Int8.ofInt n).toInt32 = iI n) (d : decode cc pc = .ok (.bipush n, 2)) (e : pc + 2 = pc') (k : G κ nm ad M pc' lv (.int (iI n) :: st) cl sl) : G κ nm ad M pc lv st cl sl := by
  subst e; intro hM H locs ls hP hD hS hl
  exact lv_bipush X.1 X.2.1 d hn (k hM H locs ls hP hD hS hl)
theorem g_sipush (X : Cx κ cc own rm) {n : Int} (hn : (Int16.ofInt n).toInt32 = iI n) (d : decode cc pc = .ok (.sipush n, 3)) (e : pc + 3 = pc') (k : G κ nm ad M pc' lv (.int (iI n) :: st) cl sl) : G κ nm ad M pc lv st cl sl := by
  subst e; intro hM H locs ls hP hD hS hl
  exact lv_sipush X.1 X.2.1 d hn (k hM H locs ls hP hD hS hl)
theorem g_ldc (X : Cx κ cc own rm) {ix : Nat} {n : Int} (hc : Cond.constant own ix (iI n) ∈ Tb) (d : decode cc pc = .ok (.ldc ix, 2)) (e : pc + 2 = pc') (k : G κ nm ad M pc' lv (.int (iI n) :: st) cl sl) : G κ nm ad M pc lv st cl sl := by
  subst e; intro hM H locs ls hP hD hS hl
  exact lv_ldc X.1 X.2.1 X.2.2.2.1 (X.2.2.2.2.1 _ hc) d (k hM H locs ls hP hD hS hl)
theorem g_ldcw (X : Cx κ cc own rm) {ix : Nat} {n : Int} (hc : Cond.constant own ix (iI n) ∈ Tb) (d : decode cc pc = .ok (.ldc_w ix, 3)) (e : pc + 3 = pc') (k : G κ nm ad M pc' lv (.int (iI n) :: st) cl sl) : G κ nm ad M pc lv st cl sl := by
  subst e; intro hM H locs ls hP hD hS hl
  exact lv_ldcw X.1 X.2.1 X.2.2.2.1 (X.2.2.2.2.1 _ hc) d (k hM H locs ls hP hD hS hl)
theorem g_lconst (X : Cx κ cc own rm) {n : Fin 2} {v : Int64} (hv : Int64.ofNat (n : Nat) = v) (d : decode cc pc = .ok (.lconst n, 1)) (e : pc + 1 = pc') (k : G κ nm ad M pc' lv (.long v :: st) cl sl) : G κ nm ad M pc lv st cl sl := by
  subst e; intro hM H locs ls hP hD hS hl
  exact lv_lconst X.1 X.2.1 d hv (k hM H locs ls hP hD hS hl)
theorem g_ldc2 (X : Cx κ cc own rm) {ix : Nat} {v : Int64} (hc : Cond.constantLong own ix v ∈ Tb) (d : decode cc pc = .ok (.ldc2_w ix, 3)) (e : pc + 3 = pc') (k : G κ nm ad M pc' lv (.long v :: st) cl sl) : G κ nm ad M pc lv st cl sl := by
  subst e; intro hM H locs ls hP hD hS hl
  exact lv_ldc2 X.1 X.2.1 X.2.2.2.1 (X.2.2.2.2.1 _ hc) d (k hM H locs ls hP hD hS hl)
theorem g_fconst1 (X : Cx κ cc own rm)  (d : decode cc pc = .ok (.fconst 1, 1)) (e : pc + 1 = pc') (k : G κ nm ad M pc' lv (.float FP.fconst1 :: st) cl sl) : G κ nm ad M pc lv st cl sl := by
  subst e; intro hM H locs ls hP hD hS hl
  exact lv_fconst1 X.1 X.2.1 d (k hM H locs ls hP hD hS hl)
theorem g_ldcf (X : Cx κ cc own rm) {ix : Nat} {v : UInt32} (hc : Cond.constantFloat own ix v ∈ Tb) (d : decode cc pc = .ok (.ldc ix, 2)) (e : pc + 2 = pc') (k : G κ nm ad M pc' lv (.float v :: st) cl sl) : G κ nm ad M pc lv st cl sl := by
  subst e; intro hM H locs ls hP hD hS hl
  exact lv_ldcf X.1 X.2.1 X.2.2.2.1 (X.2.2.2.2.1 _ hc) d (k hM H locs ls hP hD hS hl)
theorem g_iload_n (X : Cx κ cc own rm) {j : Fin 4} {x : Int32} (h : lv[(j : Nat)]? = some (some (.int x))) (d : decode cc pc = .ok (.iload_n j, 1)) (e : pc + 1 = pc') (k : G κ nm ad M pc' lv (.int x :: st) cl sl) : G κ nm ad M pc lv st cl sl := by
  subst e; intro hM H locs ls hP hD hS hl
  exact lv_iload_n X.1 X.2.1 d rfl (lvl_at hl h) (k hM H locs ls hP hD hS hl)
theorem g_iload (X : Cx κ cc own rm) {j : Nat} {x : Int32} (h : lv[j]? = some (some (.int x))) (d : decode cc pc = .ok (.iload j, 2)) (e : pc + 2 = pc') (k : G κ nm ad M pc' lv (.int x :: st) cl sl) : G κ nm ad M pc lv st cl sl := by
  subst e; intro hM H locs ls hP hD hS hl
  exact lv_iload X.1 X.2.1 d (lvl_at hl h) (k hM H locs ls hP hD hS hl)
theorem g_lload_n (X : Cx κ cc own rm) {j : Fin 4} {x : Int64} (h : lv[(j : Nat)]? = some (some (.long x))) (d : decode cc pc = .ok (.lload_n j, 1)) (e : pc + 1 = pc') (k : G κ nm ad M pc' lv (.long x :: st) cl sl) : G κ nm ad M pc lv st cl sl := by
  subst e; intro hM H locs ls hP hD hS hl
  exact lv_lload_n X.1 X.2.1 d rfl (lvl_at hl h) (k hM H locs ls hP hD hS hl)
theorem g_lload (X : Cx κ cc own rm) {j : Nat} {x : Int64} (h : lv[j]? = some (some (.long x))) (d : decode cc pc = .ok (.lload j, 2)) (e : pc + 2 = pc') (k : G κ nm ad M pc' lv (.long x :: st) cl sl) : G κ nm ad M pc lv st cl sl := by
  subst e; intro hM H locs ls hP hD hS hl
  exact lv_lload X.1 X.2.1 d (lvl_at hl h) (k hM H locs ls hP hD hS hl)
theorem g_aload_n (X : Cx κ cc own rm) {j : Fin 4} {x : Nat} (h : lv[(j : Nat)]? = some (some (.ref x))) (d : decode cc pc = .ok (.aload_n j, 1)) (e : pc + 1 = pc') (k : G κ nm ad M pc' lv (.ref x :: st) cl sl) : G κ nm ad M pc lv st cl sl := by
  subst e; intro hM H locs ls hP hD hS hl
  exact lv_aload_n X.1 X.2.1 d rfl (lvl_at hl h) (k hM H locs ls hP hD hS hl)
theorem g_aload (X : Cx κ cc own rm) {j : Nat} {x : Nat} (h : lv[j]? = some (some (.ref x))) (d : decode cc pc = .ok (.aload j, 2)) (e : pc + 2 = pc') (k : G κ nm ad M pc' lv (.ref x :: st) cl sl) : G κ nm ad M pc lv st cl sl := by
  subst e; intro hM H locs ls hP hD hS hl
  exact lv_aload X.1 X.2.1 d (lvl_at hl h) (k hM H locs ls hP hD hS hl)
theorem g_fload_n (X : Cx κ cc own rm) {j : Fin 4} {x : UInt32} (h : lv[(j : Nat)]? = some (some (.float x))) (d : decode cc pc = .ok (.fload_n j, 1)) (e : pc + 1 = pc') (k : G κ nm ad M pc' lv (.float x :: st) cl sl) : G κ nm ad M pc lv st cl sl := by
  subst e; intro hM H locs ls hP hD hS hl
  exact lv_fload_n X.1 X.2.1 d rfl (lvl_at hl h) (k hM H locs ls hP hD hS hl)
theorem g_fload (X : Cx κ cc own rm) {j : Nat} {x : UInt32} (h : lv[j]? = some (some (.float x))) (d : decode cc pc = .ok (.fload j, 2)) (e : pc + 2 = pc') (k : G κ nm ad M pc' lv (.float x :: st) cl sl) : G κ nm ad M pc lv st cl sl := by
  subst e; intro hM H locs ls hP hD hS hl
  exact lv_fload X.1 X.2.1 d (lvl_at hl h) (k hM H locs ls hP hD hS hl)
theorem g_istore_n0 (X : Cx κ cc own rm) {j : Fin 4} {x : Int32} (d : decode cc pc = .ok (.istore_n j, 1)) (e : pc + 1 = pc') (hn : (j : Nat) < kN κ) (hc : ∀ i, i + 1 = (j : Nat) → ∀ u, lv[i]? = some (some u) → c1 (some u) = true) (k : G κ nm ad M pc' (lv.set (j : Nat) (some (.int x))) st cl sl) : G κ nm ad M pc lv (.int x :: st) cl sl := by
  subst e; intro hM H locs ls hP hD hS hl
  exact lv_istore_n X.1 X.2.1 d rfl hl hn rfl (fun ls1 h1 => k hM H locs ls1 hP hD hS (lvl_st1 h1 hc))
theorem g_istore0 (X : Cx κ cc own rm) {j : Nat} {x : Int32} (d : decode cc pc = .ok (.istore j, 2)) (e : pc + 2 = pc') (hn : j < kN κ) (hc : ∀ i, i + 1 = j → ∀ u, lv[i]? = some (some u) → c1 (some u) = true) (k : G κ nm ad M pc' (lv.set j (some (.int x))) st cl sl) : G κ nm ad M pc lv (.int x :: st) cl sl := by
  subst e; intro hM H locs ls hP hD hS hl
  exact lv_istore X.1 X.2.1 d hl hn rfl (fun ls1 h1 => k hM H locs ls1 hP hD hS (lvl_st1 h1 hc))
theorem g_astore_n0 (X : Cx κ cc own rm) {j : Fin 4} {x : Nat} (d : decode cc pc = .ok (.astore_n j, 1)) (e : pc + 1 = pc') (hn : (j : Nat) < kN κ) (hc : ∀ i, i + 1 = (j : Nat) → ∀ u, lv[i]? = some (some u) → c1 (some u) = true) (k : G κ nm ad M pc' (lv.set (j : Nat) (some (.ref x))) st cl sl) : G κ nm ad M pc lv (.ref x :: st) cl sl := by
  subst e; intro hM H locs ls hP hD hS hl
  exact lv_astore_n X.1 X.2.1 d rfl hl hn rfl (fun ls1 h1 => k hM H locs ls1 hP hD hS (lvl_st1 h1 hc))
theorem g_astore0 (X : Cx κ cc own rm) {j : Nat} {x : Nat} (d : decode cc pc = .ok (.astore j, 2)) (e : pc + 2 = pc') (hn : j < kN κ) (hc : ∀ i, i + 1 = j → ∀ u, lv[i]? = some (some u) → c1 (some u) = true) (k : G κ nm ad M pc' (lv.set j (some (.ref x))) st cl sl) : G κ nm ad M pc lv (.ref x :: st) cl sl := by
  subst e; intro hM H locs ls hP hD hS hl
  exact lv_astore X.1 X.2.1 d hl hn rfl (fun ls1 h1 => k hM H locs ls1 hP hD hS (lvl_st1 h1 hc))
theorem g_fstore_n0 (X : Cx κ cc own rm) {j : Fin 4} {x : UInt32} (d : decode cc pc = .ok (.fstore_n j, 1)) (e : pc + 1 = pc') (hn : (j : Nat) < kN κ) (hc : ∀ i, i + 1 = (j : Nat) → ∀ u, lv[i]? = some (some u) → c1 (some u) = true) (k : G κ nm ad M pc' (lv.set (j : Nat) (some (.float x))) st cl sl) : G κ nm ad M pc lv (.float x :: st) cl sl := by
  subst e; intro hM H locs ls hP hD hS hl
  exact lv_fstore_n X.1 X.2.1 d rfl hl hn rfl (fun ls1 h1 => k hM H locs ls1 hP hD hS (lvl_st1 h1 hc))
theorem g_fstore0 (X : Cx κ cc own rm) {j : Nat} {x : UInt32} (d : decode cc pc = .ok (.fstore j, 2)) (e : pc + 2 = pc') (hn : j < kN κ) (hc : ∀ i, i + 1 = j → ∀ u, lv[i]? = some (some u) → c1 (some u) = true) (k : G κ nm ad M pc' (lv.set j (some (.float x))) st cl sl) : G κ nm ad M pc lv (.float x :: st) cl sl := by
  subst e; intro hM H locs ls hP hD hS hl
  exact lv_fstore X.1 X.2.1 d hl hn rfl (fun ls1 h1 => k hM H locs ls1 hP hD hS (lvl_st1 h1 hc))
theorem g_lstore_n0 (X : Cx κ cc own rm) {j : Fin 4} {x : Int64} (d : decode cc pc = .ok (.lstore_n j, 1)) (e : pc + 1 = pc') (hn : (j : Nat) + 1 < kN κ) (hc : ∀ i, i + 1 = (j : Nat) → ∀ u, lv[i]? = some (some u) → c1 (some u) = true) (k : G κ nm ad M pc' ((lv.set (j : Nat) (some (.long x))).set ((j : Nat) + 1) none) st cl sl) : G κ nm ad M pc lv (.long x :: st) cl sl := by
  subst e; intro hM H locs ls hP hD hS hl
  exact lv_lstore_n X.1 X.2.1 d rfl hl hn rfl (fun ls1 h1 => k hM H locs ls1 hP hD hS (lvl_st2 h1 hc))
theorem g_lstore0 (X : Cx κ cc own rm) {j : Nat} {x : Int64} (d : decode cc pc = .ok (.lstore j, 2)) (e : pc + 2 = pc') (hn : j + 1 < kN κ) (hc : ∀ i, i + 1 = j → ∀ u, lv[i]? = some (some u) → c1 (some u) = true) (k : G κ nm ad M pc' ((lv.set j (some (.long x))).set (j + 1) none) st cl sl) : G κ nm ad M pc lv (.long x :: st) cl sl := by
  subst e; intro hM H locs ls hP hD hS hl
  exact lv_lstore X.1 X.2.1 d hl hn rfl (fun ls1 h1 => k hM H locs ls1 hP hD hS (lvl_st2 h1 hc))
theorem g_iinc0 (X : Cx κ cc own rm) {j : Nat} {n x : Int} (d : decode cc pc = .ok (.iinc j n, 3)) (e : pc + 3 = pc') (hn : j < kN κ) (h : lv[j]? = some (some (.int (iI x)))) (hc : ∀ i, i + 1 = j → ∀ u, lv[i]? = some (some u) → c1 (some u) = true) (k : G κ nm ad M pc' (lv.set j (some (.int (iI (x + n))))) st cl sl) : G κ nm ad M pc lv st cl sl := by
  subst e; intro hM H locs ls hP hD hS hl
  obtain ⟨q, hq⟩ := List.getElem?_of_mem ((lvl_mem lv 0 (j, .int (iI x))).mpr ⟨j, h, (Nat.zero_add j).symm⟩)
  exact lv_iinc X.1 X.2.1 d hl hq (show iI x + Int32.ofInt n = iI (x + n) from iI_add x n) hn rfl (fun ls1 h1 => k hM H locs ls1 hP hD hS (lvl_st1 h1 hc))
theorem g_istore_0 (X : Cx κ cc own rm) {y : Option Value} {rest : List (Option Value)} {x : Int32} (d : decode cc pc = .ok (.istore_n 0, 1)) (e : pc + 1 = pc') (hn : 0 < kN κ) (k : G κ nm ad M pc' (some (.int x) :: rest) st cl sl) : G κ nm ad M pc (y :: rest) (.int x :: st) cl sl :=
  g_istore_n0 X d e hn (fun i hi u hu => by omega) k
theorem g_astore_0 (X : Cx κ cc own rm) {y : Option Value} {rest : List (Option Value)} {x : Nat} (d : decode cc pc = .ok (.astore_n 0, 1)) (e : pc + 1 = pc') (hn : 0 < kN κ) (k : G κ nm ad M pc' (some (.ref x) :: rest) st cl sl) : G κ nm ad M pc (y :: rest) (.ref x :: st) cl sl :=
  g_astore_n0 X d e hn (fun i hi u hu => by omega) k
theorem g_iinc_0 (X : Cx κ cc own rm) {y : Option Value} {rest : List (Option Value)} {n x : Int} (d : decode cc pc = .ok (.iinc 0 n, 3)) (e : pc + 3 = pc') (hn : 0 < kN κ) (k : G κ nm ad M pc' (some (.int (iI (x + n))) :: rest) st cl sl) : G κ nm ad M pc (some (.int (iI x)) :: rest) st cl sl :=
  g_iinc0 X d e hn rfl (fun i hi u hu => by omega) k
theorem g_lstore_0 (X : Cx κ cc own rm) {y z : Option Value} {rest : List (Option Value)} {x : Int64} (d : decode cc pc = .ok (.lstore_n 0, 1)) (e : pc + 1 = pc') (hn : 0 + 1 < kN κ) (k : G κ nm ad M pc' (some (.long x) :: none :: rest) st cl sl) : G κ nm ad M pc (y :: z :: rest) (.long x :: st) cl sl :=
  g_lstore_n0 X d e hn (fun i hi u hu => by omega) k
theorem g_drop_0 {y : Option Value} {rest : List (Option Value)} (k : G κ nm ad M pc (none :: rest) st cl sl) : G κ nm ad M pc (y :: rest) st cl sl := g_of (fun q v h => by
  rcases Nat.lt_trichotomy q 0 with h1 | h1 | h1
  · rw [← h]; omega
  · subst h1; cases h
  · obtain ⟨q, rfl⟩ : ∃ z, q = 0 + 1 + z := ⟨q - 0 - 1, by omega⟩
    rw [show 0 + 1 + q = q + 1 by omega] at h ⊢; exact h) k
theorem g_istore_1 (X : Cx κ cc own rm) {a0 y : Option Value} {rest : List (Option Value)} {x : Int32} (d : decode cc pc = .ok (.istore_n 1, 1)) (e : pc + 1 = pc') (hn : 1 < kN κ) (hp : c1 a0 = true) (k : G κ nm ad M pc' (a0 :: some (.int x) :: rest) st cl sl) : G κ nm ad M pc (a0 :: y :: rest) (.int x :: st) cl sl :=
  g_istore_n0 X d e hn (lv_pv (k := 0) rfl hp) k
theorem g_astore_1 (X : Cx κ cc own rm) {a0 y : Option Value} {rest : List (Option Value)} {x : Nat} (d : decode cc pc = .ok (.astore_n 1, 1)) (e : pc + 1 = pc') (hn : 1 < kN κ) (hp : c1 a0 = true) (k : G κ nm ad M pc' (a0 :: some (.ref x) :: rest) st cl sl) : G κ nm ad M pc (a0 :: y :: rest) (.ref x :: st) cl sl :=
  g_astore_n0 X d e hn (lv_pv (k := 0) rfl hp) k
theorem g_iinc_1 (X : Cx κ cc own rm) {a0 : Option Value} {rest : List (Option Value)} {n x : Int} (d : decode cc pc = .ok (.iinc 1 n, 3)) (e : pc + 3 = pc') (hn : 1 < kN κ) (hp : c1 a0 = true) (k : G κ nm ad M pc' (a0 :: some (.int (iI (x + n))) :: rest) st cl sl) : G κ nm ad M pc (a0 :: some (.int (iI x)) :: rest) st cl sl :=
  g_iinc0 X d e hn rfl (lv_pv (k := 0) rfl hp) k
theorem g_lstore_1 (X : Cx κ cc own rm) {a0 y z : Option Value} {rest : List (Option Value)} {x : Int64} (d : decode cc pc = .ok (.lstore_n 1, 1)) (e : pc + 1 = pc') (hn : 1 + 1 < kN κ) (hp : c1 a0 = true) (k : G κ nm ad M pc' (a0 :: some (.long x) :: none :: rest) st cl sl) : G κ nm ad M pc (a0 :: y :: z :: rest) (.long x :: st) cl sl :=
  g_lstore_n0 X d e hn (lv_pv (k := 0) rfl hp) k
theorem g_drop_1 {a0 y : Option Value} {rest : List (Option Value)} (k : G κ nm ad M pc (a0 :: none :: rest) st cl sl) : G κ nm ad M pc (a0 :: y :: rest) st cl sl := g_of (fun q v h => by
  rcases Nat.lt_trichotomy q 1 with h1 | h1 | h1
  · rw [← h]; match q, h1 with
    | 0, _ => rfl
  · subst h1; cases h
  · obtain ⟨q, rfl⟩ : ∃ z, q = 1 + 1 + z := ⟨q - 1 - 1, by omega⟩
    rw [show 1 + 1 + q = q + 2 by omega] at h ⊢; exact h) k
theorem g_istore_2 (X : Cx κ cc own rm) {a0 a1 y : Option Value} {rest : List (Option Value)} {x : Int32} (d : decode cc pc = .ok (.istore_n 2, 1)) (e : pc + 1 = pc') (hn : 2 < kN κ) (hp : c1 a1 = true) (k : G κ nm ad M pc' (a0 :: a1 :: some (.int x) :: rest) st cl sl) : G κ nm ad M pc (a0 :: a1 :: y :: rest) (.int x :: st) cl sl :=
  g_istore_n0 X d e hn (lv_pv (k := 1) rfl hp) k
theorem g_astore_2 (X : Cx κ cc own rm) {a0 a1 y : Option Value} {rest : List (Option Value)} {x : Nat} (d : decode cc pc = .ok (.astore_n 2, 1)) (e : pc + 1 = pc') (hn : 2 < kN κ) (hp : c1 a1 = true) (k : G κ nm ad M pc' (a0 :: a1 :: some (.ref x) :: rest) st cl sl) : G κ nm ad M pc (a0 :: a1 :: y :: rest) (.ref x :: st) cl sl :=
  g_astore_n0 X d e hn (lv_pv (k := 1) rfl hp) k
theorem g_iinc_2 (X : Cx κ cc own rm) {a0 a1 : Option Value} {rest : List (Option Value)} {n x : Int} (d : decode cc pc = .ok (.iinc 2 n, 3)) (e : pc + 3 = pc') (hn : 2 < kN κ) (hp : c1 a1 = true) (k : G κ nm ad M pc' (a0 :: a1 :: some (.int (iI (x + n))) :: rest) st cl sl) : G κ nm ad M pc (a0 :: a1 :: some (.int (iI x)) :: rest) st cl sl :=
  g_iinc0 X d e hn rfl (lv_pv (k := 1) rfl hp) k
theorem g_lstore_2 (X : Cx κ cc own rm) {a0 a1 y z : Option Value} {rest : List (Option Value)} {x : Int64} (d : decode cc pc = .ok (.lstore_n 2, 1)) (e : pc + 1 = pc') (hn : 2 + 1 < kN κ) (hp : c1 a1 = true) (k : G κ nm ad M pc' (a0 :: a1 :: some (.long x) :: none :: rest) st cl sl) : G κ nm ad M pc (a0 :: a1 :: y :: z :: rest) (.long x :: st) cl sl :=
  g_lstore_n0 X d e hn (lv_pv (k := 1) rfl hp) k
theorem g_drop_2 {a0 a1 y : Option Value} {rest : List (Option Value)} (k : G κ nm ad M pc (a0 :: a1 :: none :: rest) st cl sl) : G κ nm ad M pc (a0 :: a1 :: y :: rest) st cl sl := g_of (fun q v h => by
  rcases Nat.lt_trichotomy q 2 with h1 | h1 | h1
  · rw [← h]; match q, h1 with
    | 0, _ => rfl
    | 1, _ => rfl
  · subst h1; cases h
  · obtain ⟨q, rfl⟩ : ∃ z, q = 2 + 1 + z := ⟨q - 2 - 1, by omega⟩
    rw [show 2 + 1 + q = q + 3 by omega] at h ⊢; exact h) k
theorem g_istore_3 (X : Cx κ cc own rm) {a0 a1 a2 y : Option Value} {rest : List (Option Value)} {x : Int32} (d : decode cc pc = .ok (.istore_n 3, 1)) (e : pc + 1 = pc') (hn : 3 < kN κ) (hp : c1 a2 = true) (k : G κ nm ad M pc' (a0 :: a1 :: a2 :: some (.int x) :: rest) st cl sl) : G κ nm ad M pc (a0 :: a1 :: a2 :: y :: rest) (.int x :: st) cl sl :=
  g_istore_n0 X d e hn (lv_pv (k := 2) rfl hp) k
theorem g_astore_3 (X : Cx κ cc own rm) {a0 a1 a2 y : Option Value} {rest : List (Option Value)} {x : Nat} (d : decode cc pc = .ok (.astore_n 3, 1)) (e : pc + 1 = pc') (hn : 3 < kN κ) (hp : c1 a2 = true) (k : G κ nm ad M pc' (a0 :: a1 :: a2 :: some (.ref x) :: rest) st cl sl) : G κ nm ad M pc (a0 :: a1 :: a2 :: y :: rest) (.ref x :: st) cl sl :=
  g_astore_n0 X d e hn (lv_pv (k := 2) rfl hp) k
theorem g_iinc_3 (X : Cx κ cc own rm) {a0 a1 a2 : Option Value} {rest : List (Option Value)} {n x : Int} (d : decode cc pc = .ok (.iinc 3 n, 3)) (e : pc + 3 = pc') (hn : 3 < kN κ) (hp : c1 a2 = true) (k : G κ nm ad M pc' (a0 :: a1 :: a2 :: some (.int (iI (x + n))) :: rest) st cl sl) : G κ nm ad M pc (a0 :: a1 :: a2 :: some (.int (iI x)) :: rest) st cl sl :=
  g_iinc0 X d e hn rfl (lv_pv (k := 2) rfl hp) k
theorem g_lstore_3 (X : Cx κ cc own rm) {a0 a1 a2 y z : Option Value} {rest : List (Option Value)} {x : Int64} (d : decode cc pc = .ok (.lstore_n 3, 1)) (e : pc + 1 = pc') (hn : 3 + 1 < kN κ) (hp : c1 a2 = true) (k : G κ nm ad M pc' (a0 :: a1 :: a2 :: some (.long x) :: none :: rest) st cl sl) : G κ nm ad M pc (a0 :: a1 :: a2 :: y :: z :: rest) (.long x :: st) cl sl :=
  g_lstore_n0 X d e hn (lv_pv (k := 2) rfl hp) k
theorem g_drop_3 {a0 a1 a2 y : Option Value} {rest : List (Option Value)} (k : G κ nm ad M pc (a0 :: a1 :: a2 :: none :: rest) st cl sl) : G κ nm ad M pc (a0 :: a1 :: a2 :: y :: rest) st cl sl := g_of (fun q v h => by
  rcases Nat.lt_trichotomy q 3 with h1 | h1 | h1
  · rw [← h]; match q, h1 with
    | 0, _ => rfl
    | 1, _ => rfl
    | 2, _ => rfl
  · subst h1; cases h
  · obtain ⟨q, rfl⟩ : ∃ z, q = 3 + 1 + z := ⟨q - 3 - 1, by omega⟩
    rw [show 3 + 1 + q = q + 4 by omega] at h ⊢; exact h) k
theorem g_istore_4 (X : Cx κ cc own rm) {a0 a1 a2 a3 y : Option Value} {rest : List (Option Value)} {x : Int32} (d : decode cc pc = .ok (.istore 4, 2)) (e : pc + 2 = pc') (hn : 4 < kN κ) (hp : c1 a3 = true) (k : G κ nm ad M pc' (a0 :: a1 :: a2 :: a3 :: some (.int x) :: rest) st cl sl) : G κ nm ad M pc (a0 :: a1 :: a2 :: a3 :: y :: rest) (.int x :: st) cl sl :=
  g_istore0 X d e hn (lv_pv (k := 3) rfl hp) k
theorem g_astore_4 (X : Cx κ cc own rm) {a0 a1 a2 a3 y : Option Value} {rest : List (Option Value)} {x : Nat} (d : decode cc pc = .ok (.astore 4, 2)) (e : pc + 2 = pc') (hn : 4 < kN κ) (hp : c1 a3 = true) (k : G κ nm ad M pc' (a0 :: a1 :: a2 :: a3 :: some (.ref x) :: rest) st cl sl) : G κ nm ad M pc (a0 :: a1 :: a2 :: a3 :: y :: rest) (.ref x :: st) cl sl :=
  g_astore0 X d e hn (lv_pv (k := 3) rfl hp) k
theorem g_iinc_4 (X : Cx κ cc own rm) {a0 a1 a2 a3 : Option Value} {rest : List (Option Value)} {n x : Int} (d : decode cc pc = .ok (.iinc 4 n, 3)) (e : pc + 3 = pc') (hn : 4 < kN κ) (hp : c1 a3 = true) (k : G κ nm ad M pc' (a0 :: a1 :: a2 :: a3 :: some (.int (iI (x + n))) :: rest) st cl sl) : G κ nm ad M pc (a0 :: a1 :: a2 :: a3 :: some (.int (iI x)) :: rest) st cl sl :=
  g_iinc0 X d e hn rfl (lv_pv (k := 3) rfl hp) k
theorem g_lstore_4 (X : Cx κ cc own rm) {a0 a1 a2 a3 y z : Option Value} {rest : List (Option Value)} {x : Int64} (d : decode cc pc = .ok (.lstore 4, 2)) (e : pc + 2 = pc') (hn : 4 + 1 < kN κ) (hp : c1 a3 = true) (k : G κ nm ad M pc' (a0 :: a1 :: a2 :: a3 :: some (.long x) :: none :: rest) st cl sl) : G κ nm ad M pc (a0 :: a1 :: a2 :: a3 :: y :: z :: rest) (.long x :: st) cl sl :=
  g_lstore0 X d e hn (lv_pv (k := 3) rfl hp) k
theorem g_drop_4 {a0 a1 a2 a3 y : Option Value} {rest : List (Option Value)} (k : G κ nm ad M pc (a0 :: a1 :: a2 :: a3 :: none :: rest) st cl sl) : G κ nm ad M pc (a0 :: a1 :: a2 :: a3 :: y :: rest) st cl sl := g_of (fun q v h => by
  rcases Nat.lt_trichotomy q 4 with h1 | h1 | h1
  · rw [← h]; match q, h1 with
    | 0, _ => rfl
    | 1, _ => rfl
    | 2, _ => rfl
    | 3, _ => rfl
  · subst h1; cases h
  · obtain ⟨q, rfl⟩ : ∃ z, q = 4 + 1 + z := ⟨q - 4 - 1, by omega⟩
    rw [show 4 + 1 + q = q + 5 by omega] at h ⊢; exact h) k
theorem g_istore_5 (X : Cx κ cc own rm) {a0 a1 a2 a3 a4 y : Option Value} {rest : List (Option Value)} {x : Int32} (d : decode cc pc = .ok (.istore 5, 2)) (e : pc + 2 = pc') (hn : 5 < kN κ) (hp : c1 a4 = true) (k : G κ nm ad M pc' (a0 :: a1 :: a2 :: a3 :: a4 :: some (.int x) :: rest) st cl sl) : G κ nm ad M pc (a0 :: a1 :: a2 :: a3 :: a4 :: y :: rest) (.int x :: st) cl sl :=
  g_istore0 X d e hn (lv_pv (k := 4) rfl hp) k
theorem g_astore_5 (X : Cx κ cc own rm) {a0 a1 a2 a3 a4 y : Option Value} {rest : List (Option Value)} {x : Nat} (d : decode cc pc = .ok (.astore 5, 2)) (e : pc + 2 = pc') (hn : 5 < kN κ) (hp : c1 a4 = true) (k : G κ nm ad M pc' (a0 :: a1 :: a2 :: a3 :: a4 :: some (.ref x) :: rest) st cl sl) : G κ nm ad M pc (a0 :: a1 :: a2 :: a3 :: a4 :: y :: rest) (.ref x :: st) cl sl :=
  g_astore0 X d e hn (lv_pv (k := 4) rfl hp) k
theorem g_iinc_5 (X : Cx κ cc own rm) {a0 a1 a2 a3 a4 : Option Value} {rest : List (Option Value)} {n x : Int} (d : decode cc pc = .ok (.iinc 5 n, 3)) (e : pc + 3 = pc') (hn : 5 < kN κ) (hp : c1 a4 = true) (k : G κ nm ad M pc' (a0 :: a1 :: a2 :: a3 :: a4 :: some (.int (iI (x + n))) :: rest) st cl sl) : G κ nm ad M pc (a0 :: a1 :: a2 :: a3 :: a4 :: some (.int (iI x)) :: rest) st cl sl :=
  g_iinc0 X d e hn rfl (lv_pv (k := 4) rfl hp) k
theorem g_lstore_5 (X : Cx κ cc own rm) {a0 a1 a2 a3 a4 y z : Option Value} {rest : List (Option Value)} {x : Int64} (d : decode cc pc = .ok (.lstore 5, 2)) (e : pc + 2 = pc') (hn : 5 + 1 < kN κ) (hp : c1 a4 = true) (k : G κ nm ad M pc' (a0 :: a1 :: a2 :: a3 :: a4 :: some (.long x) :: none :: rest) st cl sl) : G κ nm ad M pc (a0 :: a1 :: a2 :: a3 :: a4 :: y :: z :: rest) (.long x :: st) cl sl :=
  g_lstore0 X d e hn (lv_pv (k := 4) rfl hp) k
theorem g_drop_5 {a0 a1 a2 a3 a4 y : Option Value} {rest : List (Option Value)} (k : G κ nm ad M pc (a0 :: a1 :: a2 :: a3 :: a4 :: none :: rest) st cl sl) : G κ nm ad M pc (a0 :: a1 :: a2 :: a3 :: a4 :: y :: rest) st cl sl := g_of (fun q v h => by
  rcases Nat.lt_trichotomy q 5 with h1 | h1 | h1
  · rw [← h]; match q, h1 with
    | 0, _ => rfl
    | 1, _ => rfl
    | 2, _ => rfl
    | 3, _ => rfl
    | 4, _ => rfl
  · subst h1; cases h
  · obtain ⟨q, rfl⟩ : ∃ z, q = 5 + 1 + z := ⟨q - 5 - 1, by omega⟩
    rw [show 5 + 1 + q = q + 6 by omega] at h ⊢; exact h) k
theorem g_istore_6 (X : Cx κ cc own rm) {a0 a1 a2 a3 a4 a5 y : Option Value} {rest : List (Option Value)} {x : Int32} (d : decode cc pc = .ok (.istore 6, 2)) (e : pc + 2 = pc') (hn : 6 < kN κ) (hp : c1 a5 = true) (k : G κ nm ad M pc' (a0 :: a1 :: a2 :: a3 :: a4 :: a5 :: some (.int x) :: rest) st cl sl) : G κ nm ad M pc (a0 :: a1 :: a2 :: a3 :: a4 :: a5 :: y :: rest) (.int x :: st) cl sl :=
  g_istore0 X d e hn (lv_pv (k := 5) rfl hp) k
theorem g_astore_6 (X : Cx κ cc own rm) {a0 a1 a2 a3 a4 a5 y : Option Value} {rest : List (Option Value)} {x : Nat} (d : decode cc pc = .ok (.astore 6, 2)) (e : pc + 2 = pc') (hn : 6 < kN κ) (hp : c1 a5 = true) (k : G κ nm ad M pc' (a0 :: a1 :: a2 :: a3 :: a4 :: a5 :: some (.ref x) :: rest) st cl sl) : G κ nm ad M pc (a0 :: a1 :: a2 :: a3 :: a4 :: a5 :: y :: rest) (.ref x :: st) cl sl :=
  g_astore0 X d e hn (lv_pv (k := 5) rfl hp) k
theorem g_fstore_6 (X : Cx κ cc own rm) {a0 a1 a2 a3 a4 a5 y : Option Value} {rest : List (Option Value)} {x : UInt32} (d : decode cc pc = .ok (.fstore 6, 2)) (e : pc + 2 = pc') (hn : 6 < kN κ) (hp : c1 a5 = true) (k : G κ nm ad M pc' (a0 :: a1 :: a2 :: a3 :: a4 :: a5 :: some (.float x) :: rest) st cl sl) : G κ nm ad M pc (a0 :: a1 :: a2 :: a3 :: a4 :: a5 :: y :: rest) (.float x :: st) cl sl :=
  g_fstore0 X d e hn (lv_pv (k := 5) rfl hp) k
theorem g_iinc_6 (X : Cx κ cc own rm) {a0 a1 a2 a3 a4 a5 : Option Value} {rest : List (Option Value)} {n x : Int} (d : decode cc pc = .ok (.iinc 6 n, 3)) (e : pc + 3 = pc') (hn : 6 < kN κ) (hp : c1 a5 = true) (k : G κ nm ad M pc' (a0 :: a1 :: a2 :: a3 :: a4 :: a5 :: some (.int (iI (x + n))) :: rest) st cl sl) : G κ nm ad M pc (a0 :: a1 :: a2 :: a3 :: a4 :: a5 :: some (.int (iI x)) :: rest) st cl sl :=
  g_iinc0 X d e hn rfl (lv_pv (k := 5) rfl hp) k
theorem g_lstore_6 (X : Cx κ cc own rm) {a0 a1 a2 a3 a4 a5 y z : Option Value} {rest : List (Option Value)} {x : Int64} (d : decode cc pc = .ok (.lstore 6, 2)) (e : pc + 2 = pc') (hn : 6 + 1 < kN κ) (hp : c1 a5 = true) (k : G κ nm ad M pc' (a0 :: a1 :: a2 :: a3 :: a4 :: a5 :: some (.long x) :: none :: rest) st cl sl) : G κ nm ad M pc (a0 :: a1 :: a2 :: a3 :: a4 :: a5 :: y :: z :: rest) (.long x :: st) cl sl :=
  g_lstore0 X d e hn (lv_pv (k := 5) rfl hp) k
theorem g_drop_6 {a0 a1 a2 a3 a4 a5 y : Option Value} {rest : List (Option Value)} (k : G κ nm ad M pc (a0 :: a1 :: a2 :: a3 :: a4 :: a5 :: none :: rest) st cl sl) : G κ nm ad M pc (a0 :: a1 :: a2 :: a3 :: a4 :: a5 :: y :: rest) st cl sl := g_of (fun q v h => by
  rcases Nat.lt_trichotomy q 6 with h1 | h1 | h1
  · rw [← h]; match q, h1 with
    | 0, _ => rfl
    | 1, _ => rfl
    | 2, _ => rfl
    | 3, _ => rfl
    | 4, _ => rfl
    | 5, _ => rfl
  · subst h1; cases h
  · obtain ⟨q, rfl⟩ : ∃ z, q = 6 + 1 + z := ⟨q - 6 - 1, by omega⟩
    rw [show 6 + 1 + q = q + 7 by omega] at h ⊢; exact h) k
theorem g_istore_7 (X : Cx κ cc own rm) {a0 a1 a2 a3 a4 a5 a6 y : Option Value} {rest : List (Option Value)} {x : Int32} (d : decode cc pc = .ok (.istore 7, 2)) (e : pc + 2 = pc') (hn : 7 < kN κ) (hp : c1 a6 = true) (k : G κ nm ad M pc' (a0 :: a1 :: a2 :: a3 :: a4 :: a5 :: a6 :: some (.int x) :: rest) st cl sl) : G κ nm ad M pc (a0 :: a1 :: a2 :: a3 :: a4 :: a5 :: a6 :: y :: rest) (.int x :: st) cl sl :=
  g_istore0 X d e hn (lv_pv (k := 6) rfl hp) k
theorem g_astore_7 (X : Cx κ cc own rm) {a0 a1 a2 a3 a4 a5 a6 y : Option Value} {rest : List (Option Value)} {x : Nat} (d : decode cc pc = .ok (.astore 7, 2)) (e : pc + 2 = pc') (hn : 7 < kN κ) (hp : c1 a6 = true) (k : G κ nm ad M pc' (a0 :: a1 :: a2 :: a3 :: a4 :: a5 :: a6 :: some (.ref x) :: rest) st cl sl) : G κ nm ad M pc (a0 :: a1 :: a2 :: a3 :: a4 :: a5 :: a6 :: y :: rest) (.ref x :: st) cl sl :=
  g_astore0 X d e hn (lv_pv (k := 6) rfl hp) k
theorem g_fstore_7 (X : Cx κ cc own rm) {a0 a1 a2 a3 a4 a5 a6 y : Option Value} {rest : List (Option Value)} {x : UInt32} (d : decode cc pc = .ok (.fstore 7, 2)) (e : pc + 2 = pc') (hn : 7 < kN κ) (hp : c1 a6 = true) (k : G κ nm ad M pc' (a0 :: a1 :: a2 :: a3 :: a4 :: a5 :: a6 :: some (.float x) :: rest) st cl sl) : G κ nm ad M pc (a0 :: a1 :: a2 :: a3 :: a4 :: a5 :: a6 :: y :: rest) (.float x :: st) cl sl :=
  g_fstore0 X d e hn (lv_pv (k := 6) rfl hp) k
theorem g_iinc_7 (X : Cx κ cc own rm) {a0 a1 a2 a3 a4 a5 a6 : Option Value} {rest : List (Option Value)} {n x : Int} (d : decode cc pc = .ok (.iinc 7 n, 3)) (e : pc + 3 = pc') (hn : 7 < kN κ) (hp : c1 a6 = true) (k : G κ nm ad M pc' (a0 :: a1 :: a2 :: a3 :: a4 :: a5 :: a6 :: some (.int (iI (x + n))) :: rest) st cl sl) : G κ nm ad M pc (a0 :: a1 :: a2 :: a3 :: a4 :: a5 :: a6 :: some (.int (iI x)) :: rest) st cl sl :=
  g_iinc0 X d e hn rfl (lv_pv (k := 6) rfl hp) k
theorem g_lstore_7 (X : Cx κ cc own rm) {a0 a1 a2 a3 a4 a5 a6 y z : Option Value} {rest : List (Option Value)} {x : Int64} (d : decode cc pc = .ok (.lstore 7, 2)) (e : pc + 2 = pc') (hn : 7 + 1 < kN κ) (hp : c1 a6 = true) (k : G κ nm ad M pc' (a0 :: a1 :: a2 :: a3 :: a4 :: a5 :: a6 :: some (.long x) :: none :: rest) st cl sl) : G κ nm ad M pc (a0 :: a1 :: a2 :: a3 :: a4 :: a5 :: a6 :: y :: z :: rest) (.long x :: st) cl sl :=
  g_lstore0 X d e hn (lv_pv (k := 6) rfl hp) k
theorem g_drop_7 {a0 a1 a2 a3 a4 a5 a6 y : Option Value} {rest : List (Option Value)} (k : G κ nm ad M pc (a0 :: a1 :: a2 :: a3 :: a4 :: a5 :: a6 :: none :: rest) st cl sl) : G κ nm ad M pc (a0 :: a1 :: a2 :: a3 :: a4 :: a5 :: a6 :: y :: rest) st cl sl := g_of (fun q v h => by
  rcases Nat.lt_trichotomy q 7 with h1 | h1 | h1
  · rw [← h]; match q, h1 with
    | 0, _ => rfl
    | 1, _ => rfl
    | 2, _ => rfl
    | 3, _ => rfl
    | 4, _ => rfl
    | 5, _ => rfl
    | 6, _ => rfl
  · subst h1; cases h
  · obtain ⟨q, rfl⟩ : ∃ z, q = 7 + 1 + z := ⟨q - 7 - 1, by omega⟩
    rw [show 7 + 1 + q = q + 8 by omega] at h ⊢; exact h) k
theorem g_istore_8 (X : Cx κ cc own rm) {a0 a1 a2 a3 a4 a5 a6 a7 y : Option Value} {rest : List (Option Value)} {x : Int32} (d : decode cc pc = .ok (.istore 8, 2)) (e : pc + 2 = pc') (hn : 8 < kN κ) (hp : c1 a7 = true) (k : G κ nm ad M pc' (a0 :: a1 :: a2 :: a3 :: a4 :: a5 :: a6 :: a7 :: some (.int x) :: rest) st cl sl) : G κ nm ad M pc (a0 :: a1 :: a2 :: a3 :: a4 :: a5 :: a6 :: a7 :: y :: rest) (.int x :: st) cl sl :=
  g_istore0 X d e hn (lv_pv (k := 7) rfl hp) k
theorem g_astore_8 (X : Cx κ cc own rm) {a0 a1 a2 a3 a4 a5 a6 a7 y : Option Value} {rest : List (Option Value)} {x : Nat} (d : decode cc pc = .ok (.astore 8, 2)) (e : pc + 2 = pc') (hn : 8 < kN κ) (hp : c1 a7 = true) (k : G κ nm ad M pc' (a0 :: a1 :: a2 :: a3 :: a4 :: a5 :: a6 :: a7 :: some (.ref x) :: rest) st cl sl) : G κ nm ad M pc (a0 :: a1 :: a2 :: a3 :: a4 :: a5 :: a6 :: a7 :: y :: rest) (.ref x :: st) cl sl :=
  g_astore0 X d e hn (lv_pv (k := 7) rfl hp) k
theorem g_fstore_8 (X : Cx κ cc own rm) {a0 a1 a2 a3 a4 a5 a6 a7 y : Option Value} {rest : List (Option Value)} {x : UInt32} (d : decode cc pc = .ok (.fstore 8, 2)) (e : pc + 2 = pc') (hn : 8 < kN κ) (hp : c1 a7 = true) (k : G κ nm ad M pc' (a0 :: a1 :: a2 :: a3 :: a4 :: a5 :: a6 :: a7 :: some (.float x) :: rest) st cl sl) : G κ nm ad M pc (a0 :: a1 :: a2 :: a3 :: a4 :: a5 :: a6 :: a7 :: y :: rest) (.float x :: st) cl sl :=
  g_fstore0 X d e hn (lv_pv (k := 7) rfl hp) k
theorem g_iinc_8 (X : Cx κ cc own rm) {a0 a1 a2 a3 a4 a5 a6 a7 : Option Value} {rest : List (Option Value)} {n x : Int} (d : decode cc pc = .ok (.iinc 8 n, 3)) (e : pc + 3 = pc') (hn : 8 < kN κ) (hp : c1 a7 = true) (k : G κ nm ad M pc' (a0 :: a1 :: a2 :: a3 :: a4 :: a5 :: a6 :: a7 :: some (.int (iI (x + n))) :: rest) st cl sl) : G κ nm ad M pc (a0 :: a1 :: a2 :: a3 :: a4 :: a5 :: a6 :: a7 :: some (.int (iI x)) :: rest) st cl sl :=
  g_iinc0 X d e hn rfl (lv_pv (k := 7) rfl hp) k
theorem g_lstore_8 (X : Cx κ cc own rm) {a0 a1 a2 a3 a4 a5 a6 a7 y z : Option Value} {rest : List (Option Value)} {x : Int64} (d : decode cc pc = .ok (.lstore 8, 2)) (e : pc + 2 = pc') (hn : 8 + 1 < kN κ) (hp : c1 a7 = true) (k : G κ nm ad M pc' (a0 :: a1 :: a2 :: a3 :: a4 :: a5 :: a6 :: a7 :: some (.long x) :: none :: rest) st cl sl) : G κ nm ad M pc (a0 :: a1 :: a2 :: a3 :: a4 :: a5 :: a6 :: a7 :: y :: z :: rest) (.long x :: st) cl sl :=
  g_lstore0 X d e hn (lv_pv (k := 7) rfl hp) k
theorem g_drop_8 {a0 a1 a2 a3 a4 a5 a6 a7 y : Option Value} {rest : List (Option Value)} (k : G κ nm ad M pc (a0 :: a1 :: a2 :: a3 :: a4 :: a5 :: a6 :: a7 :: none :: rest) st cl sl) : G κ nm ad M pc (a0 :: a1 :: a2 :: a3 :: a4 :: a5 :: a6 :: a7 :: y :: rest) st cl sl := g_of (fun q v h => by
  rcases Nat.lt_trichotomy q 8 with h1 | h1 | h1
  · rw [← h]; match q, h1 with
    | 0, _ => rfl
    | 1, _ => rfl
    | 2, _ => rfl
    | 3, _ => rfl
    | 4, _ => rfl
    | 5, _ => rfl
    | 6, _ => rfl
    | 7, _ => rfl
  · subst h1; cases h
  · obtain ⟨q, rfl⟩ : ∃ z, q = 8 + 1 + z := ⟨q - 8 - 1, by omega⟩
    rw [show 8 + 1 + q = q + 9 by omega] at h ⊢; exact h) k
theorem g_istore_9 (X : Cx κ cc own rm) {a0 a1 a2 a3 a4 a5 a6 a7 a8 y : Option Value} {rest : List (Option Value)} {x : Int32} (d : decode cc pc = .ok (.istore 9, 2)) (e : pc + 2 = pc') (hn : 9 < kN κ) (hp : c1 a8 = true) (k : G κ nm ad M pc' (a0 :: a1 :: a2 :: a3 :: a4 :: a5 :: a6 :: a7 :: a8 :: some (.int x) :: rest) st cl sl) : G κ nm ad M pc (a0 :: a1 :: a2 :: a3 :: a4 :: a5 :: a6 :: a7 :: a8 :: y :: rest) (.int x :: st) cl sl :=
  g_istore0 X d e hn (lv_pv (k := 8) rfl hp) k
theorem g_astore_9 (X : Cx κ cc own rm) {a0 a1 a2 a3 a4 a5 a6 a7 a8 y : Option Value} {rest : List (Option Value)} {x : Nat} (d : decode cc pc = .ok (.astore 9, 2)) (e : pc + 2 = pc') (hn : 9 < kN κ) (hp : c1 a8 = true) (k : G κ nm ad M pc' (a0 :: a1 :: a2 :: a3 :: a4 :: a5 :: a6 :: a7 :: a8 :: some (.ref x) :: rest) st cl sl) : G κ nm ad M pc (a0 :: a1 :: a2 :: a3 :: a4 :: a5 :: a6 :: a7 :: a8 :: y :: rest) (.ref x :: st) cl sl :=
  g_astore0 X d e hn (lv_pv (k := 8) rfl hp) k
theorem g_iinc_9 (X : Cx κ cc own rm) {a0 a1 a2 a3 a4 a5 a6 a7 a8 : Option Value} {rest : List (Option Value)} {n x : Int} (d : decode cc pc = .ok (.iinc 9 n, 3)) (e : pc + 3 = pc') (hn : 9 < kN κ) (hp : c1 a8 = true) (k : G κ nm ad M pc' (a0 :: a1 :: a2 :: a3 :: a4 :: a5 :: a6 :: a7 :: a8 :: some (.int (iI (x + n))) :: rest) st cl sl) : G κ nm ad M pc (a0 :: a1 :: a2 :: a3 :: a4 :: a5 :: a6 :: a7 :: a8 :: some (.int (iI x)) :: rest) st cl sl :=
  g_iinc0 X d e hn rfl (lv_pv (k := 8) rfl hp) k
theorem g_lstore_9 (X : Cx κ cc own rm) {a0 a1 a2 a3 a4 a5 a6 a7 a8 y z : Option Value} {rest : List (Option Value)} {x : Int64} (d : decode cc pc = .ok (.lstore 9, 2)) (e : pc + 2 = pc') (hn : 9 + 1 < kN κ) (hp : c1 a8 = true) (k : G κ nm ad M pc' (a0 :: a1 :: a2 :: a3 :: a4 :: a5 :: a6 :: a7 :: a8 :: some (.long x) :: none :: rest) st cl sl) : G κ nm ad M pc (a0 :: a1 :: a2 :: a3 :: a4 :: a5 :: a6 :: a7 :: a8 :: y :: z :: rest) (.long x :: st) cl sl :=
  g_lstore0 X d e hn (lv_pv (k := 8) rfl hp) k
theorem g_drop_9 {a0 a1 a2 a3 a4 a5 a6 a7 a8 y : Option Value} {rest : List (Option Value)} (k : G κ nm ad M pc (a0 :: a1 :: a2 :: a3 :: a4 :: a5 :: a6 :: a7 :: a8 :: none :: rest) st cl sl) : G κ nm ad M pc (a0 :: a1 :: a2 :: a3 :: a4 :: a5 :: a6 :: a7 :: a8 :: y :: rest) st cl sl := g_of (fun q v h => by
  rcases Nat.lt_trichotomy q 9 with h1 | h1 | h1
  · rw [← h]; match q, h1 with
    | 0, _ => rfl
    | 1, _ => rfl
    | 2, _ => rfl
    | 3, _ => rfl
    | 4, _ => rfl
    | 5, _ => rfl
    | 6, _ => rfl
    | 7, _ => rfl
    | 8, _ => rfl
  · subst h1; cases h
  · obtain ⟨q, rfl⟩ : ∃ z, q = 9 + 1 + z := ⟨q - 9 - 1, by omega⟩
    rw [show 9 + 1 + q = q + 10 by omega] at h ⊢; exact h) k
theorem g_istore_10 (X : Cx κ cc own rm) {a0 a1 a2 a3 a4 a5 a6 a7 a8 a9 y : Option Value} {rest : List (Option Value)} {x : Int32} (d : decode cc pc = .ok (.istore 10, 2)) (e : pc + 2 = pc') (hn : 10 < kN κ) (hp : c1 a9 = true) (k : G κ nm ad M pc' (a0 :: a1 :: a2 :: a3 :: a4 :: a5 :: a6 :: a7 :: a8 :: a9 :: some (.int x) :: rest) st cl sl) : G κ nm ad M pc (a0 :: a1 :: a2 :: a3 :: a4 :: a5 :: a6 :: a7 :: a8 :: a9 :: y :: rest) (.int x :: st) cl sl :=
  g_istore0 X d e hn (lv_pv (k := 9) rfl hp) k
theorem g_astore_10 (X : Cx κ cc own rm) {a0 a1 a2 a3 a4 a5 a6 a7 a8 a9 y : Option Value} {rest : List (Option Value)} {x : Nat} (d : decode cc pc = .ok (.astore 10, 2)) (e : pc + 2 = pc') (hn : 10 < kN κ) (hp : c1 a9 = true) (k : G κ nm ad M pc' (a0 :: a1 :: a2 :: a3 :: a4 :: a5 :: a6 :: a7 :: a8 :: a9 :: some (.ref x) :: rest) st cl sl) : G κ nm ad M pc (a0 :: a1 :: a2 :: a3 :: a4 :: a5 :: a6 :: a7 :: a8 :: a9 :: y :: rest) (.ref x :: st) cl sl :=
  g_astore0 X d e hn (lv_pv (k := 9) rfl hp) k
theorem g_iinc_10 (X : Cx κ cc own rm) {a0 a1 a2 a3 a4 a5 a6 a7 a8 a9 : Option Value} {rest : List (Option Value)} {n x : Int} (d : decode cc pc = .ok (.iinc 10 n, 3)) (e : pc + 3 = pc') (hn : 10 < kN κ) (hp : c1 a9 = true) (k : G κ nm ad M pc' (a0 :: a1 :: a2 :: a3 :: a4 :: a5 :: a6 :: a7 :: a8 :: a9 :: some (.int (iI (x + n))) :: rest) st cl sl) : G κ nm ad M pc (a0 :: a1 :: a2 :: a3 :: a4 :: a5 :: a6 :: a7 :: a8 :: a9 :: some (.int (iI x)) :: rest) st cl sl :=
  g_iinc0 X d e hn rfl (lv_pv (k := 9) rfl hp) k
theorem g_lstore_10 (X : Cx κ cc own rm) {a0 a1 a2 a3 a4 a5 a6 a7 a8 a9 y z : Option Value} {rest : List (Option Value)} {x : Int64} (d : decode cc pc = .ok (.lstore 10, 2)) (e : pc + 2 = pc') (hn : 10 + 1 < kN κ) (hp : c1 a9 = true) (k : G κ nm ad M pc' (a0 :: a1 :: a2 :: a3 :: a4 :: a5 :: a6 :: a7 :: a8 :: a9 :: some (.long x) :: none :: rest) st cl sl) : G κ nm ad M pc (a0 :: a1 :: a2 :: a3 :: a4 :: a5 :: a6 :: a7 :: a8 :: a9 :: y :: z :: rest) (.long x :: st) cl sl :=
  g_lstore0 X d e hn (lv_pv (k := 9) rfl hp) k
theorem g_drop_10 {a0 a1 a2 a3 a4 a5 a6 a7 a8 a9 y : Option Value} {rest : List (Option Value)} (k : G κ nm ad M pc (a0 :: a1 :: a2 :: a3 :: a4 :: a5 :: a6 :: a7 :: a8 :: a9 :: none :: rest) st cl sl) : G κ nm ad M pc (a0 :: a1 :: a2 :: a3 :: a4 :: a5 :: a6 :: a7 :: a8 :: a9 :: y :: rest) st cl sl := g_of (fun q v h => by
  rcases Nat.lt_trichotomy q 10 with h1 | h1 | h1
  · rw [← h]; match q, h1 with
    | 0, _ => rfl
    | 1, _ => rfl
    | 2, _ => rfl
    | 3, _ => rfl
    | 4, _ => rfl
    | 5, _ => rfl
    | 6, _ => rfl
    | 7, _ => rfl
    | 8, _ => rfl
    | 9, _ => rfl
  · subst h1; cases h
  · obtain ⟨q, rfl⟩ : ∃ z, q = 10 + 1 + z := ⟨q - 10 - 1, by omega⟩
    rw [show 10 + 1 + q = q + 11 by omega] at h ⊢; exact h) k
theorem g_istore_11 (X : Cx κ cc own rm) {a0 a1 a2 a3 a4 a5 a6 a7 a8 a9 a10 y : Option Value} {rest : List (Option Value)} {x : Int32} (d : decode cc pc = .ok (.istore 11, 2)) (e : pc + 2 = pc') (hn : 11 < kN κ) (hp : c1 a10 = true) (k : G κ nm ad M pc' (a0 :: a1 :: a2 :: a3 :: a4 :: a5 :: a6 :: a7 :: a8 :: a9 :: a10 :: some (.int x) :: rest) st cl sl) : G κ nm ad M pc (a0 :: a1 :: a2 :: a3 :: a4 :: a5 :: a6 :: a7 :: a8 :: a9 :: a10 :: y :: rest) (.int x :: st) cl sl :=
  g_istore0 X d e hn (lv_pv (k := 10) rfl hp) k
theorem g_astore_11 (X : Cx κ cc own rm) {a0 a1 a2 a3 a4 a5 a6 a7 a8 a9 a10 y : Option Value} {rest : List (Option Value)} {x : Nat} (d : decode cc pc = .ok (.astore 11, 2)) (e : pc + 2 = pc') (hn : 11 < kN κ) (hp : c1 a10 = true) (k : G κ nm ad M pc' (a0 :: a1 :: a2 :: a3 :: a4 :: a5 :: a6 :: a7 :: a8 :: a9 :: a10 :: some (.ref x) :: rest) st cl sl) : G κ nm ad M pc (a0 :: a1 :: a2 :: a3 :: a4 :: a5 :: a6 :: a7 :: a8 :: a9 :: a10 :: y :: rest) (.ref x :: st) cl sl :=
  g_astore0 X d e hn (lv_pv (k := 10) rfl hp) k
theorem g_iinc_11 (X : Cx κ cc own rm) {a0 a1 a2 a3 a4 a5 a6 a7 a8 a9 a10 : Option Value} {rest : List (Option Value)} {n x : Int} (d : decode cc pc = .ok (.iinc 11 n, 3)) (e : pc + 3 = pc') (hn : 11 < kN κ) (hp : c1 a10 = true) (k : G κ nm ad M pc' (a0 :: a1 :: a2 :: a3 :: a4 :: a5 :: a6 :: a7 :: a8 :: a9 :: a10 :: some (.int (iI (x + n))) :: rest) st cl sl) : G κ nm ad M pc (a0 :: a1 :: a2 :: a3 :: a4 :: a5 :: a6 :: a7 :: a8 :: a9 :: a10 :: some (.int (iI x)) :: rest) st cl sl :=
  g_iinc0 X d e hn rfl (lv_pv (k := 10) rfl hp) k
theorem g_lstore_11 (X : Cx κ cc own rm) {a0 a1 a2 a3 a4 a5 a6 a7 a8 a9 a10 y z : Option Value} {rest : List (Option Value)} {x : Int64} (d : decode cc pc = .ok (.lstore 11, 2)) (e : pc + 2 = pc') (hn : 11 + 1 < kN κ) (hp : c1 a10 = true) (k : G κ nm ad M pc' (a0 :: a1 :: a2 :: a3 :: a4 :: a5 :: a6 :: a7 :: a8 :: a9 :: a10 :: some (.long x) :: none :: rest) st cl sl) : G κ nm ad M pc (a0 :: a1 :: a2 :: a3 :: a4 :: a5 :: a6 :: a7 :: a8 :: a9 :: a10 :: y :: z :: rest) (.long x :: st) cl sl :=
  g_lstore0 X d e hn (lv_pv (k := 10) rfl hp) k
theorem g_drop_11 {a0 a1 a2 a3 a4 a5 a6 a7 a8 a9 a10 y : Option Value} {rest : List (Option Value)} (k : G κ nm ad M pc (a0 :: a1 :: a2 :: a3 :: a4 :: a5 :: a6 :: a7 :: a8 :: a9 :: a10 :: none :: rest) st cl sl) : G κ nm ad M pc (a0 :: a1 :: a2 :: a3 :: a4 :: a5 :: a6 :: a7 :: a8 :: a9 :: a10 :: y :: rest) st cl sl := g_of (fun q v h => by
  rcases Nat.lt_trichotomy q 11 with h1 | h1 | h1
  · rw [← h]; match q, h1 with
    | 0, _ => rfl
    | 1, _ => rfl
    | 2, _ => rfl
    | 3, _ => rfl
    | 4, _ => rfl
    | 5, _ => rfl
    | 6, _ => rfl
    | 7, _ => rfl
    | 8, _ => rfl
    | 9, _ => rfl
    | 10, _ => rfl
  · subst h1; cases h
  · obtain ⟨q, rfl⟩ : ∃ z, q = 11 + 1 + z := ⟨q - 11 - 1, by omega⟩
    rw [show 11 + 1 + q = q + 12 by omega] at h ⊢; exact h) k
theorem g_istore_12 (X : Cx κ cc own rm) {a0 a1 a2 a3 a4 a5 a6 a7 a8 a9 a10 a11 y : Option Value} {rest : List (Option Value)} {x : Int32} (d : decode cc pc = .ok (.istore 12, 2)) (e : pc + 2 = pc') (hn : 12 < kN κ) (hp : c1 a11 = true) (k : G κ nm ad M pc' (a0 :: a1 :: a2 :: a3 :: a4 :: a5 :: a6 :: a7 :: a8 :: a9 :: a10 :: a11 :: some (.int x) :: rest) st cl sl) : G κ nm ad M pc (a0 :: a1 :: a2 :: a3 :: a4 :: a5 :: a6 :: a7 :: a8 :: a9 :: a10 :: a11 :: y :: rest) (.int x :: st) cl sl :=
  g_istore0 X d e hn (lv_pv (k := 11) rfl hp) k
theorem g_astore_12 (X : Cx κ cc own rm) {a0 a1 a2 a3 a4 a5 a6 a7 a8 a9 a10 a11 y : Option Value} {rest : List (Option Value)} {x : Nat} (d : decode cc pc = .ok (.astore 12, 2)) (e : pc + 2 = pc') (hn : 12 < kN κ) (hp : c1 a11 = true) (k : G κ nm ad M pc' (a0 :: a1 :: a2 :: a3 :: a4 :: a5 :: a6 :: a7 :: a8 :: a9 :: a10 :: a11 :: some (.ref x) :: rest) st cl sl) : G κ nm ad M pc (a0 :: a1 :: a2 :: a3 :: a4 :: a5 :: a6 :: a7 :: a8 :: a9 :: a10 :: a11 :: y :: rest) (.ref x :: st) cl sl :=
  g_astore0 X d e hn (lv_pv (k := 11) rfl hp) k
theorem g_iinc_12 (X : Cx κ cc own rm) {a0 a1 a2 a3 a4 a5 a6 a7 a8 a9 a10 a11 : Option Value} {rest : List (Option Value)} {n x : Int} (d : decode cc pc = .ok (.iinc 12 n, 3)) (e : pc + 3 = pc') (hn : 12 < kN κ) (hp : c1 a11 = true) (k : G κ nm ad M pc' (a0 :: a1 :: a2 :: a3 :: a4 :: a5 :: a6 :: a7 :: a8 :: a9 :: a10 :: a11 :: some (.int (iI (x + n))) :: rest) st cl sl) : G κ nm ad M pc (a0 :: a1 :: a2 :: a3 :: a4 :: a5 :: a6 :: a7 :: a8 :: a9 :: a10 :: a11 :: some (.int (iI x)) :: rest) st cl sl :=
  g_iinc0 X d e hn rfl (lv_pv (k := 11) rfl hp) k
theorem g_lstore_12 (X : Cx κ cc own rm) {a0 a1 a2 a3 a4 a5 a6 a7 a8 a9 a10 a11 y z : Option Value} {rest : List (Option Value)} {x : Int64} (d : decode cc pc = .ok (.lstore 12, 2)) (e : pc + 2 = pc') (hn : 12 + 1 < kN κ) (hp : c1 a11 = true) (k : G κ nm ad M pc' (a0 :: a1 :: a2 :: a3 :: a4 :: a5 :: a6 :: a7 :: a8 :: a9 :: a10 :: a11 :: some (.long x) :: none :: rest) st cl sl) : G κ nm ad M pc (a0 :: a1 :: a2 :: a3 :: a4 :: a5 :: a6 :: a7 :: a8 :: a9 :: a10 :: a11 :: y :: z :: rest) (.long x :: st) cl sl :=
  g_lstore0 X d e hn (lv_pv (k := 11) rfl hp) k
theorem g_drop_12 {a0 a1 a2 a3 a4 a5 a6 a7 a8 a9 a10 a11 y : Option Value} {rest : List (Option Value)} (k : G κ nm ad M pc (a0 :: a1 :: a2 :: a3 :: a4 :: a5 :: a6 :: a7 :: a8 :: a9 :: a10 :: a11 :: none :: rest) st cl sl) : G κ nm ad M pc (a0 :: a1 :: a2 :: a3 :: a4 :: a5 :: a6 :: a7 :: a8 :: a9 :: a10 :: a11 :: y :: rest) st cl sl := g_of (fun q v h => by
  rcases Nat.lt_trichotomy q 12 with h1 | h1 | h1
  · rw [← h]; match q, h1 with
    | 0, _ => rfl
    | 1, _ => rfl
    | 2, _ => rfl
    | 3, _ => rfl
    | 4, _ => rfl
    | 5, _ => rfl
    | 6, _ => rfl
    | 7, _ => rfl
    | 8, _ => rfl
    | 9, _ => rfl
    | 10, _ => rfl
    | 11, _ => rfl
  · subst h1; cases h
  · obtain ⟨q, rfl⟩ : ∃ z, q = 12 + 1 + z := ⟨q - 12 - 1, by omega⟩
    rw [show 12 + 1 + q = q + 13 by omega] at h ⊢; exact h) k
theorem g_istore_13 (X : Cx κ cc own rm) {a0 a1 a2 a3 a4 a5 a6 a7 a8 a9 a10 a11 a12 y : Option Value} {rest : List (Option Value)} {x : Int32} (d : decode cc pc = .ok (.istore 13, 2)) (e : pc + 2 = pc') (hn : 13 < kN κ) (hp : c1 a12 = true) (k : G κ nm ad M pc' (a0 :: a1 :: a2 :: a3 :: a4 :: a5 :: a6 :: a7 :: a8 :: a9 :: a10 :: a11 :: a12 :: some (.int x) :: rest) st cl sl) : G κ nm ad M pc (a0 :: a1 :: a2 :: a3 :: a4 :: a5 :: a6 :: a7 :: a8 :: a9 :: a10 :: a11 :: a12 :: y :: rest) (.int x :: st) cl sl :=
  g_istore0 X d e hn (lv_pv (k := 12) rfl hp) k
theorem g_astore_13 (X : Cx κ cc own rm) {a0 a1 a2 a3 a4 a5 a6 a7 a8 a9 a10 a11 a12 y : Option Value} {rest : List (Option Value)} {x : Nat} (d : decode cc pc = .ok (.astore 13, 2)) (e : pc + 2 = pc') (hn : 13 < kN κ) (hp : c1 a12 = true) (k : G κ nm ad M pc' (a0 :: a1 :: a2 :: a3 :: a4 :: a5 :: a6 :: a7 :: a8 :: a9 :: a10 :: a11 :: a12 :: some (.ref x) :: rest) st cl sl) : G κ nm ad M pc (a0 :: a1 :: a2 :: a3 :: a4 :: a5 :: a6 :: a7 :: a8 :: a9 :: a10 :: a11 :: a12 :: y :: rest) (.ref x :: st) cl sl :=
  g_astore0 X d e hn (lv_pv (k := 12) rfl hp) k
theorem g_iinc_13 (X : Cx κ cc own rm) {a0 a1 a2 a3 a4 a5 a6 a7 a8 a9 a10 a11 a12 : Option Value} {rest : List (Option Value)} {n x : Int} (d : decode cc pc = .ok (.iinc 13 n, 3)) (e : pc + 3 = pc') (hn : 13 < kN κ) (hp : c1 a12 = true) (k : G κ nm ad M pc' (a0 :: a1 :: a2 :: a3 :: a4 :: a5 :: a6 :: a7 :: a8 :: a9 :: a10 :: a11 :: a12 :: some (.int (iI (x + n))) :: rest) st cl sl) : G κ nm ad M pc (a0 :: a1 :: a2 :: a3 :: a4 :: a5 :: a6 :: a7 :: a8 :: a9 :: a10 :: a11 :: a12 :: some (.int (iI x)) :: rest) st cl sl :=
  g_iinc0 X d e hn rfl (lv_pv (k := 12) rfl hp) k
theorem g_lstore_13 (X : Cx κ cc own rm) {a0 a1 a2 a3 a4 a5 a6 a7 a8 a9 a10 a11 a12 y z : Option Value} {rest : List (Option Value)} {x : Int64} (d : decode cc pc = .ok (.lstore 13, 2)) (e : pc + 2 = pc') (hn : 13 + 1 < kN κ) (hp : c1 a12 = true) (k : G κ nm ad M pc' (a0 :: a1 :: a2 :: a3 :: a4 :: a5 :: a6 :: a7 :: a8 :: a9 :: a10 :: a11 :: a12 :: some (.long x) :: none :: rest) st cl sl) : G κ nm ad M pc (a0 :: a1 :: a2 :: a3 :: a4 :: a5 :: a6 :: a7 :: a8 :: a9 :: a10 :: a11 :: a12 :: y :: z :: rest) (.long x :: st) cl sl :=
  g_lstore0 X d e hn (lv_pv (k := 12) rfl hp) k
theorem g_drop_13 {a0 a1 a2 a3 a4 a5 a6 a7 a8 a9 a10 a11 a12 y : Option Value} {rest : List (Option Value)} (k : G κ nm ad M pc (a0 :: a1 :: a2 :: a3 :: a4 :: a5 :: a6 :: a7 :: a8 :: a9 :: a10 :: a11 :: a12 :: none :: rest) st cl sl) : G κ nm ad M pc (a0 :: a1 :: a2 :: a3 :: a4 :: a5 :: a6 :: a7 :: a8 :: a9 :: a10 :: a11 :: a12 :: y :: rest) st cl sl := g_of (fun q v h => by
  rcases Nat.lt_trichotomy q 13 with h1 | h1 | h1
  · rw [← h]; match q, h1 with
    | 0, _ => rfl
    | 1, _ => rfl
    | 2, _ => rfl
    | 3, _ => rfl
    | 4, _ => rfl
    | 5, _ => rfl
    | 6, _ => rfl
    | 7, _ => rfl
    | 8, _ => rfl
    | 9, _ => rfl
    | 10, _ => rfl
    | 11, _ => rfl
    | 12, _ => rfl
  · subst h1; cases h
  · obtain ⟨q, rfl⟩ : ∃ z, q = 13 + 1 + z := ⟨q - 13 - 1, by omega⟩
    rw [show 13 + 1 + q = q + 14 by omega] at h ⊢; exact h) k
theorem g_iadd (X : Cx κ cc own rm) {a b : Int} (d : decode cc pc = .ok (.iadd, 1)) (e : pc + 1 = pc') (k : G κ nm ad M pc' lv (.int (iI (a + b)) :: st) cl sl) : G κ nm ad M pc lv (.int (iI b) :: .int (iI a) :: st) cl sl := by
  subst e; intro hM H locs ls hP hD hS hl
  exact lv_iadd X.1 X.2.1 d (by rw [iI_add]; exact k hM H locs ls hP hD hS hl)
theorem g_isub (X : Cx κ cc own rm) {a b : Int} (d : decode cc pc = .ok (.isub, 1)) (e : pc + 1 = pc') (k : G κ nm ad M pc' lv (.int (iI (a - b)) :: st) cl sl) : G κ nm ad M pc lv (.int (iI b) :: .int (iI a) :: st) cl sl := by
  subst e; intro hM H locs ls hP hD hS hl
  exact lv_isub X.1 X.2.1 d (by rw [iI_sub]; exact k hM H locs ls hP hD hS hl)
theorem g_imul (X : Cx κ cc own rm) {a b : Int} (d : decode cc pc = .ok (.imul, 1)) (e : pc + 1 = pc') (k : G κ nm ad M pc' lv (.int (iI (a * b)) :: st) cl sl) : G κ nm ad M pc lv (.int (iI b) :: .int (iI a) :: st) cl sl := by
  subst e; intro hM H locs ls hP hD hS hl
  exact lv_imul X.1 X.2.1 d (by rw [iI_mul]; exact k hM H locs ls hP hD hS hl)
theorem g_ineg (X : Cx κ cc own rm) {a : Int} (d : decode cc pc = .ok (.ineg, 1)) (e : pc + 1 = pc') (k : G κ nm ad M pc' lv (.int (iI (-a)) :: st) cl sl) : G κ nm ad M pc lv (.int (iI a) :: st) cl sl := by
  subst e; intro hM H locs ls hP hD hS hl
  exact lv_ineg X.1 X.2.1 d (by rw [iI_neg]; exact k hM H locs ls hP hD hS hl)
theorem g_idiv (X : Cx κ cc own rm) {a b : Int} (ha : -2147483647 ≤ a ∧ a ≤ 2147483647) (hb : rng b) (h0 : b ≠ 0) (h1 : b ≠ -1) (d : decode cc pc = .ok (.idiv, 1)) (e : pc + 1 = pc') (k : G κ nm ad M pc' lv (.int (iI (a.tdiv b)) :: st) cl sl) : G κ nm ad M pc lv (.int (iI b) :: .int (iI a) :: st) cl sl := by
  subst e; intro hM H locs ls hP hD hS hl
  exact lv_idiv X.1 X.2.1 d (fun h => h0 ((iI_eq hb (by decide)).mp h)) (by rw [iI_div ha hb h0 h1]; exact k hM H locs ls hP hD hS hl)
theorem g_iand (X : Cx κ cc own rm) {a b z : Int} (hz : iI a &&& iI b = iI z) (d : decode cc pc = .ok (.iand, 1)) (e : pc + 1 = pc') (k : G κ nm ad M pc' lv (.int (iI z) :: st) cl sl) : G κ nm ad M pc lv (.int (iI b) :: .int (iI a) :: st) cl sl := by
  subst e; intro hM H locs ls hP hD hS hl
  exact lv_iand X.1 X.2.1 d (by rw [hz]; exact k hM H locs ls hP hD hS hl)
theorem g_ior (X : Cx κ cc own rm) {a b z : Int} (hz : iI a ||| iI b = iI z) (d : decode cc pc = .ok (.ior, 1)) (e : pc + 1 = pc') (k : G κ nm ad M pc' lv (.int (iI z) :: st) cl sl) : G κ nm ad M pc lv (.int (iI b) :: .int (iI a) :: st) cl sl := by
  subst e; intro hM H locs ls hP hD hS hl
  exact lv_ior X.1 X.2.1 d (by rw [hz]; exact k hM H locs ls hP hD hS hl)
theorem g_ixor (X : Cx κ cc own rm) {a b z : Int} (hz : iI a ^^^ iI b = iI z) (d : decode cc pc = .ok (.ixor, 1)) (e : pc + 1 = pc') (k : G κ nm ad M pc' lv (.int (iI z) :: st) cl sl) : G κ nm ad M pc lv (.int (iI b) :: .int (iI a) :: st) cl sl := by
  subst e; intro hM H locs ls hP hD hS hl
  exact lv_ixor X.1 X.2.1 d (by rw [hz]; exact k hM H locs ls hP hD hS hl)
theorem g_ishl (X : Cx κ cc own rm) {a b z : Int} (hz : iI a <<< (iI b &&& 31) = iI z) (d : decode cc pc = .ok (.ishl, 1)) (e : pc + 1 = pc') (k : G κ nm ad M pc' lv (.int (iI z) :: st) cl sl) : G κ nm ad M pc lv (.int (iI b) :: .int (iI a) :: st) cl sl := by
  subst e; intro hM H locs ls hP hD hS hl
  exact lv_ishl X.1 X.2.1 d (by rw [hz]; exact k hM H locs ls hP hD hS hl)
theorem g_ishr (X : Cx κ cc own rm) {a b z : Int} (hz : iI a >>> (iI b &&& 31) = iI z) (d : decode cc pc = .ok (.ishr, 1)) (e : pc + 1 = pc') (k : G κ nm ad M pc' lv (.int (iI z) :: st) cl sl) : G κ nm ad M pc lv (.int (iI b) :: .int (iI a) :: st) cl sl := by
  subst e; intro hM H locs ls hP hD hS hl
  exact lv_ishr X.1 X.2.1 d (by rw [hz]; exact k hM H locs ls hP hD hS hl)
theorem g_lmul (X : Cx κ cc own rm) {a b : Int64} (d : decode cc pc = .ok (.lmul, 1)) (e : pc + 1 = pc') (k : G κ nm ad M pc' lv (.long (a * b) :: st) cl sl) : G κ nm ad M pc lv (.long b :: .long a :: st) cl sl := by
  subst e; intro hM H locs ls hP hD hS hl
  exact lv_lmul X.1 X.2.1 d (k hM H locs ls hP hD hS hl)
theorem g_land (X : Cx κ cc own rm) {a b : Int64} (d : decode cc pc = .ok (.land, 1)) (e : pc + 1 = pc') (k : G κ nm ad M pc' lv (.long (a &&& b) :: st) cl sl) : G κ nm ad M pc lv (.long b :: .long a :: st) cl sl := by
  subst e; intro hM H locs ls hP hD hS hl
  exact lv_land X.1 X.2.1 d (k hM H locs ls hP hD hS hl)
theorem g_lor (X : Cx κ cc own rm) {a b : Int64} (d : decode cc pc = .ok (.lor, 1)) (e : pc + 1 = pc') (k : G κ nm ad M pc' lv (.long (a ||| b) :: st) cl sl) : G κ nm ad M pc lv (.long b :: .long a :: st) cl sl := by
  subst e; intro hM H locs ls hP hD hS hl
  exact lv_lor X.1 X.2.1 d (k hM H locs ls hP hD hS hl)
theorem g_lxor (X : Cx κ cc own rm) {a b : Int64} (d : decode cc pc = .ok (.lxor, 1)) (e : pc + 1 = pc') (k : G κ nm ad M pc' lv (.long (a ^^^ b) :: st) cl sl) : G κ nm ad M pc lv (.long b :: .long a :: st) cl sl := by
  subst e; intro hM H locs ls hP hD hS hl
  exact lv_lxor X.1 X.2.1 d (k hM H locs ls hP hD hS hl)
theorem g_lushr (X : Cx κ cc own rm) {a : Int64} {b : Int32} (d : decode cc pc = .ok (.lushr, 1)) (e : pc + 1 = pc') (k : G κ nm ad M pc' lv (.long ((a.toUInt64 >>> (b.toInt64.toUInt64 &&& Int64.toUInt64 63)).toInt64) :: st) cl sl) : G κ nm ad M pc lv (.int b :: .long a :: st) cl sl := by
  subst e; intro hM H locs ls hP hD hS hl
  exact lv_lushr X.1 X.2.1 d rfl (k hM H locs ls hP hD hS hl)
theorem g_lshl (X : Cx κ cc own rm) {a : Int64} {b : Int32} (d : decode cc pc = .ok (.lshl, 1)) (e : pc + 1 = pc') (k : G κ nm ad M pc' lv (.long (a <<< (b.toInt64 &&& 63)) :: st) cl sl) : G κ nm ad M pc lv (.int b :: .long a :: st) cl sl := by
  subst e; intro hM H locs ls hP hD hS hl
  exact lv_lshl X.1 X.2.1 d rfl (k hM H locs ls hP hD hS hl)
theorem g_i2l (X : Cx κ cc own rm) {a : Int32} (d : decode cc pc = .ok (.i2l, 1)) (e : pc + 1 = pc') (k : G κ nm ad M pc' lv (.long a.toInt64 :: st) cl sl) : G κ nm ad M pc lv (.int a :: st) cl sl := by
  subst e; intro hM H locs ls hP hD hS hl
  exact lv_i2l X.1 X.2.1 d rfl (k hM H locs ls hP hD hS hl)
theorem g_l2i (X : Cx κ cc own rm) {a : Int64} {z : Int} (hz : a.toInt32 = iI z) (d : decode cc pc = .ok (.l2i, 1)) (e : pc + 1 = pc') (k : G κ nm ad M pc' lv (.int (iI z) :: st) cl sl) : G κ nm ad M pc lv (.long a :: st) cl sl := by
  subst e; intro hM H locs ls hP hD hS hl
  exact lv_l2i X.1 X.2.1 d hz (k hM H locs ls hP hD hS hl)
theorem g_dup (X : Cx κ cc own rm) {v : Value} (hv : v.category = 1) (d : decode cc pc = .ok (.dup, 1)) (e : pc + 1 = pc') (k : G κ nm ad M pc' lv (v :: v :: st) cl sl) : G κ nm ad M pc lv (v :: st) cl sl := by
  subst e; intro hM H locs ls hP hD hS hl
  exact lv_dup X.1 X.2.1 d hv (k hM H locs ls hP hD hS hl)
theorem g_pop (X : Cx κ cc own rm) {v : Value} (hv : v.category = 1) (d : decode cc pc = .ok (.pop, 1)) (e : pc + 1 = pc') (k : G κ nm ad M pc' lv st cl sl) : G κ nm ad M pc lv (v :: st) cl sl := by
  subst e; intro hM H locs ls hP hD hS hl
  exact lv_pop X.1 X.2.1 d hv (k hM H locs ls hP hD hS hl)
theorem g_dup2 (X : Cx κ cc own rm) {v u : Value} (hv : v.category = 1) (hu : u.category = 1) (d : decode cc pc = .ok (.dup2, 1)) (e : pc + 1 = pc') (k : G κ nm ad M pc' lv (v :: u :: v :: u :: st) cl sl) : G κ nm ad M pc lv (v :: u :: st) cl sl := by
  subst e; intro hM H locs ls hP hD hS hl
  exact lv_dup2_11 X.1 X.2.1 d hv hu (k hM H locs ls hP hD hS hl)
theorem g_goto (X : Cx κ cc own rm) {off : Int} (d : decode cc pc = .ok (.goto off, 3)) (e : (pc : Int) + off = (pc' : Int)) (k : G κ nm ad M pc' lv st cl sl) : G κ nm ad M pc lv st cl sl := by
  intro hM H locs ls hP hD hS hl
  exact lv_goto X.1 X.2.1 d e (k hM H locs ls hP hD hS hl)
theorem g_icmp_eq (X : Cx κ cc own rm) {off : Int} {tgt : Nat} {a b : Int} (ra : rng a) (rb : rng b) (d : decode cc pc = .ok (.if_icmp .eq off, 3)) (et : (pc : Int) + off = (tgt : Int)) (e : pc + 3 = pc') (kt : a = b → G κ nm ad M tgt lv st cl sl) (kf : a ≠ b → G κ nm ad M pc' lv st cl sl) : G κ nm ad M pc lv (.int (iI b) :: .int (iI a) :: st) cl sl := by
  subst e; intro hM H locs ls hP hD hS hl
  exact lv_icmp_eq X.1 X.2.1 d et (fun h => kt ((iI_eq ra rb).mp h) hM H locs ls hP hD hS hl) (fun h => kf (fun q => h ((iI_eq ra rb).mpr q)) hM H locs ls hP hD hS hl)
theorem g_icmp_ne (X : Cx κ cc own rm) {off : Int} {tgt : Nat} {a b : Int} (ra : rng a) (rb : rng b) (d : decode cc pc = .ok (.if_icmp .ne off, 3)) (et : (pc : Int) + off = (tgt : Int)) (e : pc + 3 = pc') (kt : a ≠ b → G κ nm ad M tgt lv st cl sl) (kf : a = b → G κ nm ad M pc' lv st cl sl) : G κ nm ad M pc lv (.int (iI b) :: .int (iI a) :: st) cl sl := by
  subst e; intro hM H locs ls hP hD hS hl
  exact lv_icmp_ne X.1 X.2.1 d et (fun h => kt (fun q => h ((iI_eq ra rb).mpr q)) hM H locs ls hP hD hS hl) (fun h => kf ((iI_eq ra rb).mp h) hM H locs ls hP hD hS hl)
theorem g_icmp_lt (X : Cx κ cc own rm) {off : Int} {tgt : Nat} {a b : Int} (ra : rng a) (rb : rng b) (d : decode cc pc = .ok (.if_icmp .lt off, 3)) (et : (pc : Int) + off = (tgt : Int)) (e : pc + 3 = pc') (kt : a < b → G κ nm ad M tgt lv st cl sl) (kf : b ≤ a → G κ nm ad M pc' lv st cl sl) : G κ nm ad M pc lv (.int (iI b) :: .int (iI a) :: st) cl sl := by
  subst e; intro hM H locs ls hP hD hS hl
  exact lv_icmp_lt X.1 X.2.1 d et (fun h => kt ((iI_lt ra rb).mp h) hM H locs ls hP hD hS hl) (fun h => kf (Int.not_lt.mp fun q => h ((iI_lt ra rb).mpr q)) hM H locs ls hP hD hS hl)
theorem g_icmp_ge (X : Cx κ cc own rm) {off : Int} {tgt : Nat} {a b : Int} (ra : rng a) (rb : rng b) (d : decode cc pc = .ok (.if_icmp .ge off, 3)) (et : (pc : Int) + off = (tgt : Int)) (e : pc + 3 = pc') (kt : b ≤ a → G κ nm ad M tgt lv st cl sl) (kf : a < b → G κ nm ad M pc' lv st cl sl) : G κ nm ad M pc lv (.int (iI b) :: .int (iI a) :: st) cl sl := by
  subst e; intro hM H locs ls hP hD hS hl
  exact lv_icmp_ge X.1 X.2.1 d et (fun h => kt ((iI_le rb ra).mp h) hM H locs ls hP hD hS hl) (fun h => kf (Int.not_le.mp fun q => h ((iI_le rb ra).mpr q)) hM H locs ls hP hD hS hl)
theorem g_icmp_gt (X : Cx κ cc own rm) {off : Int} {tgt : Nat} {a b : Int} (ra : rng a) (rb : rng b) (d : decode cc pc = .ok (.if_icmp .gt off, 3)) (et : (pc : Int) + off = (tgt : Int)) (e : pc + 3 = pc') (kt : b < a → G κ nm ad M tgt lv st cl sl) (kf : a ≤ b → G κ nm ad M pc' lv st cl sl) : G κ nm ad M pc lv (.int (iI b) :: .int (iI a) :: st) cl sl := by
  subst e; intro hM H locs ls hP hD hS hl
  exact lv_icmp_gt X.1 X.2.1 d et (fun h => kt ((iI_lt rb ra).mp h) hM H locs ls hP hD hS hl) (fun h => kf (Int.not_lt.mp fun q => h ((iI_lt rb ra).mpr q)) hM H locs ls hP hD hS hl)
theorem g_icmp_le (X : Cx κ cc own rm) {off : Int} {tgt : Nat} {a b : Int} (ra : rng a) (rb : rng b) (d : decode cc pc = .ok (.if_icmp .le off, 3)) (et : (pc : Int) + off = (tgt : Int)) (e : pc + 3 = pc') (kt : a ≤ b → G κ nm ad M tgt lv st cl sl) (kf : b < a → G κ nm ad M pc' lv st cl sl) : G κ nm ad M pc lv (.int (iI b) :: .int (iI a) :: st) cl sl := by
  subst e; intro hM H locs ls hP hD hS hl
  exact lv_icmp_le X.1 X.2.1 d et (fun h => kt ((iI_le ra rb).mp h) hM H locs ls hP hD hS hl) (fun h => kf (Int.not_le.mp fun q => h ((iI_le ra rb).mpr q)) hM H locs ls hP hD hS hl)
theorem g_if_eq (X : Cx κ cc own rm) {off : Int} {tgt : Nat} {a : Int} (ra : rng a) (d : decode cc pc = .ok (.ifCond .eq off, 3)) (et : (pc : Int) + off = (tgt : Int)) (e : pc + 3 = pc') (kt : a = 0 → G κ nm ad M tgt lv st cl sl) (kf : a ≠ 0 → G κ nm ad M pc' lv st cl sl) : G κ nm ad M pc lv (.int (iI a) :: st) cl sl := by
  subst e; intro hM H locs ls hP hD hS hl
  exact lv_if_eq X.1 X.2.1 d et (fun h => kt ((iI_eq ra (by decide : rng 0)).mp h) hM H locs ls hP hD hS hl) (fun h => kf (fun q => h ((iI_eq ra (by decide : rng 0)).mpr q)) hM H locs ls hP hD hS hl)
theorem g_if_ne (X : Cx κ cc own rm) {off : Int} {tgt : Nat} {a : Int} (ra : rng a) (d : decode cc pc = .ok (.ifCond .ne off, 3)) (et : (pc : Int) + off = (tgt : Int)) (e : pc + 3 = pc') (kt : a ≠ 0 → G κ nm ad M tgt lv st cl sl) (kf : a = 0 → G κ nm ad M pc' lv st cl sl) : G κ nm ad M pc lv (.int (iI a) :: st) cl sl := by
  subst e; intro hM H locs ls hP hD hS hl
  exact lv_if_ne X.1 X.2.1 d et (fun h => kt (fun q => h ((iI_eq ra (by decide : rng 0)).mpr q)) hM H locs ls hP hD hS hl) (fun h => kf ((iI_eq ra (by decide : rng 0)).mp h) hM H locs ls hP hD hS hl)
theorem g_if_lt (X : Cx κ cc own rm) {off : Int} {tgt : Nat} {a : Int} (ra : rng a) (d : decode cc pc = .ok (.ifCond .lt off, 3)) (et : (pc : Int) + off = (tgt : Int)) (e : pc + 3 = pc') (kt : a < 0 → G κ nm ad M tgt lv st cl sl) (kf : 0 ≤ a → G κ nm ad M pc' lv st cl sl) : G κ nm ad M pc lv (.int (iI a) :: st) cl sl := by
  subst e; intro hM H locs ls hP hD hS hl
  exact lv_if_lt X.1 X.2.1 d et (fun h => kt ((iI_lt ra (by decide : rng 0)).mp h) hM H locs ls hP hD hS hl) (fun h => kf (Int.not_lt.mp fun q => h ((iI_lt ra (by decide : rng 0)).mpr q)) hM H locs ls hP hD hS hl)
theorem g_if_ge (X : Cx κ cc own rm) {off : Int} {tgt : Nat} {a : Int} (ra : rng a) (d : decode cc pc = .ok (.ifCond .ge off, 3)) (et : (pc : Int) + off = (tgt : Int)) (e : pc + 3 = pc') (kt : 0 ≤ a → G κ nm ad M tgt lv st cl sl) (kf : a < 0 → G κ nm ad M pc' lv st cl sl) : G κ nm ad M pc lv (.int (iI a) :: st) cl sl := by
  subst e; intro hM H locs ls hP hD hS hl
  exact lv_if_ge X.1 X.2.1 d et (fun h => kt ((iI_le (by decide : rng 0) ra).mp h) hM H locs ls hP hD hS hl) (fun h => kf (Int.not_le.mp fun q => h ((iI_le (by decide : rng 0) ra).mpr q)) hM H locs ls hP hD hS hl)
theorem g_if_gt (X : Cx κ cc own rm) {off : Int} {tgt : Nat} {a : Int} (ra : rng a) (d : decode cc pc = .ok (.ifCond .gt off, 3)) (et : (pc : Int) + off = (tgt : Int)) (e : pc + 3 = pc') (kt : 0 < a → G κ nm ad M tgt lv st cl sl) (kf : a ≤ 0 → G κ nm ad M pc' lv st cl sl) : G κ nm ad M pc lv (.int (iI a) :: st) cl sl := by
  subst e; intro hM H locs ls hP hD hS hl
  exact lv_if_gt X.1 X.2.1 d et (fun h => kt ((iI_lt (by decide : rng 0) ra).mp h) hM H locs ls hP hD hS hl) (fun h => kf (Int.not_lt.mp fun q => h ((iI_lt (by decide : rng 0) ra).mpr q)) hM H locs ls hP hD hS hl)
theorem g_if_le (X : Cx κ cc own rm) {off : Int} {tgt : Nat} {a : Int} (ra : rng a) (d : decode cc pc = .ok (.ifCond .le off, 3)) (et : (pc : Int) + off = (tgt : Int)) (e : pc + 3 = pc') (kt : a ≤ 0 → G κ nm ad M tgt lv st cl sl) (kf : 0 < a → G κ nm ad M pc' lv st cl sl) : G κ nm ad M pc lv (.int (iI a) :: st) cl sl := by
  subst e; intro hM H locs ls hP hD hS hl
  exact lv_if_le X.1 X.2.1 d et (fun h => kt ((iI_le ra (by decide : rng 0)).mp h) hM H locs ls hP hD hS hl) (fun h => kf (Int.not_le.mp fun q => h ((iI_le ra (by decide : rng 0)).mpr q)) hM H locs ls hP hD hS hl)
theorem g_ifB_eq (X : Cx κ cc own rm) {off : Int} {tgt : Nat} {P : Prop} {iP : Decidable P} (d : decode cc pc = .ok (.ifCond .eq off, 3)) (et : (pc : Int) + off = (tgt : Int)) (e : pc + 3 = pc') (kt : ¬ P → G κ nm ad M tgt lv st cl sl) (kf : P → G κ nm ad M pc' lv st cl sl) : G κ nm ad M pc lv (.int (iI (bI P)) :: st) cl sl :=
  g_if_eq X (bI_rng P) d et e (fun h => kt (fun q => by rw [bI_t q] at h; cases h)) (fun h => kf (Classical.byContradiction fun q => h (bI_f q)))
theorem g_ifB_ne (X : Cx κ cc own rm) {off : Int} {tgt : Nat} {P : Prop} {iP : Decidable P} (d : decode cc pc = .ok (.ifCond .ne off, 3)) (et : (pc : Int) + off = (tgt : Int)) (e : pc + 3 = pc') (kt : P → G κ nm ad M tgt lv st cl sl) (kf : ¬ P → G κ nm ad M pc' lv st cl sl) : G κ nm ad M pc lv (.int (iI (bI P)) :: st) cl sl :=
  g_if_ne X (bI_rng P) d et e (fun h => kt (Classical.byContradiction fun q => h (bI_f q))) (fun h => kf (fun q => by rw [bI_t q] at h; cases h))
theorem g_cut {v : Value} (j : Nat) (a : (v : Value) → Prop) (k1 : ∀ u, a u → G κ nm ad M j lv (u :: st) cl sl) (k2 : (∀ u, a u → G κ nm ad M j lv (u :: st) cl sl) → G κ nm ad M pc lv st cl sl) : G κ nm ad M pc lv st cl sl := k2 k1
theorem g_cutB (j : Nat) (P : Prop) [Decidable P] (k2 : (P → G κ nm ad M j lv (.int (iI 1) :: st) cl sl) → (¬ P → G κ nm ad M j lv (.int (iI 0) :: st) cl sl) → G κ nm ad M pc lv st cl sl) (k1 : G κ nm ad M j lv (.int (iI (bI P)) :: st) cl sl) : G κ nm ad M pc lv st cl sl := k2 (fun h => by rw [bI_t h] at k1; exact k1) (fun h => by rw [bI_f h] at k1; exact k1)
theorem g_cutI (j : Nat) (z : Int) (k2 : (∀ y, y = z → G κ nm ad M j lv (.int (iI y) :: st) cl sl) → G κ nm ad M pc lv st cl sl) (k1 : G κ nm ad M j lv (.int (iI z) :: st) cl sl) : G κ nm ad M pc lv st cl sl := k2 (fun y h => by rw [h]; exact k1)
theorem g_int {a b : Int} (h : a = b) (k : G κ nm ad M pc lv (.int (iI b) :: st) cl sl) : G κ nm ad M pc lv (.int (iI a) :: st) cl sl := by rw [h]; exact k
end GR
end
section
/-- a class of the world by its number: its words, its fields' types -/
def CI (ci : Nat) (C : String) (T : u_T) (N : Nat) (ty : Nat → FieldType) : Prop := vwCl[ci]? = some (C, T, N) ∧ (∀ w ∈ u_ws C T N, w ∈ Tb) ∧ (∀ k, k < N → parseFieldDescriptor (T k).2.2.1 = some (ty k)) ∧ (∀ a, a < N → ∀ b, b < N → a ≠ b → (T a).2.1 ≠ (T b).2.1)
theorem Tb_all {ws : List Cond} (h : ws.all (fun w => decide (w ∈ lw_tbl) && goodWord w) = true) : ∀ w ∈ ws, w ∈ Tb := fun w hw => by
  have h1 := List.all_eq_true.mp h w hw
  simp only [Bool.and_eq_true, decide_eq_true_eq] at h1
  exact Tb_of h1.1 h1.2
theorem ci0 : CI 0 RX0 TX0 4 tyX0 := ⟨rfl, Tb_all (by decide +kernel), tyX0_ok, nmX0⟩
theorem ci1 : CI 1 RX1 TX1 1 tyX1 := ⟨rfl, Tb_all (by decide +kernel), tyX1_ok, nmX1⟩
theorem ci2 : CI 2 RX2 TX2 4 tyX2 := ⟨rfl, Tb_all (by decide +kernel), tyX2_ok, nmX2⟩
theorem ci3 : CI 3 RX3 TX3 8 tyX3 := ⟨rfl, Tb_all (by decide +kernel), tyX3_ok, nmX3⟩
theorem ci4 : CI 4 RX4 TX4 0 tyX4 := ⟨rfl, Tb_all (by decide +kernel), tyX4_ok, nmX4⟩
theorem ci5 : CI 5 RX5 TX5 0 tyX5 := ⟨rfl, Tb_all (by decide +kernel), tyX5_ok, nmX5⟩
theorem ci6 : CI 6 RX6 TX6 1 tyX6 := ⟨rfl, Tb_all (by decide +kernel), tyX6_ok, nmX6⟩
theorem ci7 : CI 7 RX7 TX7 0 tyX7 := ⟨rfl, Tb_all (by decide +kernel), tyX7_ok, nmX7⟩
theorem ci8 : CI 8 RX8 TX8 15 tyX8 := ⟨rfl, Tb_all (by decide +kernel), tyX8_ok, nmX8⟩
theorem ci9 : CI 9 RX9 TX9 4 tyX9 := ⟨rfl, Tb_all (by decide +kernel), tyX9_ok, nmX9⟩
theorem ci10 : CI 10 RX10 TX10 14 tyX10 := ⟨rfl, Tb_all (by decide +kernel), tyX10_ok, nmX10⟩
theorem ci11 : CI 11 RX11 TX11 10 tyX11 := ⟨rfl, Tb_all (by decide +kernel), tyX11_ok, nmX11⟩
theorem ci12 : CI 12 RX12 TX12 49 tyX12 := ⟨rfl, Tb_all (by decide +kernel), tyX12_ok, nmX12⟩
section GH
variable {κ : Kx} {cc : ByteArray} {own : String} {rm : Room} {nm : List (Nat × Int)} {ad : Ad} {M : Mem} {pc pc' : Nat} {lv : List (Option Value)} {st : List Value} {cl sl : Nat}
theorem g_get (X : Cx κ cc own rm) {k ci N f ix : Nat} {i : Int} {C : String} {T : u_T} {ty : Nat → FieldType} {fs : List Value} {v : Value} (c : CI ci C T N ty) (hn : (k, i) ∈ nm) (he : ent (kC κ) ad M k i = .inr (ci, fs)) (hk : f < N) (hlk : Cond.fieldLink own ix (T f).1 (T f).2.1 (T f).2.2.1 ∈ Tb) (hv : fs[f]? = some v) (d : decode cc pc = .ok (.getfield ix, 3)) (e : pc + 3 = pc') (k1 : G κ nm ad M pc' lv (v :: st) cl sl) : G κ nm ad M pc lv (.ref (ad k i) :: st) cl sl := by
  subst e; intro hM H locs ls hP hD hS hl
  obtain ⟨q0, h0, h1⟩ := wl_get (c := kC κ) (ad := ad) (M := M) hn
  rw [he] at h1
  exact va_get X.1 X.2.1 X.2.2.2.2.1 c.2.1 X.2.2.2.1 X.2.2.2.2.2.1 hP q0 h1 c.1 f hk (X.2.2.2.2.1 _ hlk) (fun _ h => h) hv d (k1 hM H locs ls hP hD hS hl)
theorem g_getI (X : Cx κ cc own rm) {k ci N f ix : Nat} {i : Int} {C : String} {T : u_T} {ty : Nat → FieldType} {fs : List Value} (c : CI ci C T N ty) (hn : (k, i) ∈ nm) (he : ent (kC κ) ad M k i = .inr (ci, fs)) (hk : f < N) (hlk : Cond.fieldLink own ix (T f).1 (T f).2.1 (T f).2.2.1 ∈ Tb) (hv : fs[f]? = some (.int (iI (M.1 k f i 0)))) (d : decode cc pc = .ok (.getfield ix, 3)) (e : pc + 3 = pc') (k1 : rng (M.1 k f i 0) → G κ nm ad M pc' lv (.int (iI (M.1 k f i 0)) :: st) cl sl) : G κ nm ad M pc lv (.ref (ad k i) :: st) cl sl := by
  intro hM
  exact g_get X c hn he hk hlk hv d e (k1 (hM _ _ _ _)) hM
theorem g_put_ (X : Cx κ cc own rm) {k ci N f ix : Nat} {i : Int} {C : String} {T : u_T} {ty : Nat → FieldType} {fs : List Value} {v : Value} {M' : Mem} (c : CI ci C T N ty) (hn : (k, i) ∈ nm) (he : ent (kC κ) ad M k i = .inr (ci, fs)) (hu : ent (kC κ) ad M' k i = .inr (ci, fs.set f v)) (ho : ∀ k' i', (k', i') ≠ (k, i) → ent (kC κ) ad M' k' i' = ent (kC κ) ad M k' i') (hRM : RM M → RM M') (hk : f < N) (hfin : (T f).2.2.2 = false) (hnr : narrow (ty f) v = v) (hft : fits (ty f) v = true) (hlen : f < fs.length) (hlk : Cond.fieldLink own ix (T f).1 (T f).2.1 (T f).2.2.1 ∈ Tb) (d : decode cc pc = .ok (.putfield ix, 3)) (e : pc + 3 = pc') (k1 : G κ nm ad M' pc' lv st cl sl) : G κ nm ad M pc lv (v :: .ref (ad k i) :: st) cl sl := by
  subst e; intro hM H locs ls hP hD hS hl
  obtain ⟨q0, h0, h1⟩ := wl_get (c := kC κ) (ad := ad) (M := M) hn
  rw [he] at h1
  refine va_put X.1 X.2.1 X.2.2.2.2.1 c.2.1 ty c.2.2.1 c.2.2.2 X.2.2.2.1 X.2.2.2.2.2.1 hP hD hS q0 h1 c.1 f hk (X.2.2.2.2.1 _ hlk) (fun _ h => h) hfin (c.2.2.1 f hk) hnr hft hlen d (fun H1 locs1 hP1 hD1 hS1 => ?_)
  rw [wl_set hD h0 hu ho] at hP1 hD1
  exact k1 (hRM hM) H1 locs1 ls hP1 hD1 hS1 hl
theorem g_putI (X : Cx κ cc own rm) {k ci N f ix : Nat} {i z : Int} {C : String} {T : u_T} {ty : Nat → FieldType} {fs : List Value} (c : CI ci C T N ty) (hn : (k, i) ∈ nm) (he : ent (kC κ) ad M k i = .inr (ci, fs)) (hu : ent (kC κ) ad (setI M k f i 0 z) k i = .inr (ci, fs.set f (.int (iI z)))) (hz : rng z) (hk : f < N) (hfin : (T f).2.2.2 = false) (hnr : narrow (ty f) (.int (iI z)) = .int (iI z)) (hft : fits (ty f) (.int (iI z)) = true) (hlen : f < fs.length) (hlk : Cond.fieldLink own ix (T f).1 (T f).2.1 (T f).2.2.1 ∈ Tb) (d : decode cc pc = .ok (.putfield ix, 3)) (e : pc + 3 = pc') (k1 : G κ nm ad (setI M k f i 0 z) pc' lv st cl sl) : G κ nm ad M pc lv (.int (iI z) :: .ref (ad k i) :: st) cl sl :=
  g_put_ X c hn he hu ent_setI_ne (fun h => RM_setI h hz) hk hfin hnr hft hlen hlk d e k1
theorem g_putL (X : Cx κ cc own rm) {k ci N f ix : Nat} {i : Int} {z : Int64} {C : String} {T : u_T} {ty : Nat → FieldType} {fs : List Value} (c : CI ci C T N ty) (hn : (k, i) ∈ nm) (he : ent (kC κ) ad M k i = .inr (ci, fs)) (hu : ent (kC κ) ad (setL M k f i 0 z) k i = .inr (ci, fs.set f (.long z))) (hk : f < N) (hfin : (T f).2.2.2 = false) (hnr : narrow (ty f) (.long z) = .long z) (hft : fits (ty f) (.long z) = true) (hlen : f < fs.length) (hlk : Cond.fieldLink own ix (T f).1 (T f).2.1 (T f).2.2.1 ∈ Tb) (d : decode cc pc = .ok (.putfield ix, 3)) (e : pc + 3 = pc') (k1 : G κ nm ad (setL M k f i 0 z) pc' lv st cl sl) : G κ nm ad M pc lv (.long z :: .ref (ad k i) :: st) cl sl :=
  g_put_ X c hn he hu ent_setL_ne (fun h => RM_setL h) hk hfin hnr hft hlen hlk d e k1
theorem nar01 {z : Int} (h : z = 0 ∨ z = 1) : narrow .boolean (.int (iI z)) = .int (iI z) := by rcases h with h | h <;> rw [h] <;> decide
theorem fit01 {z : Int} (h : z = 0 ∨ z = 1) : fits .boolean (.int (iI z)) = true := by rcases h with h | h <;> rw [h] <;> decide
theorem vnar01 {z : Int} (h : z = 0 ∨ z = 1) : vp_nar .boolean (iI z) = iI z := by rcases h with h | h <;> rw [h] <;> decide
theorem g_iald (X : Cx κ cc own rm) {k n t0 : Nat} {i z : Int} {cA : ClassId} (hn : (k, i) ∈ nm) (he : ent (kC κ) ad M k i = .inl (cA, n, .inl (fun j : Nat => iI (M.1 k 0 i (j : Int))))) (ht : (tysO (kC κ))[t0]? = some (cA, .int)) (h0 : 0 ≤ z) (h1 : z < (n : Int)) (h2 : n ≤ 2147483647) (d : decode cc pc = .ok (.iaload, 1)) (e : pc + 1 = pc') (k1 : rng (M.1 k 0 i z) → G κ nm ad M pc' lv (.int (iI (M.1 k 0 i z)) :: st) cl sl) : G κ nm ad M pc lv (.int (iI z) :: .ref (ad k i) :: st) cl sl := by
  subst e; intro hM H locs ls hP hD hS hl
  obtain ⟨q0, h3, h4⟩ := wl_get (c := kC κ) (ad := ad) (M := M) hn
  rw [he] at h4
  refine va_iald X.1 X.2.1 X.2.2.2.2.2.1 hP q0 t0 h4 ht (iI_in h0 h1 h2) d ?_
  rw [iI_cl h0 (by omega)]
  try dsimp only
  rw [Int.toNat_of_nonneg h0]
  exact k1 (hM _ _ _ _) hM H locs ls hP hD hS hl
theorem g_zald (X : Cx κ cc own rm) {k n t0 : Nat} {i z : Int} {cA : ClassId} (hn : (k, i) ∈ nm) (he : ent (kC κ) ad M k i = .inl (cA, n, .inl (fun j : Nat => iI (M.1 k 0 i (j : Int))))) (ht : (tysO (kC κ))[t0]? = some (cA, .boolean)) (h0 : 0 ≤ z) (h1 : z < (n : Int)) (h2 : n ≤ 2147483647) (d : decode cc pc = .ok (.baload, 1)) (e : pc + 1 = pc') (k1 : rng (M.1 k 0 i z) → G κ nm ad M pc' lv (.int (iI (M.1 k 0 i z)) :: st) cl sl) : G κ nm ad M pc lv (.int (iI z) :: .ref (ad k i) :: st) cl sl := by
  subst e; intro hM H locs ls hP hD hS hl
  obtain ⟨q0, h3, h4⟩ := wl_get (c := kC κ) (ad := ad) (M := M) hn
  rw [he] at h4
  refine va_zald X.1 X.2.1 X.2.2.2.2.2.1 hP q0 t0 h4 ht (iI_in h0 h1 h2) d ?_
  rw [iI_cl h0 (by omega)]
  try dsimp only
  rw [Int.toNat_of_nonneg h0]
  exact k1 (hM _ _ _ _) hM H locs ls hP hD hS hl
theorem g_lald (X : Cx κ cc own rm) {k n t0 : Nat} {i z : Int} {cA : ClassId} (hn : (k, i) ∈ nm) (he : ent (kC κ) ad M k i = .inl (cA, n, .inr (.inl (fun j : Nat => M.2 k 0 i (j : Int))))) (ht : (tysO (kC κ))[t0]? = some (cA, .long)) (h0 : 0 ≤ z) (h1 : z < (n : Int)) (h2 : n ≤ 2147483647) (d : decode cc pc = .ok (.laload, 1)) (e : pc + 1 = pc') (k1 : G κ nm ad M pc' lv (.long (M.2 k 0 i z) :: st) cl sl) : G κ nm ad M pc lv (.int (iI z) :: .ref (ad k i) :: st) cl sl := by
  subst e; intro hM H locs ls hP hD hS hl
  obtain ⟨q0, h3, h4⟩ := wl_get (c := kC κ) (ad := ad) (M := M) hn
  rw [he] at h4
  refine va_lald X.1 X.2.1 X.2.2.2.2.2.1 hP q0 t0 h4 ht (iI_in h0 h1 h2) d ?_
  rw [iI_cl h0 (by omega)]
  try dsimp only
  rw [Int.toNat_of_nonneg h0]
  exact k1 hM H locs ls hP hD hS hl
theorem g_dald (X : Cx κ cc own rm) {k n t0 : Nat} {i z : Int} {cA : ClassId} (hn : (k, i) ∈ nm) (he : ent (kC κ) ad M k i = .inl (cA, n, .inr (.inr (.inr (.inl (fun j : Nat => (M.2 k 0 i (j : Int)).toUInt64)))))) (ht : (tysO (kC κ))[t0]? = some (cA, .double)) (h0 : 0 ≤ z) (h1 : z < (n : Int)) (h2 : n ≤ 2147483647) (d : decode cc pc = .ok (.daload, 1)) (e : pc + 1 = pc') (k1 : G κ nm ad M pc' lv (.double (M.2 k 0 i z).toUInt64 :: st) cl sl) : G κ nm ad M pc lv (.int (iI z) :: .ref (ad k i) :: st) cl sl := by
  subst e; intro hM H locs ls hP hD hS hl
  obtain ⟨q0, h3, h4⟩ := wl_get (c := kC κ) (ad := ad) (M := M) hn
  rw [he] at h4
  refine va_dald X.1 X.2.1 X.2.2.2.2.2.1 hP q0 t0 h4 ht (iI_in h0 h1 h2) d ?_
  rw [iI_cl h0 (by omega)]
  try dsimp only
  rw [Int.toNat_of_nonneg h0]
  exact k1 hM H locs ls hP hD hS hl
theorem g_rald (X : Cx κ cc own rm) {k k2 n t0 : Nat} {i z : Int} {cA : ClassId} {C : String} (hn : (k, i) ∈ nm) (he : ent (kC κ) ad M k i = .inl (cA, n, .inr (.inr (.inr (.inr (fun j : Nat => some (ad k2 (j : Int)))))))) (ht : (tysO (kC κ))[t0]? = some (cA, .object C)) (h0 : 0 ≤ z) (h1 : z < (n : Int)) (h2 : n ≤ 2147483647) (d : decode cc pc = .ok (.aaload, 1)) (e : pc + 1 = pc') (k1 : G κ nm ad M pc' lv (.ref (ad k2 z) :: st) cl sl) : G κ nm ad M pc lv (.int (iI z) :: .ref (ad k i) :: st) cl sl := by
  subst e; intro hM H locs ls hP hD hS hl
  obtain ⟨q0, h3, h4⟩ := wl_get (c := kC κ) (ad := ad) (M := M) hn
  rw [he] at h4
  refine va_aldq X.1 X.2.1 X.2.2.2.2.2.1 hP q0 t0 h4 ht (iI_in h0 h1 h2) d ?_
  rw [iI_cl h0 (by omega)]
  try dsimp only
  rw [Int.toNat_of_nonneg h0]
  exact k1 hM H locs ls hP hD hS hl
theorem g_rrald (X : Cx κ cc own rm) {k k2 n t0 : Nat} {i z : Int} {cA : ClassId} (hn : (k, i) ∈ nm) (he : ent (kC κ) ad M k i = .inl (cA, n, .inr (.inr (.inr (.inr (fun j : Nat => some (ad k2 (j : Int)))))))) (ht : (tysO (kC κ))[t0]? = some (cA, .array .int)) (h0 : 0 ≤ z) (h1 : z < (n : Int)) (h2 : n ≤ 2147483647) (d : decode cc pc = .ok (.aaload, 1)) (e : pc + 1 = pc') (k1 : G κ nm ad M pc' lv (.ref (ad k2 z) :: st) cl sl) : G κ nm ad M pc lv (.int (iI z) :: .ref (ad k i) :: st) cl sl := by
  subst e; intro hM H locs ls hP hD hS hl
  obtain ⟨q0, h3, h4⟩ := wl_get (c := kC κ) (ad := ad) (M := M) hn
  rw [he] at h4
  have hin := iI_in h0 h1 h2
  have hlt : (iI z).toNatClampNeg < n := Nat.not_le.mp fun q => hin (Or.inr q)
  refine W.aald (v := .ref (ad k2 z)) (ty := .array .int) X.1 X.2.1 (hP q0 _ h4) ((X.2.2.2.2.2.1.2 t0 _ ht).1 n (fun j => va_rf (some (ad k2 (j : Int))))) rfl (fun q => by cases q) (by show ¬ (iI z < 0 ∨ (arrV _ _ _).slots.size ≤ _); rw [arrV_size]; exact hin) (by show (arrV _ _ _).slots[_]? = _; rw [arrV_read _ _ hlt, iI_cl h0 (by omega)]; show some (va_rf (some (ad k2 ((z.toNat : Nat) : Int)))) = _; rw [Int.toNat_of_nonneg h0]; rfl) rfl rfl d (k1 hM H locs ls hP hD hS hl)
theorem updI {M : Mem} {k : Nat} {i z v : Int} (h0 : 0 ≤ z) : upd (fun j : Nat => iI (M.1 k 0 i (j : Int))) z.toNat (iI v) = (fun j : Nat => iI ((setI M k 0 i z v).1 k 0 i (j : Int))) := by
  funext j
  unfold upd
  rw [setI_1]
  by_cases h : j = z.toNat
  · rw [if_pos h, if_pos ⟨rfl, rfl, rfl, by omega⟩]
  · rw [if_neg h, if_neg (fun q => h (by have := q.2.2.2; omega))]
theorem updL {M : Mem} {k : Nat} {i z : Int} {v : Int64} (h0 : 0 ≤ z) : vp_updL (fun j : Nat => M.2 k 0 i (j : Int)) z.toNat v = (fun j : Nat => (setL M k 0 i z v).2 k 0 i (j : Int)) := by
  funext j
  unfold vp_updL
  rw [setL_2]
  by_cases h : j = z.toNat
  · rw [if_pos h, if_pos ⟨rfl, rfl, rfl, by omega⟩]
  · rw [if_neg h, if_neg (fun q => h (by have := q.2.2.2; omega))]
theorem updD {M : Mem} {k : Nat} {i z : Int} {v : UInt64} (h0 : 0 ≤ z) : vf_upd (fun j : Nat => (M.2 k 0 i (j : Int)).toUInt64) z.toNat v = (fun j : Nat => ((setL M k 0 i z v.toInt64).2 k 0 i (j : Int)).toUInt64) := by
  funext j
  unfold vf_upd
  rw [setL_2]
  by_cases h : j = z.toNat
  · rw [if_pos h, if_pos ⟨rfl, rfl, rfl, by omega⟩]; rfl
  · rw [if_neg h, if_neg (fun q => h (by have := q.2.2.2; omega))]
theorem g_iast (X : Cx κ cc own rm) {k n t0 : Nat} {i z : Int} {v : Int} {cA : ClassId} (hn : (k, i) ∈ nm) (he : ∀ M : Mem, ent (kC κ) ad M k i = .inl (cA, n, .inl (fun j : Nat => iI (M.1 k 0 i (j : Int))))) (ht : (tysO (kC κ))[t0]? = some (cA, .int)) (h0 : 0 ≤ z) (h1 : z < (n : Int)) (h2 : n ≤ 2147483647) (hv : rng v) (d : decode cc pc = .ok (.iastore, 1)) (e : pc + 1 = pc') (k1 : G κ nm ad (setI M k 0 i z v) pc' lv st cl sl) : G κ nm ad M pc lv (.int (iI v) :: .int (iI z) :: .ref (ad k i) :: st) cl sl := by
  subst e; intro hM H locs ls hP hD hS hl
  obtain ⟨q0, h3, h4⟩ := wl_get (c := kC κ) (ad := ad) (M := M) hn
  rw [he] at h4
  refine va_iast X.1 X.2.1 X.2.2.2.2.2.1 hP hD hS q0 t0 h4 ht (iI_in h0 h1 h2) d (fun H1 locs1 hP1 hD1 hS1 => ?_)
  rw [iI_cl h0 (by omega), updI h0] at hP1 hD1
  rw [wl_set hD h3 (he _) ent_setI_ne] at hP1 hD1
  exact k1 (RM_setI hM hv) H1 locs1 ls hP1 hD1 hS1 hl
theorem g_zast (X : Cx κ cc own rm) {k n t0 : Nat} {i z : Int} {v : Int} {cA : ClassId} (hn : (k, i) ∈ nm) (he : ∀ M : Mem, ent (kC κ) ad M k i = .inl (cA, n, .inl (fun j : Nat => iI (M.1 k 0 i (j : Int))))) (ht : (tysO (kC κ))[t0]? = some (cA, .boolean)) (h0 : 0 ≤ z) (h1 : z < (n : Int)) (h2 : n ≤ 2147483647) (hv : v = 0 ∨ v = 1) (d : decode cc pc = .ok (.bastore, 1)) (e : pc + 1 = pc') (k1 : G κ nm ad (setI M k 0 i z v) pc' lv st cl sl) : G κ nm ad M pc lv (.int (iI v) :: .int (iI z) :: .ref (ad k i) :: st) cl sl := by
  subst e; intro hM H locs ls hP hD hS hl
  obtain ⟨q0, h3, h4⟩ := wl_get (c := kC κ) (ad := ad) (M := M) hn
  rw [he] at h4
  refine va_zast X.1 X.2.1 X.2.2.2.2.2.1 hP hD hS q0 t0 h4 ht (iI_in h0 h1 h2) d (fun H1 locs1 hP1 hD1 hS1 => ?_)
  rw [iI_cl h0 (by omega), vnar01 hv, updI h0] at hP1 hD1
  rw [wl_set hD h3 (he _) ent_setI_ne] at hP1 hD1
  exact k1 (RM_setI hM (by rcases hv with h | h <;> rw [h] <;> decide)) H1 locs1 ls hP1 hD1 hS1 hl
theorem g_last (X : Cx κ cc own rm) {k n t0 : Nat} {i z : Int} {v : Int64} {cA : ClassId} (hn : (k, i) ∈ nm) (he : ∀ M : Mem, ent (kC κ) ad M k i = .inl (cA, n, .inr (.inl (fun j : Nat => M.2 k 0 i (j : Int))))) (ht : (tysO (kC κ))[t0]? = some (cA, .long)) (h0 : 0 ≤ z) (h1 : z < (n : Int)) (h2 : n ≤ 2147483647) (d : decode cc pc = .ok (.lastore, 1)) (e : pc + 1 = pc') (k1 : G κ nm ad (setL M k 0 i z v) pc' lv st cl sl) : G κ nm ad M pc lv (.long v :: .int (iI z) :: .ref (ad k i) :: st) cl sl := by
  subst e; intro hM H locs ls hP hD hS hl
  obtain ⟨q0, h3, h4⟩ := wl_get (c := kC κ) (ad := ad) (M := M) hn
  rw [he] at h4
  refine va_last X.1 X.2.1 X.2.2.2.2.2.1 hP hD hS q0 t0 h4 ht (iI_in h0 h1 h2) d (fun H1 locs1 hP1 hD1 hS1 => ?_)
  rw [iI_cl h0 (by omega), updL h0] at hP1 hD1
  rw [wl_set hD h3 (he _) ent_setL_ne] at hP1 hD1
  exact k1 (RM_setL hM) H1 locs1 ls hP1 hD1 hS1 hl
theorem g_dast (X : Cx κ cc own rm) {k n t0 : Nat} {i z : Int} {v : UInt64} {cA : ClassId} (hn : (k, i) ∈ nm) (he : ∀ M : Mem, ent (kC κ) ad M k i = .inl (cA, n, .inr (.inr (.inr (.inl (fun j : Nat => (M.2 k 0 i (j : Int)).toUInt64)))))) (ht : (tysO (kC κ))[t0]? = some (cA, .double)) (h0 : 0 ≤ z) (h1 : z < (n : Int)) (h2 : n ≤ 2147483647) (d : decode cc pc = .ok (.dastore, 1)) (e : pc + 1 = pc') (k1 : G κ nm ad (setL M k 0 i z v.toInt64) pc' lv st cl sl) : G κ nm ad M pc lv (.double v :: .int (iI z) :: .ref (ad k i) :: st) cl sl := by
  subst e; intro hM H locs ls hP hD hS hl
  obtain ⟨q0, h3, h4⟩ := wl_get (c := kC κ) (ad := ad) (M := M) hn
  rw [he] at h4
  refine va_dast X.1 X.2.1 X.2.2.2.2.2.1 hP hD hS q0 t0 h4 ht (iI_in h0 h1 h2) d (fun H1 locs1 hP1 hD1 hS1 => ?_)
  rw [iI_cl h0 (by omega), updD h0] at hP1 hD1
  rw [wl_set hD h3 (he _) ent_setL_ne] at hP1 hD1
  exact k1 (RM_setL hM) H1 locs1 ls hP1 hD1 hS1 hl
theorem g_alen (X : Cx κ cc own rm) {k n t0 : Nat} {i : Int} {cA : ClassId} {f : (Nat → Int32) ⊕ (Nat → Int64) ⊕ (Nat → UInt32) ⊕ (Nat → UInt64) ⊕ (Nat → Option Nat)} {ty : FieldType} (hn : (k, i) ∈ nm) (he : ent (kC κ) ad M k i = .inl (cA, n, f)) (ht : (tysO (kC κ))[t0]? = some (cA, ty)) (d : decode cc pc = .ok (.arraylength, 1)) (e : pc + 1 = pc') (k1 : G κ nm ad M pc' lv (.int (iI (n : Int)) :: st) cl sl) : G κ nm ad M pc lv (.ref (ad k i) :: st) cl sl := by
  subst e; intro hM H locs ls hP hD hS hl
  obtain ⟨q0, h3, h4⟩ := wl_get (c := kC κ) (ad := ad) (M := M) hn
  rw [he] at h4
  exact va_alen X.1 X.2.1 X.2.2.2.2.2.1 hP q0 t0 h4 ht (v := iI (n : Int)) Int32.ofInt_eq_ofNat.symm d (k1 hM H locs ls hP hD hS hl)
/-! contracts -/
abbrev Dx : Type := Launch × va_G × (Nat → ClassId) × (Nat → Prop)
abbrev kδ (κ : Kx) : Dx := (kl κ, kD κ, kC κ, kA κ)
/-- a method: its name, code, locals, answer, the frames and words below it -/
abbrev Md : Type := MethodName × ByteArray × Nat × Option FieldType × Nat × Nat
abbrev mcode (d : Md) : Cond := .code d.1 d.2.1 d.2.2.1 d.2.2.2.1
def Pre (δ : Dx) (nm : List (Nat × Int)) (ad : Ad) (M : Mem) (U : State) : Prop := (∀ q, U.heap.size ≤ q → δ.2.2.2 q) ∧ va_K δ.2.1 vwCl (tysO δ.2.2.1) U ∧ Zz δ.2.2.2 U ∧ RM M ∧ va_P δ.2.1 vwCl (wl δ.2.2.1 nm ad M) U.heap ∧ va_D δ.2.2.2 (wl δ.2.2.1 nm ad M)
def Qct (δ : Dx) (nm : List (Nat × Int)) (post : Option Value → Ad → Mem → Prop) (st : State) (o : Outcome) (t : State) : Prop := (∃ (v : Option Value) (ad' : Ad) (M' : Mem), o = .returned v ∧ post v ad' M' ∧ RM M' ∧ va_P δ.2.1 vwCl (wl δ.2.2.1 nm ad' M') t.heap ∧ va_D δ.2.2.2 (wl δ.2.2.1 nm ad' M')) ∧ va_F δ.2.2.2 st t
def Ct (δ : Dx) (d : Md) (mc ms : Nat) (nm : List (Nat × Int)) (ad : Ad) (M : Mem) (av : List Value) (post : Option Value → Ad → Mem → Prop) : Prop :=
  δ.1.stackTraces = false → Met δ.1 d.1 (mcode d :: Tb) { frames := d.2.2.2.2.1, cells := mc, slots := ms, locals := d.2.2.2.2.2 } (va_Pc av (Pre δ nm ad M)) (fun _ st o t => Qct δ nm post st o t) mc ms δ.2.2.2
/-- what it may throw: then the world is as it was -/
def XCt (δ : Dx) (nm : List (Nat × Int)) (ad : Ad) (M : Mem) (px : String → Prop) (E : String) (st t : State) : Prop := px E ∧ RM M ∧ va_P δ.2.1 vwCl (wl δ.2.2.1 nm ad M) t.heap ∧ va_D δ.2.2.2 (wl δ.2.2.1 nm ad M) ∧ va_F δ.2.2.2 st t
def CtX (δ : Dx) (d : Md) (mc ms : Nat) (nm : List (Nat × Int)) (ad : Ad) (M : Mem) (av : List Value) (post : Option Value → Ad → Mem → Prop) (px : String → Prop) : Prop :=
  δ.1.stackTraces = false → vx_Met δ.1 d.1 (mcode d :: Tb) { frames := d.2.2.2.2.1, cells := mc, slots := ms, locals := d.2.2.2.2.2 } (va_Pc av (Pre δ nm ad M)) (fun _ st o t => Qct δ nm post st o t) (XCt δ nm ad M px) mc ms δ.2.2.2
theorem Pre_blind {δ : Dx} {av : List Value} : FrameBlind (va_Pc av (Pre δ nm ad M)) := fun a U g mk q => ⟨q.1, q.2.1, va_K.moved (u := U) (U := U.calling g mk a) (Vm.Alike.refl U.vm) q.2.2.1, Zz.on (s := U) (U := U.calling g mk a) (H := U.heap) (locs := []) q.2.2.2.1 va_S.rf rfl (State.WarmedH.refl U), q.2.2.2.2⟩
def pV (x : Value) (ad2 : Ad) (M2 : Mem) : Option Value → Ad → Mem → Prop := fun v ad' M' => v = some x ∧ ad' = ad2 ∧ M' = M2
def pN (ad2 : Ad) (M2 : Mem) : Option Value → Ad → Mem → Prop := fun v ad' M' => v = none ∧ ad' = ad2 ∧ M' = M2
theorem Ct.mono {δ : Dx} {d : Md} {mc ms : Nat} {av : List Value} {post post' : Option Value → Ad → Mem → Prop} (h : Ct δ d mc ms nm ad M av post) (hp : ∀ v ad' M', post v ad' M' → post' v ad' M') : Ct δ d mc ms nm ad M av post' := fun hf => MetFree.mono (h hf) (fun _ _ q => q) (fun _ _ _ _ _ q => q) (fun a s o t _ q => ⟨⟨(fun ⟨v, ad', M', h1, h2, h3⟩ => ⟨v, ad', M', h1, hp _ _ _ h2, h3⟩) q.1.1, q.1.2⟩, q.2⟩)
end GH
end
section
/-- the words of a method called by an object, of a class by its number -/
def WV (d : Md) (n ci : Nat) : Prop := mcode d ∈ Tb ∧ Cond.instanceMethod d.1 ∈ Tb ∧ Cond.selects d.1.cls d.1 d.1 ∈ Tb ∧ Cond.initialized d.1.cls ∈ Tb ∧ d.1.cls ≠ "java/lang/invoke/MethodHandle" ∧ d.1.cls ≠ "java/lang/invoke/VarHandle" ∧ (parseMethodDescriptor d.1.desc).map (fun q => q.parameters.length) = some n ∧ (vwCl[ci]?).map (fun q => q.1) = some d.1.cls
def WS (d : Md) (n : Nat) : Prop := mcode d ∈ Tb ∧ Cond.static d.1 ∈ Tb ∧ Cond.initialized d.1.cls ∈ Tb ∧ d.1.cls ≠ "java/lang/invoke/MethodHandle" ∧ d.1.cls ≠ "java/lang/invoke/VarHandle" ∧ (parseMethodDescriptor d.1.desc).map (fun q => q.parameters.length) = some n
def WI (d : Md) (n : Nat) : Prop := mcode d ∈ Tb ∧ Cond.instanceMethod d.1 ∈ Tb ∧ Cond.initialized d.1.cls ∈ Tb ∧ d.1.name = "<init>" ∧ d.2.2.2.1 = none ∧ d.1.cls ≠ "java/lang/invoke/MethodHandle" ∧ d.1.cls ≠ "java/lang/invoke/VarHandle" ∧ (parseMethodDescriptor d.1.desc).map (fun q => q.parameters.length) = some n
theorem Tb_gi {ws : List Cond} (h : ∀ w ∈ ws, w ∈ Tb) : GoodIn Tb ws := fun w hw => ⟨h w hw, Tb_good (h w hw)⟩
theorem Tb_cons {d : Md} (h : mcode d ∈ Tb) : ∀ w ∈ mcode d :: Tb, w ∈ Tb := fun w hw => (List.mem_cons.mp hw).elim (fun e => by rw [e]; exact h) id
/-- room for a call -/
def Rmo (rm : Room) (d : Md) (mc ms cl sl : Nat) : Prop := (d.2.2.2.2.1 + 1 ≤ rm.frames ∧ 8 + (d.2.2.1 + 11) + d.2.2.2.2.2 ≤ rm.locals) ∧ cl + mc ≤ rm.cells ∧ sl + ms ≤ rm.slots
section GC
variable {κ : Kx} {cc : ByteArray} {own : String} {rm : Room} {nm : List (Nat × Int)} {ad : Ad} {M : Mem} {pc pc' : Nat} {lv : List (Option Value)} {st rest : List Value} {cl sl : Nat}
/-- behind a call that returns -/
theorem G_run {mc ms : Nat} {Qa : State → Outcome → State → Prop} {post : Option Value → Ad → Mem → Prop} (hQ : ∀ st0 v t, Qa st0 (.returned v) t → Qct (kδ κ) nm post st0 (.returned v) t)
    (hr : RM M → ∀ (H : Heap) (locs : List Loc) (ls : Array Slot), va_P (kD κ) vwCl (wl (kC κ) nm ad M) H → va_D (kA κ) (wl (kC κ) nm ad M) → va_S (kA κ) (ks κ).heap H locs → lv_has ls (kN κ) (lvl 0 lv) → va_Run (kp κ) (kl κ) (ke κ) (kR κ) (ks κ) (km κ) (ka κ) (kb κ) (kme κ) (kc κ) H locs cl sl mc ms (F0 (km κ) pc ls st) rest Qa (kA κ))
    (kk : ∀ v ad' M', post v ad' M' → G κ nm ad' M' (pc + 3) lv (v.toList ++ rest) (cl + mc) (sl + ms)) : G κ nm ad M pc lv st cl sl := by
  intro hM H locs ls hP hD hS hl T hT Xs
  obtain ⟨v, st₀, t, T', L, h0, X', hL, e1, e2, hq, hgo⟩ := hr hM H locs ls hP hD hS hl T hT Xs
  obtain ⟨⟨v2, ad', M', hv, hp, hRM, hP1, hD1⟩, hz, hk⟩ := hQ _ _ _ hq
  cases hv
  rw [h0] at hz hk
  have hS1 : va_S (kA κ) (ks κ).heap T'.heap (locs ++ L) := ⟨Nat.le_trans hS.1 (by rw [e1]; exact hz), fun q h1 h2 => by rw [e1, hk q (Nat.lt_of_lt_of_le h1 hS.1) h2]; exact hS.2.1 q h1 h2, fun q hq => by
      rcases List.mem_append.mp hq with h | h
      · exact hS.2.2 q h
      · exact hL q h⟩
  obtain ⟨t2, a1, b1⟩ := kk v ad' M' hp hRM T'.heap (locs ++ L) ls (by rw [e1]; exact hP1) hD1 hS1 hl T' rfl X'
  exact ⟨t2, hgo t2 a1, b1⟩
theorem Pre_on (X : Cx κ cc own rm) (hM : RM M) {H : Heap} {locs : List Loc} (hP : va_P (kD κ) vwCl (wl (kC κ) nm ad M) H) (hD : va_D (kA κ) (wl (kC κ) nm ad M)) (hS : va_S (kA κ) (ks κ).heap H locs) : ∀ U : State, U.heap = H → (ks κ).WarmedH U.vm → Pre (kδ κ) nm ad M U := fun U hU hW =>
  ⟨fun q hq => X.2.2.2.2.2.2.1 q (Nat.le_trans hS.1 (by rw [← hU]; exact hq)), va_K.moved hW.alike X.2.2.2.2.2.1, Zz.on X.2.2.2.2.2.2.2.2.2.2 hS hU hW, hM, by rw [hU]; exact hP, hD⟩
theorem cw_S (X : Cx κ cc own rm) {d : Md} {n ix mc ms : Nat} (w : WS d n) (hlk : Cond.methodLink own ix d.1 ∈ Tb) (hr : Rmo rm d mc ms cl sl) :
    CallB (kR κ) (ks κ) (ka κ) own ix d.1 d.2.1 d.2.2.1 d.2.2.2.1 (mcode d :: Tb) { frames := d.2.2.2.2.1, cells := mc, slots := ms, locals := d.2.2.2.2.2 } mc ms n ∧ (Cond.static d.1).before (ka κ) (ks κ) = true := by
  rw [X.2.2.2.2.2.2.2.1]
  exact ⟨callB_of n X.2.2.2.2.1 (Tb_gi (Tb_cons w.1)) rfl rfl rfl (X.2.2.2.2.1 _ w.2.2.1) (X.2.2.2.2.1 _ hlk) ⟨w.2.2.2.1, w.2.2.2.2.1, w.2.2.2.2.2⟩ hr.1, X.2.2.2.2.1 _ w.2.1⟩
theorem cw_V (X : Cx κ cc own rm) {d : Md} {n ci ix mc ms : Nat} (w : WV d n ci) (hlk : Cond.methodLink own ix d.1 ∈ Tb) (hr : Rmo rm d mc ms cl sl) :
    CallW (kR κ) (ks κ) (ka κ) own d.1.cls ix d.1 d.2.1 d.2.2.1 d.2.2.2.1 (mcode d :: Tb) { frames := d.2.2.2.2.1, cells := mc, slots := ms, locals := d.2.2.2.2.2 } mc ms n := by
  rw [X.2.2.2.2.2.2.2.1]
  exact ⟨callB_of n X.2.2.2.2.1 (Tb_gi (Tb_cons w.1)) rfl rfl rfl (X.2.2.2.2.1 _ w.2.2.2.1) (X.2.2.2.2.1 _ hlk) ⟨w.2.2.2.2.1, w.2.2.2.2.2.1, w.2.2.2.2.2.2.1⟩ hr.1, X.2.2.2.2.1 _ w.2.1, X.2.2.2.2.1 _ w.2.2.1⟩
theorem cw_I (X : Cx κ cc own rm) {d : Md} {n ix mc ms : Nat} (w : WI d n) (hlk : Cond.methodLink own ix d.1 ∈ Tb) (hr : Rmo rm d mc ms cl sl) :
    CallB (kR κ) (ks κ) (ka κ) own ix d.1 d.2.1 d.2.2.1 none (mcode d :: Tb) { frames := d.2.2.2.2.1, cells := mc, slots := ms, locals := d.2.2.2.2.2 } mc ms n ∧ d.1.name = "<init>" ∧ (Cond.instanceMethod d.1).before (ka κ) (ks κ) = true := by
  rw [X.2.2.2.2.2.2.2.1]
  exact ⟨callB_of n X.2.2.2.2.1 (Tb_gi (Tb_cons w.1)) (by rw [← w.2.2.2.2.1]) rfl rfl (X.2.2.2.2.1 _ w.2.2.1) (X.2.2.2.2.1 _ hlk) ⟨w.2.2.2.2.2.1, w.2.2.2.2.2.2.1, w.2.2.2.2.2.2.2⟩ hr.1, w.2.2.2.1, X.2.2.2.2.1 _ w.2.1⟩
theorem fix_ (X : Cx κ cc own rm) : CallFix (kp κ) (km κ) (kc κ) cc (kN κ) (ks κ) (ka κ) Tb own := ⟨X.1, X.2.1, X.2.2.1, X.2.2.2.1, X.2.2.2.2.1⟩
theorem recv_ (X : Cx κ cc own rm) {k ci : Nat} {i : Int} {fs : List Value} {C : String} (hn : (k, i) ∈ nm) (he : ent (kC κ) ad M k i = .inr (ci, fs)) (hci : (vwCl[ci]?).map (fun q => q.1) = some C) {H : Heap} (hP : va_P (kD κ) vwCl (wl (kC κ) nm ad M) H) : ∃ cell : Cell, H[ad k i]? = some cell ∧ cell.vm.isStatics = false ∧ (ks κ).vm.findClass C = some cell.cls := by
  obtain ⟨q0, h0, h1⟩ := wl_get (c := kC κ) (ad := ad) (M := M) hn
  rw [he] at h1
  obtain ⟨q, hq, hq2⟩ := Option.map_eq_some_iff.mp hci
  rw [← hq2]
  exact va_recv X.2.2.2.2.2.1 hP hq h1
theorem g_invS (X : Cx κ cc own rm) {d : Md} {n ix mc ms : Nat} {As : List Value} {post : Option Value → Ad → Mem → Prop} (w : WS d n) (hlk : Cond.methodLink own ix d.1 ∈ Tb) (hr : Rmo rm d mc ms cl sl) (dd : decode cc pc = .ok (.invokestatic ix, 3)) (e : pc + 3 = pc') (hst : st = As.reverse ++ rest) (hln : As.length = n) (hcat : (rest.map fun v => v.category).sum ≤ 8) (hC : Ct (kδ κ) d mc ms nm ad M As post)
    (kk : ∀ v ad' M', post v ad' M' → G κ nm ad' M' pc' lv (v.toList ++ rest) (cl + mc) (sl + ms)) : G κ nm ad M pc lv st cl sl := by
  subst e
  refine G_run (fun _ _ _ h => h) (fun hM H locs ls hP hD hS hl => ?_) kk
  exact va_runS (fix_ X) (hC X.2.2.2.2.2.2.2.2.1) (cw_S X w hlk hr) ⟨Pre_blind, fun U hU hW => ⟨rfl, Pre_on X hM hP hD hS U hU hW⟩⟩ rfl hln hl.1 hst (lv_room hcat) dd (by rw [X.2.2.2.2.2.2.2.1]; exact hr.2)
theorem g_invV (X : Cx κ cc own rm) {d : Md} {n ci ix k mc ms : Nat} {i : Int} {As fs : List Value} {post : Option Value → Ad → Mem → Prop} (w : WV d n ci) (hlk : Cond.methodLink own ix d.1 ∈ Tb) (hn : (k, i) ∈ nm) (he : ent (kC κ) ad M k i = .inr (ci, fs)) (hr : Rmo rm d mc ms cl sl) (dd : decode cc pc = .ok (.invokevirtual ix, 3)) (e : pc + 3 = pc') (hst : st = As.reverse ++ .ref (ad k i) :: rest) (hln : As.length = n) (hcat : (rest.map fun v => v.category).sum ≤ 8) (hC : Ct (kδ κ) d mc ms nm ad M (.ref (ad k i) :: As) post)
    (kk : ∀ v ad' M', post v ad' M' → G κ nm ad' M' pc' lv (v.toList ++ rest) (cl + mc) (sl + ms)) : G κ nm ad M pc lv st cl sl := by
  subst e
  refine G_run (fun _ _ _ h => h) (fun hM H locs ls hP hD hS hl => ?_) kk
  exact va_runV (fix_ X) (hC X.2.2.2.2.2.2.2.2.1) (cw_V X w hlk hr) ⟨Pre_blind, recv_ X hn he w.2.2.2.2.2.2.2 hP, fun U hU hW => ⟨rfl, Pre_on X hM hP hD hS U hU hW⟩⟩ rfl hln hl.1 hst (lv_room hcat) dd (by rw [X.2.2.2.2.2.2.2.1]; exact hr.2)
theorem g_invS_v (X : Cx κ cc own rm) {d : Md} {n ix mc ms : Nat} {As : List Value} {x : Value} {ad2 : Ad} {M2 : Mem} (w : WS d n) (hlk : Cond.methodLink own ix d.1 ∈ Tb) (hr : Rmo rm d mc ms cl sl) (dd : decode cc pc = .ok (.invokestatic ix, 3)) (e : pc + 3 = pc') (hst : st = As.reverse ++ rest) (hln : As.length = n) (hcat : (rest.map fun v => v.category).sum ≤ 8) (hC : Ct (kδ κ) d mc ms nm ad M As (pV x ad2 M2))
    (kk : G κ nm ad2 M2 pc' lv (x :: rest) (cl + mc) (sl + ms)) : G κ nm ad M pc lv st cl sl :=
  g_invS X w hlk hr dd e hst hln hcat hC (fun v ad' M' ⟨h1, h2, h3⟩ => by subst h1; subst h2; subst h3; exact kk)
theorem g_invS_n (X : Cx κ cc own rm) {d : Md} {n ix mc ms : Nat} {As : List Value} {ad2 : Ad} {M2 : Mem} (w : WS d n) (hlk : Cond.methodLink own ix d.1 ∈ Tb) (hr : Rmo rm d mc ms cl sl) (dd : decode cc pc = .ok (.invokestatic ix, 3)) (e : pc + 3 = pc') (hst : st = As.reverse ++ rest) (hln : As.length = n) (hcat : (rest.map fun v => v.category).sum ≤ 8) (hC : Ct (kδ κ) d mc ms nm ad M As (pN ad2 M2))
    (kk : G κ nm ad2 M2 pc' lv rest (cl + mc) (sl + ms)) : G κ nm ad M pc lv st cl sl :=
  g_invS X w hlk hr dd e hst hln hcat hC (fun v ad' M' ⟨h1, h2, h3⟩ => by subst h1; subst h2; subst h3; exact kk)
theorem g_invV_v (X : Cx κ cc own rm) {d : Md} {n ci ix k mc ms : Nat} {i : Int} {As fs : List Value} {x : Value} {ad2 : Ad} {M2 : Mem} (w : WV d n ci) (hlk : Cond.methodLink own ix d.1 ∈ Tb) (hn : (k, i) ∈ nm) (he : ent (kC κ) ad M k i = .inr (ci, fs)) (hr : Rmo rm d mc ms cl sl) (dd : decode cc pc = .ok (.invokevirtual ix, 3)) (e : pc + 3 = pc') (hst : st = As.reverse ++ .ref (ad k i) :: rest) (hln : As.length = n) (hcat : (rest.map fun v => v.category).sum ≤ 8) (hC : Ct (kδ κ) d mc ms nm ad M (.ref (ad k i) :: As) (pV x ad2 M2))
    (kk : G κ nm ad2 M2 pc' lv (x :: rest) (cl + mc) (sl + ms)) : G κ nm ad M pc lv st cl sl :=
  g_invV X w hlk hn he hr dd e hst hln hcat hC (fun v ad' M' ⟨h1, h2, h3⟩ => by subst h1; subst h2; subst h3; exact kk)
theorem g_invV_n (X : Cx κ cc own rm) {d : Md} {n ci ix k mc ms : Nat} {i : Int} {As fs : List Value} {ad2 : Ad} {M2 : Mem} (w : WV d n ci) (hlk : Cond.methodLink own ix d.1 ∈ Tb) (hn : (k, i) ∈ nm) (he : ent (kC κ) ad M k i = .inr (ci, fs)) (hr : Rmo rm d mc ms cl sl) (dd : decode cc pc = .ok (.invokevirtual ix, 3)) (e : pc + 3 = pc') (hst : st = As.reverse ++ .ref (ad k i) :: rest) (hln : As.length = n) (hcat : (rest.map fun v => v.category).sum ≤ 8) (hC : Ct (kδ κ) d mc ms nm ad M (.ref (ad k i) :: As) (pN ad2 M2))
    (kk : G κ nm ad2 M2 pc' lv rest (cl + mc) (sl + ms)) : G κ nm ad M pc lv st cl sl :=
  g_invV X w hlk hn he hr dd e hst hln hcat hC (fun v ad' M' ⟨h1, h2, h3⟩ => by subst h1; subst h2; subst h3; exact kk)
/-! ends -/
/-- how the method may answer an int, a truth, a long, a float, a reference, nothing -/
def Rt (κ : Kx) (cc : ByteArray) (nm : List (Nat × Int)) (post : Option Value → Ad → Mem → Prop) (mc ms : Nat) (ins : Instr) (ok : Option Value → Prop) : Prop := ∀ (v : Option Value) (ad' : Ad) (M' : Mem) (pc : Nat) (lv : List (Option Value)), decode cc pc = .ok (ins, 1) → ok v → post v ad' M' → G κ nm ad' M' pc lv v.toList mc ms
def okI : Option Value → Prop := fun v => ∃ x : Int32, v = some (.int x)
def okZ : Option Value → Prop := fun v => ∃ z : Int, (z = 0 ∨ z = 1) ∧ v = some (.int (iI z))
def okL : Option Value → Prop := fun v => ∃ x : Int64, v = some (.long x)
def okF : Option Value → Prop := fun v => ∃ x : UInt32, v = some (.float x)
def okA : Option Value → Prop := fun v => ∃ x : Nat, v = some (.ref x)
def okN : Option Value → Prop := fun v => v = none
theorem g_ret {post : Option Value → Ad → Mem → Prop} {ins : Instr} {ok : Option Value → Prop} {x : Value} (Y : Rt κ cc nm post cl sl ins ok) (d : decode cc pc = .ok (ins, 1)) (hx : ok (some x)) (hp : post (some x) ad M) : G κ nm ad M pc lv [x] cl sl := Y (some x) ad M pc lv d hx hp
theorem g_retn {post : Option Value → Ad → Mem → Prop} {ins : Instr} {ok : Option Value → Prop} (Y : Rt κ cc nm post cl sl ins ok) (d : decode cc pc = .ok (ins, 1)) (hx : ok none) (hp : post none ad M) : G κ nm ad M pc lv [] cl sl := Y none ad M pc lv d hx hp
end GC
/-- the entry of a method, in words of G -/
theorem Ct_of {δ : Dx} {d : Md} {mc ms : Nat} {nm : List (Nat × Int)} {ad : Ad} {M : Mem} {av : List Value} {post : Option Value → Ad → Mem → Prop} {ins : Instr} {ok : Option Value → Prop} (lv0 : List (Option Value)) (hy : plainName d.1.cls = true) (hlv : lvl 0 lv0 = lv_args 0 av) (hle : (lg_sl av).length ≤ d.2.2.1)
    (hend : ∀ (κ : Kx) (s : State), ks κ = s → Cx κ d.2.1 d.1.cls { frames := d.2.2.2.2.1, cells := mc, slots := ms, locals := d.2.2.2.2.2 } → (kme κ).sig.returnType = d.2.2.2.1 → kQ κ = MQ (kb κ) (fun _ st o t => Qct δ nm post st o t) (ka κ) s mc ms δ.2.2.2 → kδ κ = δ → Rt κ d.2.1 nm post mc ms ins ok)
    (body : ∀ κ : Kx, Cx κ d.2.1 d.1.cls { frames := d.2.2.2.2.1, cells := mc, slots := ms, locals := d.2.2.2.2.2 } → kN κ = d.2.2.1 → kδ κ = δ → Rt κ d.2.1 nm post mc ms ins ok → G κ nm ad M 0 lv0 [] 0 0) : Ct δ d mc ms nm ad M av post := by
  intro hfl
  refine Met.ofW (cc := d.2.1) (maxL := d.2.2.1) (ret := d.2.2.2.1) hy rfl ?_
  intro p e s m args below meth c s₁ B hml hv
  obtain ⟨rfl, hA, hK, hZ, hM, hP, hD⟩ := hv
  have hts := atoms_spec (ws := mcode d :: Tb) B.pre
  have hl := lv_entry av (n := d.2.2.1) hle
  rw [lg_entry_eq]
  generalize (lg_sl av ++ List.replicate (d.2.2.1 - (lg_sl av).length) Slot.unset).toArray = ls at hl ⊢
  rw [← hlv] at hl
  obtain ⟨l, D, c0, A⟩ := δ
  have X : Cx ((p, l, e, (headSpec (mcode d :: Tb) { frames := d.2.2.2.2.1, cells := mc, slots := ms, locals := d.2.2.2.2.2 }).room, s, m), (av.toArray, below, meth, c, MQ below (fun _ st o t => Qct (l, D, c0, A) nm post st o t) av.toArray s mc ms A), (D, c0, A, d.2.2.1)) d.2.1 d.1.cls { frames := d.2.2.2.2.1, cells := mc, slots := ms, locals := d.2.2.2.2.2 } :=
    ⟨B.exec, B.bytes, hml, findClass_of_methodNamed B.named, fun w hw => hts w (List.mem_cons_of_mem _ hw), hK, hA, rfl, hfl, B.notSynchronized, hZ⟩
  exact body _ X rfl rfl (hend _ s rfl X B.returns rfl rfl) hM s.heap [] ls hP hD va_S.rf hl
section ENDS
variable {δ : Dx} {d : Md} {mc ms : Nat} {nm : List (Nat × Int)} {post : Option Value → Ad → Mem → Prop} {κ : Kx} {s : State} {rm : Room}
theorem endI (hr0 : d.2.2.2.1 = some .int) (hs : ks κ = s) (X : Cx κ d.2.1 d.1.cls rm) (hr : (kme κ).sig.returnType = d.2.2.2.1) (hQ : kQ κ = MQ (kb κ) (fun _ st o t => Qct δ nm post st o t) (ka κ) s mc ms δ.2.2.2) (hδ : kδ κ = δ) : Rt κ d.2.1 nm post mc ms .ireturn okI := by
  subst hs; subst hδ
  rintro v ad' M' pc lv dd ⟨x, rfl⟩ hp hM H locs ls hP hD hS hl
  rw [hQ]
  exact W.iret (v := x) X.1 X.2.1 (hr.trans hr0) (fun t ht _ => ⟨⟨some (.int x), ad', M', rfl, hp, hM, by rw [ht]; exact hP, hD⟩, hS.F ht⟩) hS.2.2 dd X.2.2.2.2.2.2.2.2.2.1
theorem endZ (hr0 : d.2.2.2.1 = some .boolean) (hs : ks κ = s) (X : Cx κ d.2.1 d.1.cls rm) (hr : (kme κ).sig.returnType = d.2.2.2.1) (hQ : kQ κ = MQ (kb κ) (fun _ st o t => Qct δ nm post st o t) (ka κ) s mc ms δ.2.2.2) (hδ : kδ κ = δ) : Rt κ d.2.1 nm post mc ms .ireturn okZ := by
  subst hs; subst hδ
  rintro v ad' M' pc lv dd ⟨x, h01, rfl⟩ hp hM H locs ls hP hD hS hl
  rw [hQ]
  exact W.zret (v := iI x) X.1 X.2.1 (hr.trans hr0) (nar01 h01) (fun t ht _ => ⟨⟨some (.int (iI x)), ad', M', rfl, hp, hM, by rw [ht]; exact hP, hD⟩, hS.F ht⟩) hS.2.2 dd X.2.2.2.2.2.2.2.2.2.1
theorem endL (hr0 : d.2.2.2.1 = some .long) (hs : ks κ = s) (X : Cx κ d.2.1 d.1.cls rm) (hr : (kme κ).sig.returnType = d.2.2.2.1) (hQ : kQ κ = MQ (kb κ) (fun _ st o t => Qct δ nm post st o t) (ka κ) s mc ms δ.2.2.2) (hδ : kδ κ = δ) : Rt κ d.2.1 nm post mc ms .lreturn okL := by
  subst hs; subst hδ
  rintro v ad' M' pc lv dd ⟨x, rfl⟩ hp hM H locs ls hP hD hS hl
  rw [hQ]
  exact W.lret (v := x) X.1 X.2.1 (hr.trans hr0) (fun t ht _ => ⟨⟨some (.long x), ad', M', rfl, hp, hM, by rw [ht]; exact hP, hD⟩, hS.F ht⟩) hS.2.2 dd X.2.2.2.2.2.2.2.2.2.1
theorem endF (hr0 : d.2.2.2.1 = some .float) (hs : ks κ = s) (X : Cx κ d.2.1 d.1.cls rm) (hr : (kme κ).sig.returnType = d.2.2.2.1) (hQ : kQ κ = MQ (kb κ) (fun _ st o t => Qct δ nm post st o t) (ka κ) s mc ms δ.2.2.2) (hδ : kδ κ = δ) : Rt κ d.2.1 nm post mc ms .freturn okF := by
  subst hs; subst hδ
  rintro v ad' M' pc lv dd ⟨x, rfl⟩ hp hM H locs ls hP hD hS hl
  rw [hQ]
  exact W.fret (v := x) X.1 X.2.1 (hr.trans hr0) (fun t ht _ => ⟨⟨some (.float x), ad', M', rfl, hp, hM, by rw [ht]; exact hP, hD⟩, hS.F ht⟩) hS.2.2 dd X.2.2.2.2.2.2.2.2.2.1
theorem endN (hr0 : d.2.2.2.1 = none) (hs : ks κ = s) (X : Cx κ d.2.1 d.1.cls rm) (hr : (kme κ).sig.returnType = d.2.2.2.1) (hQ : kQ κ = MQ (kb κ) (fun _ st o t => Qct δ nm post st o t) (ka κ) s mc ms δ.2.2.2) (hδ : kδ κ = δ) : Rt κ d.2.1 nm post mc ms .return_ okN := by
  subst hs; subst hδ
  rintro v ad' M' pc lv dd rfl hp hM H locs ls hP hD hS hl
  rw [hQ]
  exact W.vret X.1 X.2.1 (hr.trans hr0) (fun t ht _ => ⟨⟨none, ad', M', rfl, hp, hM, by rw [ht]; exact hP, hD⟩, hS.F ht⟩) hS.2.2 dd X.2.2.2.2.2.2.2.2.2.1
theorem endA {rt : FieldType} (hr0 : d.2.2.2.1 = some rt) (hrt : (∃ n, rt = .object n) ∨ ∃ t, rt = .array t) (hs : ks κ = s) (X : Cx κ d.2.1 d.1.cls rm) (hr : (kme κ).sig.returnType = d.2.2.2.1) (hQ : kQ κ = MQ (kb κ) (fun _ st o t => Qct δ nm post st o t) (ka κ) s mc ms δ.2.2.2) (hδ : kδ κ = δ) : Rt κ d.2.1 nm post mc ms .areturn okA := by
  subst hs; subst hδ
  rintro v ad' M' pc lv dd ⟨x, rfl⟩ hp hM H locs ls hP hD hS hl
  rw [hQ]
  exact W.aret (v := .ref x) X.1 X.2.1 (hr.trans hr0) hrt (Or.inr ⟨x, rfl⟩) (fun t ht _ => ⟨⟨some (.ref x), ad', M', rfl, hp, hM, by rw [ht]; exact hP, hD⟩, hS.F ht⟩) hS.2.2 dd X.2.2.2.2.2.2.2.2.2.1
end ENDS
end
section
theorem zz_last : True := trivial
end
