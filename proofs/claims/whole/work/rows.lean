section
-- ===== PART A: goes FIRST, ahead of the names: the tables' words, and 'selects' of the private methods out of them =====
/-- a private method of a class that the tables say can be made, by its rows of tables_1 -/
def lw_okq (q : MethodName × Nat) : Prop := (q.1.cls ≠ "java/lang/invoke/MethodHandle" ∧ q.1.cls ≠ "java/lang/invoke/VarHandle") ∧ Cond.instantiable q.1.cls q.2 ∈ tables_1 ∧ Cond.privateMethod q.1 ∈ tables_1 ∧ Cond.instanceMethod q.1 ∈ tables_1
theorem lw_p0 : lw_okq (⟨"AlmanacOffice$Parser", "readAlmanac", "()Z"⟩, 4) := ⟨⟨by decide +kernel, by decide +kernel⟩, List.mem_of_getElem? (i := 331) (by decide +kernel), List.mem_of_getElem? (i := 382) (by decide +kernel), List.mem_of_getElem? (i := 383) (by decide +kernel)⟩
theorem lw_p1 : lw_okq (⟨"AlmanacOffice$Scanner", "isBlank", "(I)Z"⟩, 5) := ⟨⟨by decide +kernel, by decide +kernel⟩, List.mem_of_getElem? (i := 337) (by decide +kernel), List.mem_of_getElem? (i := 394) (by decide +kernel), List.mem_of_getElem? (i := 395) (by decide +kernel)⟩
theorem lw_p2 : lw_okq (⟨"AlmanacOffice$Scanner", "readDigits", "()V"⟩, 5) := ⟨⟨by decide +kernel, by decide +kernel⟩, List.mem_of_getElem? (i := 337) (by decide +kernel), List.mem_of_getElem? (i := 404) (by decide +kernel), List.mem_of_getElem? (i := 405) (by decide +kernel)⟩
theorem lw_p3 : lw_okq (⟨"AlmanacOffice$Parser", "fail", "(I)Z"⟩, 4) := ⟨⟨by decide +kernel, by decide +kernel⟩, List.mem_of_getElem? (i := 331) (by decide +kernel), List.mem_of_getElem? (i := 419) (by decide +kernel), List.mem_of_getElem? (i := 420) (by decide +kernel)⟩
theorem lw_p4 : lw_okq (⟨"AlmanacOffice$Parser", "readNumber", "(II)Z"⟩, 4) := ⟨⟨by decide +kernel, by decide +kernel⟩, List.mem_of_getElem? (i := 331) (by decide +kernel), List.mem_of_getElem? (i := 423) (by decide +kernel), List.mem_of_getElem? (i := 424) (by decide +kernel)⟩
theorem lw_p5 : lw_okq (⟨"AlmanacOffice$Parser", "readSemicolon", "()Z"⟩, 4) := ⟨⟨by decide +kernel, by decide +kernel⟩, List.mem_of_getElem? (i := 331) (by decide +kernel), List.mem_of_getElem? (i := 434) (by decide +kernel), List.mem_of_getElem? (i := 435) (by decide +kernel)⟩
theorem lw_p6 : lw_okq (⟨"AlmanacOffice$Parser", "readStatement", "()Z"⟩, 4) := ⟨⟨by decide +kernel, by decide +kernel⟩, List.mem_of_getElem? (i := 331) (by decide +kernel), List.mem_of_getElem? (i := 442) (by decide +kernel), List.mem_of_getElem? (i := 443) (by decide +kernel)⟩
theorem lw_p7 : lw_okq (⟨"AlmanacOffice$Parser", "readVillage", "()Z"⟩, 4) := ⟨⟨by decide +kernel, by decide +kernel⟩, List.mem_of_getElem? (i := 331) (by decide +kernel), List.mem_of_getElem? (i := 447) (by decide +kernel), List.mem_of_getElem? (i := 448) (by decide +kernel)⟩
theorem lw_p8 : lw_okq (⟨"AlmanacOffice$Parser", "readNewName", "()Z"⟩, 4) := ⟨⟨by decide +kernel, by decide +kernel⟩, List.mem_of_getElem? (i := 331) (by decide +kernel), List.mem_of_getElem? (i := 451) (by decide +kernel), List.mem_of_getElem? (i := 452) (by decide +kernel)⟩
theorem lw_p9 : lw_okq (⟨"AlmanacOffice$Parser", "readFair", "()Z"⟩, 4) := ⟨⟨by decide +kernel, by decide +kernel⟩, List.mem_of_getElem? (i := 331) (by decide +kernel), List.mem_of_getElem? (i := 482) (by decide +kernel), List.mem_of_getElem? (i := 483) (by decide +kernel)⟩
theorem lw_p10 : lw_okq (⟨"AlmanacOffice$Parser", "readKnownVillage", "()Z"⟩, 4) := ⟨⟨by decide +kernel, by decide +kernel⟩, List.mem_of_getElem? (i := 331) (by decide +kernel), List.mem_of_getElem? (i := 486) (by decide +kernel), List.mem_of_getElem? (i := 487) (by decide +kernel)⟩
theorem lw_p11 : lw_okq (⟨"AlmanacOffice$Parser", "readSay", "()Z"⟩, 4) := ⟨⟨by decide +kernel, by decide +kernel⟩, List.mem_of_getElem? (i := 331) (by decide +kernel), List.mem_of_getElem? (i := 495) (by decide +kernel), List.mem_of_getElem? (i := 496) (by decide +kernel)⟩
theorem lw_p12 : lw_okq (⟨"AlmanacOffice$Parser", "weatherOfToken", "()I"⟩, 4) := ⟨⟨by decide +kernel, by decide +kernel⟩, List.mem_of_getElem? (i := 331) (by decide +kernel), List.mem_of_getElem? (i := 499) (by decide +kernel), List.mem_of_getElem? (i := 500) (by decide +kernel)⟩
theorem lw_p13 : lw_okq (⟨"AlmanacOffice$Parser", "readRetract", "()Z"⟩, 4) := ⟨⟨by decide +kernel, by decide +kernel⟩, List.mem_of_getElem? (i := 331) (by decide +kernel), List.mem_of_getElem? (i := 520) (by decide +kernel), List.mem_of_getElem? (i := 521) (by decide +kernel)⟩
theorem lw_p14 : lw_okq (⟨"AlmanacOffice$State", "payBack", "(I)V"⟩, 14) := ⟨⟨by decide +kernel, by decide +kernel⟩, List.mem_of_getElem? (i := 51) (by decide +kernel), List.mem_of_getElem? (i := 570) (by decide +kernel), List.mem_of_getElem? (i := 571) (by decide +kernel)⟩
theorem lw_p15 : lw_okq (⟨"AlmanacOffice$Parser", "readPass", "()Z"⟩, 4) := ⟨⟨by decide +kernel, by decide +kernel⟩, List.mem_of_getElem? (i := 331) (by decide +kernel), List.mem_of_getElem? (i := 575) (by decide +kernel), List.mem_of_getElem? (i := 576) (by decide +kernel)⟩
def lw_privs_1 : List (MethodName × Nat) := [(⟨"AlmanacOffice$Parser", "readAlmanac", "()Z"⟩, 4), (⟨"AlmanacOffice$Scanner", "isBlank", "(I)Z"⟩, 5), (⟨"AlmanacOffice$Scanner", "readDigits", "()V"⟩, 5), (⟨"AlmanacOffice$Parser", "fail", "(I)Z"⟩, 4), (⟨"AlmanacOffice$Parser", "readNumber", "(II)Z"⟩, 4), (⟨"AlmanacOffice$Parser", "readSemicolon", "()Z"⟩, 4), (⟨"AlmanacOffice$Parser", "readStatement", "()Z"⟩, 4), (⟨"AlmanacOffice$Parser", "readVillage", "()Z"⟩, 4), (⟨"AlmanacOffice$Parser", "readNewName", "()Z"⟩, 4), (⟨"AlmanacOffice$Parser", "readFair", "()Z"⟩, 4), (⟨"AlmanacOffice$Parser", "readKnownVillage", "()Z"⟩, 4), (⟨"AlmanacOffice$Parser", "readSay", "()Z"⟩, 4), (⟨"AlmanacOffice$Parser", "weatherOfToken", "()I"⟩, 4), (⟨"AlmanacOffice$Parser", "readRetract", "()Z"⟩, 4), (⟨"AlmanacOffice$State", "payBack", "(I)V"⟩, 14), (⟨"AlmanacOffice$Parser", "readPass", "()Z"⟩, 4)]
theorem lw_r1 : ∀ q ∈ lw_privs_1, lw_okq q := List.forall_mem_cons.mpr ⟨lw_p0, List.forall_mem_cons.mpr ⟨lw_p1, List.forall_mem_cons.mpr ⟨lw_p2, List.forall_mem_cons.mpr ⟨lw_p3, List.forall_mem_cons.mpr ⟨lw_p4, List.forall_mem_cons.mpr ⟨lw_p5, List.forall_mem_cons.mpr ⟨lw_p6, List.forall_mem_cons.mpr ⟨lw_p7, List.forall_mem_cons.mpr ⟨lw_p8, List.forall_mem_cons.mpr ⟨lw_p9, List.forall_mem_cons.mpr ⟨lw_p10, List.forall_mem_cons.mpr ⟨lw_p11, List.forall_mem_cons.mpr ⟨lw_p12, List.forall_mem_cons.mpr ⟨lw_p13, List.forall_mem_cons.mpr ⟨lw_p14, List.forall_mem_cons.mpr ⟨lw_p15, fun _ h => absurd h List.not_mem_nil⟩⟩⟩⟩⟩⟩⟩⟩⟩⟩⟩⟩⟩⟩⟩⟩
theorem lw_p16 : lw_okq (⟨"AlmanacOffice$State", "sellAt", "(I)V"⟩, 14) := ⟨⟨by decide +kernel, by decide +kernel⟩, List.mem_of_getElem? (i := 51) (by decide +kernel), List.mem_of_getElem? (i := 587) (by decide +kernel), List.mem_of_getElem? (i := 588) (by decide +kernel)⟩
theorem lw_p17 : lw_okq (⟨"AlmanacOffice$State", "judge", "(II)V"⟩, 14) := ⟨⟨by decide +kernel, by decide +kernel⟩, List.mem_of_getElem? (i := 51) (by decide +kernel), List.mem_of_getElem? (i := 608) (by decide +kernel), List.mem_of_getElem? (i := 609) (by decide +kernel)⟩
theorem lw_p18 : lw_okq (⟨"java/lang/Throwable", "fillInStackTrace", "(I)Ljava/lang/Throwable;"⟩, 6) := ⟨⟨by decide +kernel, by decide +kernel⟩, List.mem_of_getElem? (i := 858) (by decide +kernel), List.mem_of_getElem? (i := 856) (by decide +kernel), List.mem_of_getElem? (i := 857) (by decide +kernel)⟩
theorem lw_p19 : lw_okq (⟨"AlmanacOffice", "requireRange", "(III)V"⟩, 9) := ⟨⟨by decide +kernel, by decide +kernel⟩, List.mem_of_getElem? (i := 27) (by decide +kernel), List.mem_of_getElem? (i := 895) (by decide +kernel), List.mem_of_getElem? (i := 896) (by decide +kernel)⟩
theorem lw_p20 : lw_okq (⟨"AlmanacOffice", "requireVillage", "(I)V"⟩, 9) := ⟨⟨by decide +kernel, by decide +kernel⟩, List.mem_of_getElem? (i := 27) (by decide +kernel), List.mem_of_getElem? (i := 939) (by decide +kernel), List.mem_of_getElem? (i := 940) (by decide +kernel)⟩
theorem lw_p21 : lw_okq (⟨"AlmanacOffice", "requireFair", "(I)V"⟩, 9) := ⟨⟨by decide +kernel, by decide +kernel⟩, List.mem_of_getElem? (i := 27) (by decide +kernel), List.mem_of_getElem? (i := 984) (by decide +kernel), List.mem_of_getElem? (i := 985) (by decide +kernel)⟩
theorem lw_p22 : lw_okq (⟨"AlmanacOffice", "requireForecast", "(II)I"⟩, 9) := ⟨⟨by decide +kernel, by decide +kernel⟩, List.mem_of_getElem? (i := 27) (by decide +kernel), List.mem_of_getElem? (i := 1062) (by decide +kernel), List.mem_of_getElem? (i := 1063) (by decide +kernel)⟩
theorem lw_p23 : lw_okq (⟨"AlmanacOffice", "requirePage", "(I)V"⟩, 9) := ⟨⟨by decide +kernel, by decide +kernel⟩, List.mem_of_getElem? (i := 27) (by decide +kernel), List.mem_of_getElem? (i := 1116) (by decide +kernel), List.mem_of_getElem? (i := 1117) (by decide +kernel)⟩
theorem lw_p24 : lw_okq (⟨"AlmanacOffice", "lookAhead", "(I)V"⟩, 9) := ⟨⟨by decide +kernel, by decide +kernel⟩, List.mem_of_getElem? (i := 27) (by decide +kernel), List.mem_of_getElem? (i := 1161) (by decide +kernel), List.mem_of_getElem? (i := 1162) (by decide +kernel)⟩
theorem lw_p25 : lw_okq (⟨"AlmanacOffice", "writeForecast", "(I)V"⟩, 9) := ⟨⟨by decide +kernel, by decide +kernel⟩, List.mem_of_getElem? (i := 27) (by decide +kernel), List.mem_of_getElem? (i := 1227) (by decide +kernel), List.mem_of_getElem? (i := 1228) (by decide +kernel)⟩
theorem lw_p26 : lw_okq (⟨"AlmanacOffice", "requireSlot", "(I)V"⟩, 9) := ⟨⟨by decide +kernel, by decide +kernel⟩, List.mem_of_getElem? (i := 27) (by decide +kernel), List.mem_of_getElem? (i := 1255) (by decide +kernel), List.mem_of_getElem? (i := 1256) (by decide +kernel)⟩
theorem lw_p27 : lw_okq (⟨"AlmanacOfficeModel", "layInput", "(Ljava/lang/String;)V"⟩, 20) := ⟨⟨by decide +kernel, by decide +kernel⟩, List.mem_of_getElem? (i := 1277) (by decide +kernel), List.mem_of_getElem? (i := 1284) (by decide +kernel), List.mem_of_getElem? (i := 1285) (by decide +kernel)⟩
theorem lw_p28 : lw_okq (⟨"AlmanacOfficeModel", "read", "()V"⟩, 20) := ⟨⟨by decide +kernel, by decide +kernel⟩, List.mem_of_getElem? (i := 1277) (by decide +kernel), List.mem_of_getElem? (i := 1290) (by decide +kernel), List.mem_of_getElem? (i := 1291) (by decide +kernel)⟩
theorem lw_p29 : lw_okq (⟨"AlmanacOfficeModel", "advance", "()V"⟩, 20) := ⟨⟨by decide +kernel, by decide +kernel⟩, List.mem_of_getElem? (i := 1277) (by decide +kernel), List.mem_of_getElem? (i := 1294) (by decide +kernel), List.mem_of_getElem? (i := 1295) (by decide +kernel)⟩
theorem lw_p30 : lw_okq (⟨"AlmanacOfficeModel", "byteAt", "(I)I"⟩, 20) := ⟨⟨by decide +kernel, by decide +kernel⟩, List.mem_of_getElem? (i := 1277) (by decide +kernel), List.mem_of_getElem? (i := 1298) (by decide +kernel), List.mem_of_getElem? (i := 1299) (by decide +kernel)⟩
theorem lw_p31 : lw_okq (⟨"AlmanacOfficeModel", "is", "(Ljava/lang/String;)Z"⟩, 20) := ⟨⟨by decide +kernel, by decide +kernel⟩, List.mem_of_getElem? (i := 1277) (by decide +kernel), List.mem_of_getElem? (i := 1310) (by decide +kernel), List.mem_of_getElem? (i := 1311) (by decide +kernel)⟩
def lw_privs_2 : List (MethodName × Nat) := [(⟨"AlmanacOffice$State", "sellAt", "(I)V"⟩, 14), (⟨"AlmanacOffice$State", "judge", "(II)V"⟩, 14), (⟨"java/lang/Throwable", "fillInStackTrace", "(I)Ljava/lang/Throwable;"⟩, 6), (⟨"AlmanacOffice", "requireRange", "(III)V"⟩, 9), (⟨"AlmanacOffice", "requireVillage", "(I)V"⟩, 9), (⟨"AlmanacOffice", "requireFair", "(I)V"⟩, 9), (⟨"AlmanacOffice", "requireForecast", "(II)I"⟩, 9), (⟨"AlmanacOffice", "requirePage", "(I)V"⟩, 9), (⟨"AlmanacOffice", "lookAhead", "(I)V"⟩, 9), (⟨"AlmanacOffice", "writeForecast", "(I)V"⟩, 9), (⟨"AlmanacOffice", "requireSlot", "(I)V"⟩, 9), (⟨"AlmanacOfficeModel", "layInput", "(Ljava/lang/String;)V"⟩, 20), (⟨"AlmanacOfficeModel", "read", "()V"⟩, 20), (⟨"AlmanacOfficeModel", "advance", "()V"⟩, 20), (⟨"AlmanacOfficeModel", "byteAt", "(I)I"⟩, 20), (⟨"AlmanacOfficeModel", "is", "(Ljava/lang/String;)Z"⟩, 20)]
theorem lw_r2 : ∀ q ∈ lw_privs_2, lw_okq q := List.forall_mem_cons.mpr ⟨lw_p16, List.forall_mem_cons.mpr ⟨lw_p17, List.forall_mem_cons.mpr ⟨lw_p18, List.forall_mem_cons.mpr ⟨lw_p19, List.forall_mem_cons.mpr ⟨lw_p20, List.forall_mem_cons.mpr ⟨lw_p21, List.forall_mem_cons.mpr ⟨lw_p22, List.forall_mem_cons.mpr ⟨lw_p23, List.forall_mem_cons.mpr ⟨lw_p24, List.forall_mem_cons.mpr ⟨lw_p25, List.forall_mem_cons.mpr ⟨lw_p26, List.forall_mem_cons.mpr ⟨lw_p27, List.forall_mem_cons.mpr ⟨lw_p28, List.forall_mem_cons.mpr ⟨lw_p29, List.forall_mem_cons.mpr ⟨lw_p30, List.forall_mem_cons.mpr ⟨lw_p31, fun _ h => absurd h List.not_mem_nil⟩⟩⟩⟩⟩⟩⟩⟩⟩⟩⟩⟩⟩⟩⟩⟩
theorem lw_p32 : lw_okq (⟨"AlmanacOfficeModel", "check", "(ZI)Z"⟩, 20) := ⟨⟨by decide +kernel, by decide +kernel⟩, List.mem_of_getElem? (i := 1277) (by decide +kernel), List.mem_of_getElem? (i := 1314) (by decide +kernel), List.mem_of_getElem? (i := 1315) (by decide +kernel)⟩
theorem lw_p33 : lw_okq (⟨"AlmanacOfficeModel", "next", "()V"⟩, 20) := ⟨⟨by decide +kernel, by decide +kernel⟩, List.mem_of_getElem? (i := 1277) (by decide +kernel), List.mem_of_getElem? (i := 1318) (by decide +kernel), List.mem_of_getElem? (i := 1319) (by decide +kernel)⟩
theorem lw_p34 : lw_okq (⟨"AlmanacOfficeModel", "number", "(II)I"⟩, 20) := ⟨⟨by decide +kernel, by decide +kernel⟩, List.mem_of_getElem? (i := 1277) (by decide +kernel), List.mem_of_getElem? (i := 1322) (by decide +kernel), List.mem_of_getElem? (i := 1323) (by decide +kernel)⟩
theorem lw_p35 : lw_okq (⟨"AlmanacOfficeModel", "look", "(II)I"⟩, 20) := ⟨⟨by decide +kernel, by decide +kernel⟩, List.mem_of_getElem? (i := 1277) (by decide +kernel), List.mem_of_getElem? (i := 1326) (by decide +kernel), List.mem_of_getElem? (i := 1327) (by decide +kernel)⟩
theorem lw_p36 : lw_okq (⟨"AlmanacOfficeModel", "finish", "()V"⟩, 20) := ⟨⟨by decide +kernel, by decide +kernel⟩, List.mem_of_getElem? (i := 1277) (by decide +kernel), List.mem_of_getElem? (i := 1333) (by decide +kernel), List.mem_of_getElem? (i := 1334) (by decide +kernel)⟩
theorem lw_p37 : lw_okq (⟨"AlmanacOfficeModel", "readStatement", "()V"⟩, 20) := ⟨⟨by decide +kernel, by decide +kernel⟩, List.mem_of_getElem? (i := 1277) (by decide +kernel), List.mem_of_getElem? (i := 1337) (by decide +kernel), List.mem_of_getElem? (i := 1338) (by decide +kernel)⟩
theorem lw_p38 : lw_okq (⟨"AlmanacOfficeModel", "readVillage", "()V"⟩, 20) := ⟨⟨by decide +kernel, by decide +kernel⟩, List.mem_of_getElem? (i := 1277) (by decide +kernel), List.mem_of_getElem? (i := 1342) (by decide +kernel), List.mem_of_getElem? (i := 1343) (by decide +kernel)⟩
theorem lw_p39 : lw_okq (⟨"AlmanacOfficeModel", "newName", "()I"⟩, 20) := ⟨⟨by decide +kernel, by decide +kernel⟩, List.mem_of_getElem? (i := 1277) (by decide +kernel), List.mem_of_getElem? (i := 1346) (by decide +kernel), List.mem_of_getElem? (i := 1347) (by decide +kernel)⟩
theorem lw_p40 : lw_okq (⟨"AlmanacOfficeModel", "nameFrom", "(II)I"⟩, 20) := ⟨⟨by decide +kernel, by decide +kernel⟩, List.mem_of_getElem? (i := 1277) (by decide +kernel), List.mem_of_getElem? (i := 1350) (by decide +kernel), List.mem_of_getElem? (i := 1351) (by decide +kernel)⟩
theorem lw_p41 : lw_okq (⟨"AlmanacOfficeModel", "readFair", "()V"⟩, 20) := ⟨⟨by decide +kernel, by decide +kernel⟩, List.mem_of_getElem? (i := 1277) (by decide +kernel), List.mem_of_getElem? (i := 1367) (by decide +kernel), List.mem_of_getElem? (i := 1368) (by decide +kernel)⟩
theorem lw_p42 : lw_okq (⟨"AlmanacOfficeModel", "villageHere", "()I"⟩, 20) := ⟨⟨by decide +kernel, by decide +kernel⟩, List.mem_of_getElem? (i := 1277) (by decide +kernel), List.mem_of_getElem? (i := 1371) (by decide +kernel), List.mem_of_getElem? (i := 1372) (by decide +kernel)⟩
theorem lw_p43 : lw_okq (⟨"AlmanacOfficeModel", "readSay", "()V"⟩, 20) := ⟨⟨by decide +kernel, by decide +kernel⟩, List.mem_of_getElem? (i := 1277) (by decide +kernel), List.mem_of_getElem? (i := 1376) (by decide +kernel), List.mem_of_getElem? (i := 1377) (by decide +kernel)⟩
theorem lw_p44 : lw_okq (⟨"AlmanacOfficeModel", "weatherHere", "()I"⟩, 20) := ⟨⟨by decide +kernel, by decide +kernel⟩, List.mem_of_getElem? (i := 1277) (by decide +kernel), List.mem_of_getElem? (i := 1380) (by decide +kernel), List.mem_of_getElem? (i := 1381) (by decide +kernel)⟩
theorem lw_p45 : lw_okq (⟨"AlmanacOfficeModel", "readRetract", "()V"⟩, 20) := ⟨⟨by decide +kernel, by decide +kernel⟩, List.mem_of_getElem? (i := 1277) (by decide +kernel), List.mem_of_getElem? (i := 1400) (by decide +kernel), List.mem_of_getElem? (i := 1401) (by decide +kernel)⟩
theorem lw_p46 : lw_okq (⟨"AlmanacOfficeModel", "readPass", "()V"⟩, 20) := ⟨⟨by decide +kernel, by decide +kernel⟩, List.mem_of_getElem? (i := 1277) (by decide +kernel), List.mem_of_getElem? (i := 1426) (by decide +kernel), List.mem_of_getElem? (i := 1427) (by decide +kernel)⟩
theorem lw_p47 : lw_okq (⟨"AlmanacOfficeModel", "refuses", "(ZI)Z"⟩, 20) := ⟨⟨by decide +kernel, by decide +kernel⟩, List.mem_of_getElem? (i := 1277) (by decide +kernel), List.mem_of_getElem? (i := 1538) (by decide +kernel), List.mem_of_getElem? (i := 1539) (by decide +kernel)⟩
def lw_privs_3 : List (MethodName × Nat) := [(⟨"AlmanacOfficeModel", "check", "(ZI)Z"⟩, 20), (⟨"AlmanacOfficeModel", "next", "()V"⟩, 20), (⟨"AlmanacOfficeModel", "number", "(II)I"⟩, 20), (⟨"AlmanacOfficeModel", "look", "(II)I"⟩, 20), (⟨"AlmanacOfficeModel", "finish", "()V"⟩, 20), (⟨"AlmanacOfficeModel", "readStatement", "()V"⟩, 20), (⟨"AlmanacOfficeModel", "readVillage", "()V"⟩, 20), (⟨"AlmanacOfficeModel", "newName", "()I"⟩, 20), (⟨"AlmanacOfficeModel", "nameFrom", "(II)I"⟩, 20), (⟨"AlmanacOfficeModel", "readFair", "()V"⟩, 20), (⟨"AlmanacOfficeModel", "villageHere", "()I"⟩, 20), (⟨"AlmanacOfficeModel", "readSay", "()V"⟩, 20), (⟨"AlmanacOfficeModel", "weatherHere", "()I"⟩, 20), (⟨"AlmanacOfficeModel", "readRetract", "()V"⟩, 20), (⟨"AlmanacOfficeModel", "readPass", "()V"⟩, 20), (⟨"AlmanacOfficeModel", "refuses", "(ZI)Z"⟩, 20)]
theorem lw_r3 : ∀ q ∈ lw_privs_3, lw_okq q := List.forall_mem_cons.mpr ⟨lw_p32, List.forall_mem_cons.mpr ⟨lw_p33, List.forall_mem_cons.mpr ⟨lw_p34, List.forall_mem_cons.mpr ⟨lw_p35, List.forall_mem_cons.mpr ⟨lw_p36, List.forall_mem_cons.mpr ⟨lw_p37, List.forall_mem_cons.mpr ⟨lw_p38, List.forall_mem_cons.mpr ⟨lw_p39, List.forall_mem_cons.mpr ⟨lw_p40, List.forall_mem_cons.mpr ⟨lw_p41, List.forall_mem_cons.mpr ⟨lw_p42, List.forall_mem_cons.mpr ⟨lw_p43, List.forall_mem_cons.mpr ⟨lw_p44, List.forall_mem_cons.mpr ⟨lw_p45, List.forall_mem_cons.mpr ⟨lw_p46, List.forall_mem_cons.mpr ⟨lw_p47, fun _ h => absurd h List.not_mem_nil⟩⟩⟩⟩⟩⟩⟩⟩⟩⟩⟩⟩⟩⟩⟩⟩
theorem lw_p48 : lw_okq (⟨"AlmanacOfficeModel", "appendWord", "(I)V"⟩, 20) := ⟨⟨by decide +kernel, by decide +kernel⟩, List.mem_of_getElem? (i := 1277) (by decide +kernel), List.mem_of_getElem? (i := 1542) (by decide +kernel), List.mem_of_getElem? (i := 1543) (by decide +kernel)⟩
theorem lw_p49 : lw_okq (⟨"AlmanacOfficeModel", "noNumber", "(III)Z"⟩, 20) := ⟨⟨by decide +kernel, by decide +kernel⟩, List.mem_of_getElem? (i := 1277) (by decide +kernel), List.mem_of_getElem? (i := 1550) (by decide +kernel), List.mem_of_getElem? (i := 1551) (by decide +kernel)⟩
theorem lw_p50 : lw_okq (⟨"AlmanacOfficeModel", "remember", "()V"⟩, 20) := ⟨⟨by decide +kernel, by decide +kernel⟩, List.mem_of_getElem? (i := 1277) (by decide +kernel), List.mem_of_getElem? (i := 1566) (by decide +kernel), List.mem_of_getElem? (i := 1567) (by decide +kernel)⟩
theorem lw_p51 : lw_okq (⟨"AlmanacOfficeModel", "noVillage", "(I)Z"⟩, 20) := ⟨⟨by decide +kernel, by decide +kernel⟩, List.mem_of_getElem? (i := 1277) (by decide +kernel), List.mem_of_getElem? (i := 1602) (by decide +kernel), List.mem_of_getElem? (i := 1603) (by decide +kernel)⟩
theorem lw_p52 : lw_okq (⟨"AlmanacOfficeModel", "noFair", "(I)Z"⟩, 20) := ⟨⟨by decide +kernel, by decide +kernel⟩, List.mem_of_getElem? (i := 1277) (by decide +kernel), List.mem_of_getElem? (i := 1618) (by decide +kernel), List.mem_of_getElem? (i := 1619) (by decide +kernel)⟩
theorem lw_p53 : lw_okq (⟨"AlmanacOfficeModel", "noWeather", "(I)Z"⟩, 20) := ⟨⟨by decide +kernel, by decide +kernel⟩, List.mem_of_getElem? (i := 1277) (by decide +kernel), List.mem_of_getElem? (i := 1642) (by decide +kernel), List.mem_of_getElem? (i := 1643) (by decide +kernel)⟩
theorem lw_p54 : lw_okq (⟨"AlmanacOfficeModel", "noForecast", "(II)Z"⟩, 20) := ⟨⟨by decide +kernel, by decide +kernel⟩, List.mem_of_getElem? (i := 1277) (by decide +kernel), List.mem_of_getElem? (i := 1674) (by decide +kernel), List.mem_of_getElem? (i := 1675) (by decide +kernel)⟩
theorem lw_p55 : lw_okq (⟨"AlmanacOfficeModel", "told", "(I)I"⟩, 20) := ⟨⟨by decide +kernel, by decide +kernel⟩, List.mem_of_getElem? (i := 1277) (by decide +kernel), List.mem_of_getElem? (i := 1694) (by decide +kernel), List.mem_of_getElem? (i := 1695) (by decide +kernel)⟩
theorem lw_p56 : lw_okq (⟨"AlmanacOfficeModel", "noPage", "(I)Z"⟩, 20) := ⟨⟨by decide +kernel, by decide +kernel⟩, List.mem_of_getElem? (i := 1277) (by decide +kernel), List.mem_of_getElem? (i := 1706) (by decide +kernel), List.mem_of_getElem? (i := 1707) (by decide +kernel)⟩
theorem lw_p57 : lw_okq (⟨"AlmanacOfficeModel", "out", "(III)Z"⟩, 20) := ⟨⟨by decide +kernel, by decide +kernel⟩, List.mem_of_getElem? (i := 1277) (by decide +kernel), List.mem_of_getElem? (i := 1746) (by decide +kernel), List.mem_of_getElem? (i := 1747) (by decide +kernel)⟩
theorem lw_p58 : lw_okq (⟨"AlmanacOfficeModel", "alikeBehind", "(I)I"⟩, 20) := ⟨⟨by decide +kernel, by decide +kernel⟩, List.mem_of_getElem? (i := 1277) (by decide +kernel), List.mem_of_getElem? (i := 1770) (by decide +kernel), List.mem_of_getElem? (i := 1771) (by decide +kernel)⟩
theorem lw_p59 : lw_okq (⟨"AlmanacOfficeModel", "put", "(I)V"⟩, 20) := ⟨⟨by decide +kernel, by decide +kernel⟩, List.mem_of_getElem? (i := 1277) (by decide +kernel), List.mem_of_getElem? (i := 1810) (by decide +kernel), List.mem_of_getElem? (i := 1811) (by decide +kernel)⟩
theorem lw_p60 : lw_okq (⟨"AlmanacOfficeModel", "printName", "(I)V"⟩, 20) := ⟨⟨by decide +kernel, by decide +kernel⟩, List.mem_of_getElem? (i := 1277) (by decide +kernel), List.mem_of_getElem? (i := 1814) (by decide +kernel), List.mem_of_getElem? (i := 1815) (by decide +kernel)⟩
theorem lw_p61 : lw_okq (⟨"AlmanacOfficeModel", "printNumber", "(I)V"⟩, 20) := ⟨⟨by decide +kernel, by decide +kernel⟩, List.mem_of_getElem? (i := 1277) (by decide +kernel), List.mem_of_getElem? (i := 1818) (by decide +kernel), List.mem_of_getElem? (i := 1819) (by decide +kernel)⟩
def lw_privs_4 : List (MethodName × Nat) := [(⟨"AlmanacOfficeModel", "appendWord", "(I)V"⟩, 20), (⟨"AlmanacOfficeModel", "noNumber", "(III)Z"⟩, 20), (⟨"AlmanacOfficeModel", "remember", "()V"⟩, 20), (⟨"AlmanacOfficeModel", "noVillage", "(I)Z"⟩, 20), (⟨"AlmanacOfficeModel", "noFair", "(I)Z"⟩, 20), (⟨"AlmanacOfficeModel", "noWeather", "(I)Z"⟩, 20), (⟨"AlmanacOfficeModel", "noForecast", "(II)Z"⟩, 20), (⟨"AlmanacOfficeModel", "told", "(I)I"⟩, 20), (⟨"AlmanacOfficeModel", "noPage", "(I)Z"⟩, 20), (⟨"AlmanacOfficeModel", "out", "(III)Z"⟩, 20), (⟨"AlmanacOfficeModel", "alikeBehind", "(I)I"⟩, 20), (⟨"AlmanacOfficeModel", "put", "(I)V"⟩, 20), (⟨"AlmanacOfficeModel", "printName", "(I)V"⟩, 20), (⟨"AlmanacOfficeModel", "printNumber", "(I)V"⟩, 20)]
theorem lw_r4 : ∀ q ∈ lw_privs_4, lw_okq q := List.forall_mem_cons.mpr ⟨lw_p48, List.forall_mem_cons.mpr ⟨lw_p49, List.forall_mem_cons.mpr ⟨lw_p50, List.forall_mem_cons.mpr ⟨lw_p51, List.forall_mem_cons.mpr ⟨lw_p52, List.forall_mem_cons.mpr ⟨lw_p53, List.forall_mem_cons.mpr ⟨lw_p54, List.forall_mem_cons.mpr ⟨lw_p55, List.forall_mem_cons.mpr ⟨lw_p56, List.forall_mem_cons.mpr ⟨lw_p57, List.forall_mem_cons.mpr ⟨lw_p58, List.forall_mem_cons.mpr ⟨lw_p59, List.forall_mem_cons.mpr ⟨lw_p60, List.forall_mem_cons.mpr ⟨lw_p61, fun _ h => absurd h List.not_mem_nil⟩⟩⟩⟩⟩⟩⟩⟩⟩⟩⟩⟩⟩⟩
def lw_privs : List (MethodName × Nat) := lw_privs_1 ++ (lw_privs_2 ++ (lw_privs_3 ++ (lw_privs_4)))
def lw_tbl : List Cond := k2_sels lw_privs ++ tables_1
theorem lw_privs_ok : ∀ q ∈ lw_privs, lw_okq q := by
  show ∀ q ∈ lw_privs_1 ++ (lw_privs_2 ++ (lw_privs_3 ++ (lw_privs_4))), lw_okq q
  exact List.forall_mem_append.mpr ⟨lw_r1, List.forall_mem_append.mpr ⟨lw_r2, List.forall_mem_append.mpr ⟨lw_r3, lw_r4⟩⟩⟩
/-- the streams that the claim lets the run draw from -/
abbrev lw_cs : List Choice := [Jvm.Choice.named "NaN.bits"]
theorem lw_bits : nanBits ∈ lw_cs := by first | decide | exact List.mem_cons_self | simp [lw_cs, nanBits]
end
section
/-! ===== BEGIN words of one list among another's, by their places ===== -/
theorem goodIn_r {big : List Cond} (ws : List Cond) (ps : List Nat) (hp : ws = ps.filterMap (fun i => big[i]?)) (h : ws.all goodWord = true) : GoodIn big ws := by
  intro w hw
  have h1 := List.all_eq_true.mp h w hw
  rw [hp] at hw
  obtain ⟨i, -, hi⟩ := List.mem_filterMap.mp hw
  have hm : w ∈ big := by first | exact List.mem_of_getElem? hi | exact List.getElem?_mem hi
  exact ⟨hm, good_of_word h1⟩
theorem goodIn_app {big a b : List Cond} (ha : GoodIn big a) (hb : GoodIn big b) : GoodIn big (a ++ b) := fun w h => (List.mem_append.mp h).elim (ha w) (hb w)
theorem goodIn_ca {big a b : List Cond} {c : Cond} (ha : GoodIn big (c :: a)) (hb : GoodIn big b) : GoodIn big (c :: (a ++ b)) := fun w h => (List.mem_cons.mp h).elim (fun e => ha w (List.mem_cons.mpr (Or.inl e))) (fun h => (List.mem_append.mp h).elim (fun h => ha w (List.mem_cons.mpr (Or.inr h))) (hb w))
theorem goodIn_sub {big ws : List Cond} (hm : ∀ w ∈ ws, w ∈ big) (h : ws.all goodWord = true) : GoodIn big ws := fun w hw => ⟨hm w hw, good_of_word (List.all_eq_true.mp h w hw)⟩
/-! ===== END ===== -/

/-! ===== BEGIN exceptions that leave a method, and their catching by the caller (launches without stack traces) ===== -/
section VXA
/-! The laws vx_back, vx_callV, vx_callS, vx_callSW, vx_throw0, vx_throwS follow proofs of the library, with one case more: JvmDerived/Free/Laws.lean (Back.of_free), Shelf42/LK1.lean (callV, callS), Shelf/KitTraced.lean (throwNew0V, throwNewS). -/
/-- where a method has thrown q: the class by its name, the cell, what was written, the world -/
def vx_T (XC : String → State → State → Prop) (st : State) (q : Addr) (t : State) (mc ms : Nat) (free : Addr → Prop) : Prop :=
  ∃ (E : String) (ce : Cell) (L : List Loc), XC E st t ∧ t.heap[q]? = some ce ∧ ce.vm = .none ∧ st.vm.findClass E = some ce.cls ∧ st.WarmedH t.vm ∧ st.sameButNew ({ t with vm := st.vm } : State) L mc ms ∧ ∀ z ∈ L, free z.base
def vx_Q (Qc : Array Value → State → Outcome → State → Prop) (XC : String → State → State → Prop) (mc ms : Nat) (free : Addr → Prop) : Array Value → State → Outcome → State → Prop := fun a st o t =>
  (Qc a st o t ∧ ∃ L, FrameEnd st o t L mc ms ∧ ∀ q ∈ L, free q.base) ∨ ∃ q, o = .threw q ∧ vx_T XC st q t mc ms free
/-- a callee that returns or throws -/
def vx_Met (l : Launch) (y : MethodName) (ws : List Cond) (rm : Room) (Pc : Array Value → State → Prop) (Qc : Array Value → State → Outcome → State → Prop) (XC : String → State → State → Prop) (mc ms : Nat) (free : Addr → Prop) : Prop :=
  MetFree l y (headSpec ws rm) Pc (fun _ _ _ _ _ => True) (vx_Q Qc XC mc ms free)
def vx_Post (XC : String → State → State → Prop) (mc ms : Nat) (free : Addr → Prop) : Pt → Array Value → Addr → Pt → Prop := fun A a q B =>
  ∃ (g : JFrame) (mk : MethodId) (t : State) (L : List Loc) (E : String) (ce : Cell), B.U.heap = t.heap ∧ B.U.vm = t.vm ∧ XC E (A.U.calling g mk a) t ∧ t.heap[q]? = some ce ∧ ce.vm = .none ∧ A.U.vm.findClass E = some ce.cls ∧ B.locs = A.locs ++ L ∧ (∀ z ∈ L, free z.base) ∧ B.cells = A.cells + mc ∧ B.slots = A.slots + ms
def vx_Back (l : Launch) (R : Room) (p : Program) (e : Env) (below : List Frame) (s : State) (sargs : Array Value) (y : MethodName) (len W9 : Nat)
    (Pre : Pt → Array Value → Prop) (Post : Pt → Array Value → Option Value → Pt → Prop) (PostX : Pt → Array Value → Addr → Pt → Prop) : Prop :=
  ∀ (m : MethodId) (meth : Method) (c : Code) (A : Pt) (g : JFrame) (ig : Instr) (mk : MethodId) (a : Array Value),
    Stand p l e R s m sargs below meth c A.U A.locs A.cells A.slots → g.method = m → g.locals.size = c.maxLocals → decode c.code g.pc = .ok (ig, len) →
    2 * g.monitorRoom + (g.stack.map fun v => v.category).sum ≤ W9 → A.U.methodNamed? y = some mk → Pre A a →
    (∃ (v : Option Value) (B : Pt), Stand p l e R s m sargs below meth c B.U B.locs B.cells B.slots ∧ Post A a v B ∧
      Steps p.tables e below (doInvoke e (A.U.setTop g) [] mk a).1 (B.U.setTop { g with pc := g.pc + len, stack := v.toList ++ g.stack })) ∨
    (∃ (q : Addr) (B : Pt), Stand p l e R s m sargs below meth c B.U B.locs B.cells B.slots ∧ PostX A a q B ∧
      Steps p.tables e below (doInvoke e (A.U.setTop g) [] mk a).1 ((B.U.setTop g).pushFrame (.throwing q)))
section Payer
variable {l : Launch} {R : Room} {p : Program} {e : Env} {below : List Frame} {s : State} {sargs : Array Value} {y : MethodName} {len W9 : Nat}
theorem vx_back {ws : List Cond} {rm : Room} {Pc : Array Value → State → Prop} {Qc : Array Value → State → Outcome → State → Prop} {XC : String → State → State → Prop} {mc ms : Nat} {free : Addr → Prop} {bytes : ByteArray} {maxL : Nat} {ret : Option FieldType}
    (hM : vx_Met l y ws rm Pc Qc XC mc ms free) (hblind : FrameBlind Pc) (hrc : rm.cells = mc) (hrs : rm.slots = ms)
    (hframes : rm.frames + 1 ≤ R.frames) (hlocals : W9 + (maxL + 11) + rm.locals ≤ R.locals)
    (hws : ∀ w ∈ ws, ∀ a' U, s.WarmedH U.vm → w.before a' U = true) (hcode : Cond.code y bytes maxL ret ∈ ws) (hinit : ∀ a' U, s.WarmedH U.vm → (Cond.initialized y.cls).before a' U = true) :
    vx_Back l R p e below s sargs y len W9 (PreOf R mc ms Pc) (PostOf Qc mc ms free) (vx_Post XC mc ms free) := by
  intro m meth c A g ig mk a X hg hsize hdg hW hn hp
  have h1 : (headSpec ws rm).pre.before a A.U = true := atoms_intro fun w hw => hws w hw _ _ X.warmed
  have h2 : (Cond.code y bytes maxL ret).before a A.U = true := hws _ hcode _ _ X.warmed
  have h3 : (Cond.initialized y.cls).before a A.U = true := hinit _ _ X.warmed
  have h4 : A.cells + (headSpec ws rm).room.cells ≤ R.cells := by rw [show (headSpec ws rm).room.cells = mc from hrc]; exact hp.1
  have h5 : A.slots + (headSpec ws rm).room.slots ≤ R.slots := by rw [show (headSpec ws rm).room.slots = ms from hrs]; exact hp.2.1
  have hPc : Pc a (A.U.calling g mk a) := hblind _ _ _ _ hp.2.2
  obtain ⟨U, Ls, c0, s0⟩ := A
  dsimp only [Pt.U, Pt.locs, Pt.cells, Pt.slots] at h1 h2 h3 h4 h5 X hn hPc ⊢
  obtain ⟨methY, cY, hmY, hcY, -, hlY, -, -, -, -⟩ := Cond.code_spec hn h2
  obtain ⟨kY, hkY, -⟩ := className_of_methodNamed hn
  have hinitY : kY.init = .initialized := Cond.initialized_spec (findClass_of_methodNamed hn) hkY h3
  have h : At U g.method c below := by rw [hg]; exact X.here
  have hlocals9 : W9 + (maxL + 11) + (headSpec ws rm).room.locals ≤ R.locals := hlocals
  have happ : (headSpec ws rm).appliesLoose y e.platform (U.calling g mk a) = true :=
    Spec.appliesLoose_calling (g := g) h hdg hn hkY hinitY
      (X.room_calling (g := g) (R' := (headSpec ws rm).room) hsize hmY hcY hframes (by rw [hlY]; omega) h4 h5) h1
  obtain ⟨mid, hmid⟩ := h.above
  have hfr : (U.setTop g).frames = (.java g :: mid) ++ below := by rw [State.frames_setTop' g h.top, hmid]; rfl
  obtain ⟨o, s₂, hsteps, -, hend, hq⟩ := Steps.callFree hM p X.admits X.cas X.clock (acts := []) hfr happ hPc trivial
  have hq' : vx_Q Qc XC mc ms free a (U.calling g mk a) o s₂ := hq
  rw [State.frames_setTop' g h.top] at hend
  obtain ⟨g₀, hg0⟩ := Option.isSome_iff_exists.mp h.top
  obtain ⟨r, hr⟩ := State.topJava?_eq_some.mp hg0
  have hr' : (({ U with heap := s₂.heap, slotsUsed := s₂.slotsUsed } : State).setVm s₂.vm).frames = .java g₀ :: r := hr
  rcases hq' with ⟨hqc, L, hfe, hL⟩ | ⟨q, rfl, E, ce, L, hx, hce, hcv, hcl, hW₂, hsm, hL⟩
  · obtain ⟨⟨v, rfl⟩, hW₂, e2, q2, q3, q4, q5, q6⟩ := id hfe
    have e3 : s₂ = ({ (U.calling g mk a).setFrames s₂.frames with heap := s₂.heap, slotsUsed := s₂.slotsUsed } : State).setVm s₂.vm := by
      have : s₂ = ({ s₂ with vm := (U.calling g mk a).vm } : State).setVm s₂.vm := rfl
      rw [e2] at this
      exact this
    obtain ⟨c₂, i₂, len₂, hc₂, hd₂, hf₂⟩ := hend
    have hW' : U.WarmedH s₂.vm := hW₂
    have hcc : c₂ = c := by
      have h1 : s₂.code? g.method = U.code? g.method := by
        rw [State.code?_eq, State.code?_eq, hW'.alike.method?]
      exact Option.some.inj (hc₂.symm.trans (h1.trans h.code))
    subst hcc
    have hlen : len₂ = len := by rw [hdg] at hd₂; cases hd₂; rfl
    subst hlen
    have hs₂ : s₂ = (({ U with heap := s₂.heap, slotsUsed := s₂.slotsUsed } : State).setVm s₂.vm).setTop { g with pc := g.pc + len₂, stack := v.toList ++ g.stack } := by
      refine e3.trans ?_
      rw [hf₂, State.calling_eq h.top, State.setFrames_setFrames, State.setTop_of_frames _ hr', hr]
      rfl
    have hsame : U.sameButNew ({ U with heap := s₂.heap, slotsUsed := s₂.slotsUsed } : State) L mc ms := by
      refine ⟨?_, q2, q3, q4, q5, q6⟩
      obtain ⟨t, ht, -⟩ := State.frames_cons hr
      show ({ U with heap := s₂.heap, slotsUsed := s₂.slotsUsed } : State) = { U.setFrames U.frames with heap := s₂.heap, slotsUsed := s₂.slotsUsed }
      rw [State.setFrames_self ht]
    subst hg
    refine Or.inl ⟨v, ⟨(({ U with heap := s₂.heap, slotsUsed := s₂.slotsUsed } : State).setVm s₂.vm), Ls ++ L, c0 + mc, s0 + ms⟩,
      ⟨X.admits, X.cas, X.clock, X.frames, X.room, X.hears, X.method, X.code, (X.here.setHeapUsed s₂.heap s₂.slotsUsed).setVm hW'.alike, X.tail, State.WarmedH.trans X.warmed hW', X.limits, X.bytes, X.same.trans (hsame.setVm s.vm)⟩,
      ⟨g, mk, s₂, L, rfl, rfl, hqc, rfl, hL, rfl, rfl⟩, ?_⟩
    show Steps p.tables e below _ ((({ U with heap := s₂.heap, slotsUsed := s₂.slotsUsed } : State).setVm s₂.vm).setTop { g with pc := g.pc + len₂, stack := v.toList ++ g.stack })
    rw [← hs₂]
    exact hsteps
  · obtain ⟨e2, q2, q3, q4, q5, q6⟩ := id hsm
    have e3 : s₂ = ({ (U.calling g mk a).setFrames s₂.frames with heap := s₂.heap, slotsUsed := s₂.slotsUsed } : State).setVm s₂.vm := by
      have : s₂ = ({ s₂ with vm := (U.calling g mk a).vm } : State).setVm s₂.vm := rfl
      rw [e2] at this
      exact this
    have hf₂ : s₂.frames = .throwing q :: .java g :: U.frames.tail := hend
    have hW' : U.WarmedH s₂.vm := hW₂
    have hs₂ : s₂ = ((({ U with heap := s₂.heap, slotsUsed := s₂.slotsUsed } : State).setVm s₂.vm).setTop g).pushFrame (.throwing q) := by
      refine e3.trans ?_
      rw [hf₂, State.calling_eq h.top, State.setFrames_setFrames, State.pushFrame, State.frames_setTop _ hr', State.setTop_of_frames _ hr', State.setFrames_setFrames, hr]
      rfl
    have hsame : U.sameButNew ({ U with heap := s₂.heap, slotsUsed := s₂.slotsUsed } : State) L mc ms := by
      refine ⟨?_, q2, q3, q4, q5, q6⟩
      obtain ⟨t, ht, -⟩ := State.frames_cons hr
      show ({ U with heap := s₂.heap, slotsUsed := s₂.slotsUsed } : State) = { U.setFrames U.frames with heap := s₂.heap, slotsUsed := s₂.slotsUsed }
      rw [State.setFrames_self ht]
    subst hg
    refine Or.inr ⟨q, ⟨(({ U with heap := s₂.heap, slotsUsed := s₂.slotsUsed } : State).setVm s₂.vm), Ls ++ L, c0 + mc, s0 + ms⟩,
      ⟨X.admits, X.cas, X.clock, X.frames, X.room, X.hears, X.method, X.code, (X.here.setHeapUsed s₂.heap s₂.slotsUsed).setVm hW'.alike, X.tail, State.WarmedH.trans X.warmed hW', X.limits, X.bytes, X.same.trans (hsame.setVm s.vm)⟩,
      ⟨g, mk, s₂, L, E, ce, rfl, rfl, hx, hce, hcv, hcl, rfl, hL, rfl, rfl⟩, ?_⟩
    show Steps p.tables e below _ (((({ U with heap := s₂.heap, slotsUsed := s₂.slotsUsed } : State).setVm s₂.vm).setTop g).pushFrame (.throwing q))
    rw [← hs₂]
    exact hsteps
end Payer
section Calls
variable {p : Program} {l : Launch} {e : Env} {R : Room} {s : State} {m : MethodId} {args : Array Value} {below : List Frame} {meth : Method} {c : Code} {T : State} {locs : List Loc} {cells slots : Nat}
theorem vx_callV (X : Stand p l e R s m args below meth c T locs cells slots) (hexec : p.tables.exec = Jvm.exec) {own C : String} {index : Nat} {y : MethodName} {bytes : ByteArray} {maxL : Nat} {ret : Option FieldType}
    (hown : s.vm.findClass own = some m.cls) (hlink : (Cond.methodLink own index y).before args s = true) (hinst : (Cond.instanceMethod y).before args s = true) (hsel : (Cond.selects C y y).before args s = true)
    (hcode : (Cond.code y bytes maxL ret).before args s = true) (hy : y.cls ≠ "java/lang/invoke/MethodHandle" ∧ y.cls ≠ "java/lang/invoke/VarHandle")
    {W9 : Nat} {Pre : Pt → Array Value → Prop} {Post : Pt → Array Value → Option Value → Pt → Prop} {PostX : Pt → Array Value → Addr → Pt → Prop} (hK : vx_Back l R p e below s args y 3 W9 Pre Post PostX)
    {b : Addr} {cellB : Cell} (hcell : T.heap[b]? = some cellB) (hobj : cellB.vm.isStatics = false) (hcls : s.vm.findClass C = some cellB.cls)
    {g : JFrame} (hg : g.method = m) (hsize : g.locals.size = c.maxLocals) {argsL rest : List Value} (hlen : ∀ sig, parseMethodDescriptor y.desc = some sig → argsL.length = sig.parameters.length)
    (hstack : g.stack = argsL.reverse ++ .ref b :: rest) (hW : 2 * g.monitorRoom + (rest.map fun v => v.category).sum ≤ W9) (hdg : decode c.code g.pc = .ok (.invokevirtual index, 3))
    (hpre : ∀ vm₁, s.WarmedH vm₁ → Pre ⟨T.setVm vm₁, locs, cells, slots⟩ (Value.ref b :: argsL).toArray) :
    (∃ (v : Option Value) (vm₁ : Vm) (B : Pt), s.WarmedH vm₁ ∧ Stand p l e R s m args below meth c B.U B.locs B.cells B.slots ∧ Post ⟨T.setVm vm₁, locs, cells, slots⟩ (Value.ref b :: argsL).toArray v B ∧
      ∀ target, Steps p.tables e below (B.U.setTop { g with pc := g.pc + 3, stack := v.toList ++ rest }) target → Steps p.tables e below (T.setTop g) target) ∨
    (∃ (q : Addr) (vm₁ : Vm) (B : Pt), s.WarmedH vm₁ ∧ Stand p l e R s m args below meth c B.U B.locs B.cells B.slots ∧ PostX ⟨T.setVm vm₁, locs, cells, slots⟩ (Value.ref b :: argsL).toArray q B ∧
      Steps p.tables e below (T.setTop g) ((B.U.setTop { g with stack := rest }).pushFrame (.throwing q))) := by
  obtain ⟨mk, methM, hnamed, hmethM, hstM, habM⟩ := Cond.instanceMethod_spec hinst
  obtain ⟨methM', cM, hmethM', -, -, -, -, -, -, hsigM⟩ := Cond.code_spec hnamed hcode
  cases hmethM.symm.trans hmethM'
  obtain ⟨c2, r2, m2, q1, q2, q3, q4, kP, hkP, hkPi⟩ := Cond.selects_spec hsel
  cases hcls.symm.trans q1
  cases (State.methodFound?_of_named hnamed hy).symm.trans q2
  cases hnamed.symm.trans q3
  have hselP : selectMethod e.platform s.vm cellB.cls mk = .method mk := by rw [Launch.admits_selectMethod X.admits]; exact q4
  obtain ⟨vm₁, X₁, hstep₁⟩ := X.invokevirtual hexec hown hlink hnamed hmethM hstM hkP hkPi hy (a := b) (cell := cellB) hcell
    (fun z h => by rw [h] at hobj; cases hobj) hselP hmethM habM hkP hkPi (g := g) hg (argsL := argsL) (rest := rest) (hlen _ hsigM) hstack hdg
  rcases hK m meth c ⟨T.setVm vm₁, locs, cells, slots⟩ { g with stack := rest } (.invokevirtual index) mk (Value.ref b :: argsL).toArray X₁ hg hsize hdg hW (X₁.named hnamed) (hpre vm₁ X₁.warmed) with ⟨v, B, X', hpost, hsteps⟩ | ⟨q, B, X', hpost, hsteps⟩
  · exact Or.inl ⟨v, vm₁, B, X₁.warmed, X', hpost, fun target h => hstep₁ _ fun acts => by rw [doInvoke_state]; exact hsteps.trans h⟩
  · exact Or.inr ⟨q, vm₁, B, X₁.warmed, X', hpost, hstep₁ _ fun acts => by rw [doInvoke_state]; exact hsteps⟩
theorem vx_callS (X : Stand p l e R s m args below meth c T locs cells slots) (hexec : p.tables.exec = Jvm.exec) {own : String} {index : Nat} {y : MethodName} {bytes : ByteArray} {maxL : Nat} {ret : Option FieldType}
    (hown : s.vm.findClass own = some m.cls) (hlink : (Cond.methodLink own index y).before args s = true) (hstat : (Cond.static y).before args s = true) (hinit : (Cond.initialized y.cls).before args s = true)
    (hcode : (Cond.code y bytes maxL ret).before args s = true) (hy : y.cls ≠ "java/lang/invoke/MethodHandle" ∧ y.cls ≠ "java/lang/invoke/VarHandle")
    {W9 : Nat} {Pre : Pt → Array Value → Prop} {Post : Pt → Array Value → Option Value → Pt → Prop} {PostX : Pt → Array Value → Addr → Pt → Prop} (hK : vx_Back l R p e below s args y 3 W9 Pre Post PostX)
    {g : JFrame} (hg : g.method = m) (hsize : g.locals.size = c.maxLocals) {argsL rest : List Value} (hlen : ∀ sig, parseMethodDescriptor y.desc = some sig → argsL.length = sig.parameters.length)
    (hstack : g.stack = argsL.reverse ++ rest) (hW : 2 * g.monitorRoom + (rest.map fun v => v.category).sum ≤ W9) (hdg : decode c.code g.pc = .ok (.invokestatic index, 3))
    (hpre : ∀ vm₁, s.WarmedH vm₁ → Pre ⟨T.setVm vm₁, locs, cells, slots⟩ argsL.toArray) :
    (∃ (v : Option Value) (vm₁ : Vm) (B : Pt), s.WarmedH vm₁ ∧ Stand p l e R s m args below meth c B.U B.locs B.cells B.slots ∧ Post ⟨T.setVm vm₁, locs, cells, slots⟩ argsL.toArray v B ∧
      ∀ target, Steps p.tables e below (B.U.setTop { g with pc := g.pc + 3, stack := v.toList ++ rest }) target → Steps p.tables e below (T.setTop g) target) ∨
    (∃ (q : Addr) (vm₁ : Vm) (B : Pt), s.WarmedH vm₁ ∧ Stand p l e R s m args below meth c B.U B.locs B.cells B.slots ∧ PostX ⟨T.setVm vm₁, locs, cells, slots⟩ argsL.toArray q B ∧
      Steps p.tables e below (T.setTop g) ((B.U.setTop { g with stack := rest }).pushFrame (.throwing q))) := by
  obtain ⟨mk, hnamed⟩ := Cond.code_named hcode
  obtain ⟨methM, cM, hmethM, -, -, -, -, -, -, hsigM⟩ := Cond.code_spec hnamed hcode
  have hstatic : methM.isStatic = true := Cond.static_spec hnamed hmethM hstat
  obtain ⟨kP, hkP, -⟩ := className_of_methodNamed hnamed
  have hinitP : kP.init = .initialized := Cond.initialized_spec (findClass_of_methodNamed hnamed) hkP hinit
  obtain ⟨vm₁, X₁, hstep₁⟩ := X.invokestatic hexec hown hlink hnamed hmethM hstatic hkP hinitP hy (g := g) hg (argsL := argsL) (rest := rest) (hlen _ hsigM) hstack hdg
  rcases hK m meth c ⟨T.setVm vm₁, locs, cells, slots⟩ { g with stack := rest } (.invokestatic index) mk argsL.toArray X₁ hg hsize hdg hW (X₁.named hnamed) (hpre vm₁ X₁.warmed) with ⟨v, B, X', hpost, hsteps⟩ | ⟨q, B, X', hpost, hsteps⟩
  · exact Or.inl ⟨v, vm₁, B, X₁.warmed, X', hpost, fun target h => hstep₁ _ fun acts => by rw [doInvoke_state]; exact hsteps.trans h⟩
  · exact Or.inr ⟨q, vm₁, B, X₁.warmed, X', hpost, hstep₁ _ fun acts => by rw [doInvoke_state]; exact hsteps⟩
end Calls
theorem vx_cls {s : State} {T : State} {vm₁ : Vm} {E : String} {k : ClassId} (hW : s.WarmedH vm₁) (h : (T.setVm vm₁).vm.findClass E = some k) : s.vm.findClass E = some k := by
  have h1 : vm₁.findClass E = some k := h
  rw [hW.alike.findClass] at h1
  exact h1
/-- the method's frame g, with q thrown over it -/
def vx_W (p : Program) (l : Launch) (e : Env) (R : Room) (s : State) (m : MethodId) (args : Array Value) (below : List Frame) (meth : Method) (c : Code) (H : Heap) (locs : List Loc) (cells slots : Nat) (Q : State → Prop) (g : JFrame) (q : Addr) : Prop :=
  ∀ T : State, T.heap = H → Stand p l e R s m args below meth c T locs cells slots → ∃ t, Steps p.tables e below ((T.setTop g).pushFrame (.throwing q)) t ∧ Q t
def vx_Run (p : Program) (l : Launch) (e : Env) (R : Room) (s : State) (m : MethodId) (args : Array Value) (below : List Frame) (meth : Method) (c : Code) (H : Heap) (locs : List Loc) (cells slots mc ms : Nat) (g : JFrame) (rest : List Value) (Qa : State → Outcome → State → Prop) (XC : String → State → State → Prop) (free : Addr → Prop) : Prop :=
  ∀ T : State, T.heap = H → Stand p l e R s m args below meth c T locs cells slots →
    (∃ (v : Option Value) (st₀ t T' : State) (L : List Loc), st₀.heap = H ∧ Stand p l e R s m args below meth c T' (locs ++ L) (cells + mc) (slots + ms) ∧ (∀ q ∈ L, free q.base) ∧ T'.heap = t.heap ∧ T'.vm = t.vm ∧ Qa st₀ (.returned v) t ∧
      Goes p e below T g T' { g with pc := g.pc + 3, stack := v.toList ++ rest }) ∨
    (∃ (q : Addr) (st₀ t T' : State) (L : List Loc) (E : String) (ce : Cell), st₀.heap = H ∧ Stand p l e R s m args below meth c T' (locs ++ L) (cells + mc) (slots + ms) ∧ (∀ z ∈ L, free z.base) ∧ T'.heap = t.heap ∧ T'.vm = t.vm ∧ XC E st₀ t ∧ t.heap[q]? = some ce ∧ ce.vm = .none ∧ s.vm.findClass E = some ce.cls ∧
      Steps p.tables e below (T.setTop g) ((T'.setTop { g with stack := rest }).pushFrame (.throwing q)))
def vx_X {S : Type} (px : S → Prop) (B : String → S → State → Prop) (A : Nat → Prop) : String → State → State → Prop := fun E st t => ∃ u : S, px u ∧ B E u t ∧ va_F A st t
section Runs
variable {p : Program} {l : Launch} {e : Env} {R : Room} {s : State} {m : MethodId} {args : Array Value} {below : List Frame} {meth : Method} {c : Code} {H : Heap} {locs : List Loc} {cells slots : Nat}
variable {y : MethodName} {bytes cc : ByteArray} {maxL nL mc ms n index : Nat} {ret : Option FieldType} {ws : List Cond} {rm : Room} {Pc : Array Value → State → Prop} {Qc : Array Value → State → Outcome → State → Prop} {XC : String → State → State → Prop} {free : Addr → Prop} {Ts : List Cond} {own C : String} {b : Addr} {As rest : List Value} {g : JFrame}
theorem vx_callBack (cb : CallB R s args own index y bytes maxL ret ws rm mc ms n) (hM : vx_Met l y ws rm Pc Qc XC mc ms free) (hbl : FrameBlind Pc) : vx_Back l R p e below s args y 3 8 (PreOf R mc ms Pc) (PostOf Qc mc ms free) (vx_Post XC mc ms free) := by
  obtain ⟨hrc, hrs, hfr, hlo, hws, hcw, -, hini, -⟩ := cb
  exact vx_back (bytes := bytes) (maxL := maxL) (ret := ret) hM hbl hrc hrs hfr hlo hws hcw (fun a' U hW => word_at hW (Or.inl (by first | rfl | simp [Cond.onTables, Cond.keeps, Cond.steady])) hini)
theorem vx_runV (S : CallFix p m c cc nL s args Ts own) (hM : vx_Met l y ws rm Pc Qc XC mc ms free) (cw : CallW R s args own C index y bytes maxL ret ws rm mc ms n) (hp : PreV s H C b Pc As)
    (hg : g.method = m) (hn : As.length = n) (hsize : g.locals.size = nL) (hstack : g.stack = As.reverse ++ .ref b :: rest) (hW : 2 * g.monitorRoom + (rest.map fun v => v.category).sum ≤ 8) (hdg : decode cc g.pc = .ok (.invokevirtual index, 3)) (hf : cells + mc ≤ R.cells ∧ slots + ms ≤ R.slots) :
    vx_Run p l e R s m args below meth c H locs cells slots mc ms g rest (Qc (Value.ref b :: As).toArray) XC free := by
  have hK : vx_Back l R p e below s args y 3 8 (PreOf R mc ms Pc) (PostOf Qc mc ms free) (vx_Post XC mc ms free) := vx_callBack cw.1 hM hp.1
  obtain ⟨⟨-, -, -, -, -, -, hcode, -, hy, hlen, hl⟩, hin, hse⟩ := cw
  obtain ⟨hx, hb, hml, ho, -⟩ := S
  obtain ⟨-, ⟨cellB, hcB, hoB, hclB⟩, hPc⟩ := hp
  intro T hT X
  rcases vx_callV X hx (C := C) (bytes := bytes) (maxL := maxL) (ret := ret) ho hl hin hse hcode hy hK (by rw [hT]; exact hcB) hoB hclB hg (hsize.trans hml.symm) (argsL := As) (rest := rest) (fun sig h => hn.trans (hlen sig h)) hstack hW (by rw [hb]; exact hdg)
    (fun vm₁ hW₁ => ⟨hf.1, hf.2, hPc (T.setVm vm₁) hT hW₁⟩) with ⟨v, vm₁, ⟨U', l2, c2, s2⟩, hW₁, X', ⟨g', mk, t, L, e1, e2, hq, h1, hL, h2, h3⟩, st⟩ | ⟨q, vm₁, ⟨U', l2, c2, s2⟩, hW₁, X', ⟨g', mk, t, L, E, ce, e1, e2, hq, hce, hcv, hcl, h1, hL, h2, h3⟩, st⟩
  · dsimp only [Pt.U, Pt.locs, Pt.cells, Pt.slots] at X' e1 e2 h1 h2 h3 st
    subst h1; subst h2; subst h3
    exact Or.inl ⟨v, (T.setVm vm₁).calling g' mk (Value.ref b :: As).toArray, t, U', L, hT, X', hL, e1, e2, hq, st⟩
  · dsimp only [Pt.U, Pt.locs, Pt.cells, Pt.slots] at X' e1 e2 h1 h2 h3 st hcl
    subst h1; subst h2; subst h3
    exact Or.inr ⟨q, (T.setVm vm₁).calling g' mk (Value.ref b :: As).toArray, t, U', L, E, ce, hT, X', hL, e1, e2, hq, hce, hcv, vx_cls hW₁ hcl, st⟩
theorem vx_runS (S : CallFix p m c cc nL s args Ts own) (hM : vx_Met l y ws rm Pc Qc XC mc ms free) (cw : CallB R s args own index y bytes maxL ret ws rm mc ms n ∧ (Cond.static y).before args s = true) (hp : PreS s H Pc As)
    (hg : g.method = m) (hn : As.length = n) (hsize : g.locals.size = nL) (hstack : g.stack = As.reverse ++ rest) (hW : 2 * g.monitorRoom + (rest.map fun v => v.category).sum ≤ 8) (hdg : decode cc g.pc = .ok (.invokestatic index, 3)) (hf : cells + mc ≤ R.cells ∧ slots + ms ≤ R.slots) :
    vx_Run p l e R s m args below meth c H locs cells slots mc ms g rest (Qc As.toArray) XC free := by
  have hK : vx_Back l R p e below s args y 3 8 (PreOf R mc ms Pc) (PostOf Qc mc ms free) (vx_Post XC mc ms free) := vx_callBack cw.1 hM hp.1
  obtain ⟨⟨-, -, -, -, -, -, hcode, hini, hy, hlen, hl⟩, hstt⟩ := cw
  obtain ⟨hx, hb, hml, ho, -⟩ := S
  intro T hT X
  rcases vx_callS X hx (bytes := bytes) (maxL := maxL) (ret := ret) ho hl hstt hini hcode hy hK hg (hsize.trans hml.symm) (argsL := As) (rest := rest) (fun sig h => hn.trans (hlen sig h)) hstack hW (by rw [hb]; exact hdg)
    (fun vm₁ hW₁ => ⟨hf.1, hf.2, hp.2 (T.setVm vm₁) hT hW₁⟩) with ⟨v, vm₁, ⟨U', l2, c2, s2⟩, hW₁, X', ⟨g', mk, t, L, e1, e2, hq, h1, hL, h2, h3⟩, st⟩ | ⟨q, vm₁, ⟨U', l2, c2, s2⟩, hW₁, X', ⟨g', mk, t, L, E, ce, e1, e2, hq, hce, hcv, hcl, h1, hL, h2, h3⟩, st⟩
  · dsimp only [Pt.U, Pt.locs, Pt.cells, Pt.slots] at X' e1 e2 h1 h2 h3 st
    subst h1; subst h2; subst h3
    exact Or.inl ⟨v, (T.setVm vm₁).calling g' mk As.toArray, t, U', L, hT, X', hL, e1, e2, hq, st⟩
  · dsimp only [Pt.U, Pt.locs, Pt.cells, Pt.slots] at X' e1 e2 h1 h2 h3 st hcl
    subst h1; subst h2; subst h3
    exact Or.inr ⟨q, (T.setVm vm₁).calling g' mk As.toArray, t, U', L, E, ce, hT, X', hL, e1, e2, hq, hce, hcv, vx_cls hW₁ hcl, st⟩
end Runs
section Rows
variable {p : Program} {l : Launch} {e : Env} {R : Room} {s : State} {m : MethodId} {args : Array Value} {below : List Frame} {meth : Method} {c : Code} {H : Heap} {locs : List Loc} {cells slots : Nat} {Q : State → Prop}
variable {mc ms : Nat} {free : Addr → Prop} {A0 A1 : Nat → Prop} {H0 : Heap} {a : Array Value} {pc : Nat} {ls : Array Slot} {st0 rest : List Value}
theorem vx_keep {st₀ t T' : State} {L : List Loc} (h0 : st₀.heap = H) (e1 : T'.heap = t.heap) (hS : va_S A0 H0 H locs) (hA : ∀ q, q < H.size → A1 q → A0 q) (hf : ∀ q, free q → A0 q) (hL : ∀ q ∈ L, free q.base) (hF : va_F A1 st₀ t) :
    H.size ≤ T'.heap.size ∧ (∀ q : Nat, q < H.size → ¬ A1 q → T'.heap[q]? = H[q]?) ∧ va_S A0 H0 T'.heap (locs ++ L) := by
  obtain ⟨hz, hk⟩ := hF
  rw [h0] at hz hk
  exact ⟨by rw [e1]; exact hz, fun q h1 h2 => by rw [e1]; exact hk q h1 h2,
    ⟨Nat.le_trans hS.1 (by rw [e1]; exact hz), fun q h1 h2 => by rw [e1, hk q (Nat.lt_of_lt_of_le h1 hS.1) (fun z => h2 (hA q (Nat.lt_of_lt_of_le h1 hS.1) z))]; exact hS.2.1 q h1 h2, fun q hq => by
      rcases List.mem_append.mp hq with h | h
      · exact hS.2.2 q h
      · exact hf _ (hL q h)⟩⟩
theorem vx_calli {S SX : Type} {post : Int32 → S → Prop} {px : SX → Prop} {B : S → State → Prop} {BX : String → SX → State → Prop} {AX : Nat → Prop} (hr : vx_Run p l e R s m args below meth c H locs cells slots mc ms (F0 m pc ls st0) rest (va_Qi post B A1 a) (vx_X px BX AX) free) (hS : va_S A0 H0 H locs) (hA : ∀ q, q < H.size → A1 q → A0 q) (hf : ∀ q, free q → A0 q) (hAX : ∀ q, q < H.size → AX q → A0 q)
    (kx : ∀ (E : String) (ce : Cell) (q9 : Addr) (u : SX) (t : State) (H1 : Heap) (locs1 : List Loc), t.heap = H1 → s.vm.Alike t.vm → px u → BX E u t → H.size ≤ H1.size → (∀ q : Nat, q < H.size → ¬ AX q → H1[q]? = H[q]?) → va_S A0 H0 H1 locs1 → H1[q9]? = some ce → ce.vm = .none → s.vm.findClass E = some ce.cls → vx_W p l e R s m args below meth c H1 locs1 (cells + mc) (slots + ms) Q (F0 m pc ls rest) q9)
    (kk : ∀ (r : Int32) (u : S) (t : State) (H1 : Heap) (locs1 : List Loc), t.heap = H1 → s.vm.Alike t.vm → post r u → B u t → H.size ≤ H1.size → (∀ q : Nat, q < H.size → ¬ A1 q → H1[q]? = H[q]?) → va_S A0 H0 H1 locs1 → W p l e R s m args below meth c H1 locs1 (cells + mc) (slots + ms) Q (F0 m (pc + 3) ls (.int r :: rest))) : W p l e R s m args below meth c H locs cells slots Q (F0 m pc ls st0) := by
  intro T hT X
  rcases hr T hT X with ⟨v, st₀, t, T', L, h0, X', hL, e1, e2, ⟨⟨r, u, hv, hp, hb⟩, hF⟩, st⟩ | ⟨q, st₀, t, T', L, E, ce, h0, X', hL, e1, e2, ⟨u, hp, hb, hF⟩, hce, hcv, hcl, st⟩
  · cases hv
    obtain ⟨k1, k2, k3⟩ := vx_keep h0 e1 hS hA hf hL hF
    obtain ⟨t2, a1, b1⟩ := kk r u t T'.heap (locs ++ L) e1.symm (by rw [← e2]; exact X'.warmed.alike) hp hb k1 k2 k3 T' rfl X'
    exact ⟨t2, st t2 a1, b1⟩
  · obtain ⟨k1, k2, k3⟩ := vx_keep h0 e1 hS hAX hf hL hF
    obtain ⟨t2, a1, b1⟩ := kx E ce q u t T'.heap (locs ++ L) e1.symm (by rw [← e2]; exact X'.warmed.alike) hp hb k1 k2 k3 (by rw [e1]; exact hce) hcv hcl T' rfl X'
    exact ⟨t2, st.trans a1, b1⟩
theorem vx_calll {S SX : Type} {post : Int64 → S → Prop} {px : SX → Prop} {B : S → State → Prop} {BX : String → SX → State → Prop} {AX : Nat → Prop} (hr : vx_Run p l e R s m args below meth c H locs cells slots mc ms (F0 m pc ls st0) rest (va_Ql post B A1 a) (vx_X px BX AX) free) (hS : va_S A0 H0 H locs) (hA : ∀ q, q < H.size → A1 q → A0 q) (hf : ∀ q, free q → A0 q) (hAX : ∀ q, q < H.size → AX q → A0 q)
    (kx : ∀ (E : String) (ce : Cell) (q9 : Addr) (u : SX) (t : State) (H1 : Heap) (locs1 : List Loc), t.heap = H1 → s.vm.Alike t.vm → px u → BX E u t → H.size ≤ H1.size → (∀ q : Nat, q < H.size → ¬ AX q → H1[q]? = H[q]?) → va_S A0 H0 H1 locs1 → H1[q9]? = some ce → ce.vm = .none → s.vm.findClass E = some ce.cls → vx_W p l e R s m args below meth c H1 locs1 (cells + mc) (slots + ms) Q (F0 m pc ls rest) q9)
    (kk : ∀ (r : Int64) (u : S) (t : State) (H1 : Heap) (locs1 : List Loc), t.heap = H1 → s.vm.Alike t.vm → post r u → B u t → H.size ≤ H1.size → (∀ q : Nat, q < H.size → ¬ A1 q → H1[q]? = H[q]?) → va_S A0 H0 H1 locs1 → W p l e R s m args below meth c H1 locs1 (cells + mc) (slots + ms) Q (F0 m (pc + 3) ls (.long r :: rest))) : W p l e R s m args below meth c H locs cells slots Q (F0 m pc ls st0) := by
  intro T hT X
  rcases hr T hT X with ⟨v, st₀, t, T', L, h0, X', hL, e1, e2, ⟨⟨r, u, hv, hp, hb⟩, hF⟩, st⟩ | ⟨q, st₀, t, T', L, E, ce, h0, X', hL, e1, e2, ⟨u, hp, hb, hF⟩, hce, hcv, hcl, st⟩
  · cases hv
    obtain ⟨k1, k2, k3⟩ := vx_keep h0 e1 hS hA hf hL hF
    obtain ⟨t2, a1, b1⟩ := kk r u t T'.heap (locs ++ L) e1.symm (by rw [← e2]; exact X'.warmed.alike) hp hb k1 k2 k3 T' rfl X'
    exact ⟨t2, st t2 a1, b1⟩
  · obtain ⟨k1, k2, k3⟩ := vx_keep h0 e1 hS hAX hf hL hF
    obtain ⟨t2, a1, b1⟩ := kx E ce q u t T'.heap (locs ++ L) e1.symm (by rw [← e2]; exact X'.warmed.alike) hp hb k1 k2 k3 (by rw [e1]; exact hce) hcv hcl T' rfl X'
    exact ⟨t2, st.trans a1, b1⟩
theorem vx_callf {S SX : Type} {post : UInt32 → S → Prop} {px : SX → Prop} {B : S → State → Prop} {BX : String → SX → State → Prop} {AX : Nat → Prop} (hr : vx_Run p l e R s m args below meth c H locs cells slots mc ms (F0 m pc ls st0) rest (va_Qf post B A1 a) (vx_X px BX AX) free) (hS : va_S A0 H0 H locs) (hA : ∀ q, q < H.size → A1 q → A0 q) (hf : ∀ q, free q → A0 q) (hAX : ∀ q, q < H.size → AX q → A0 q)
    (kx : ∀ (E : String) (ce : Cell) (q9 : Addr) (u : SX) (t : State) (H1 : Heap) (locs1 : List Loc), t.heap = H1 → s.vm.Alike t.vm → px u → BX E u t → H.size ≤ H1.size → (∀ q : Nat, q < H.size → ¬ AX q → H1[q]? = H[q]?) → va_S A0 H0 H1 locs1 → H1[q9]? = some ce → ce.vm = .none → s.vm.findClass E = some ce.cls → vx_W p l e R s m args below meth c H1 locs1 (cells + mc) (slots + ms) Q (F0 m pc ls rest) q9)
    (kk : ∀ (r : UInt32) (u : S) (t : State) (H1 : Heap) (locs1 : List Loc), t.heap = H1 → s.vm.Alike t.vm → post r u → B u t → H.size ≤ H1.size → (∀ q : Nat, q < H.size → ¬ A1 q → H1[q]? = H[q]?) → va_S A0 H0 H1 locs1 → W p l e R s m args below meth c H1 locs1 (cells + mc) (slots + ms) Q (F0 m (pc + 3) ls (.float r :: rest))) : W p l e R s m args below meth c H locs cells slots Q (F0 m pc ls st0) := by
  intro T hT X
  rcases hr T hT X with ⟨v, st₀, t, T', L, h0, X', hL, e1, e2, ⟨⟨r, u, hv, hp, hb⟩, hF⟩, st⟩ | ⟨q, st₀, t, T', L, E, ce, h0, X', hL, e1, e2, ⟨u, hp, hb, hF⟩, hce, hcv, hcl, st⟩
  · cases hv
    obtain ⟨k1, k2, k3⟩ := vx_keep h0 e1 hS hA hf hL hF
    obtain ⟨t2, a1, b1⟩ := kk r u t T'.heap (locs ++ L) e1.symm (by rw [← e2]; exact X'.warmed.alike) hp hb k1 k2 k3 T' rfl X'
    exact ⟨t2, st t2 a1, b1⟩
  · obtain ⟨k1, k2, k3⟩ := vx_keep h0 e1 hS hAX hf hL hF
    obtain ⟨t2, a1, b1⟩ := kx E ce q u t T'.heap (locs ++ L) e1.symm (by rw [← e2]; exact X'.warmed.alike) hp hb k1 k2 k3 (by rw [e1]; exact hce) hcv hcl T' rfl X'
    exact ⟨t2, st.trans a1, b1⟩
theorem vx_calld {S SX : Type} {post : UInt64 → S → Prop} {px : SX → Prop} {B : S → State → Prop} {BX : String → SX → State → Prop} {AX : Nat → Prop} (hr : vx_Run p l e R s m args below meth c H locs cells slots mc ms (F0 m pc ls st0) rest (va_Qd post B A1 a) (vx_X px BX AX) free) (hS : va_S A0 H0 H locs) (hA : ∀ q, q < H.size → A1 q → A0 q) (hf : ∀ q, free q → A0 q) (hAX : ∀ q, q < H.size → AX q → A0 q)
    (kx : ∀ (E : String) (ce : Cell) (q9 : Addr) (u : SX) (t : State) (H1 : Heap) (locs1 : List Loc), t.heap = H1 → s.vm.Alike t.vm → px u → BX E u t → H.size ≤ H1.size → (∀ q : Nat, q < H.size → ¬ AX q → H1[q]? = H[q]?) → va_S A0 H0 H1 locs1 → H1[q9]? = some ce → ce.vm = .none → s.vm.findClass E = some ce.cls → vx_W p l e R s m args below meth c H1 locs1 (cells + mc) (slots + ms) Q (F0 m pc ls rest) q9)
    (kk : ∀ (r : UInt64) (u : S) (t : State) (H1 : Heap) (locs1 : List Loc), t.heap = H1 → s.vm.Alike t.vm → post r u → B u t → H.size ≤ H1.size → (∀ q : Nat, q < H.size → ¬ A1 q → H1[q]? = H[q]?) → va_S A0 H0 H1 locs1 → W p l e R s m args below meth c H1 locs1 (cells + mc) (slots + ms) Q (F0 m (pc + 3) ls (.double r :: rest))) : W p l e R s m args below meth c H locs cells slots Q (F0 m pc ls st0) := by
  intro T hT X
  rcases hr T hT X with ⟨v, st₀, t, T', L, h0, X', hL, e1, e2, ⟨⟨r, u, hv, hp, hb⟩, hF⟩, st⟩ | ⟨q, st₀, t, T', L, E, ce, h0, X', hL, e1, e2, ⟨u, hp, hb, hF⟩, hce, hcv, hcl, st⟩
  · cases hv
    obtain ⟨k1, k2, k3⟩ := vx_keep h0 e1 hS hA hf hL hF
    obtain ⟨t2, a1, b1⟩ := kk r u t T'.heap (locs ++ L) e1.symm (by rw [← e2]; exact X'.warmed.alike) hp hb k1 k2 k3 T' rfl X'
    exact ⟨t2, st t2 a1, b1⟩
  · obtain ⟨k1, k2, k3⟩ := vx_keep h0 e1 hS hAX hf hL hF
    obtain ⟨t2, a1, b1⟩ := kx E ce q u t T'.heap (locs ++ L) e1.symm (by rw [← e2]; exact X'.warmed.alike) hp hb k1 k2 k3 (by rw [e1]; exact hce) hcv hcl T' rfl X'
    exact ⟨t2, st.trans a1, b1⟩
theorem vx_callv {S SX : Type} {post : S → Prop} {px : SX → Prop} {B : S → State → Prop} {BX : String → SX → State → Prop} {AX : Nat → Prop} (hr : vx_Run p l e R s m args below meth c H locs cells slots mc ms (F0 m pc ls st0) rest (va_Qv post B A1 a) (vx_X px BX AX) free) (hS : va_S A0 H0 H locs) (hA : ∀ q, q < H.size → A1 q → A0 q) (hf : ∀ q, free q → A0 q) (hAX : ∀ q, q < H.size → AX q → A0 q)
    (kx : ∀ (E : String) (ce : Cell) (q9 : Addr) (u : SX) (t : State) (H1 : Heap) (locs1 : List Loc), t.heap = H1 → s.vm.Alike t.vm → px u → BX E u t → H.size ≤ H1.size → (∀ q : Nat, q < H.size → ¬ AX q → H1[q]? = H[q]?) → va_S A0 H0 H1 locs1 → H1[q9]? = some ce → ce.vm = .none → s.vm.findClass E = some ce.cls → vx_W p l e R s m args below meth c H1 locs1 (cells + mc) (slots + ms) Q (F0 m pc ls rest) q9)
    (kk : ∀ (u : S) (t : State) (H1 : Heap) (locs1 : List Loc), t.heap = H1 → s.vm.Alike t.vm → post u → B u t → H.size ≤ H1.size → (∀ q : Nat, q < H.size → ¬ A1 q → H1[q]? = H[q]?) → va_S A0 H0 H1 locs1 → W p l e R s m args below meth c H1 locs1 (cells + mc) (slots + ms) Q (F0 m (pc + 3) ls (rest))) : W p l e R s m args below meth c H locs cells slots Q (F0 m pc ls st0) := by
  intro T hT X
  rcases hr T hT X with ⟨v, st₀, t, T', L, h0, X', hL, e1, e2, ⟨⟨u, hv, hp, hb⟩, hF⟩, st⟩ | ⟨q, st₀, t, T', L, E, ce, h0, X', hL, e1, e2, ⟨u, hp, hb, hF⟩, hce, hcv, hcl, st⟩
  · cases hv
    obtain ⟨k1, k2, k3⟩ := vx_keep h0 e1 hS hA hf hL hF
    obtain ⟨t2, a1, b1⟩ := kk u t T'.heap (locs ++ L) e1.symm (by rw [← e2]; exact X'.warmed.alike) hp hb k1 k2 k3 T' rfl X'
    exact ⟨t2, st t2 a1, b1⟩
  · obtain ⟨k1, k2, k3⟩ := vx_keep h0 e1 hS hAX hf hL hF
    obtain ⟨t2, a1, b1⟩ := kx E ce q u t T'.heap (locs ++ L) e1.symm (by rw [← e2]; exact X'.warmed.alike) hp hb k1 k2 k3 (by rw [e1]; exact hce) hcv hcl T' rfl X'
    exact ⟨t2, st.trans a1, b1⟩
/-- caught by the row x of this method's table; the rows ahead don't take it -/
theorem vx_catch {own name : String} {E : String} {ce : Cell} {q : Addr} (hown : s.vm.findClass own = some m.cls) (pre : List ExceptionTableEntry) (x : ExceptionTableEntry) (suf : List ExceptionTableEntry) (hsplit : c.exceptionTable.toList = pre ++ x :: suf)
    (hpass : ∀ z ∈ pre, covers z pc = false ∨ (z.catchType ≠ 0 ∧ ∃ nm : String, (Cond.classLink own z.catchType nm).before args s = true ∧ va_Nc E nm s)) (hx : covers x pc = true) (h0 : x.catchType ≠ 0)
    (hlink : (Cond.classLink own x.catchType name).before args s = true) (hcast : (Cond.castable E name).before args s = true) (hcell : H[q]? = some ce) (hv : ce.vm = .none) (hcl : s.vm.findClass E = some ce.cls)
    (kk : W p l e R s m args below meth c H locs cells slots Q (F0 m x.handlerPc ls [.ref q])) : vx_W p l e R s m args below meth c H locs cells slots Q (F0 m pc ls rest) q := by
  intro T hT X
  have hpl : e.platform.magicAccessors = ({} : Platform).magicAccessors := by rw [X.admits.platform]
  obtain ⟨c3, c4, hc3, hc4, hasg⟩ := Cond.castable_spec hcast
  cases Option.some.inj (hc3.symm.trans hcl)
  obtain ⟨c5, hc5, hcl5⟩ := Cond.classLink_spec hown hlink e.platform hpl
  cases Option.some.inj (hc4.symm.trans hc5)
  obtain ⟨vm', X', st⟩ := X.thenCaughtThrough q (g := F0 m pc ls rest) rfl (Steps.refl _) (by rw [hT]; exact hcell) (by rw [hv]; rfl) (by obtain ⟨k9, h9, -⟩ := Vm.findClass_spec hcl; exact ⟨k9, h9⟩) pre x suf hsplit
    (fun z hz => by
      rcases hpass z hz with h | ⟨hz0, nm, hl1, hn1⟩
      · exact Or.inl h
      · obtain ⟨c6, hc6, hcl6⟩ := Cond.classLink_spec hown hl1 e.platform hpl
        obtain ⟨a8, b8, h1, h2, h3⟩ := hn1
        cases Option.some.inj (h1.symm.trans hcl)
        cases Option.some.inj (h2.symm.trans hc6)
        exact Or.inr ⟨hz0, _, hcl6, h3⟩) hx (Or.inr ⟨h0, c4, hcl5, hasg⟩)
  obtain ⟨t, a1, b1⟩ := kk (T.setVm vm') hT X'
  exact ⟨t, st.trans a1, b1⟩
end Rows
section Ends
variable {p : Program} {l : Launch} {e : Env} {R : Room} {s : State} {m : MethodId} {args : Array Value} {below : List Frame} {meth : Method} {c : Code} {H : Heap} {locs : List Loc} {cells slots : Nat} {Q : State → Prop}
variable {mc ms : Nat} {free : Addr → Prop} {A0 A1 : Nat → Prop} {H0 : Heap} {a : Array Value} {ls : Array Slot} {st0 rest : List Value}
variable {Qc : Array Value → State → Outcome → State → Prop} {XC : String → State → State → Prop}
/-- what a body that may throw owes at its end -/
def vx_MQ (below : List Frame) (Qc : Array Value → State → Outcome → State → Prop) (XC : String → State → State → Prop) (a : Array Value) (s : State) (mc ms : Nat) (free : Addr → Prop) : State → Prop := fun t =>
  ∃ o, t.status = .running ∧ Ended t below o ∧ vx_Q Qc XC mc ms free a s o t
theorem vx_ret {g : JFrame} {mc ms : Nat} (k : W p l e R s m args below meth c H locs cells slots (MQ below Qc args s mc ms free) g) : W p l e R s m args below meth c H locs cells slots (vx_MQ below Qc XC args s mc ms free) g := by
  intro T hT X
  obtain ⟨t, a1, o, b1, b2, b3, b4⟩ := k T hT X
  exact ⟨t, a1, o, b1, b2, Or.inl ⟨b3, b4⟩⟩
/-- not caught here: it goes on to the caller -/
theorem vx_widen {g : JFrame} {q : Addr} {k n : Nat} (h1 : cells ≤ k) (h2 : slots ≤ n) (kk : vx_W p l e R s m args below meth c H locs k n Q g q) : vx_W p l e R s m args below meth c H locs cells slots Q g q := fun T hT X => kk T hT (stand_widen X h1 h2)
theorem vx_out {pc : Nat} {E : String} {ce : Cell} {q : Addr} {mc ms : Nat} (hout : ∀ x ∈ c.exceptionTable.toList, covers x pc = false) (hlocks : meth.locks = false) (hcell : H[q]? = some ce) (hv : ce.vm = .none) (hcl : s.vm.findClass E = some ce.cls)
    (hx : ∀ t : State, t.heap = H → s.vm.Alike t.vm → XC E s t) (hf : ∀ z ∈ locs, free z.base) (hc : cells ≤ mc) (hs : slots ≤ ms) :
    vx_W p l e R s m args below meth c H locs cells slots (vx_MQ below Qc XC args s mc ms free) (F0 m pc ls rest) q := by
  intro T hT X
  obtain ⟨st1, hrun, hend, hW, hsm⟩ := X.leaveThrown q (g := F0 m pc ls rest) rfl rfl rfl hout hlocks
  have hcell9 : (T.setFrames (.throwing q :: below)).heap[q]? = some ce := by
    show T.heap[q]? = some ce
    rw [hT]; exact hcell
  exact ⟨_, st1, .threw q, hrun, hend, Or.inr ⟨q, rfl, E, ce, locs, hx _ hT hW.alike, hcell9, hv, hcl, hW, hsm.mono hc hs, hf⟩⟩
theorem vx_frame {U : State} {k n : Nat} (h : s.sameButNew ({ U with vm := s.vm } : State) locs k n) : s.heap.size ≤ U.heap.size ∧ ∀ q : Nat, q < s.heap.size → (∀ z ∈ locs, z.base ≠ q) → U.heap[q]? = s.heap[q]? := by
  obtain ⟨-, h2, -, -, -, h6⟩ := h
  refine ⟨h2, fun q hq hz => ?_⟩
  obtain ⟨c9, e1, e2, e3, e4⟩ := h6 q _ (Array.getElem?_eq_getElem hq)
  have hs : c9.slots = (s.heap[q]).slots := Array.ext_getElem? fun i => e4 i fun hm => hz _ hm rfl
  have h9 : c9 = s.heap[q] := by
    rw [hs] at e2
    exact e2
  have e5 : U.heap[q]? = some c9 := e1
  rw [e5, h9, Array.getElem?_eq_getElem hq]
/-- the words of a throw but the four that speak of the heap -/
def vx_no (w : Cond) : Bool := decide (w ≠ .isRef (.static Bundle.tN "UNASSIGNED_STACK" Bundle.steD)) && decide (w ≠ .isRef (.static Bundle.tN "SUPPRESSED_SENTINEL" Bundle.listD)) && decide (w ≠ .laysStatic Bundle.tN "UNASSIGNED_STACK" Bundle.steD) && decide (w ≠ .laysStatic Bundle.tN "SUPPRESSED_SENTINEL" Bundle.listD)
def vx_at0 (own : String) (ic : Nat) (X : String) (names : List String) : List Cond := (Bundle.ownAtoms0 own ic X names).filter vx_no
def vx_atS (own : String) (ic : Nat) (X : String) (names : List String) : List Cond := (Bundle.ownAtoms own ic X names).filter vx_no
/-- a word that the tables alone decide, or a good one -/
def vx_ot (w : Cond) : Bool := w.onTables || goodWord w
theorem vx_ot_at {args a' : Array Value} {s U : State} {w : Cond} (hW : s.WarmedH U.vm) (hvm : s.vm = U.vm) (hg : vx_ot w = true) (h : w.before args s = true) : w.before a' U = true := by
  simp only [vx_ot, Bool.or_eq_true] at hg
  rcases hg with hg | hg
  · exact va_tabs hg hvm h
  · exact word_at hW (good_of_word hg) h
/-- a list's words: the good ones out of the method's own list, the others by premises of their own -/
theorem vx_hat {args : Array Value} {s : State} {L B : List Cond} (h1 : ∀ w ∈ L.filter goodWord, w.before args s = true) (h2 : ∀ w ∈ L.filter (fun w => !goodWord w), w ∈ B) (h3 : ∀ w ∈ B, w.before args s = true) : ∀ w ∈ L, w.before args s = true := by
  intro w hw
  by_cases g : goodWord w = true
  · exact h1 w (List.mem_filter.mpr ⟨hw, g⟩)
  · refine h3 w (h2 w (List.mem_filter.mpr ⟨hw, ?_⟩))
    show (!goodWord w) = true
    cases hgw : goodWord w
    · rfl
    · exact absurd hgw g
theorem vx_c {args : Array Value} {s : State} {w : Cond} {B : List Cond} (h : w.before args s = true) (t : ∀ w ∈ B, w.before args s = true) : ∀ w' ∈ w :: B, w'.before args s = true := fun w' h' => (List.mem_cons.mp h').elim (fun e => by rw [e]; exact h) (t w')
theorem vx_n {args : Array Value} {s : State} : ∀ w ∈ ([] : List Cond), w.before args s = true := fun _ h => nomatch h
theorem vx_own {args : Array Value} {s : State} {L : List Cond} (h1 : ∀ w ∈ L.filter vx_no, w.before args s = true)
    (hU : (Cond.isRef (.static Bundle.tN "UNASSIGNED_STACK" Bundle.steD)).before args s = true) (hN : (Cond.isRef (.static Bundle.tN "SUPPRESSED_SENTINEL" Bundle.listD)).before args s = true)
    (lU : (Cond.laysStatic Bundle.tN "UNASSIGNED_STACK" Bundle.steD).before args s = true) (lN : (Cond.laysStatic Bundle.tN "SUPPRESSED_SENTINEL" Bundle.listD).before args s = true) : ∀ w ∈ L, w.before args s = true := by
  intro w hw
  by_cases e1 : w = .isRef (.static Bundle.tN "UNASSIGNED_STACK" Bundle.steD)
  · rw [e1]; exact hU
  · by_cases e2 : w = .isRef (.static Bundle.tN "SUPPRESSED_SENTINEL" Bundle.listD)
    · rw [e2]; exact hN
    · by_cases e3 : w = .laysStatic Bundle.tN "UNASSIGNED_STACK" Bundle.steD
      · rw [e3]; exact lU
      · by_cases e4 : w = .laysStatic Bundle.tN "SUPPRESSED_SENTINEL" Bundle.listD
        · rw [e4]; exact lN
        · exact h1 w (List.mem_filter.mpr ⟨hw, by unfold vx_no; rw [decide_eq_true e1, decide_eq_true e2, decide_eq_true e3, decide_eq_true e4]; rfl⟩)
/-- where a static field lies, its class's statics cell in H -/
def vx_L (C n d : String) (A : Nat → Prop) (U : State) (H : Heap) : Prop := ∃ (c : ClassId) (k : Class) (i : Nat) (f : Field) (a : Nat) (cell : Cell), U.vm.findClass C = some c ∧ U.fieldFound? C n d = some (c, k, i, f) ∧ f.isStatic = true ∧ k.statics = some a ∧ H[a]? = some cell ∧ cell.vm.isStatics = true ∧ cell.cls = c ∧ f.slot < cell.slots.size ∧ k.staticTypes[f.slot]? = some f.type ∧ ¬ A a
theorem vx_L.moved {C n d : String} {A : Nat → Prop} {u U : State} {H : Heap} (hvm : u.vm.Alike U.vm) (h : vx_L C n d A u H) : vx_L C n d A U H := by
  obtain ⟨c, k, i, f, a, cell, h1, h2, h3, h4, h5, h6, h7, h8, h9, h10⟩ := h
  obtain ⟨k', hi', he⟩ := State.fieldFound?_setVm hvm h2
  exact ⟨c, k', i, f, a, cell, by rw [hvm.findClass]; exact h1, hi', h3, by rw [he]; exact h4, h5, h6, h7, h8, by rw [he]; exact h9, h10⟩
theorem vx_L.kept {C n d : String} {A : Nat → Prop} {U : State} {H H1 : Heap} (h : vx_L C n d A U H) (hq : ∀ a : Nat, a < H.size → ¬ A a → H1[a]? = H[a]?) : vx_L C n d A U H1 := by
  obtain ⟨c, k, i, f, a, cell, h1, h2, h3, h4, h5, h6, h7, h8, h9, h10⟩ := h
  exact ⟨c, k, i, f, a, cell, h1, h2, h3, h4, by rw [hq a (Array.getElem?_eq_some_iff.mp h5).1 h10]; exact h5, h6, h7, h8, h9, h10⟩
theorem vx_L.narrow {C n d : String} {A B : Nat → Prop} {U : State} {H : Heap} (h : vx_L C n d A U H) (hAB : ∀ q, B q → A q) : vx_L C n d B U H := by
  obtain ⟨c, k, i, f, a, cell, h1, h2, h3, h4, h5, h6, h7, h8, h9, h10⟩ := h
  exact ⟨c, k, i, f, a, cell, h1, h2, h3, h4, h5, h6, h7, h8, h9, fun z => h10 (hAB _ z)⟩
theorem vx_L.word {C n d : String} {A : Nat → Prop} {s : State} {args : Array Value} (h : vx_L C n d A s s.heap) : (Cond.laysStatic C n d).before args s = true := by
  obtain ⟨c, k, i, f, a, cell, h1, h2, h3, h4, h5, h6, h7, h8, h9, -⟩ := h
  show (Cond.laysStatic C n d).holds args s none s [] = true
  exact Cond.laysStatic_of h1 h2 h3 h4 h5 h6 h7 h8 h9
/-- .. and what it holds: null or some reference -/
def vx_Zq (C n d : String) (A : Nat → Prop) (U : State) (H : Heap) : Prop := va_Zq C n d A U H ∧ vx_L C n d A U H
theorem vx_Zq.moved {C n d : String} {A : Nat → Prop} {u U : State} {H : Heap} (hvm : u.vm.Alike U.vm) (h : vx_Zq C n d A u H) : vx_Zq C n d A U H := ⟨va_Zq.moved hvm h.1, vx_L.moved hvm h.2⟩
theorem vx_Zq.kept {C n d : String} {A : Nat → Prop} {U : State} {H H1 : Heap} (h : vx_Zq C n d A U H) (hq : ∀ a : Nat, a < H.size → ¬ A a → H1[a]? = H[a]?) : vx_Zq C n d A U H1 := ⟨va_Zq.kept h.1 hq, vx_L.kept h.2 hq⟩
theorem vx_Zq.narrow {C n d : String} {A B : Nat → Prop} {U : State} {H : Heap} (h : vx_Zq C n d A U H) (hAB : ∀ q, B q → A q) : vx_Zq C n d B U H := ⟨va_Zq.narrow h.1 hAB, vx_L.narrow h.2 hAB⟩
theorem vx_Zqof {args : Array Value} {s : State} {C n d : String} {A : Nat → Prop} (hl : (Cond.laysStatic C n d).before args s = true) (hini : (Cond.initialized C).before args s = true) (h : (Cond.isRef (.static C n d)).before args s = true) (hA : ∀ a : Nat, a < s.heap.size → ¬ A a) : vx_Zq C n d A s s.heap := by
  refine ⟨va_Zqof hl hini h hA, ?_⟩
  obtain ⟨c, k, i, f, a, cell, h1, h2, h3, h4, h5, h6, h7, h8, h9⟩ := Cond.laysStatic_spec hl
  exact ⟨c, k, i, f, a, cell, h1, h2, h3, h4, h5, h6, h7, h8, h9, hA a (Array.getElem?_eq_some_iff.mp h5).1⟩
theorem vx_isRef {C n d : String} {v : Value} {A : Nat → Prop} {s : State} {args : Array Value} (h : va_Z C n d v A s s.heap) (hv : v.isRef = true) : (Cond.isRef (.static C n d)).before args s = true := by
  obtain ⟨cf, kf, fi, f, a, cell, h1, h2, h3, h4, h5, h6, h7, -⟩ := h
  have he : (Term.static C n d).eval args s none [] s = some v := by
    simp [Term.eval, State.fieldNamed?, h1, h2, h4, h5, h6, h7]
  simp only [Cond.before, Cond.holds, Cond.value, he]
  cases v <;> simp_all [Value.isRef]
theorem vx_isRefq {C n d : String} {A : Nat → Prop} {s : State} {args : Array Value} (h : va_Zq C n d A s s.heap) : (Cond.isRef (.static C n d)).before args s = true := by
  rcases h with h | ⟨t, h⟩
  · exact vx_isRef h rfl
  · exact vx_isRef h rfl
/-- the same frame, seen from here: as if the method were called anew in this heap -/
theorem vx_rebase {T : State} (X : Stand p l e R s m args below meth c T locs cells slots) {R' : Room} (hf : R'.frames ≤ R.frames) (hl : R'.locals ≤ R.locals) (hc : cells + R'.cells ≤ R.cells) (hs : slots + R'.slots ≤ R.slots) :
    Stand p l e R' ((T.setVm s.vm).setFrames (.invoking m args :: below)) m args below meth c T [] 0 0 := by
  have htop : (T.setVm s.vm).topJava?.isSome := X.here.top
  have hF : ((T.setVm s.vm).setFrames (.invoking m args :: below)).frames = .invoking m args :: below := State.frames_setFrames _ (State.cur_lt_of_top htop)
  obtain ⟨g₀, hg0⟩ := Option.isSome_iff_exists.mp htop
  obtain ⟨r, hr⟩ := State.topJava?_eq_some.mp hg0
  have hl9 : e.platform.stackLimits (T.setVm s.vm).me = e.platform.stackLimits s.me := X.limits
  have hb9 : (T.setVm s.vm).me.stackBytes = s.me.stackBytes := X.bytes
  refine ⟨X.admits, X.cas, X.clock, hF, ?_, X.hears, X.method, X.code, X.here, X.tail, X.warmed, ?_, ?_, ?_⟩
  · have h := X.room
    have hU : ((T.setVm s.vm).setFrames (.invoking m args :: below)).localsInUse = s.localsInUse := by
      rw [State.localsInUse_invoking hF (meth := meth) (c := c) X.method X.code, State.localsInUse_invoking X.frames X.method X.code]
    simp only [State.hasRoom, Bool.and_eq_true, decide_eq_true_eq] at h ⊢
    obtain ⟨⟨⟨⟨h1, h2, h3, h4, h5, h6⟩, h7⟩, h8⟩, h9⟩ := h
    rw [X.frames, List.length_cons] at h2 h3
    have q1 := X.heapSize
    have q2 := X.used
    simp only [hF, hU, List.length_cons, State.stackLimits_setFrames, State.stackBytes_setFrames, hl9, hb9]
    refine ⟨⟨⟨⟨by omega, by omega, by omega, by omega, by omega, h6⟩, ?_⟩, ?_⟩, X.book⟩
    · show T.heap.size + R'.cells ≤ e.platform.maxCells
      omega
    · show T.slotsUsed + R'.slots ≤ e.platform.maxSlots
      omega
  · rw [State.stackLimits_setFrames]; rfl
  · rw [State.stackBytes_setFrames]; rfl
  · refine ⟨?_, Nat.le_refl _, Nat.le_refl _, ?_, ?_, fun a c9 h9 => ⟨c9, h9, rfl, rfl, fun _ _ => rfl⟩⟩
    · obtain ⟨t, ht, -⟩ := State.frames_cons hr
      show T.setVm s.vm = { ((T.setVm s.vm).setFrames (.invoking m args :: below)).setFrames (T.setVm s.vm).frames with heap := T.heap, slotsUsed := T.slotsUsed }
      rw [State.setFrames_setFrames, State.setFrames_self ht]
      rfl
    · show T.slotsUsed = T.slotsUsed + ((T.heap.toList.drop T.heap.size).map (·.slots.size)).sum
      rw [List.drop_eq_nil_of_le (Nat.le_of_eq Array.length_toList)]
      rfl
    · show ((T.heap.toList.drop T.heap.size).map (·.slots.size)).sum ≤ 0
      rw [List.drop_eq_nil_of_le (Nat.le_of_eq Array.length_toList)]
      exact Nat.le_refl _
/-- 'throw new E()': new; dup; invokespecial; athrow -/
theorem vx_throw0 {cc : ByteArray} {pc : Nat} (hexec : p.tables.exec = Jvm.exec) (hb : c.code = cc) (hl : l.stackTraces = false) {own cls : String} {names : List String} {ik ic mc ms : Nat} {A : Nat → Prop}
    (hown : s.vm.findClass own = some m.cls) (hcls : Bundle.fit cls = true) (hnames : ∀ n ∈ names, Bundle.fit n = true)
    (hk : (Cond.classLink own ik cls).before args s = true) (hini : (Cond.initialized cls).before args s = true) (hat : ∀ w ∈ vx_at0 own ic cls names, w.before args s = true)
    (hgood : ∀ w ∈ Cond.classLink own ik cls :: Cond.initialized cls :: vx_at0 own ic cls names, vx_ot w = true)
    (hU : vx_Zq Bundle.tN "UNASSIGNED_STACK" Bundle.steD A s s.heap) (hN : vx_Zq Bundle.tN "SUPPRESSED_SENTINEL" Bundle.listD A s s.heap) (hS : va_S A s.heap H locs) (hsize : ls.size = c.maxLocals)
    (d0 : decode cc pc = .ok (.new ik, 3)) (d3 : decode cc (pc + 3) = .ok (.dup, 1)) (d4 : decode cc (pc + 4) = .ok (.invokespecial ic, 3)) (d7 : decode cc (pc + 7) = .ok (.athrow, 1))
    (hout : ∀ x ∈ c.exceptionTable.toList, covers x (pc + 7) = false)
    (hRframes : names.length + 3 < R.frames) (hRlocals : (rest.map fun v => v.category).sum + (13 * (names.length + 1) + 42) ≤ R.locals) (hRcells : cells + 1 ≤ R.cells) (hRslots : slots + 6 ≤ R.slots) (hlocks : meth.locks = false)
    (hx : ∀ t : State, s.vm.Alike t.vm → H.size ≤ t.heap.size → (∀ q : Nat, q < H.size → t.heap[q]? = H[q]?) → XC cls s t)
    (hf : ∀ z ∈ locs, free z.base) (hc : cells + 1 ≤ mc) (hs : slots + 6 ≤ ms) :
    W p l e R s m args below meth c H locs cells slots (vx_MQ below Qc XC args s mc ms free) (F0 m pc ls rest) := by
  intro T hT X
  have htr : e.platform.stackTraces = false := (show e.platform.stackTraces = l.stackTraces by rw [X.admits.platform]).trans hl
  have Y := vx_rebase X (R' := { frames := R.frames, locals := R.locals, cells := 1, slots := 6 }) (Nat.le_refl _) (Nat.le_refl _) hRcells hRslots
  obtain ⟨s', hA⟩ : ∃ z, z = (T.setVm s.vm).setFrames (.invoking m args :: below) := ⟨_, rfl⟩
  rw [← hA] at Y
  have hvm : s'.vm = s.vm := by rw [hA]; rfl
  have hhp : s'.heap = H := by rw [hA]; exact hT
  have hW0 : s.WarmedH s'.vm := by rw [hvm]; exact State.WarmedH.refl s
  have hat' : ∀ w ∈ vx_at0 own ic cls names, w.before args s' = true := fun w hw => vx_ot_at hW0 hvm.symm (hgood w (List.mem_cons_of_mem _ (List.mem_cons_of_mem _ hw))) (hat w hw)
  have hk' : (Cond.classLink own ik cls).before args s' = true := vx_ot_at hW0 hvm.symm (hgood _ List.mem_cons_self) hk
  have hini' : (Cond.initialized cls).before args s' = true := vx_ot_at hW0 hvm.symm (hgood _ (List.mem_cons_of_mem _ List.mem_cons_self)) hini
  have hU' : vx_Zq Bundle.tN "UNASSIGNED_STACK" Bundle.steD A s' s'.heap := by rw [hhp]; exact vx_Zq.moved hW0.alike (hU.kept hS.2.1)
  have hN' : vx_Zq Bundle.tN "SUPPRESSED_SENTINEL" Bundle.listD A s' s'.heap := by rw [hhp]; exact vx_Zq.moved hW0.alike (hN.kept hS.2.1)
  have h : ∀ w ∈ Bundle.ownAtoms0 own ic cls names, w.before args s' = true := vx_own hat' (vx_isRefq hU'.1) (vx_isRefq hN'.1) hU'.2.word hN'.2.word
  have hown' : s'.vm.findClass own = some m.cls := by rw [hvm]; exact hown
  have hins : (Cond.instantiable cls 6).before args s' = true := h _ (by simp [Bundle.ownAtoms0])
  obtain ⟨vm₁, cX, kX, hfX, hkX, -, -, X₁, st1⟩ := Y.newCold hexec (own := own) (C := cls) (index := ik) (n := 6) hown' hk' hins hini'
    (g := F0 m pc ls rest) rfl (by rw [hb]; exact d0) (Nat.le_refl _) (Nat.le_refl _)
  generalize hT1 : (T.setVm vm₁).pushCell { cls := cX, slots := kX.instanceTypes.map defaultValue, vm := .none } = T1 at X₁ st1
  have hcat : (Value.ref T.heap.size).category = 1 := rfl
  have hcellA : T1.heap[T.heap.size]? = some (freshCell cX kX) := by rw [← hT1]; exact State.heap_pushCell_size _ _
  have d3' : decode c.code (pc + 3) = .ok (.dup, 1) := by rw [hb]; exact d3
  obtain ⟨U, hsteps, hrun, hend, hW, hsame, ce, hce, hO⟩ := X₁.ctorThrow0 hexec htr (own := own) (cls := cls) (names := names) (ic := ic) hown' hcls hnames h (fun x hx => nomatch hx) hfX hkX hcellA (by rw [hhp, hT]; exact Nat.le_refl _)
    (g := { method := m, pc := pc + 4, locals := ls, stack := .ref T.heap.size :: .ref T.heap.size :: rest, locked := none }) rfl hsize rfl rfl (rest := rest) rfl
    (by rw [hb]; exact d4) (by rw [hb]; exact d7) hout hRframes (by simp only [List.map_cons, List.sum_cons, hcat]; omega) hlocks
  obtain ⟨f1, f2⟩ := vx_frame hsame
  rw [hhp] at f1 f2
  have hWs : s.WarmedH U.vm := State.WarmedH.trans hW0 hW
  have hcl : s.vm.findClass cls = some ce.cls := by
    have h9 := hO.cls
    rw [hvm] at h9
    exact h9
  have hall : s.sameButNew ({ U with vm := s.vm } : State) locs mc ms := by
    subst hA
    obtain ⟨e1, e2⟩ := hsame
    rw [State.setFrames_setFrames] at e1
    have h2 : (T.setVm s.vm).sameButNew ({ U with vm := s.vm } : State) [] (0 + 1) (0 + 6) := ⟨e1, e2⟩
    have h3 := X.same.trans h2
    rw [List.append_nil] at h3
    exact h3.mono hc hs
  refine ⟨U, ?_, .threw T.heap.size, hrun, hend, Or.inr ⟨T.heap.size, rfl, cls, ce, locs, hx U hWs.alike f1 (fun q hq => f2 q hq (fun z hz => nomatch hz)), hce, hO.vm, hcl, hWs, hall, hf⟩⟩
  refine st1 _ ?_
  show Steps p.tables e below (T1.setTop { method := m, pc := pc + 3, locals := ls, stack := .ref T.heap.size :: rest, locked := none }) _
  jvm_step X₁.here [X₁.here.top, hexec, d3', Value.category]
  exact hsteps
/-- 'throw new E("text")': new; dup; ldc; invokespecial; athrow -/
theorem vx_throwS {cc : ByteArray} {pc : Nat} (hexec : p.tables.exec = Jvm.exec) (hb : c.code = cc) (hl : l.stackTraces = false) {own cls text : String} {names : List String} {ik is ic mc ms sa : Nat} {A : Nat → Prop}
    (hown : s.vm.findClass own = some m.cls) (hcls : Bundle.fit cls = true) (hnames : ∀ n ∈ names, Bundle.fit n = true)
    (hk : (Cond.classLink own ik cls).before args s = true) (hini : (Cond.initialized cls).before args s = true) (hstr : vk_R own is text sa s) (hat : ∀ w ∈ vx_atS own ic cls names, w.before args s = true)
    (hgood : ∀ w ∈ Cond.classLink own ik cls :: Cond.initialized cls :: vx_atS own ic cls names, vx_ot w = true)
    (hU : vx_Zq Bundle.tN "UNASSIGNED_STACK" Bundle.steD A s s.heap) (hN : vx_Zq Bundle.tN "SUPPRESSED_SENTINEL" Bundle.listD A s s.heap) (hS : va_S A s.heap H locs) (hsize : ls.size = c.maxLocals)
    (d0 : decode cc pc = .ok (.new ik, 3)) (d3 : decode cc (pc + 3) = .ok (.dup, 1)) (d4 : decode cc (pc + 4) = .ok (.ldc is, 2)) (d6 : decode cc (pc + 6) = .ok (.invokespecial ic, 3)) (d9 : decode cc (pc + 9) = .ok (.athrow, 1))
    (hout : ∀ x ∈ c.exceptionTable.toList, covers x (pc + 9) = false)
    (hRframes : names.length + 3 < R.frames) (hRlocals : (rest.map fun v => v.category).sum + (13 * (names.length + 1) + 43) ≤ R.locals) (hRcells : cells + 1 ≤ R.cells) (hRslots : slots + 6 ≤ R.slots) (hlocks : meth.locks = false)
    (hx : ∀ t : State, s.vm.Alike t.vm → H.size ≤ t.heap.size → (∀ q : Nat, q < H.size → t.heap[q]? = H[q]?) → XC cls s t)
    (hf : ∀ z ∈ locs, free z.base) (hc : cells + 1 ≤ mc) (hs : slots + 6 ≤ ms) :
    W p l e R s m args below meth c H locs cells slots (vx_MQ below Qc XC args s mc ms free) (F0 m pc ls rest) := by
  intro T hT X
  have htr : e.platform.stackTraces = false := (show e.platform.stackTraces = l.stackTraces by rw [X.admits.platform]).trans hl
  have Y := vx_rebase X (R' := { frames := R.frames, locals := R.locals, cells := 1, slots := 6 }) (Nat.le_refl _) (Nat.le_refl _) hRcells hRslots
  obtain ⟨s', hA⟩ : ∃ z, z = (T.setVm s.vm).setFrames (.invoking m args :: below) := ⟨_, rfl⟩
  rw [← hA] at Y
  have hvm : s'.vm = s.vm := by rw [hA]; rfl
  have hhp : s'.heap = H := by rw [hA]; exact hT
  have hW0 : s.WarmedH s'.vm := by rw [hvm]; exact State.WarmedH.refl s
  have hat' : ∀ w ∈ vx_atS own ic cls names, w.before args s' = true := fun w hw => vx_ot_at hW0 hvm.symm (hgood w (List.mem_cons_of_mem _ (List.mem_cons_of_mem _ hw))) (hat w hw)
  have hk' : (Cond.classLink own ik cls).before args s' = true := vx_ot_at hW0 hvm.symm (hgood _ List.mem_cons_self) hk
  have hini' : (Cond.initialized cls).before args s' = true := vx_ot_at hW0 hvm.symm (hgood _ (List.mem_cons_of_mem _ List.mem_cons_self)) hini
  have hU' : vx_Zq Bundle.tN "UNASSIGNED_STACK" Bundle.steD A s' s'.heap := by rw [hhp]; exact vx_Zq.moved hW0.alike (hU.kept hS.2.1)
  have hN' : vx_Zq Bundle.tN "SUPPRESSED_SENTINEL" Bundle.listD A s' s'.heap := by rw [hhp]; exact vx_Zq.moved hW0.alike (hN.kept hS.2.1)
  have h : ∀ w ∈ Bundle.ownAtoms own ic cls names, w.before args s' = true := vx_own hat' (vx_isRefq hU'.1) (vx_isRefq hN'.1) hU'.2.word hN'.2.word
  have hown' : s'.vm.findClass own = some m.cls := by rw [hvm]; exact hown
  have hins : (Cond.instantiable cls 6).before args s' = true := h _ (by simp [Bundle.ownAtoms])
  obtain ⟨vm₁, cX, kX, hfX, hkX, -, -, X₁, st1⟩ := Y.newCold hexec (own := own) (C := cls) (index := ik) (n := 6) hown' hk' hins hini'
    (g := F0 m pc ls rest) rfl (by rw [hb]; exact d0) (Nat.le_refl _) (Nat.le_refl _)
  generalize hT1 : (T.setVm vm₁).pushCell { cls := cX, slots := kX.instanceTypes.map defaultValue, vm := .none } = T1 at X₁ st1
  have hcat : (Value.ref T.heap.size).category = 1 := rfl
  have hcellA : T1.heap[T.heap.size]? = some (freshCell cX kX) := by rw [← hT1]; exact State.heap_pushCell_size _ _
  have d3' : decode c.code (pc + 3) = .ok (.dup, 1) := by rw [hb]; exact d3
  have d4' : decode c.code (pc + 4) = .ok (.ldc is, 2) := by rw [hb]; exact d4
  have hstr' : vk_R own is text sa s' := vk_R.warm hW0 hstr
  obtain ⟨U, hsteps, hrun, hend, hW, hsame, ce, hce, hO⟩ := X₁.ctorThrowS hexec htr (own := own) (cls := cls) (names := names) (ic := ic) hown' hcls hnames h (fun x hx => nomatch hx) hfX hkX hcellA (by rw [hhp, hT]; exact Nat.le_refl _) (msg := .ref sa) rfl
    (g := { method := m, pc := pc + 6, locals := ls, stack := .ref sa :: .ref T.heap.size :: .ref T.heap.size :: rest, locked := none }) rfl hsize rfl rfl (rest := rest) rfl
    (by rw [hb]; exact d6) (by rw [hb]; exact d9) hout hRframes (by simp only [List.map_cons, List.sum_cons, hcat]; omega) hlocks
  obtain ⟨f1, f2⟩ := vx_frame hsame
  rw [hhp] at f1 f2
  have hWs : s.WarmedH U.vm := State.WarmedH.trans hW0 hW
  have hcl : s.vm.findClass cls = some ce.cls := by
    have h9 := hO.cls
    rw [hvm] at h9
    exact h9
  have hall : s.sameButNew ({ U with vm := s.vm } : State) locs mc ms := by
    subst hA
    obtain ⟨e1, e2⟩ := hsame
    rw [State.setFrames_setFrames] at e1
    have h2 : (T.setVm s.vm).sameButNew ({ U with vm := s.vm } : State) [] (0 + 1) (0 + 6) := ⟨e1, e2⟩
    have h3 := X.same.trans h2
    rw [List.append_nil] at h3
    exact h3.mono hc hs
  refine ⟨U, ?_, .threw T.heap.size, hrun, hend, Or.inr ⟨T.heap.size, rfl, cls, ce, locs, hx U hWs.alike f1 (fun q hq => f2 q hq (fun z hz => nomatch hz)), hce, hO.vm, hcl, hWs, hall, hf⟩⟩
  refine st1 _ ?_
  show Steps p.tables e below (T1.setTop { method := m, pc := pc + 3, locals := ls, stack := .ref T.heap.size :: rest, locked := none }) _
  jvm_step X₁.here [X₁.here.top, hexec, d3', Value.category]
  exact X₁.ldcString hexec (own := own) (text := text) (index := is) (a := sa) hown' hstr'.1 hstr'.2
    (g := { method := m, pc := pc + 4, locals := ls, stack := .ref T.heap.size :: .ref T.heap.size :: rest, locked := none }) rfl d4' _ hsteps
/-- 'throw new E("text")', the text by a wide index -/
theorem vx_throwSW {cc : ByteArray} {pc : Nat} (hexec : p.tables.exec = Jvm.exec) (hb : c.code = cc) (hl : l.stackTraces = false) {own cls text : String} {names : List String} {ik is ic mc ms sa : Nat} {A : Nat → Prop}
    (hown : s.vm.findClass own = some m.cls) (hcls : Bundle.fit cls = true) (hnames : ∀ n ∈ names, Bundle.fit n = true)
    (hk : (Cond.classLink own ik cls).before args s = true) (hini : (Cond.initialized cls).before args s = true) (hstr : vk_R own is text sa s) (hat : ∀ w ∈ vx_atS own ic cls names, w.before args s = true)
    (hgood : ∀ w ∈ Cond.classLink own ik cls :: Cond.initialized cls :: vx_atS own ic cls names, vx_ot w = true)
    (hU : vx_Zq Bundle.tN "UNASSIGNED_STACK" Bundle.steD A s s.heap) (hN : vx_Zq Bundle.tN "SUPPRESSED_SENTINEL" Bundle.listD A s s.heap) (hS : va_S A s.heap H locs) (hsize : ls.size = c.maxLocals)
    (d0 : decode cc pc = .ok (.new ik, 3)) (d3 : decode cc (pc + 3) = .ok (.dup, 1)) (d4 : decode cc (pc + 4) = .ok (.ldc_w is, 3)) (d7 : decode cc (pc + 7) = .ok (.invokespecial ic, 3)) (d10 : decode cc (pc + 10) = .ok (.athrow, 1))
    (hout : ∀ x ∈ c.exceptionTable.toList, covers x (pc + 10) = false)
    (hRframes : names.length + 3 < R.frames) (hRlocals : (rest.map fun v => v.category).sum + (13 * (names.length + 1) + 43) ≤ R.locals) (hRcells : cells + 1 ≤ R.cells) (hRslots : slots + 6 ≤ R.slots) (hlocks : meth.locks = false)
    (hx : ∀ t : State, s.vm.Alike t.vm → H.size ≤ t.heap.size → (∀ q : Nat, q < H.size → t.heap[q]? = H[q]?) → XC cls s t)
    (hf : ∀ z ∈ locs, free z.base) (hc : cells + 1 ≤ mc) (hs : slots + 6 ≤ ms) :
    W p l e R s m args below meth c H locs cells slots (vx_MQ below Qc XC args s mc ms free) (F0 m pc ls rest) := by
  intro T hT X
  have htr : e.platform.stackTraces = false := (show e.platform.stackTraces = l.stackTraces by rw [X.admits.platform]).trans hl
  have Y := vx_rebase X (R' := { frames := R.frames, locals := R.locals, cells := 1, slots := 6 }) (Nat.le_refl _) (Nat.le_refl _) hRcells hRslots
  obtain ⟨s', hA⟩ : ∃ z, z = (T.setVm s.vm).setFrames (.invoking m args :: below) := ⟨_, rfl⟩
  rw [← hA] at Y
  have hvm : s'.vm = s.vm := by rw [hA]; rfl
  have hhp : s'.heap = H := by rw [hA]; exact hT
  have hW0 : s.WarmedH s'.vm := by rw [hvm]; exact State.WarmedH.refl s
  have hat' : ∀ w ∈ vx_atS own ic cls names, w.before args s' = true := fun w hw => vx_ot_at hW0 hvm.symm (hgood w (List.mem_cons_of_mem _ (List.mem_cons_of_mem _ hw))) (hat w hw)
  have hk' : (Cond.classLink own ik cls).before args s' = true := vx_ot_at hW0 hvm.symm (hgood _ List.mem_cons_self) hk
  have hini' : (Cond.initialized cls).before args s' = true := vx_ot_at hW0 hvm.symm (hgood _ (List.mem_cons_of_mem _ List.mem_cons_self)) hini
  have hU' : vx_Zq Bundle.tN "UNASSIGNED_STACK" Bundle.steD A s' s'.heap := by rw [hhp]; exact vx_Zq.moved hW0.alike (hU.kept hS.2.1)
  have hN' : vx_Zq Bundle.tN "SUPPRESSED_SENTINEL" Bundle.listD A s' s'.heap := by rw [hhp]; exact vx_Zq.moved hW0.alike (hN.kept hS.2.1)
  have h : ∀ w ∈ Bundle.ownAtoms own ic cls names, w.before args s' = true := vx_own hat' (vx_isRefq hU'.1) (vx_isRefq hN'.1) hU'.2.word hN'.2.word
  have hown' : s'.vm.findClass own = some m.cls := by rw [hvm]; exact hown
  have hins : (Cond.instantiable cls 6).before args s' = true := h _ (by simp [Bundle.ownAtoms])
  obtain ⟨vm₁, cX, kX, hfX, hkX, -, -, X₁, st1⟩ := Y.newCold hexec (own := own) (C := cls) (index := ik) (n := 6) hown' hk' hins hini'
    (g := F0 m pc ls rest) rfl (by rw [hb]; exact d0) (Nat.le_refl _) (Nat.le_refl _)
  generalize hT1 : (T.setVm vm₁).pushCell { cls := cX, slots := kX.instanceTypes.map defaultValue, vm := .none } = T1 at X₁ st1
  have hcat : (Value.ref T.heap.size).category = 1 := rfl
  have hcellA : T1.heap[T.heap.size]? = some (freshCell cX kX) := by rw [← hT1]; exact State.heap_pushCell_size _ _
  have d3' : decode c.code (pc + 3) = .ok (.dup, 1) := by rw [hb]; exact d3
  have d4' : decode c.code (pc + 4) = .ok (.ldc_w is, 3) := by rw [hb]; exact d4
  have hstr' : vk_R own is text sa s' := vk_R.warm hW0 hstr
  obtain ⟨U, hsteps, hrun, hend, hW, hsame, ce, hce, hO⟩ := X₁.ctorThrowS hexec htr (own := own) (cls := cls) (names := names) (ic := ic) hown' hcls hnames h (fun x hx => nomatch hx) hfX hkX hcellA (by rw [hhp, hT]; exact Nat.le_refl _) (msg := .ref sa) rfl
    (g := { method := m, pc := pc + 7, locals := ls, stack := .ref sa :: .ref T.heap.size :: .ref T.heap.size :: rest, locked := none }) rfl hsize rfl rfl (rest := rest) rfl
    (by rw [hb]; exact d7) (by rw [hb]; exact d10) hout hRframes (by simp only [List.map_cons, List.sum_cons, hcat]; omega) hlocks
  obtain ⟨f1, f2⟩ := vx_frame hsame
  rw [hhp] at f1 f2
  have hWs : s.WarmedH U.vm := State.WarmedH.trans hW0 hW
  have hcl : s.vm.findClass cls = some ce.cls := by
    have h9 := hO.cls
    rw [hvm] at h9
    exact h9
  have hall : s.sameButNew ({ U with vm := s.vm } : State) locs mc ms := by
    subst hA
    obtain ⟨e1, e2⟩ := hsame
    rw [State.setFrames_setFrames] at e1
    have h2 : (T.setVm s.vm).sameButNew ({ U with vm := s.vm } : State) [] (0 + 1) (0 + 6) := ⟨e1, e2⟩
    have h3 := X.same.trans h2
    rw [List.append_nil] at h3
    exact h3.mono hc hs
  refine ⟨U, ?_, .threw T.heap.size, hrun, hend, Or.inr ⟨T.heap.size, rfl, cls, ce, locs, hx U hWs.alike f1 (fun q hq => f2 q hq (fun z hz => nomatch hz)), hce, hO.vm, hcl, hWs, hall, hf⟩⟩
  refine st1 _ ?_
  show Steps p.tables e below (T1.setTop { method := m, pc := pc + 3, locals := ls, stack := .ref T.heap.size :: rest, locked := none }) _
  jvm_step X₁.here [X₁.here.top, hexec, d3', Value.category]
  exact X₁.ldcStringW hexec (own := own) (text := text) (index := is) (a := sa) hown' hstr'.1 hstr'.2
    (g := { method := m, pc := pc + 4, locals := ls, stack := .ref T.heap.size :: .ref T.heap.size :: rest, locked := none }) rfl d4' _ hsteps
end Ends
section Bodies
variable {l : Launch}
theorem vx_ofW {y : MethodName} {ws ws' : List Cond} {rm : Room} {Pc : Array Value → State → Prop} {Qc : Array Value → State → Outcome → State → Prop} {XC : String → State → State → Prop} {mc ms : Nat} {free : Addr → Prop} {cc : ByteArray} {maxL : Nat} {ret : Option FieldType}
    (hy : plainName y.cls = true) (hw : ws = Cond.code y cc maxL ret :: ws')
    (body : ∀ p e s m args below meth c s₁, BodyLoose p l y (headSpec ws rm) cc maxL ret e s m args below meth c s₁ → c.maxLocals = maxL → (∀ x ∈ c.exceptionTable.toList, False) → Pc args s →
      W p l e (headSpec ws rm).room s m args below meth c s.heap [] 0 0 (vx_MQ below Qc XC args s mc ms free) (entryFrame m args maxL)) : vx_Met l y ws rm Pc Qc XC mc ms free := by
  refine MetFree.of_bodyS (code := cc) (maxLocals := maxL) (ret := ret) hy ?_ ?_
  · intro args s m h hn
    obtain ⟨meth, c, h1, h2, h3, h4, h5, h6, -, -⟩ := Cond.code_spec hn (atoms_spec (ws := ws) h _ (by rw [hw]; exact List.mem_cons_self))
    exact ⟨meth, c, h1, h2, h3, h4, h5, h6⟩
  · intro p e s m args below meth c s₁ B hml hP _
    have hh0 : s₁.heap = s.heap := by rw [B.state]; rfl
    have ht : ∀ x ∈ c.exceptionTable.toList, False := by
      obtain ⟨meth9, c9, h1, h2, -, -, -, -, h7, -⟩ := Cond.code_spec B.named (atoms_spec (ws := ws) B.pre _ (by rw [hw]; exact List.mem_cons_self))
      cases Option.some.inj (h1.symm.trans B.method)
      cases Option.some.inj (h2.symm.trans (Stand.of_body B).code)
      intro x hx
      rw [Array.isEmpty_iff.mp h7] at hx
      cases hx
    obtain ⟨t, a1, o, b1, b2, b3⟩ := body p e s m args below meth c s₁ B hml ht hP s₁ hh0 (Stand.of_body B)
    exact ⟨t, o, a1, b1, b2, b3⟩
/-- the table of a body with handlers -/
theorem vx_table {p : Program} {x y : MethodName} {S : Spec} {cc bytes : ByteArray} {maxL maxL' : Nat} {ret ret' : Option FieldType} {e : Env} {s s₁ : State} {m : MethodId} {args : Array Value} {below : List Frame} {meth : Method} {c : Code} {hh : List (Nat × Nat × Nat × Nat)}
    (B : BodyLoose p l y S cc maxL ret e s m args below meth c s₁) (h : (Cond.codeWith y bytes maxL' ret' hh).before args s = true) : c.exceptionTable.toList = tableOf hh := by
  obtain ⟨m9, meth9, c9, hn9, h1, h2, -, -, h6, -⟩ := Cond.codeWith_spec h
  cases Option.some.inj (hn9.symm.trans B.named)
  cases Option.some.inj (h1.symm.trans B.method)
  cases Option.some.inj (h2.symm.trans (Stand.of_body B).code)
  rw [← h6, table_eq]
end Bodies
end VXA
/-! ===== END ===== -/
/-! ===== BEGIN a static call of a method with an exception table ===== -/
section VXS
variable {p : Program} {l : Launch} {e : Env} {R : Room} {s : State} {m : MethodId} {args : Array Value} {below : List Frame} {meth : Method} {c : Code} {T : State} {H : Heap} {locs : List Loc} {cells slots : Nat}
abbrev vx_CSW (R : Room) (s : State) (args : Array Value) (own : String) (index : Nat) (y : MethodName) (bytes : ByteArray) (maxL : Nat) (ret : Option FieldType) (hh : List (Nat × Nat × Nat × Nat)) (ws : List Cond) (rm : Room) (mc ms n : Nat) : Prop :=
  (rm.cells = mc ∧ rm.slots = ms ∧ rm.frames + 1 ≤ R.frames ∧ 8 + (maxL + 11) + rm.locals ≤ R.locals ∧ (∀ w ∈ ws, ∀ (a' : Array Value) (U : State), s.WarmedH U.vm → w.before a' U = true) ∧ Cond.codeWith y bytes maxL ret hh ∈ ws) ∧
  (Cond.codeWith y bytes maxL ret hh).before args s = true ∧ (Cond.initialized y.cls).before args s = true ∧ (y.cls ≠ "java/lang/invoke/MethodHandle" ∧ y.cls ≠ "java/lang/invoke/VarHandle") ∧
  (∀ sig, parseMethodDescriptor y.desc = some sig → n = sig.parameters.length) ∧ (Cond.methodLink own index y).before args s = true ∧ (Cond.static y).before args s = true
theorem vx_cwSW {own : String} {index maxL mc ms : Nat} {y : MethodName} {bytes : ByteArray} {ret : Option FieldType} {hh : List (Nat × Nat × Nat × Nat)} {Ts ws ws' : List Cond} {rm : Room} (n : Nat) (ht : ∀ w ∈ Ts, w.before args s = true) (hT : GoodIn Ts (va_wsS own index y ws)) (hw : ws = Cond.codeWith y bytes maxL ret hh :: ws') (hrc : rm.cells = mc) (hrs : rm.slots = ms)
    (hd : y.cls ≠ "java/lang/invoke/MethodHandle" ∧ y.cls ≠ "java/lang/invoke/VarHandle" ∧ (parseMethodDescriptor y.desc).map (fun d => d.parameters.length) = some n) (hR : rm.frames + 1 ≤ R.frames ∧ 8 + (maxL + 11) + rm.locals ≤ R.locals) :
    vx_CSW R s args own index y bytes maxL ret hh ws rm mc ms n := by
  have ok : ∀ w ∈ va_wsS own index y ws, w.before args s = true := fun w h => ht w (hT w h).1
  have hG : GoodIn Ts ws := fun w h => hT w (by unfold va_wsS; exact List.mem_append_right _ h)
  have hc : Cond.codeWith y bytes maxL ret hh ∈ ws := by rw [hw]; exact List.mem_cons_self
  refine ⟨⟨hrc, hrs, hR.1, hR.2, pay_in ht hG, hc⟩, ht _ (hG _ hc).1, ok _ (by simp [va_wsS]), ⟨hd.1, hd.2.1⟩, fun sig h => ?_, ok _ (by simp [va_wsS]), ok _ (by simp [va_wsS])⟩
  have h2 := hd.2.2
  rw [h] at h2
  exact (Option.some.inj h2).symm
theorem vx_callSW (X : Stand p l e R s m args below meth c T locs cells slots) (hexec : p.tables.exec = Jvm.exec) {own : String} {index : Nat} {y : MethodName} {bytes : ByteArray} {maxL : Nat} {ret : Option FieldType} {hh : List (Nat × Nat × Nat × Nat)}
    (hown : s.vm.findClass own = some m.cls) (hlink : (Cond.methodLink own index y).before args s = true) (hstat : (Cond.static y).before args s = true) (hinit : (Cond.initialized y.cls).before args s = true)
    (hcode : (Cond.codeWith y bytes maxL ret hh).before args s = true) (hy : y.cls ≠ "java/lang/invoke/MethodHandle" ∧ y.cls ≠ "java/lang/invoke/VarHandle")
    {W9 : Nat} {Pre : Pt → Array Value → Prop} {Post : Pt → Array Value → Option Value → Pt → Prop} (hK : Back l R p e below s args y 3 W9 Pre Post)
    {g : JFrame} (hg : g.method = m) (hsize : g.locals.size = c.maxLocals) {argsL rest : List Value} (hlen : ∀ sig, parseMethodDescriptor y.desc = some sig → argsL.length = sig.parameters.length)
    (hstack : g.stack = argsL.reverse ++ rest) (hW : 2 * g.monitorRoom + (rest.map fun v => v.category).sum ≤ W9) (hdg : decode c.code g.pc = .ok (.invokestatic index, 3))
    (hpre : ∀ vm₁, s.WarmedH vm₁ → Pre ⟨T.setVm vm₁, locs, cells, slots⟩ argsL.toArray) :
    ∃ (v : Option Value) (vm₁ : Vm) (B : Pt), s.WarmedH vm₁ ∧ Stand p l e R s m args below meth c B.U B.locs B.cells B.slots ∧ Post ⟨T.setVm vm₁, locs, cells, slots⟩ argsL.toArray v B ∧
      ∀ target, Steps p.tables e below (B.U.setTop { g with pc := g.pc + 3, stack := v.toList ++ rest }) target → Steps p.tables e below (T.setTop g) target := by
  obtain ⟨mk, methM, cM, hnamed, hmethM, -, -, -, -, -, -, hsigM⟩ := Cond.codeWith_spec hcode
  have hstatic : methM.isStatic = true := Cond.static_spec hnamed hmethM hstat
  obtain ⟨kP, hkP, -⟩ := className_of_methodNamed hnamed
  have hinitP : kP.init = .initialized := Cond.initialized_spec (findClass_of_methodNamed hnamed) hkP hinit
  obtain ⟨vm₁, X₁, hstep₁⟩ := X.invokestatic hexec hown hlink hnamed hmethM hstatic hkP hinitP hy (g := g) hg (argsL := argsL) (rest := rest) (hlen _ hsigM) hstack hdg
  obtain ⟨v, B, X', hpost, hsteps⟩ := hK m meth c ⟨T.setVm vm₁, locs, cells, slots⟩ { g with stack := rest } (.invokestatic index) mk argsL.toArray X₁ hg hsize hdg hW (X₁.named hnamed) (hpre vm₁ X₁.warmed)
  exact ⟨v, vm₁, B, X₁.warmed, X', hpost, fun target h => hstep₁ _ fun acts => by rw [doInvoke_state]; exact hsteps.trans h⟩
theorem vx_runSW {y : MethodName} {bytes cc : ByteArray} {maxL nL mc ms n index : Nat} {ret : Option FieldType} {hh : List (Nat × Nat × Nat × Nat)} {ws : List Cond} {rm : Room} {Pc : Array Value → State → Prop} {Qc : Array Value → State → Outcome → State → Prop} {free : Addr → Prop} {Ts : List Cond} {own : String} {As rest : List Value} {g : JFrame}
    (S : CallFix p m c cc nL s args Ts own) (hM : Met l y ws rm Pc Qc mc ms free) (cw : vx_CSW R s args own index y bytes maxL ret hh ws rm mc ms n) (hp : PreS s H Pc As)
    (hg : g.method = m) (hn : As.length = n) (hsize : g.locals.size = nL) (hstack : g.stack = As.reverse ++ rest) (hW : 2 * g.monitorRoom + (rest.map fun v => v.category).sum ≤ 8) (hdg : decode cc g.pc = .ok (.invokestatic index, 3)) (hf : cells + mc ≤ R.cells ∧ slots + ms ≤ R.slots) :
    va_Run p l e R s m args below meth c H locs cells slots mc ms g rest (Qc As.toArray) (free) := by
  obtain ⟨⟨hrc, hrs, hfr, hlo, hws, hcw⟩, hcode, hini, hy, hlen, hl, hstt⟩ := cw
  have hK : Back l R p e below s args y 3 8 (PreOf R mc ms Pc) (PostOf Qc mc ms free) := va_backW (hh := hh) (bytes := bytes) (maxL := maxL) (ret := ret) hM hp.1 hrc hrs hfr hlo hws hcw (fun a' U hW => word_at hW (Or.inl (by first | rfl | simp [Cond.onTables, Cond.keeps, Cond.steady])) hini)
  obtain ⟨hx, hb, hml, ho, -⟩ := S
  intro T hT X
  obtain ⟨v, vm₁, ⟨U', l2, c2, s2⟩, hW₁, X', ⟨g', mk, t, L, e1, e2, hq, h1, hL, h2, h3⟩, st⟩ := vx_callSW X hx (hh := hh) (bytes := bytes) (maxL := maxL) (ret := ret) ho hl hstt hini hcode hy hK hg (hsize.trans hml.symm) (argsL := As) (rest := rest) (fun sig h => hn.trans (hlen sig h)) hstack hW (by rw [hb]; exact hdg)
    (fun vm₁ hW₁ => ⟨hf.1, hf.2, hp.2 (T.setVm vm₁) hT hW₁⟩)
  dsimp only [Pt.U, Pt.locs, Pt.cells, Pt.slots] at X' e1 e2 h1 h2 h3 st
  subst h1; subst h2; subst h3
  exact ⟨v, (T.setVm vm₁).calling g' mk As.toArray, t, U', L, hT, X', hL, e1, e2, hq, st⟩
/-- not caught here, past rows that name other classes: it goes on to the caller -/
theorem vx_outP {p : Program} {l : Launch} {e : Env} {R : Room} {s : State} {m : MethodId} {args : Array Value} {below : List Frame} {meth : Method} {c : Code} {H : Heap} {locs : List Loc} {cells slots : Nat} {free : Addr → Prop} {ls : Array Slot} {rest : List Value} {Qc : Array Value → State → Outcome → State → Prop} {XC : String → State → State → Prop}
    {pc : Nat} {own E : String} {ce : Cell} {q : Addr} {mc ms : Nat} (hown : s.vm.findClass own = some m.cls) (hlocks : meth.locks = false)
    (hpass : ∀ z ∈ c.exceptionTable.toList, covers z pc = false ∨ (z.catchType ≠ 0 ∧ ∃ nm : String, (Cond.classLink own z.catchType nm).before args s = true ∧ va_Nc E nm s)) (hcell : H[q]? = some ce) (hv : ce.vm = .none) (hcl : s.vm.findClass E = some ce.cls)
    (hx : ∀ t : State, t.heap = H → s.vm.Alike t.vm → XC E s t) (hf : ∀ z ∈ locs, free z.base) (hc : cells ≤ mc) (hs : slots ≤ ms) :
    vx_W p l e R s m args below meth c H locs cells slots (vx_MQ below Qc XC args s mc ms free) (F0 m pc ls rest) q := by
  intro T hT X
  have hpl : e.platform.magicAccessors = ({} : Platform).magicAccessors := by rw [X.admits.platform]
  obtain ⟨vm', hW', X', st⟩ := X.outThrough hlocks q (g := F0 m pc ls rest) rfl rfl rfl (cell := ce) (by rw [hT]; exact hcell) (by rw [hv]; rfl)
    (by obtain ⟨k9, h9, -⟩ := Vm.findClass_spec hcl; exact ⟨k9, h9⟩) (fun z hz => by
      rcases hpass z hz with h | ⟨hz0, nm, hl1, hn1⟩
      · exact Or.inl h
      · obtain ⟨c6, hc6, hcl6⟩ := Cond.classLink_spec hown hl1 e.platform hpl
        obtain ⟨a8, b8, h1, h2, h3⟩ := hn1
        cases Option.some.inj (h1.symm.trans hcl)
        cases Option.some.inj (h2.symm.trans hc6)
        exact Or.inr ⟨hz0, _, hcl6, h3⟩)
  obtain ⟨g₀, hfr⟩ := X'.frames_eq
  have hcell9 : ((T.setVm vm').setFrames (.throwing q :: below)).heap[q]? = some ce := by
    show T.heap[q]? = some ce
    rw [hT]; exact hcell
  have hend : Ended ((T.setVm vm').setFrames (.throwing q :: below)) below (.threw q) := State.frames_setFrames _ (State.cur_lt_of_frames hfr)
  refine ⟨(T.setVm vm').setFrames (.throwing q :: below), ?_, .threw q, X'.here.running, hend, Or.inr ⟨q, rfl, E, ce, locs, hx _ hT (X'.ends _).1.alike, hcell9, hv, hcl, (X'.ends _).1, (X'.ends _).2.mono hc hs, hf⟩⟩
  rw [X.pushThrowing_eq]
  exact st
/-- a thing of a world lies in the heap -/
theorem vx_lt {D : va_G} {cl : List vw_C} {ws : va_W} {H1 : Heap} (h : va_P D cl ws H1) {k : Nat} {q : Nat × va_E} (hk : ws[k]? = some q) : q.1 < H1.size := (h k q hk).lt
end VXS
/-! ===== END ===== -/
/-! ===== BEGIN methods with a table of their own: called by a name, returning or throwing ===== -/
section VXH
/-! vx_backW, vx_callVX, vx_callSX, vx_callVW, vx_runVW, vx_runVX, vx_runSX, vx_ofWH follow the same proofs as their sisters above (Free/Laws.lean, Shelf42/LK1.lean); vx_outP calls Shelf42/NT130.lean (outThrough). -/
section
variable {l : Launch} {R : Room} {p : Program} {e : Env} {below : List Frame} {s : State} {sargs : Array Value} {y : MethodName} {len W9 : Nat}
theorem vx_backW {ws : List Cond} {rm : Room} {Pc : Array Value → State → Prop} {Qc : Array Value → State → Outcome → State → Prop} {XC : String → State → State → Prop} {mc ms : Nat} {free : Addr → Prop} {bytes : ByteArray} {maxL : Nat} {ret : Option FieldType} {hh : List (Nat × Nat × Nat × Nat)}
    (hM : vx_Met l y ws rm Pc Qc XC mc ms free) (hblind : FrameBlind Pc) (hrc : rm.cells = mc) (hrs : rm.slots = ms)
    (hframes : rm.frames + 1 ≤ R.frames) (hlocals : W9 + (maxL + 11) + rm.locals ≤ R.locals)
    (hws : ∀ w ∈ ws, ∀ a' U, s.WarmedH U.vm → w.before a' U = true) (hcode : Cond.codeWith y bytes maxL ret hh ∈ ws) (hinit : ∀ a' U, s.WarmedH U.vm → (Cond.initialized y.cls).before a' U = true) :
    vx_Back l R p e below s sargs y len W9 (PreOf R mc ms Pc) (PostOf Qc mc ms free) (vx_Post XC mc ms free) := by
  intro m meth c A g ig mk a X hg hsize hdg hW hn hp
  have h1 : (headSpec ws rm).pre.before a A.U = true := atoms_intro fun w hw => hws w hw _ _ X.warmed
  have h2 : (Cond.codeWith y bytes maxL ret hh).before a A.U = true := hws _ hcode _ _ X.warmed
  have h3 : (Cond.initialized y.cls).before a A.U = true := hinit _ _ X.warmed
  have h4 : A.cells + (headSpec ws rm).room.cells ≤ R.cells := by rw [show (headSpec ws rm).room.cells = mc from hrc]; exact hp.1
  have h5 : A.slots + (headSpec ws rm).room.slots ≤ R.slots := by rw [show (headSpec ws rm).room.slots = ms from hrs]; exact hp.2.1
  have hPc : Pc a (A.U.calling g mk a) := hblind _ _ _ _ hp.2.2
  obtain ⟨U, Ls, c0, s0⟩ := A
  dsimp only [Pt.U, Pt.locs, Pt.cells, Pt.slots] at h1 h2 h3 h4 h5 X hn hPc ⊢
  obtain ⟨m9, methY, cY, hn9, hmY, hcY, -, hlY, -⟩ := Cond.codeWith_spec h2
  cases Option.some.inj (hn9.symm.trans hn)
  obtain ⟨kY, hkY, -⟩ := className_of_methodNamed hn
  have hinitY : kY.init = .initialized := Cond.initialized_spec (findClass_of_methodNamed hn) hkY h3
  have h : At U g.method c below := by rw [hg]; exact X.here
  have hlocals9 : W9 + (maxL + 11) + (headSpec ws rm).room.locals ≤ R.locals := hlocals
  have happ : (headSpec ws rm).appliesLoose y e.platform (U.calling g mk a) = true :=
    Spec.appliesLoose_calling (g := g) h hdg hn hkY hinitY
      (X.room_calling (g := g) (R' := (headSpec ws rm).room) hsize hmY hcY hframes (by rw [hlY]; omega) h4 h5) h1
  obtain ⟨mid, hmid⟩ := h.above
  have hfr : (U.setTop g).frames = (.java g :: mid) ++ below := by rw [State.frames_setTop' g h.top, hmid]; rfl
  obtain ⟨o, s₂, hsteps, -, hend, hq⟩ := Steps.callFree hM p X.admits X.cas X.clock (acts := []) hfr happ hPc trivial
  have hq' : vx_Q Qc XC mc ms free a (U.calling g mk a) o s₂ := hq
  rw [State.frames_setTop' g h.top] at hend
  obtain ⟨g₀, hg0⟩ := Option.isSome_iff_exists.mp h.top
  obtain ⟨r, hr⟩ := State.topJava?_eq_some.mp hg0
  have hr' : (({ U with heap := s₂.heap, slotsUsed := s₂.slotsUsed } : State).setVm s₂.vm).frames = .java g₀ :: r := hr
  rcases hq' with ⟨hqc, L, hfe, hL⟩ | ⟨q, rfl, E, ce, L, hx, hce, hcv, hcl, hW₂, hsm, hL⟩
  · obtain ⟨⟨v, rfl⟩, hW₂, e2, q2, q3, q4, q5, q6⟩ := id hfe
    have e3 : s₂ = ({ (U.calling g mk a).setFrames s₂.frames with heap := s₂.heap, slotsUsed := s₂.slotsUsed } : State).setVm s₂.vm := by
      have : s₂ = ({ s₂ with vm := (U.calling g mk a).vm } : State).setVm s₂.vm := rfl
      rw [e2] at this
      exact this
    obtain ⟨c₂, i₂, len₂, hc₂, hd₂, hf₂⟩ := hend
    have hW' : U.WarmedH s₂.vm := hW₂
    have hcc : c₂ = c := by
      have h1 : s₂.code? g.method = U.code? g.method := by
        rw [State.code?_eq, State.code?_eq, hW'.alike.method?]
      exact Option.some.inj (hc₂.symm.trans (h1.trans h.code))
    subst hcc
    have hlen : len₂ = len := by rw [hdg] at hd₂; cases hd₂; rfl
    subst hlen
    have hs₂ : s₂ = (({ U with heap := s₂.heap, slotsUsed := s₂.slotsUsed } : State).setVm s₂.vm).setTop { g with pc := g.pc + len₂, stack := v.toList ++ g.stack } := by
      refine e3.trans ?_
      rw [hf₂, State.calling_eq h.top, State.setFrames_setFrames, State.setTop_of_frames _ hr', hr]
      rfl
    have hsame : U.sameButNew ({ U with heap := s₂.heap, slotsUsed := s₂.slotsUsed } : State) L mc ms := by
      refine ⟨?_, q2, q3, q4, q5, q6⟩
      obtain ⟨t, ht, -⟩ := State.frames_cons hr
      show ({ U with heap := s₂.heap, slotsUsed := s₂.slotsUsed } : State) = { U.setFrames U.frames with heap := s₂.heap, slotsUsed := s₂.slotsUsed }
      rw [State.setFrames_self ht]
    subst hg
    refine Or.inl ⟨v, ⟨(({ U with heap := s₂.heap, slotsUsed := s₂.slotsUsed } : State).setVm s₂.vm), Ls ++ L, c0 + mc, s0 + ms⟩,
      ⟨X.admits, X.cas, X.clock, X.frames, X.room, X.hears, X.method, X.code, (X.here.setHeapUsed s₂.heap s₂.slotsUsed).setVm hW'.alike, X.tail, State.WarmedH.trans X.warmed hW', X.limits, X.bytes, X.same.trans (hsame.setVm s.vm)⟩,
      ⟨g, mk, s₂, L, rfl, rfl, hqc, rfl, hL, rfl, rfl⟩, ?_⟩
    show Steps p.tables e below _ ((({ U with heap := s₂.heap, slotsUsed := s₂.slotsUsed } : State).setVm s₂.vm).setTop { g with pc := g.pc + len₂, stack := v.toList ++ g.stack })
    rw [← hs₂]
    exact hsteps
  · obtain ⟨e2, q2, q3, q4, q5, q6⟩ := id hsm
    have e3 : s₂ = ({ (U.calling g mk a).setFrames s₂.frames with heap := s₂.heap, slotsUsed := s₂.slotsUsed } : State).setVm s₂.vm := by
      have : s₂ = ({ s₂ with vm := (U.calling g mk a).vm } : State).setVm s₂.vm := rfl
      rw [e2] at this
      exact this
    have hf₂ : s₂.frames = .throwing q :: .java g :: U.frames.tail := hend
    have hW' : U.WarmedH s₂.vm := hW₂
    have hs₂ : s₂ = ((({ U with heap := s₂.heap, slotsUsed := s₂.slotsUsed } : State).setVm s₂.vm).setTop g).pushFrame (.throwing q) := by
      refine e3.trans ?_
      rw [hf₂, State.calling_eq h.top, State.setFrames_setFrames, State.pushFrame, State.frames_setTop _ hr', State.setTop_of_frames _ hr', State.setFrames_setFrames, hr]
      rfl
    have hsame : U.sameButNew ({ U with heap := s₂.heap, slotsUsed := s₂.slotsUsed } : State) L mc ms := by
      refine ⟨?_, q2, q3, q4, q5, q6⟩
      obtain ⟨t, ht, -⟩ := State.frames_cons hr
      show ({ U with heap := s₂.heap, slotsUsed := s₂.slotsUsed } : State) = { U.setFrames U.frames with heap := s₂.heap, slotsUsed := s₂.slotsUsed }
      rw [State.setFrames_self ht]
    subst hg
    refine Or.inr ⟨q, ⟨(({ U with heap := s₂.heap, slotsUsed := s₂.slotsUsed } : State).setVm s₂.vm), Ls ++ L, c0 + mc, s0 + ms⟩,
      ⟨X.admits, X.cas, X.clock, X.frames, X.room, X.hears, X.method, X.code, (X.here.setHeapUsed s₂.heap s₂.slotsUsed).setVm hW'.alike, X.tail, State.WarmedH.trans X.warmed hW', X.limits, X.bytes, X.same.trans (hsame.setVm s.vm)⟩,
      ⟨g, mk, s₂, L, E, ce, rfl, rfl, hx, hce, hcv, hcl, rfl, hL, rfl, rfl⟩, ?_⟩
    show Steps p.tables e below _ (((({ U with heap := s₂.heap, slotsUsed := s₂.slotsUsed } : State).setVm s₂.vm).setTop g).pushFrame (.throwing q))
    rw [← hs₂]
    exact hsteps
end
variable {p : Program} {l : Launch} {e : Env} {R : Room} {s : State} {m : MethodId} {args : Array Value} {below : List Frame} {meth : Method} {c : Code} {T : State} {H : Heap} {locs : List Loc} {cells slots : Nat}
theorem vx_callVX (X : Stand p l e R s m args below meth c T locs cells slots) (hexec : p.tables.exec = Jvm.exec) {own C : String} {index : Nat} {y : MethodName} {bytes : ByteArray} {maxL : Nat} {ret : Option FieldType} {hh : List (Nat × Nat × Nat × Nat)}
    (hown : s.vm.findClass own = some m.cls) (hlink : (Cond.methodLink own index y).before args s = true) (hinst : (Cond.instanceMethod y).before args s = true) (hsel : (Cond.selects C y y).before args s = true)
    (hcode : (Cond.codeWith y bytes maxL ret hh).before args s = true) (hy : y.cls ≠ "java/lang/invoke/MethodHandle" ∧ y.cls ≠ "java/lang/invoke/VarHandle")
    {W9 : Nat} {Pre : Pt → Array Value → Prop} {Post : Pt → Array Value → Option Value → Pt → Prop} {PostX : Pt → Array Value → Addr → Pt → Prop} (hK : vx_Back l R p e below s args y 3 W9 Pre Post PostX)
    {b : Addr} {cellB : Cell} (hcell : T.heap[b]? = some cellB) (hobj : cellB.vm.isStatics = false) (hcls : s.vm.findClass C = some cellB.cls)
    {g : JFrame} (hg : g.method = m) (hsize : g.locals.size = c.maxLocals) {argsL rest : List Value} (hlen : ∀ sig, parseMethodDescriptor y.desc = some sig → argsL.length = sig.parameters.length)
    (hstack : g.stack = argsL.reverse ++ .ref b :: rest) (hW : 2 * g.monitorRoom + (rest.map fun v => v.category).sum ≤ W9) (hdg : decode c.code g.pc = .ok (.invokevirtual index, 3))
    (hpre : ∀ vm₁, s.WarmedH vm₁ → Pre ⟨T.setVm vm₁, locs, cells, slots⟩ (Value.ref b :: argsL).toArray) :
    (∃ (v : Option Value) (vm₁ : Vm) (B : Pt), s.WarmedH vm₁ ∧ Stand p l e R s m args below meth c B.U B.locs B.cells B.slots ∧ Post ⟨T.setVm vm₁, locs, cells, slots⟩ (Value.ref b :: argsL).toArray v B ∧
      ∀ target, Steps p.tables e below (B.U.setTop { g with pc := g.pc + 3, stack := v.toList ++ rest }) target → Steps p.tables e below (T.setTop g) target) ∨
    (∃ (q : Addr) (vm₁ : Vm) (B : Pt), s.WarmedH vm₁ ∧ Stand p l e R s m args below meth c B.U B.locs B.cells B.slots ∧ PostX ⟨T.setVm vm₁, locs, cells, slots⟩ (Value.ref b :: argsL).toArray q B ∧
      Steps p.tables e below (T.setTop g) ((B.U.setTop { g with stack := rest }).pushFrame (.throwing q))) := by
  obtain ⟨mk, methM, hnamed, hmethM, hstM, habM⟩ := Cond.instanceMethod_spec hinst
  obtain ⟨m8, methM', cM, hn8, hmethM', -, -, -, -, -, -, hsigM⟩ := Cond.codeWith_spec hcode
  cases Option.some.inj (hn8.symm.trans hnamed)
  cases hmethM.symm.trans hmethM'
  obtain ⟨c2, r2, m2, q1, q2, q3, q4, kP, hkP, hkPi⟩ := Cond.selects_spec hsel
  cases hcls.symm.trans q1
  cases (State.methodFound?_of_named hnamed hy).symm.trans q2
  cases hnamed.symm.trans q3
  have hselP : selectMethod e.platform s.vm cellB.cls mk = .method mk := by rw [Launch.admits_selectMethod X.admits]; exact q4
  obtain ⟨vm₁, X₁, hstep₁⟩ := X.invokevirtual hexec hown hlink hnamed hmethM hstM hkP hkPi hy (a := b) (cell := cellB) hcell
    (fun z h => by rw [h] at hobj; cases hobj) hselP hmethM habM hkP hkPi (g := g) hg (argsL := argsL) (rest := rest) (hlen _ hsigM) hstack hdg
  rcases hK m meth c ⟨T.setVm vm₁, locs, cells, slots⟩ { g with stack := rest } (.invokevirtual index) mk (Value.ref b :: argsL).toArray X₁ hg hsize hdg hW (X₁.named hnamed) (hpre vm₁ X₁.warmed) with ⟨v, B, X', hpost, hsteps⟩ | ⟨q, B, X', hpost, hsteps⟩
  · exact Or.inl ⟨v, vm₁, B, X₁.warmed, X', hpost, fun target h => hstep₁ _ fun acts => by rw [doInvoke_state]; exact hsteps.trans h⟩
  · exact Or.inr ⟨q, vm₁, B, X₁.warmed, X', hpost, hstep₁ _ fun acts => by rw [doInvoke_state]; exact hsteps⟩
theorem vx_callSX (X : Stand p l e R s m args below meth c T locs cells slots) (hexec : p.tables.exec = Jvm.exec) {own : String} {index : Nat} {y : MethodName} {bytes : ByteArray} {maxL : Nat} {ret : Option FieldType} {hh : List (Nat × Nat × Nat × Nat)}
    (hown : s.vm.findClass own = some m.cls) (hlink : (Cond.methodLink own index y).before args s = true) (hstat : (Cond.static y).before args s = true) (hinit : (Cond.initialized y.cls).before args s = true)
    (hcode : (Cond.codeWith y bytes maxL ret hh).before args s = true) (hy : y.cls ≠ "java/lang/invoke/MethodHandle" ∧ y.cls ≠ "java/lang/invoke/VarHandle")
    {W9 : Nat} {Pre : Pt → Array Value → Prop} {Post : Pt → Array Value → Option Value → Pt → Prop} {PostX : Pt → Array Value → Addr → Pt → Prop} (hK : vx_Back l R p e below s args y 3 W9 Pre Post PostX)
    {g : JFrame} (hg : g.method = m) (hsize : g.locals.size = c.maxLocals) {argsL rest : List Value} (hlen : ∀ sig, parseMethodDescriptor y.desc = some sig → argsL.length = sig.parameters.length)
    (hstack : g.stack = argsL.reverse ++ rest) (hW : 2 * g.monitorRoom + (rest.map fun v => v.category).sum ≤ W9) (hdg : decode c.code g.pc = .ok (.invokestatic index, 3))
    (hpre : ∀ vm₁, s.WarmedH vm₁ → Pre ⟨T.setVm vm₁, locs, cells, slots⟩ argsL.toArray) :
    (∃ (v : Option Value) (vm₁ : Vm) (B : Pt), s.WarmedH vm₁ ∧ Stand p l e R s m args below meth c B.U B.locs B.cells B.slots ∧ Post ⟨T.setVm vm₁, locs, cells, slots⟩ argsL.toArray v B ∧
      ∀ target, Steps p.tables e below (B.U.setTop { g with pc := g.pc + 3, stack := v.toList ++ rest }) target → Steps p.tables e below (T.setTop g) target) ∨
    (∃ (q : Addr) (vm₁ : Vm) (B : Pt), s.WarmedH vm₁ ∧ Stand p l e R s m args below meth c B.U B.locs B.cells B.slots ∧ PostX ⟨T.setVm vm₁, locs, cells, slots⟩ argsL.toArray q B ∧
      Steps p.tables e below (T.setTop g) ((B.U.setTop { g with stack := rest }).pushFrame (.throwing q))) := by
  obtain ⟨mk, methM, cM, hnamed, hmethM, -, -, -, -, -, -, hsigM⟩ := Cond.codeWith_spec hcode
  have hstatic : methM.isStatic = true := Cond.static_spec hnamed hmethM hstat
  obtain ⟨kP, hkP, -⟩ := className_of_methodNamed hnamed
  have hinitP : kP.init = .initialized := Cond.initialized_spec (findClass_of_methodNamed hnamed) hkP hinit
  obtain ⟨vm₁, X₁, hstep₁⟩ := X.invokestatic hexec hown hlink hnamed hmethM hstatic hkP hinitP hy (g := g) hg (argsL := argsL) (rest := rest) (hlen _ hsigM) hstack hdg
  rcases hK m meth c ⟨T.setVm vm₁, locs, cells, slots⟩ { g with stack := rest } (.invokestatic index) mk argsL.toArray X₁ hg hsize hdg hW (X₁.named hnamed) (hpre vm₁ X₁.warmed) with ⟨v, B, X', hpost, hsteps⟩ | ⟨q, B, X', hpost, hsteps⟩
  · exact Or.inl ⟨v, vm₁, B, X₁.warmed, X', hpost, fun target h => hstep₁ _ fun acts => by rw [doInvoke_state]; exact hsteps.trans h⟩
  · exact Or.inr ⟨q, vm₁, B, X₁.warmed, X', hpost, hstep₁ _ fun acts => by rw [doInvoke_state]; exact hsteps⟩
theorem vx_callVW (X : Stand p l e R s m args below meth c T locs cells slots) (hexec : p.tables.exec = Jvm.exec) {own C : String} {index : Nat} {y : MethodName} {bytes : ByteArray} {maxL : Nat} {ret : Option FieldType} {hh : List (Nat × Nat × Nat × Nat)}
    (hown : s.vm.findClass own = some m.cls) (hlink : (Cond.methodLink own index y).before args s = true) (hinst : (Cond.instanceMethod y).before args s = true) (hsel : (Cond.selects C y y).before args s = true)
    (hcode : (Cond.codeWith y bytes maxL ret hh).before args s = true) (hy : y.cls ≠ "java/lang/invoke/MethodHandle" ∧ y.cls ≠ "java/lang/invoke/VarHandle")
    {W9 : Nat} {Pre : Pt → Array Value → Prop} {Post : Pt → Array Value → Option Value → Pt → Prop} (hK : Back l R p e below s args y 3 W9 Pre Post)
    {b : Addr} {cellB : Cell} (hcell : T.heap[b]? = some cellB) (hobj : cellB.vm.isStatics = false) (hcls : s.vm.findClass C = some cellB.cls)
    {g : JFrame} (hg : g.method = m) (hsize : g.locals.size = c.maxLocals) {argsL rest : List Value} (hlen : ∀ sig, parseMethodDescriptor y.desc = some sig → argsL.length = sig.parameters.length)
    (hstack : g.stack = argsL.reverse ++ .ref b :: rest) (hW : 2 * g.monitorRoom + (rest.map fun v => v.category).sum ≤ W9) (hdg : decode c.code g.pc = .ok (.invokevirtual index, 3))
    (hpre : ∀ vm₁, s.WarmedH vm₁ → Pre ⟨T.setVm vm₁, locs, cells, slots⟩ (Value.ref b :: argsL).toArray) :
    ∃ (v : Option Value) (vm₁ : Vm) (B : Pt), s.WarmedH vm₁ ∧ Stand p l e R s m args below meth c B.U B.locs B.cells B.slots ∧ Post ⟨T.setVm vm₁, locs, cells, slots⟩ (Value.ref b :: argsL).toArray v B ∧
      ∀ target, Steps p.tables e below (B.U.setTop { g with pc := g.pc + 3, stack := v.toList ++ rest }) target → Steps p.tables e below (T.setTop g) target := by
  obtain ⟨mk, methM, hnamed, hmethM, hstM, habM⟩ := Cond.instanceMethod_spec hinst
  obtain ⟨m8, methM', cM, hn8, hmethM', -, -, -, -, -, -, hsigM⟩ := Cond.codeWith_spec hcode
  cases Option.some.inj (hn8.symm.trans hnamed)
  cases hmethM.symm.trans hmethM'
  obtain ⟨c2, r2, m2, q1, q2, q3, q4, kP, hkP, hkPi⟩ := Cond.selects_spec hsel
  cases hcls.symm.trans q1
  cases (State.methodFound?_of_named hnamed hy).symm.trans q2
  cases hnamed.symm.trans q3
  have hselP : selectMethod e.platform s.vm cellB.cls mk = .method mk := by rw [Launch.admits_selectMethod X.admits]; exact q4
  obtain ⟨vm₁, X₁, hstep₁⟩ := X.invokevirtual hexec hown hlink hnamed hmethM hstM hkP hkPi hy (a := b) (cell := cellB) hcell
    (fun z h => by rw [h] at hobj; cases hobj) hselP hmethM habM hkP hkPi (g := g) hg (argsL := argsL) (rest := rest) (hlen _ hsigM) hstack hdg
  obtain ⟨v, B, X', hpost, hsteps⟩ := hK m meth c ⟨T.setVm vm₁, locs, cells, slots⟩ { g with stack := rest } (.invokevirtual index) mk (Value.ref b :: argsL).toArray X₁ hg hsize hdg hW (X₁.named hnamed) (hpre vm₁ X₁.warmed)
  exact ⟨v, vm₁, B, X₁.warmed, X', hpost, fun target h => hstep₁ _ fun acts => by rw [doInvoke_state]; exact hsteps.trans h⟩
abbrev vx_CVW (R : Room) (s : State) (args : Array Value) (own C : String) (index : Nat) (y : MethodName) (bytes : ByteArray) (maxL : Nat) (ret : Option FieldType) (hh : List (Nat × Nat × Nat × Nat)) (ws : List Cond) (rm : Room) (mc ms n : Nat) : Prop :=
  (rm.cells = mc ∧ rm.slots = ms ∧ rm.frames + 1 ≤ R.frames ∧ 8 + (maxL + 11) + rm.locals ≤ R.locals ∧ (∀ w ∈ ws, ∀ (a' : Array Value) (U : State), s.WarmedH U.vm → w.before a' U = true) ∧ Cond.codeWith y bytes maxL ret hh ∈ ws) ∧
  (Cond.codeWith y bytes maxL ret hh).before args s = true ∧ (Cond.initialized y.cls).before args s = true ∧ (y.cls ≠ "java/lang/invoke/MethodHandle" ∧ y.cls ≠ "java/lang/invoke/VarHandle") ∧
  (∀ sig, parseMethodDescriptor y.desc = some sig → n = sig.parameters.length) ∧ (Cond.methodLink own index y).before args s = true ∧ (Cond.instanceMethod y).before args s = true ∧ (Cond.selects C y y).before args s = true
theorem vx_cwVW {own C : String} {index maxL mc ms : Nat} {y : MethodName} {bytes : ByteArray} {ret : Option FieldType} {hh : List (Nat × Nat × Nat × Nat)} {Ts ws ws' : List Cond} {rm : Room} (n : Nat) (ht : ∀ w ∈ Ts, w.before args s = true) (hT : GoodIn Ts (wsV own index C y ws)) (hw : ws = Cond.codeWith y bytes maxL ret hh :: ws') (hrc : rm.cells = mc) (hrs : rm.slots = ms)
    (hd : y.cls = C ∧ y.cls ≠ "java/lang/invoke/MethodHandle" ∧ y.cls ≠ "java/lang/invoke/VarHandle" ∧ (parseMethodDescriptor y.desc).map (fun d => d.parameters.length) = some n) (hR : rm.frames + 1 ≤ R.frames ∧ 8 + (maxL + 11) + rm.locals ≤ R.locals) :
    vx_CVW R s args own C index y bytes maxL ret hh ws rm mc ms n := by
  obtain ⟨hC, hd⟩ := hd
  subst hC
  have ok : ∀ w ∈ wsV own index y.cls y ws, w.before args s = true := fun w h => ht w (hT w h).1
  have hG : GoodIn Ts ws := fun w h => hT w (by unfold wsV; exact List.mem_append_right _ h)
  have hc : Cond.codeWith y bytes maxL ret hh ∈ ws := by rw [hw]; exact List.mem_cons_self
  refine ⟨⟨hrc, hrs, hR.1, hR.2, pay_in ht hG, hc⟩, ht _ (hG _ hc).1, ok _ (by simp [wsV]), ⟨hd.1, hd.2.1⟩, fun sig h => ?_, ok _ (by simp [wsV]), ok _ (by simp [wsV]), ok _ (by simp [wsV])⟩
  have h2 := hd.2.2
  rw [h] at h2
  exact (Option.some.inj h2).symm
theorem vx_runVW {y : MethodName} {bytes cc : ByteArray} {maxL nL mc ms n index : Nat} {ret : Option FieldType} {hh : List (Nat × Nat × Nat × Nat)} {ws : List Cond} {rm : Room} {Pc : Array Value → State → Prop} {Qc : Array Value → State → Outcome → State → Prop} {free : Addr → Prop} {Ts : List Cond} {own C : String} {b : Addr} {As rest : List Value} {g : JFrame}
    (S : CallFix p m c cc nL s args Ts own) (hM : Met l y ws rm Pc Qc mc ms free) (cw : vx_CVW R s args own C index y bytes maxL ret hh ws rm mc ms n) (hp : PreV s H C b Pc As)
    (hg : g.method = m) (hn : As.length = n) (hsize : g.locals.size = nL) (hstack : g.stack = As.reverse ++ .ref b :: rest) (hW : 2 * g.monitorRoom + (rest.map fun v => v.category).sum ≤ 8) (hdg : decode cc g.pc = .ok (.invokevirtual index, 3)) (hf : cells + mc ≤ R.cells ∧ slots + ms ≤ R.slots) :
    va_Run p l e R s m args below meth c H locs cells slots mc ms g rest (Qc (Value.ref b :: As).toArray) free := by
  obtain ⟨⟨hrc, hrs, hfr, hlo, hws, hcw⟩, hcode, hini, hy, hlen, hl, hin, hse⟩ := cw
  have hK : Back l R p e below s args y 3 8 (PreOf R mc ms Pc) (PostOf Qc mc ms free) := va_backW (hh := hh) (bytes := bytes) (maxL := maxL) (ret := ret) hM hp.1 hrc hrs hfr hlo hws hcw (fun a' U hW => word_at hW (Or.inl (by first | rfl | simp [Cond.onTables, Cond.keeps, Cond.steady])) hini)
  obtain ⟨hx, hb, hml, ho, -⟩ := S
  obtain ⟨-, ⟨cellB, hcB, hoB, hclB⟩, hPc⟩ := hp
  intro T hT X
  obtain ⟨v, vm₁, ⟨U', l2, c2, s2⟩, hW₁, X', ⟨g', mk, t, L, e1, e2, hq, h1, hL, h2, h3⟩, st⟩ := vx_callVW X hx (C := C) (hh := hh) (bytes := bytes) (maxL := maxL) (ret := ret) ho hl hin hse hcode hy hK (by rw [hT]; exact hcB) hoB hclB hg (hsize.trans hml.symm) (argsL := As) (rest := rest) (fun sig h => hn.trans (hlen sig h)) hstack hW (by rw [hb]; exact hdg)
    (fun vm₁ hW₁ => ⟨hf.1, hf.2, hPc (T.setVm vm₁) hT hW₁⟩)
  dsimp only [Pt.U, Pt.locs, Pt.cells, Pt.slots] at X' e1 e2 h1 h2 h3 st
  subst h1; subst h2; subst h3
  exact ⟨v, (T.setVm vm₁).calling g' mk (Value.ref b :: As).toArray, t, U', L, hT, X', hL, e1, e2, hq, st⟩
section
variable {y : MethodName} {bytes cc : ByteArray} {maxL nL mc ms n index : Nat} {ret : Option FieldType} {ws : List Cond} {rm : Room} {Pc : Array Value → State → Prop} {Qc : Array Value → State → Outcome → State → Prop} {XC : String → State → State → Prop} {free : Addr → Prop} {Ts : List Cond} {own C : String} {b : Addr} {As rest : List Value} {g : JFrame}
theorem vx_runVX {hh : List (Nat × Nat × Nat × Nat)} (S : CallFix p m c cc nL s args Ts own) (hM : vx_Met l y ws rm Pc Qc XC mc ms free) (cw : vx_CVW R s args own C index y bytes maxL ret hh ws rm mc ms n) (hp : PreV s H C b Pc As)
    (hg : g.method = m) (hn : As.length = n) (hsize : g.locals.size = nL) (hstack : g.stack = As.reverse ++ .ref b :: rest) (hW : 2 * g.monitorRoom + (rest.map fun v => v.category).sum ≤ 8) (hdg : decode cc g.pc = .ok (.invokevirtual index, 3)) (hf : cells + mc ≤ R.cells ∧ slots + ms ≤ R.slots) :
    vx_Run p l e R s m args below meth c H locs cells slots mc ms g rest (Qc (Value.ref b :: As).toArray) XC free := by
  obtain ⟨⟨hrc, hrs, hfr, hlo, hws, hcw⟩, hcode, hini, hy, hlen, hl, hin, hse⟩ := cw
  have hK : vx_Back l R p e below s args y 3 8 (PreOf R mc ms Pc) (PostOf Qc mc ms free) (vx_Post XC mc ms free) := vx_backW (hh := hh) (bytes := bytes) (maxL := maxL) (ret := ret) hM hp.1 hrc hrs hfr hlo hws hcw (fun a' U hW => word_at hW (Or.inl (by first | rfl | simp [Cond.onTables, Cond.keeps, Cond.steady])) hini)
  obtain ⟨hx, hb, hml, ho, -⟩ := S
  obtain ⟨-, ⟨cellB, hcB, hoB, hclB⟩, hPc⟩ := hp
  intro T hT X
  rcases vx_callVX X hx (C := C) (hh := hh) (bytes := bytes) (maxL := maxL) (ret := ret) ho hl hin hse hcode hy hK (by rw [hT]; exact hcB) hoB hclB hg (hsize.trans hml.symm) (argsL := As) (rest := rest) (fun sig h => hn.trans (hlen sig h)) hstack hW (by rw [hb]; exact hdg)
    (fun vm₁ hW₁ => ⟨hf.1, hf.2, hPc (T.setVm vm₁) hT hW₁⟩) with ⟨v, vm₁, ⟨U', l2, c2, s2⟩, hW₁, X', ⟨g', mk, t, L, e1, e2, hq, h1, hL, h2, h3⟩, st⟩ | ⟨q, vm₁, ⟨U', l2, c2, s2⟩, hW₁, X', ⟨g', mk, t, L, E, ce, e1, e2, hq, hce, hcv, hcl, h1, hL, h2, h3⟩, st⟩
  · dsimp only [Pt.U, Pt.locs, Pt.cells, Pt.slots] at X' e1 e2 h1 h2 h3 st
    subst h1; subst h2; subst h3
    exact Or.inl ⟨v, (T.setVm vm₁).calling g' mk (Value.ref b :: As).toArray, t, U', L, hT, X', hL, e1, e2, hq, st⟩
  · dsimp only [Pt.U, Pt.locs, Pt.cells, Pt.slots] at X' e1 e2 h1 h2 h3 st hcl
    subst h1; subst h2; subst h3
    exact Or.inr ⟨q, (T.setVm vm₁).calling g' mk (Value.ref b :: As).toArray, t, U', L, E, ce, hT, X', hL, e1, e2, hq, hce, hcv, vx_cls hW₁ hcl, st⟩
theorem vx_runSX {hh : List (Nat × Nat × Nat × Nat)} (S : CallFix p m c cc nL s args Ts own) (hM : vx_Met l y ws rm Pc Qc XC mc ms free) (cw : vx_CSW R s args own index y bytes maxL ret hh ws rm mc ms n) (hp : PreS s H Pc As)
    (hg : g.method = m) (hn : As.length = n) (hsize : g.locals.size = nL) (hstack : g.stack = As.reverse ++ rest) (hW : 2 * g.monitorRoom + (rest.map fun v => v.category).sum ≤ 8) (hdg : decode cc g.pc = .ok (.invokestatic index, 3)) (hf : cells + mc ≤ R.cells ∧ slots + ms ≤ R.slots) :
    vx_Run p l e R s m args below meth c H locs cells slots mc ms g rest (Qc As.toArray) XC free := by
  obtain ⟨⟨hrc, hrs, hfr, hlo, hws, hcw⟩, hcode, hini, hy, hlen, hl, hstt⟩ := cw
  have hK : vx_Back l R p e below s args y 3 8 (PreOf R mc ms Pc) (PostOf Qc mc ms free) (vx_Post XC mc ms free) := vx_backW (hh := hh) (bytes := bytes) (maxL := maxL) (ret := ret) hM hp.1 hrc hrs hfr hlo hws hcw (fun a' U hW => word_at hW (Or.inl (by first | rfl | simp [Cond.onTables, Cond.keeps, Cond.steady])) hini)
  obtain ⟨hx, hb, hml, ho, -⟩ := S
  intro T hT X
  rcases vx_callSX X hx (hh := hh) (bytes := bytes) (maxL := maxL) (ret := ret) ho hl hstt hini hcode hy hK hg (hsize.trans hml.symm) (argsL := As) (rest := rest) (fun sig h => hn.trans (hlen sig h)) hstack hW (by rw [hb]; exact hdg)
    (fun vm₁ hW₁ => ⟨hf.1, hf.2, hp.2 (T.setVm vm₁) hT hW₁⟩) with ⟨v, vm₁, ⟨U', l2, c2, s2⟩, hW₁, X', ⟨g', mk, t, L, e1, e2, hq, h1, hL, h2, h3⟩, st⟩ | ⟨q, vm₁, ⟨U', l2, c2, s2⟩, hW₁, X', ⟨g', mk, t, L, E, ce, e1, e2, hq, hce, hcv, hcl, h1, hL, h2, h3⟩, st⟩
  · dsimp only [Pt.U, Pt.locs, Pt.cells, Pt.slots] at X' e1 e2 h1 h2 h3 st
    subst h1; subst h2; subst h3
    exact Or.inl ⟨v, (T.setVm vm₁).calling g' mk As.toArray, t, U', L, hT, X', hL, e1, e2, hq, st⟩
  · dsimp only [Pt.U, Pt.locs, Pt.cells, Pt.slots] at X' e1 e2 h1 h2 h3 st hcl
    subst h1; subst h2; subst h3
    exact Or.inr ⟨q, (T.setVm vm₁).calling g' mk As.toArray, t, U', L, E, ce, hT, X', hL, e1, e2, hq, hce, hcv, vx_cls hW₁ hcl, st⟩
end
end VXH
theorem vx_ofWH {l : Launch} {y : MethodName} {ws ws' : List Cond} {rm : Room} {Pc : Array Value → State → Prop} {Qc : Array Value → State → Outcome → State → Prop} {XC : String → State → State → Prop} {mc ms : Nat} {free : Addr → Prop} {cc : ByteArray} {maxL : Nat} {ret : Option FieldType} {hh : List (Nat × Nat × Nat × Nat)}
    (hy : plainName y.cls = true) (hw : ws = Cond.codeWith y cc maxL ret hh :: ws')
    (body : ∀ p e s m args below meth c s₁, BodyLoose p l y (headSpec ws rm) cc maxL ret e s m args below meth c s₁ → c.maxLocals = maxL → Pc args s →
      W p l e (headSpec ws rm).room s m args below meth c s.heap [] 0 0 (vx_MQ below Qc XC args s mc ms free) (entryFrame m args maxL)) : vx_Met l y ws rm Pc Qc XC mc ms free := by
  refine MetFree.of_bodyS (code := cc) (maxLocals := maxL) (ret := ret) hy ?_ ?_
  · intro args s m h hn
    obtain ⟨m9, meth, c, hn9, h1, h2, h3, h4, -, h5, h6, -⟩ := Cond.codeWith_spec (atoms_spec (ws := ws) h _ (by rw [hw]; exact List.mem_cons_self))
    cases hn.symm.trans hn9
    exact ⟨meth, c, h1, h2, h3, h4, h5, h6⟩
  · intro p e s m args below meth c s₁ B hml hP _
    have hh0 : s₁.heap = s.heap := by rw [B.state]; rfl
    obtain ⟨t, a1, o, b1, b2, b3⟩ := body p e s m args below meth c s₁ B hml hP s₁ hh0 (Stand.of_body B)
    exact ⟨t, o, a1, b1, b2, b3⟩
/-! ===== END ===== -/
end
section
def RX0 : String := "AlmanacOffice$Book"
def TX0 : u_T := fun k => match k with
  | 0 => ("AlmanacOffice$Book", "villages", "[I", true)
  | 1 => ("AlmanacOffice$Book", "days", "[I", true)
  | 2 => ("AlmanacOffice$Book", "weathers", "[I", true)
  | 3 => ("AlmanacOffice$Book", "sold", "[I", true)
  | 4 => ("AlmanacOffice$Book", "paid", "[I", true)
  | _ => ("AlmanacOffice$Book", "count", "I", false)
def tyX0 : Nat → FieldType := fun k => match k with
  | 0 => .array .int
  | 1 => .array .int
  | 2 => .array .int
  | 3 => .array .int
  | 4 => .array .int
  | _ => .int
abbrev wsX00 : List Cond := u_ws RX0 TX0 6
theorem nmX0 : ∀ a, a < 6 → ∀ b, b < 6 → a ≠ b → (TX0 a).2.1 ≠ (TX0 b).2.1 := by decide +kernel
theorem tyX0_ok : ∀ k, k < 6 → parseFieldDescriptor (TX0 k).2.2.1 = some (tyX0 k) := by decide +kernel
abbrev cX0_init : ByteArray := prog_2_method_1_code
def yX0_init : MethodName := ⟨RX0, "<init>", "()V"⟩
abbrev cX0_placeOf : ByteArray := prog_2_method_2_code
def yX0_placeOf : MethodName := ⟨RX0, "placeOf", "(II)I"⟩
abbrev cX0_labelAt : ByteArray := prog_2_method_3_code
def yX0_labelAt : MethodName := ⟨RX0, "labelAt", "(I)I"⟩
abbrev cX0_countFor : ByteArray := prog_2_method_4_code
def yX0_countFor : MethodName := ⟨RX0, "countFor", "(I)I"⟩
abbrev cX0_add : ByteArray := prog_2_method_5_code
def yX0_add : MethodName := ⟨RX0, "add", "(III)V"⟩
abbrev cX0_remove : ByteArray := prog_2_method_6_code
def yX0_remove : MethodName := ⟨RX0, "remove", "(II)V"⟩
abbrev cX0_pages : ByteArray := prog_2_method_7_code
def yX0_pages : MethodName := ⟨RX0, "pages", "()I"⟩
abbrev cX0_hasPage : ByteArray := prog_2_method_8_code
def yX0_hasPage : MethodName := ⟨RX0, "hasPage", "(I)Z"⟩
abbrev cX0_startOf : ByteArray := prog_2_method_9_code
def yX0_startOf : MethodName := ⟨RX0, "startOf", "(I)I"⟩
abbrev cX0_endOf : ByteArray := prog_2_method_10_code
def yX0_endOf : MethodName := ⟨RX0, "endOf", "(I)I"⟩
abbrev cX0_paidForPage : ByteArray := prog_2_method_11_code
def yX0_paidForPage : MethodName := ⟨RX0, "paidForPage", "(I)I"⟩
abbrev cX0_copies : ByteArray := prog_2_method_12_code
def yX0_copies : MethodName := ⟨RX0, "copies", "()I"⟩
abbrev cX0_latestDay : ByteArray := prog_2_method_13_code
def yX0_latestDay : MethodName := ⟨RX0, "latestDay", "()I"⟩
abbrev cX0_placeOfBestSeller : ByteArray := prog_2_method_14_code
def yX0_placeOfBestSeller : MethodName := ⟨RX0, "placeOfBestSeller", "()I"⟩
abbrev cX0_errors : ByteArray := prog_2_method_15_code
def yX0_errors : MethodName := ⟨RX0, "errors", "()I"⟩
abbrev cX0_takeFrom : ByteArray := prog_2_method_16_code
def yX0_takeFrom : MethodName := ⟨RX0, "takeFrom", "(LAlmanacOffice$Book;)V"⟩
def RX1 : String := "AlmanacOffice$Bytes"
def TX1 : u_T := fun k => match k with
  | 0 => ("AlmanacOffice$Bytes", "row", "[B", true)
  | _ => ("AlmanacOffice$Bytes", "length", "I", false)
def tyX1 : Nat → FieldType := fun k => match k with
  | 0 => .array .byte
  | _ => .int
abbrev wsX10 : List Cond := u_ws RX1 TX1 2
theorem nmX1 : ∀ a, a < 2 → ∀ b, b < 2 → a ≠ b → (TX1 a).2.1 ≠ (TX1 b).2.1 := by decide +kernel
theorem tyX1_ok : ∀ k, k < 2 → parseFieldDescriptor (TX1 k).2.2.1 = some (tyX1 k) := by decide +kernel
abbrev cX1_init : ByteArray := prog_3_method_1_code
def yX1_init : MethodName := ⟨RX1, "<init>", "()V"⟩
abbrev cX1_hasRoomFor : ByteArray := prog_3_method_2_code
def yX1_hasRoomFor : MethodName := ⟨RX1, "hasRoomFor", "(I)Z"⟩
abbrev cX1_put : ByteArray := prog_3_method_3_code
def yX1_put : MethodName := ⟨RX1, "put", "(I)V"⟩
abbrev cX1_putFour : ByteArray := prog_3_method_4_code
def yX1_putFour : MethodName := ⟨RX1, "putFour", "(I)V"⟩
abbrev cX1_putText : ByteArray := prog_3_method_5_code
def yX1_putText : MethodName := ⟨RX1, "putText", "(Ljava/lang/String;)V"⟩
abbrev cX1_putName : ByteArray := prog_3_method_6_code
def yX1_putName : MethodName := ⟨RX1, "putName", "(I)V"⟩
abbrev cX1_putDecimal : ByteArray := prog_3_method_7_code
def yX1_putDecimal : MethodName := ⟨RX1, "putDecimal", "(I)V"⟩
abbrev cX1_at : ByteArray := prog_3_method_8_code
def yX1_at : MethodName := ⟨RX1, "at", "(I)I"⟩
abbrev cX1_nameBetween : ByteArray := prog_3_method_9_code
def yX1_nameBetween : MethodName := ⟨RX1, "nameBetween", "(II)I"⟩
def RX2 : String := "AlmanacOffice$Fairs"
def TX2 : u_T := fun k => match k with
  | 0 => ("AlmanacOffice$Fairs", "names", "[I", true)
  | 1 => ("AlmanacOffice$Fairs", "villages", "[I", true)
  | 2 => ("AlmanacOffice$Fairs", "periods", "[I", true)
  | 3 => ("AlmanacOffice$Fairs", "stocks", "[I", true)
  | 4 => ("AlmanacOffice$Fairs", "prices", "[I", true)
  | _ => ("AlmanacOffice$Fairs", "count", "I", false)
def tyX2 : Nat → FieldType := fun k => match k with
  | 0 => .array .int
  | 1 => .array .int
  | 2 => .array .int
  | 3 => .array .int
  | 4 => .array .int
  | _ => .int
abbrev wsX20 : List Cond := u_ws RX2 TX2 6
theorem nmX2 : ∀ a, a < 6 → ∀ b, b < 6 → a ≠ b → (TX2 a).2.1 ≠ (TX2 b).2.1 := by decide +kernel
theorem tyX2_ok : ∀ k, k < 6 → parseFieldDescriptor (TX2 k).2.2.1 = some (tyX2 k) := by decide +kernel
abbrev cX2_init : ByteArray := prog_4_method_1_code
def yX2_init : MethodName := ⟨RX2, "<init>", "()V"⟩
abbrev cX2_has : ByteArray := prog_4_method_2_code
def yX2_has : MethodName := ⟨RX2, "has", "(I)Z"⟩
abbrev cX2_numberOf : ByteArray := prog_4_method_3_code
def yX2_numberOf : MethodName := ⟨RX2, "numberOf", "(I)I"⟩
abbrev cX2_add : ByteArray := prog_4_method_4_code
def yX2_add : MethodName := ⟨RX2, "add", "(IIIII)V"⟩
abbrev cX2_daysUntil : ByteArray := prog_4_method_5_code
def yX2_daysUntil : MethodName := ⟨RX2, "daysUntil", "(II)I"⟩
abbrev cX2_isHeld : ByteArray := prog_4_method_6_code
def yX2_isHeld : MethodName := ⟨RX2, "isHeld", "(II)Z"⟩
abbrev cX2_takeFrom : ByteArray := prog_4_method_7_code
def yX2_takeFrom : MethodName := ⟨RX2, "takeFrom", "(LAlmanacOffice$Fairs;)V"⟩
def RX3 : String := "AlmanacOffice$History"
def TX3 : u_T := fun k => match k with
  | 0 => ("AlmanacOffice$History", "past", "[LAlmanacOffice$State;", true)
  | 1 => ("AlmanacOffice$History", "next", "I", false)
  | _ => ("AlmanacOffice$History", "count", "I", false)
def tyX3 : Nat → FieldType := fun k => match k with
  | 0 => .array (.object "AlmanacOffice$State")
  | 1 => .int
  | _ => .int
abbrev wsX30 : List Cond := u_ws RX3 TX3 3
theorem nmX3 : ∀ a, a < 3 → ∀ b, b < 3 → a ≠ b → (TX3 a).2.1 ≠ (TX3 b).2.1 := by decide +kernel
theorem tyX3_ok : ∀ k, k < 3 → parseFieldDescriptor (TX3 k).2.2.1 = some (tyX3 k) := by decide +kernel
abbrev cX3_init : ByteArray := prog_5_method_1_code
def yX3_init : MethodName := ⟨RX3, "<init>", "()V"⟩
abbrev cX3_remember : ByteArray := prog_5_method_2_code
def yX3_remember : MethodName := ⟨RX3, "remember", "(LAlmanacOffice$State;)V"⟩
abbrev cX3_bringBack : ByteArray := prog_5_method_3_code
def yX3_bringBack : MethodName := ⟨RX3, "bringBack", "(LAlmanacOffice$State;)V"⟩
def RX4 : String := "AlmanacOffice$Memory"
def TX4 : u_T := fun k => match k with
  | 0 => ("AlmanacOffice$Memory", "labels", "[I", true)
  | _ => ("AlmanacOffice$Memory", "count", "I", false)
def tyX4 : Nat → FieldType := fun k => match k with
  | 0 => .array .int
  | _ => .int
abbrev wsX40 : List Cond := u_ws RX4 TX4 2
theorem nmX4 : ∀ a, a < 2 → ∀ b, b < 2 → a ≠ b → (TX4 a).2.1 ≠ (TX4 b).2.1 := by decide +kernel
theorem tyX4_ok : ∀ k, k < 2 → parseFieldDescriptor (TX4 k).2.2.1 = some (tyX4 k) := by decide +kernel
abbrev cX4_init : ByteArray := prog_6_method_1_code
def yX4_init : MethodName := ⟨RX4, "<init>", "()V"⟩
abbrev cX4_add : ByteArray := prog_6_method_2_code
def yX4_add : MethodName := ⟨RX4, "add", "(II)V"⟩
abbrev cX4_takeFrom : ByteArray := prog_6_method_3_code
def yX4_takeFrom : MethodName := ⟨RX4, "takeFrom", "(LAlmanacOffice$Memory;)V"⟩
def RX5 : String := "AlmanacOffice$Parser"
def TX5 : u_T := fun k => match k with
  | 0 => ("AlmanacOffice$Parser", "scanner", "LAlmanacOffice$Scanner;", true)
  | 1 => ("AlmanacOffice$Parser", "state", "LAlmanacOffice$State;", true)
  | 2 => ("AlmanacOffice$Parser", "errorCode", "I", false)
  | _ => ("AlmanacOffice$Parser", "errorPosition", "I", false)
def tyX5 : Nat → FieldType := fun k => match k with
  | 0 => .object "AlmanacOffice$Scanner"
  | 1 => .object "AlmanacOffice$State"
  | 2 => .int
  | _ => .int
abbrev wsX50 : List Cond := u_ws RX5 TX5 4
theorem nmX5 : ∀ a, a < 4 → ∀ b, b < 4 → a ≠ b → (TX5 a).2.1 ≠ (TX5 b).2.1 := by decide +kernel
theorem tyX5_ok : ∀ k, k < 4 → parseFieldDescriptor (TX5 k).2.2.1 = some (tyX5 k) := by decide +kernel
abbrev cX5_init : ByteArray := prog_7_method_1_code
def yX5_init : MethodName := ⟨RX5, "<init>", "(LAlmanacOffice$Bytes;LAlmanacOffice$State;)V"⟩
abbrev cX5_readText : ByteArray := prog_7_method_2_code
def yX5_readText : MethodName := ⟨RX5, "readText", "()Z"⟩
abbrev cX5_readAlmanac : ByteArray := prog_7_method_3_code
def yX5_readAlmanac : MethodName := ⟨RX5, "readAlmanac", "()Z"⟩
abbrev cX5_readStatement : ByteArray := prog_7_method_4_code
def yX5_readStatement : MethodName := ⟨RX5, "readStatement", "()Z"⟩
abbrev cX5_readVillage : ByteArray := prog_7_method_5_code
def yX5_readVillage : MethodName := ⟨RX5, "readVillage", "()Z"⟩
abbrev cX5_readFair : ByteArray := prog_7_method_6_code
def yX5_readFair : MethodName := ⟨RX5, "readFair", "()Z"⟩
abbrev cX5_readSay : ByteArray := prog_7_method_7_code
def yX5_readSay : MethodName := ⟨RX5, "readSay", "()Z"⟩
abbrev cX5_readRetract : ByteArray := prog_7_method_8_code
def yX5_readRetract : MethodName := ⟨RX5, "readRetract", "()Z"⟩
abbrev cX5_readPass : ByteArray := prog_7_method_9_code
def yX5_readPass : MethodName := ⟨RX5, "readPass", "()Z"⟩
abbrev cX5_weatherOfToken : ByteArray := prog_7_method_10_code
def yX5_weatherOfToken : MethodName := ⟨RX5, "weatherOfToken", "()I"⟩
abbrev cX5_readNewName : ByteArray := prog_7_method_11_code
def yX5_readNewName : MethodName := ⟨RX5, "readNewName", "()Z"⟩
abbrev cX5_readKnownVillage : ByteArray := prog_7_method_12_code
def yX5_readKnownVillage : MethodName := ⟨RX5, "readKnownVillage", "()Z"⟩
abbrev cX5_readNumber : ByteArray := prog_7_method_13_code
def yX5_readNumber : MethodName := ⟨RX5, "readNumber", "(II)Z"⟩
abbrev cX5_readSemicolon : ByteArray := prog_7_method_14_code
def yX5_readSemicolon : MethodName := ⟨RX5, "readSemicolon", "()Z"⟩
abbrev cX5_fail : ByteArray := prog_7_method_15_code
def yX5_fail : MethodName := ⟨RX5, "fail", "(I)Z"⟩
def RX6 : String := "AlmanacOffice$Scanner"
def TX6 : u_T := fun k => match k with
  | 0 => ("AlmanacOffice$Scanner", "text", "LAlmanacOffice$Bytes;", true)
  | 1 => ("AlmanacOffice$Scanner", "kind", "I", false)
  | 2 => ("AlmanacOffice$Scanner", "start", "I", false)
  | 3 => ("AlmanacOffice$Scanner", "end", "I", false)
  | _ => ("AlmanacOffice$Scanner", "number", "I", false)
def tyX6 : Nat → FieldType := fun k => match k with
  | 0 => .object "AlmanacOffice$Bytes"
  | 1 => .int
  | 2 => .int
  | 3 => .int
  | _ => .int
abbrev wsX60 : List Cond := u_ws RX6 TX6 5
theorem nmX6 : ∀ a, a < 5 → ∀ b, b < 5 → a ≠ b → (TX6 a).2.1 ≠ (TX6 b).2.1 := by decide +kernel
theorem tyX6_ok : ∀ k, k < 5 → parseFieldDescriptor (TX6 k).2.2.1 = some (tyX6 k) := by decide +kernel
abbrev cX6_init : ByteArray := prog_8_method_1_code
def yX6_init : MethodName := ⟨RX6, "<init>", "(LAlmanacOffice$Bytes;)V"⟩
abbrev cX6_next : ByteArray := prog_8_method_2_code
def yX6_next : MethodName := ⟨RX6, "next", "()V"⟩
abbrev cX6_isBlank : ByteArray := prog_8_method_3_code
def yX6_isBlank : MethodName := ⟨RX6, "isBlank", "(I)Z"⟩
abbrev cX6_readDigits : ByteArray := prog_8_method_4_code
def yX6_readDigits : MethodName := ⟨RX6, "readDigits", "()V"⟩
abbrev cX6_isWord : ByteArray := prog_8_method_5_code
def yX6_isWord : MethodName := ⟨RX6, "isWord", "(Ljava/lang/String;)Z"⟩
abbrev cX6_isSemicolon : ByteArray := prog_8_method_6_code
def yX6_isSemicolon : MethodName := ⟨RX6, "isSemicolon", "()Z"⟩
abbrev cX6_name : ByteArray := prog_8_method_7_code
def yX6_name : MethodName := ⟨RX6, "name", "()I"⟩
def RX7 : String := "AlmanacOffice$Sky"
def TX7 : u_T := fun k => match k with
  | 0 => ("AlmanacOffice$Sky", "odds", "[I", true)
  | 1 => ("AlmanacOffice$Sky", "drawn", "[I", true)
  | _ => ("AlmanacOffice$Sky", "seed", "I", false)
def tyX7 : Nat → FieldType := fun k => match k with
  | 0 => .array .int
  | 1 => .array .int
  | _ => .int
abbrev wsX70 : List Cond := u_ws RX7 TX7 3
theorem nmX7 : ∀ a, a < 3 → ∀ b, b < 3 → a ≠ b → (TX7 a).2.1 ≠ (TX7 b).2.1 := by decide +kernel
theorem tyX7_ok : ∀ k, k < 3 → parseFieldDescriptor (TX7 k).2.2.1 = some (tyX7 k) := by decide +kernel
abbrev cX7_init : ByteArray := prog_9_method_1_code
def yX7_init : MethodName := ⟨RX7, "<init>", "()V"⟩
abbrev cX7_sumOfOdds : ByteArray := prog_9_method_2_code
def yX7_sumOfOdds : MethodName := ⟨RX7, "sumOfOdds", "()I"⟩
abbrev cX7_seedAfter : ByteArray := prog_9_method_3_code
def yX7_seedAfter : MethodName := ⟨RX7, "seedAfter", "(I)I"⟩
abbrev cX7_weatherFor : ByteArray := prog_9_method_4_code
def yX7_weatherFor : MethodName := ⟨RX7, "weatherFor", "(I)I"⟩
abbrev cX7_draw : ByteArray := prog_9_method_5_code
def yX7_draw : MethodName := ⟨RX7, "draw", "()I"⟩
abbrev cX7_firstGreatest : ByteArray := prog_9_method_6_code
def yX7_firstGreatest : MethodName := ⟨RX7, "firstGreatest", "([I)I"⟩
abbrev cX7_lastLeast : ByteArray := prog_9_method_7_code
def yX7_lastLeast : MethodName := ⟨RX7, "lastLeast", "([I)I"⟩
abbrev cX7_closeYear : ByteArray := prog_9_method_8_code
def yX7_closeYear : MethodName := ⟨RX7, "closeYear", "()V"⟩
abbrev cX7_takeFrom : ByteArray := prog_9_method_9_code
def yX7_takeFrom : MethodName := ⟨RX7, "takeFrom", "(LAlmanacOffice$Sky;)V"⟩
def RX8 : String := "AlmanacOffice$State"
def TX8 : u_T := fun k => match k with
  | 0 => ("AlmanacOffice$State", "villages", "LAlmanacOffice$Villages;", true)
  | 1 => ("AlmanacOffice$State", "fairs", "LAlmanacOffice$Fairs;", true)
  | 2 => ("AlmanacOffice$State", "sky", "LAlmanacOffice$Sky;", true)
  | 3 => ("AlmanacOffice$State", "book", "LAlmanacOffice$Book;", true)
  | 4 => ("AlmanacOffice$State", "memory", "LAlmanacOffice$Memory;", true)
  | 5 => ("AlmanacOffice$State", "day", "I", false)
  | 6 => ("AlmanacOffice$State", "coins", "I", false)
  | 7 => ("AlmanacOffice$State", "hits", "I", false)
  | 8 => ("AlmanacOffice$State", "regrets", "I", false)
  | 9 => ("AlmanacOffice$State", "retractions", "I", false)
  | 10 => ("AlmanacOffice$State", "copiesSold", "I", false)
  | 11 => ("AlmanacOffice$State", "copiesGone", "I", false)
  | 12 => ("AlmanacOffice$State", "coinsEarned", "I", false)
  | _ => ("AlmanacOffice$State", "coinsPaidBack", "I", false)
def tyX8 : Nat → FieldType := fun k => match k with
  | 0 => .object "AlmanacOffice$Villages"
  | 1 => .object "AlmanacOffice$Fairs"
  | 2 => .object "AlmanacOffice$Sky"
  | 3 => .object "AlmanacOffice$Book"
  | 4 => .object "AlmanacOffice$Memory"
  | 5 => .int
  | 6 => .int
  | 7 => .int
  | 8 => .int
  | 9 => .int
  | 10 => .int
  | 11 => .int
  | 12 => .int
  | _ => .int
abbrev wsX80 : List Cond := u_ws RX8 TX8 14
theorem nmX8 : ∀ a, a < 14 → ∀ b, b < 14 → a ≠ b → (TX8 a).2.1 ≠ (TX8 b).2.1 := by decide +kernel
theorem tyX8_ok : ∀ k, k < 14 → parseFieldDescriptor (TX8 k).2.2.1 = some (tyX8 k) := by decide +kernel
abbrev cX8_init : ByteArray := prog_10_method_1_code
def yX8_init : MethodName := ⟨RX8, "<init>", "()V"⟩
abbrev cX8_clear : ByteArray := prog_10_method_2_code
def yX8_clear : MethodName := ⟨RX8, "clear", "()V"⟩
abbrev cX8_takeFrom : ByteArray := prog_10_method_3_code
def yX8_takeFrom : MethodName := ⟨RX8, "takeFrom", "(LAlmanacOffice$State;)V"⟩
abbrev cX8_refusalToPrint : ByteArray := prog_10_method_4_code
def yX8_refusalToPrint : MethodName := ⟨RX8, "refusalToPrint", "(II)I"⟩
abbrev cX8_canPayBackPage : ByteArray := prog_10_method_5_code
def yX8_canPayBackPage : MethodName := ⟨RX8, "canPayBackPage", "(I)Z"⟩
abbrev cX8_takeBackPage : ByteArray := prog_10_method_6_code
def yX8_takeBackPage : MethodName := ⟨RX8, "takeBackPage", "(I)I"⟩
abbrev cX8_letDaysPass : ByteArray := prog_10_method_7_code
def yX8_letDaysPass : MethodName := ⟨RX8, "letDaysPass", "(I)V"⟩
abbrev cX8_sellAt : ByteArray := prog_10_method_8_code
def yX8_sellAt : MethodName := ⟨RX8, "sellAt", "(I)V"⟩
abbrev cX8_judge : ByteArray := prog_10_method_9_code
def yX8_judge : MethodName := ⟨RX8, "judge", "(II)V"⟩
abbrev cX8_payBack : ByteArray := prog_10_method_10_code
def yX8_payBack : MethodName := ⟨RX8, "payBack", "(I)V"⟩
def RX9 : String := "AlmanacOffice$Villages"
def TX9 : u_T := fun k => match k with
  | 0 => ("AlmanacOffice$Villages", "names", "[I", true)
  | 1 => ("AlmanacOffice$Villages", "people", "[I", true)
  | 2 => ("AlmanacOffice$Villages", "trusts", "[I", true)
  | _ => ("AlmanacOffice$Villages", "count", "I", false)
def tyX9 : Nat → FieldType := fun k => match k with
  | 0 => .array .int
  | 1 => .array .int
  | 2 => .array .int
  | _ => .int
abbrev wsX90 : List Cond := u_ws RX9 TX9 4
theorem nmX9 : ∀ a, a < 4 → ∀ b, b < 4 → a ≠ b → (TX9 a).2.1 ≠ (TX9 b).2.1 := by decide +kernel
theorem tyX9_ok : ∀ k, k < 4 → parseFieldDescriptor (TX9 k).2.2.1 = some (tyX9 k) := by decide +kernel
abbrev cX9_init : ByteArray := prog_11_method_1_code
def yX9_init : MethodName := ⟨RX9, "<init>", "()V"⟩
abbrev cX9_has : ByteArray := prog_11_method_2_code
def yX9_has : MethodName := ⟨RX9, "has", "(I)Z"⟩
abbrev cX9_numberOf : ByteArray := prog_11_method_3_code
def yX9_numberOf : MethodName := ⟨RX9, "numberOf", "(I)I"⟩
abbrev cX9_add : ByteArray := prog_11_method_4_code
def yX9_add : MethodName := ⟨RX9, "add", "(III)V"⟩
abbrev cX9_changeTrust : ByteArray := prog_11_method_5_code
def yX9_changeTrust : MethodName := ⟨RX9, "changeTrust", "(II)V"⟩
abbrev cX9_wish : ByteArray := prog_11_method_6_code
def yX9_wish : MethodName := ⟨RX9, "wish", "(II)I"⟩
abbrev cX9_sumOfTrusts : ByteArray := prog_11_method_7_code
def yX9_sumOfTrusts : MethodName := ⟨RX9, "sumOfTrusts", "()I"⟩
abbrev cX9_takeFrom : ByteArray := prog_11_method_8_code
def yX9_takeFrom : MethodName := ⟨RX9, "takeFrom", "(LAlmanacOffice$Villages;)V"⟩
def RX10 : String := "AlmanacOffice"
def TX10 : u_T := fun k => match k with
  | 0 => ("AlmanacOffice", "input", "LAlmanacOffice$Bytes;", true)
  | 1 => ("AlmanacOffice", "output", "LAlmanacOffice$Bytes;", true)
  | 2 => ("AlmanacOffice", "state", "LAlmanacOffice$State;", true)
  | 3 => ("AlmanacOffice", "draft", "LAlmanacOffice$State;", true)
  | 4 => ("AlmanacOffice", "history", "LAlmanacOffice$History;", true)
  | 5 => ("AlmanacOffice", "slots", "[LAlmanacOffice$State;", true)
  | 6 => ("AlmanacOffice", "slotIsFull", "[Z", true)
  | 7 => ("AlmanacOffice", "errorCode", "I", false)
  | _ => ("AlmanacOffice", "errorPosition", "I", false)
def tyX10 : Nat → FieldType := fun k => match k with
  | 0 => .object "AlmanacOffice$Bytes"
  | 1 => .object "AlmanacOffice$Bytes"
  | 2 => .object "AlmanacOffice$State"
  | 3 => .object "AlmanacOffice$State"
  | 4 => .object "AlmanacOffice$History"
  | 5 => .array (.object "AlmanacOffice$State")
  | 6 => .array .boolean
  | 7 => .int
  | _ => .int
abbrev wsX100 : List Cond := u_ws RX10 TX10 9
theorem nmX10 : ∀ a, a < 9 → ∀ b, b < 9 → a ≠ b → (TX10 a).2.1 ≠ (TX10 b).2.1 := by decide +kernel
theorem tyX10_ok : ∀ k, k < 9 → parseFieldDescriptor (TX10 k).2.2.1 = some (tyX10 k) := by decide +kernel
abbrev cX10_init : ByteArray := prog_1_method_1_code
def yX10_init : MethodName := ⟨RX10, "<init>", "()V"⟩
abbrev cX10_appendInput : ByteArray := prog_1_method_2_code
def yX10_appendInput : MethodName := ⟨RX10, "appendInput", "(IIIII)I"⟩
abbrev cX10_truncateInput : ByteArray := prog_1_method_3_code
def yX10_truncateInput : MethodName := ⟨RX10, "truncateInput", "(I)I"⟩
abbrev cX10_load : ByteArray := prog_1_method_4_code
def yX10_load : MethodName := ⟨RX10, "load", "()I"⟩
abbrev cX10_errorCode : ByteArray := prog_1_method_5_code
def yX10_errorCode : MethodName := ⟨RX10, "errorCode", "()I"⟩
abbrev cX10_errorPosition : ByteArray := prog_1_method_6_code
def yX10_errorPosition : MethodName := ⟨RX10, "errorPosition", "()I"⟩
abbrev cX10_day : ByteArray := prog_1_method_7_code
def yX10_day : MethodName := ⟨RX10, "day", "()I"⟩
abbrev cX10_seed : ByteArray := prog_1_method_8_code
def yX10_seed : MethodName := ⟨RX10, "seed", "()I"⟩
abbrev cX10_coins : ByteArray := prog_1_method_9_code
def yX10_coins : MethodName := ⟨RX10, "coins", "()I"⟩
abbrev cX10_villageCount : ByteArray := prog_1_method_10_code
def yX10_villageCount : MethodName := ⟨RX10, "villageCount", "()I"⟩
abbrev cX10_fairCount : ByteArray := prog_1_method_11_code
def yX10_fairCount : MethodName := ⟨RX10, "fairCount", "()I"⟩
abbrev cX10_findName : ByteArray := prog_1_method_12_code
def yX10_findName : MethodName := ⟨RX10, "findName", "()I"⟩
abbrev cX10_peopleOf : ByteArray := prog_1_method_13_code
def yX10_peopleOf : MethodName := ⟨RX10, "peopleOf", "(I)I"⟩
abbrev cX10_trustOf : ByteArray := prog_1_method_14_code
def yX10_trustOf : MethodName := ⟨RX10, "trustOf", "(I)I"⟩
abbrev cX10_forecastsFor : ByteArray := prog_1_method_15_code
def yX10_forecastsFor : MethodName := ⟨RX10, "forecastsFor", "(I)I"⟩
abbrev cX10_fairVillage : ByteArray := prog_1_method_16_code
def yX10_fairVillage : MethodName := ⟨RX10, "fairVillage", "(I)I"⟩
abbrev cX10_periodOf : ByteArray := prog_1_method_17_code
def yX10_periodOf : MethodName := ⟨RX10, "periodOf", "(I)I"⟩
abbrev cX10_stockOf : ByteArray := prog_1_method_18_code
def yX10_stockOf : MethodName := ⟨RX10, "stockOf", "(I)I"⟩
abbrev cX10_priceOf : ByteArray := prog_1_method_19_code
def yX10_priceOf : MethodName := ⟨RX10, "priceOf", "(I)I"⟩
abbrev cX10_daysUntilFair : ByteArray := prog_1_method_20_code
def yX10_daysUntilFair : MethodName := ⟨RX10, "daysUntilFair", "(I)I"⟩
abbrev cX10_oddsOf : ByteArray := prog_1_method_21_code
def yX10_oddsOf : MethodName := ⟨RX10, "oddsOf", "(I)I"⟩
abbrev cX10_chanceOf : ByteArray := prog_1_method_22_code
def yX10_chanceOf : MethodName := ⟨RX10, "chanceOf", "(I)D"⟩
abbrev cX10_drawnThisYear : ByteArray := prog_1_method_23_code
def yX10_drawnThisYear : MethodName := ⟨RX10, "drawnThisYear", "(I)I"⟩
abbrev cX10_forecastCount : ByteArray := prog_1_method_24_code
def yX10_forecastCount : MethodName := ⟨RX10, "forecastCount", "()I"⟩
abbrev cX10_hasForecast : ByteArray := prog_1_method_25_code
def yX10_hasForecast : MethodName := ⟨RX10, "hasForecast", "(II)Z"⟩
abbrev cX10_weatherOf : ByteArray := prog_1_method_26_code
def yX10_weatherOf : MethodName := ⟨RX10, "weatherOf", "(II)I"⟩
abbrev cX10_soldOf : ByteArray := prog_1_method_27_code
def yX10_soldOf : MethodName := ⟨RX10, "soldOf", "(II)I"⟩
abbrev cX10_paidOf : ByteArray := prog_1_method_28_code
def yX10_paidOf : MethodName := ⟨RX10, "paidOf", "(II)I"⟩
abbrev cX10_pageOf : ByteArray := prog_1_method_29_code
def yX10_pageOf : MethodName := ⟨RX10, "pageOf", "(II)I"⟩
abbrev cX10_forecastAt : ByteArray := prog_1_method_30_code
def yX10_forecastAt : MethodName := ⟨RX10, "forecastAt", "(I)I"⟩
abbrev cX10_pageCount : ByteArray := prog_1_method_31_code
def yX10_pageCount : MethodName := ⟨RX10, "pageCount", "()I"⟩
abbrev cX10_refundOf : ByteArray := prog_1_method_32_code
def yX10_refundOf : MethodName := ⟨RX10, "refundOf", "(I)I"⟩
abbrev cX10_canRetract : ByteArray := prog_1_method_33_code
def yX10_canRetract : MethodName := ⟨RX10, "canRetract", "(I)Z"⟩
abbrev cX10_printRefusal : ByteArray := prog_1_method_34_code
def yX10_printRefusal : MethodName := ⟨RX10, "printRefusal", "(II)I"⟩
abbrev cX10_likeliestWeather : ByteArray := prog_1_method_35_code
def yX10_likeliestWeather : MethodName := ⟨RX10, "likeliestWeather", "()I"⟩
abbrev cX10_tomorrowIn : ByteArray := prog_1_method_36_code
def yX10_tomorrowIn : MethodName := ⟨RX10, "tomorrowIn", "(I)I"⟩
abbrev cX10_regretCount : ByteArray := prog_1_method_37_code
def yX10_regretCount : MethodName := ⟨RX10, "regretCount", "()I"⟩
abbrev cX10_regretAt : ByteArray := prog_1_method_38_code
def yX10_regretAt : MethodName := ⟨RX10, "regretAt", "(I)I"⟩
abbrev cX10_hits : ByteArray := prog_1_method_39_code
def yX10_hits : MethodName := ⟨RX10, "hits", "()I"⟩
abbrev cX10_regrets : ByteArray := prog_1_method_40_code
def yX10_regrets : MethodName := ⟨RX10, "regrets", "()I"⟩
abbrev cX10_retractions : ByteArray := prog_1_method_41_code
def yX10_retractions : MethodName := ⟨RX10, "retractions", "()I"⟩
abbrev cX10_coinsAfter : ByteArray := prog_1_method_42_code
def yX10_coinsAfter : MethodName := ⟨RX10, "coinsAfter", "(I)I"⟩
abbrev cX10_trustAfter : ByteArray := prog_1_method_43_code
def yX10_trustAfter : MethodName := ⟨RX10, "trustAfter", "(II)I"⟩
abbrev cX10_daysUntilEmpty : ByteArray := prog_1_method_44_code
def yX10_daysUntilEmpty : MethodName := ⟨RX10, "daysUntilEmpty", "()I"⟩
abbrev cX10_bestSeller : ByteArray := prog_1_method_45_code
def yX10_bestSeller : MethodName := ⟨RX10, "bestSeller", "()I"⟩
abbrev cX10_copyDifference : ByteArray := prog_1_method_46_code
def yX10_copyDifference : MethodName := ⟨RX10, "copyDifference", "()I"⟩
abbrev cX10_coinDifference : ByteArray := prog_1_method_47_code
def yX10_coinDifference : MethodName := ⟨RX10, "coinDifference", "()I"⟩
abbrev cX10_bookErrors : ByteArray := prog_1_method_48_code
def yX10_bookErrors : MethodName := ⟨RX10, "bookErrors", "()I"⟩
abbrev cX10_hitShare : ByteArray := prog_1_method_49_code
def yX10_hitShare : MethodName := ⟨RX10, "hitShare", "()F"⟩
abbrev cX10_averageTrust : ByteArray := prog_1_method_50_code
def yX10_averageTrust : MethodName := ⟨RX10, "averageTrust", "()D"⟩
abbrev cX10_print : ByteArray := prog_1_method_51_code
def yX10_print : MethodName := ⟨RX10, "print", "(III)I"⟩
abbrev cX10_retract : ByteArray := prog_1_method_52_code
def yX10_retract : MethodName := ⟨RX10, "retract", "(I)I"⟩
abbrev cX10_setTrust : ByteArray := prog_1_method_53_code
def yX10_setTrust : MethodName := ⟨RX10, "setTrust", "(II)I"⟩
abbrev cX10_setPeople : ByteArray := prog_1_method_54_code
def yX10_setPeople : MethodName := ⟨RX10, "setPeople", "(II)I"⟩
abbrev cX10_setOdds : ByteArray := prog_1_method_55_code
def yX10_setOdds : MethodName := ⟨RX10, "setOdds", "(II)I"⟩
abbrev cX10_pass : ByteArray := prog_1_method_56_code
def yX10_pass : MethodName := ⟨RX10, "pass", "(I)I"⟩
abbrev cX10_writePage : ByteArray := prog_1_method_57_code
def yX10_writePage : MethodName := ⟨RX10, "writePage", "(I)I"⟩
abbrev cX10_outputByte : ByteArray := prog_1_method_58_code
def yX10_outputByte : MethodName := ⟨RX10, "outputByte", "(I)I"⟩
abbrev cX10_save : ByteArray := prog_1_method_59_code
def yX10_save : MethodName := ⟨RX10, "save", "(I)I"⟩
abbrev cX10_restore : ByteArray := prog_1_method_60_code
def yX10_restore : MethodName := ⟨RX10, "restore", "(I)I"⟩
abbrev cX10_undo : ByteArray := prog_1_method_61_code
def yX10_undo : MethodName := ⟨RX10, "undo", "()I"⟩
abbrev cX10_requireVillage : ByteArray := prog_1_method_62_code
def yX10_requireVillage : MethodName := ⟨RX10, "requireVillage", "(I)V"⟩
abbrev cX10_requireFair : ByteArray := prog_1_method_63_code
def yX10_requireFair : MethodName := ⟨RX10, "requireFair", "(I)V"⟩
abbrev cX10_requirePage : ByteArray := prog_1_method_64_code
def yX10_requirePage : MethodName := ⟨RX10, "requirePage", "(I)V"⟩
abbrev cX10_requireSlot : ByteArray := prog_1_method_65_code
def yX10_requireSlot : MethodName := ⟨RX10, "requireSlot", "(I)V"⟩
abbrev cX10_requireRange : ByteArray := prog_1_method_66_code
def yX10_requireRange : MethodName := ⟨RX10, "requireRange", "(III)V"⟩
abbrev cX10_requireForecast : ByteArray := prog_1_method_67_code
def yX10_requireForecast : MethodName := ⟨RX10, "requireForecast", "(II)I"⟩
abbrev cX10_lookAhead : ByteArray := prog_1_method_68_code
def yX10_lookAhead : MethodName := ⟨RX10, "lookAhead", "(I)V"⟩
abbrev cX10_writeForecast : ByteArray := prog_1_method_69_code
def yX10_writeForecast : MethodName := ⟨RX10, "writeForecast", "(I)V"⟩
abbrev cX10_isBetween : ByteArray := prog_1_method_70_code
def yX10_isBetween : MethodName := ⟨RX10, "isBetween", "(III)Z"⟩
abbrev cX10_isLetter : ByteArray := prog_1_method_71_code
def yX10_isLetter : MethodName := ⟨RX10, "isLetter", "(I)Z"⟩
abbrev cX10_isDigit : ByteArray := prog_1_method_72_code
def yX10_isDigit : MethodName := ⟨RX10, "isDigit", "(I)Z"⟩
abbrev cX10_placeIn : ByteArray := prog_1_method_73_code
def yX10_placeIn : MethodName := ⟨RX10, "placeIn", "([III)I"⟩
abbrev cX10_labelOf : ByteArray := prog_1_method_74_code
def yX10_labelOf : MethodName := ⟨RX10, "labelOf", "(II)I"⟩
def RX11 : String := "AlmanacOfficeModel"
def TX11 : u_T := fun k => match k with
  | 0 => ("AlmanacOfficeModel", "s", "[I", true)
  | 1 => ("AlmanacOfficeModel", "parsed", "[I", true)
  | 2 => ("AlmanacOfficeModel", "tried", "[I", true)
  | 3 => ("AlmanacOfficeModel", "remembered", "[I", true)
  | 4 => ("AlmanacOfficeModel", "slots", "[I", true)
  | 5 => ("AlmanacOfficeModel", "kept", "[Z", true)
  | 6 => ("AlmanacOfficeModel", "undoable", "I", false)
  | 7 => ("AlmanacOfficeModel", "undoStart", "I", false)
  | 8 => ("AlmanacOfficeModel", "thrown", "I", false)
  | 9 => ("AlmanacOfficeModel", "input", "[I", true)
  | 10 => ("AlmanacOfficeModel", "inputLength", "I", false)
  | 11 => ("AlmanacOfficeModel", "position", "I", false)
  | 12 => ("AlmanacOfficeModel", "start", "I", false)
  | 13 => ("AlmanacOfficeModel", "token", "I", false)
  | 14 => ("AlmanacOfficeModel", "value", "I", false)
  | 15 => ("AlmanacOfficeModel", "letters", "I", false)
  | 16 => ("AlmanacOfficeModel", "code", "I", false)
  | 17 => ("AlmanacOfficeModel", "place", "I", false)
  | 18 => ("AlmanacOfficeModel", "output", "[B", true)
  | _ => ("AlmanacOfficeModel", "outputLength", "I", false)
def tyX11 : Nat → FieldType := fun k => match k with
  | 0 => .array .int
  | 1 => .array .int
  | 2 => .array .int
  | 3 => .array .int
  | 4 => .array .int
  | 5 => .array .boolean
  | 6 => .int
  | 7 => .int
  | 8 => .int
  | 9 => .array .int
  | 10 => .int
  | 11 => .int
  | 12 => .int
  | 13 => .int
  | 14 => .int
  | 15 => .int
  | 16 => .int
  | 17 => .int
  | 18 => .array .byte
  | _ => .int
abbrev wsX110 : List Cond := u_ws RX11 TX11 20
theorem nmX11 : ∀ a, a < 20 → ∀ b, b < 20 → a ≠ b → (TX11 a).2.1 ≠ (TX11 b).2.1 := by decide +kernel
theorem tyX11_ok : ∀ k, k < 20 → parseFieldDescriptor (TX11 k).2.2.1 = some (tyX11 k) := by decide +kernel
abbrev cX11_init : ByteArray := prog_13_method_1_code
def yX11_init : MethodName := ⟨RX11, "<init>", "()V"⟩
abbrev cX11_layInput : ByteArray := prog_13_method_2_code
def yX11_layInput : MethodName := ⟨RX11, "layInput", "(Ljava/lang/String;)V"⟩
abbrev cX11_thrown : ByteArray := prog_13_method_3_code
def yX11_thrown : MethodName := ⟨RX11, "thrown", "()I"⟩
abbrev cX11_refuses : ByteArray := prog_13_method_4_code
def yX11_refuses : MethodName := ⟨RX11, "refuses", "(ZI)Z"⟩
abbrev cX11_isBetween : ByteArray := prog_13_method_5_code
def yX11_isBetween : MethodName := ⟨RX11, "isBetween", "(III)Z"⟩
abbrev cX11_copyRow : ByteArray := prog_13_method_6_code
def yX11_copyRow : MethodName := ⟨RX11, "copyRow", "([II[II)V"⟩
abbrev cX11_ofVillage : ByteArray := prog_13_method_7_code
def yX11_ofVillage : MethodName := ⟨RX11, "ofVillage", "(I)I"⟩
abbrev cX11_ofFair : ByteArray := prog_13_method_8_code
def yX11_ofFair : MethodName := ⟨RX11, "ofFair", "(I)I"⟩
abbrev cX11_ofForecast : ByteArray := prog_13_method_9_code
def yX11_ofForecast : MethodName := ⟨RX11, "ofForecast", "(I)I"⟩
abbrev cX11_ofRegret : ByteArray := prog_13_method_10_code
def yX11_ofRegret : MethodName := ⟨RX11, "ofRegret", "(I)I"⟩
abbrev cX11_find : ByteArray := prog_13_method_11_code
def yX11_find : MethodName := ⟨RX11, "find", "([III)I"⟩
abbrev cX11_whyNotPrint : ByteArray := prog_13_method_12_code
def yX11_whyNotPrint : MethodName := ⟨RX11, "whyNotPrint", "([III)I"⟩
abbrev cX11_prints : ByteArray := prog_13_method_13_code
def yX11_prints : MethodName := ⟨RX11, "prints", "([IIII)I"⟩
abbrev cX11_dropForecast : ByteArray := prog_13_method_14_code
def yX11_dropForecast : MethodName := ⟨RX11, "dropForecast", "([II)V"⟩
abbrev cX11_pages : ByteArray := prog_13_method_15_code
def yX11_pages : MethodName := ⟨RX11, "pages", "([I)I"⟩
abbrev cX11_pageEnd : ByteArray := prog_13_method_16_code
def yX11_pageEnd : MethodName := ⟨RX11, "pageEnd", "([II)I"⟩
abbrev cX11_refund : ByteArray := prog_13_method_17_code
def yX11_refund : MethodName := ⟨RX11, "refund", "([II)I"⟩
abbrev cX11_addTrust : ByteArray := prog_13_method_18_code
def yX11_addTrust : MethodName := ⟨RX11, "addTrust", "([III)V"⟩
abbrev cX11_payBack : ByteArray := prog_13_method_19_code
def yX11_payBack : MethodName := ⟨RX11, "payBack", "([II)V"⟩
abbrev cX11_retracts : ByteArray := prog_13_method_20_code
def yX11_retracts : MethodName := ⟨RX11, "retracts", "([II)I"⟩
abbrev cX11_isHeld : ByteArray := prog_13_method_21_code
def yX11_isHeld : MethodName := ⟨RX11, "isHeld", "([III)Z"⟩
abbrev cX11_sell : ByteArray := prog_13_method_22_code
def yX11_sell : MethodName := ⟨RX11, "sell", "([IIII)V"⟩
abbrev cX11_wanted : ByteArray := prog_13_method_23_code
def yX11_wanted : MethodName := ⟨RX11, "wanted", "([II)I"⟩
abbrev cX11_holdFair : ByteArray := prog_13_method_24_code
def yX11_holdFair : MethodName := ⟨RX11, "holdFair", "([II)V"⟩
abbrev cX11_seedBehind : ByteArray := prog_13_method_25_code
def yX11_seedBehind : MethodName := ⟨RX11, "seedBehind", "(I)I"⟩
abbrev cX11_allOdds : ByteArray := prog_13_method_26_code
def yX11_allOdds : MethodName := ⟨RX11, "allOdds", "([I)I"⟩
abbrev cX11_weatherBy : ByteArray := prog_13_method_27_code
def yX11_weatherBy : MethodName := ⟨RX11, "weatherBy", "([II)I"⟩
abbrev cX11_regret : ByteArray := prog_13_method_28_code
def yX11_regret : MethodName := ⟨RX11, "regret", "([II)V"⟩
abbrev cX11_weigh : ByteArray := prog_13_method_29_code
def yX11_weigh : MethodName := ⟨RX11, "weigh", "([III)V"⟩
abbrev cX11_endYear : ByteArray := prog_13_method_30_code
def yX11_endYear : MethodName := ⟨RX11, "endYear", "([I)V"⟩
abbrev cX11_passDay : ByteArray := prog_13_method_31_code
def yX11_passDay : MethodName := ⟨RX11, "passDay", "([I)V"⟩
abbrev cX11_passMany : ByteArray := prog_13_method_32_code
def yX11_passMany : MethodName := ⟨RX11, "passMany", "([II)I"⟩
abbrev cX11_appendWord : ByteArray := prog_13_method_33_code
def yX11_appendWord : MethodName := ⟨RX11, "appendWord", "(I)V"⟩
abbrev cX11_appendInput : ByteArray := prog_13_method_34_code
def yX11_appendInput : MethodName := ⟨RX11, "appendInput", "(IIIII)I"⟩
abbrev cX11_truncateInput : ByteArray := prog_13_method_35_code
def yX11_truncateInput : MethodName := ⟨RX11, "truncateInput", "(I)I"⟩
abbrev cX11_errorCode : ByteArray := prog_13_method_36_code
def yX11_errorCode : MethodName := ⟨RX11, "errorCode", "()I"⟩
abbrev cX11_errorPosition : ByteArray := prog_13_method_37_code
def yX11_errorPosition : MethodName := ⟨RX11, "errorPosition", "()I"⟩
abbrev cX11_byteAt : ByteArray := prog_13_method_38_code
def yX11_byteAt : MethodName := ⟨RX11, "byteAt", "(I)I"⟩
abbrev cX11_isLetter : ByteArray := prog_13_method_39_code
def yX11_isLetter : MethodName := ⟨RX11, "isLetter", "(I)Z"⟩
abbrev cX11_advance : ByteArray := prog_13_method_40_code
def yX11_advance : MethodName := ⟨RX11, "advance", "()V"⟩
abbrev cX11_is : ByteArray := prog_13_method_41_code
def yX11_is : MethodName := ⟨RX11, "is", "(Ljava/lang/String;)Z"⟩
abbrev cX11_check : ByteArray := prog_13_method_42_code
def yX11_check : MethodName := ⟨RX11, "check", "(ZI)Z"⟩
abbrev cX11_next : ByteArray := prog_13_method_43_code
def yX11_next : MethodName := ⟨RX11, "next", "()V"⟩
abbrev cX11_look : ByteArray := prog_13_method_44_code
def yX11_look : MethodName := ⟨RX11, "look", "(II)I"⟩
abbrev cX11_number : ByteArray := prog_13_method_45_code
def yX11_number : MethodName := ⟨RX11, "number", "(II)I"⟩
abbrev cX11_finish : ByteArray := prog_13_method_46_code
def yX11_finish : MethodName := ⟨RX11, "finish", "()V"⟩
abbrev cX11_nameFrom : ByteArray := prog_13_method_47_code
def yX11_nameFrom : MethodName := ⟨RX11, "nameFrom", "(II)I"⟩
abbrev cX11_villageNamed : ByteArray := prog_13_method_48_code
def yX11_villageNamed : MethodName := ⟨RX11, "villageNamed", "([II)I"⟩
abbrev cX11_fairNamed : ByteArray := prog_13_method_49_code
def yX11_fairNamed : MethodName := ⟨RX11, "fairNamed", "([II)I"⟩
abbrev cX11_newName : ByteArray := prog_13_method_50_code
def yX11_newName : MethodName := ⟨RX11, "newName", "()I"⟩
abbrev cX11_villageHere : ByteArray := prog_13_method_51_code
def yX11_villageHere : MethodName := ⟨RX11, "villageHere", "()I"⟩
abbrev cX11_weatherHere : ByteArray := prog_13_method_52_code
def yX11_weatherHere : MethodName := ⟨RX11, "weatherHere", "()I"⟩
abbrev cX11_readVillage : ByteArray := prog_13_method_53_code
def yX11_readVillage : MethodName := ⟨RX11, "readVillage", "()V"⟩
abbrev cX11_readFair : ByteArray := prog_13_method_54_code
def yX11_readFair : MethodName := ⟨RX11, "readFair", "()V"⟩
abbrev cX11_readSay : ByteArray := prog_13_method_55_code
def yX11_readSay : MethodName := ⟨RX11, "readSay", "()V"⟩
abbrev cX11_readRetract : ByteArray := prog_13_method_56_code
def yX11_readRetract : MethodName := ⟨RX11, "readRetract", "()V"⟩
abbrev cX11_readPass : ByteArray := prog_13_method_57_code
def yX11_readPass : MethodName := ⟨RX11, "readPass", "()V"⟩
abbrev cX11_readStatement : ByteArray := prog_13_method_58_code
def yX11_readStatement : MethodName := ⟨RX11, "readStatement", "()V"⟩
abbrev cX11_read : ByteArray := prog_13_method_59_code
def yX11_read : MethodName := ⟨RX11, "read", "()V"⟩
abbrev cX11_load : ByteArray := prog_13_method_60_code
def yX11_load : MethodName := ⟨RX11, "load", "()I"⟩
abbrev cX11_remember : ByteArray := prog_13_method_61_code
def yX11_remember : MethodName := ⟨RX11, "remember", "()V"⟩
abbrev cX11_undo : ByteArray := prog_13_method_62_code
def yX11_undo : MethodName := ⟨RX11, "undo", "()I"⟩
abbrev cX11_noNumber : ByteArray := prog_13_method_63_code
def yX11_noNumber : MethodName := ⟨RX11, "noNumber", "(III)Z"⟩
abbrev cX11_noVillage : ByteArray := prog_13_method_64_code
def yX11_noVillage : MethodName := ⟨RX11, "noVillage", "(I)Z"⟩
abbrev cX11_noFair : ByteArray := prog_13_method_65_code
def yX11_noFair : MethodName := ⟨RX11, "noFair", "(I)Z"⟩
abbrev cX11_noWeather : ByteArray := prog_13_method_66_code
def yX11_noWeather : MethodName := ⟨RX11, "noWeather", "(I)Z"⟩
abbrev cX11_noPage : ByteArray := prog_13_method_67_code
def yX11_noPage : MethodName := ⟨RX11, "noPage", "(I)Z"⟩
abbrev cX11_noForecast : ByteArray := prog_13_method_68_code
def yX11_noForecast : MethodName := ⟨RX11, "noForecast", "(II)Z"⟩
abbrev cX11_out : ByteArray := prog_13_method_69_code
def yX11_out : MethodName := ⟨RX11, "out", "(III)Z"⟩
abbrev cX11_day : ByteArray := prog_13_method_70_code
def yX11_day : MethodName := ⟨RX11, "day", "()I"⟩
abbrev cX11_seed : ByteArray := prog_13_method_71_code
def yX11_seed : MethodName := ⟨RX11, "seed", "()I"⟩
abbrev cX11_coins : ByteArray := prog_13_method_72_code
def yX11_coins : MethodName := ⟨RX11, "coins", "()I"⟩
abbrev cX11_villageCount : ByteArray := prog_13_method_73_code
def yX11_villageCount : MethodName := ⟨RX11, "villageCount", "()I"⟩
abbrev cX11_fairCount : ByteArray := prog_13_method_74_code
def yX11_fairCount : MethodName := ⟨RX11, "fairCount", "()I"⟩
abbrev cX11_findName : ByteArray := prog_13_method_75_code
def yX11_findName : MethodName := ⟨RX11, "findName", "()I"⟩
abbrev cX11_peopleOf : ByteArray := prog_13_method_76_code
def yX11_peopleOf : MethodName := ⟨RX11, "peopleOf", "(I)I"⟩
abbrev cX11_trustOf : ByteArray := prog_13_method_77_code
def yX11_trustOf : MethodName := ⟨RX11, "trustOf", "(I)I"⟩
abbrev cX11_forecastsFor : ByteArray := prog_13_method_78_code
def yX11_forecastsFor : MethodName := ⟨RX11, "forecastsFor", "(I)I"⟩
abbrev cX11_fairVillage : ByteArray := prog_13_method_79_code
def yX11_fairVillage : MethodName := ⟨RX11, "fairVillage", "(I)I"⟩
abbrev cX11_periodOf : ByteArray := prog_13_method_80_code
def yX11_periodOf : MethodName := ⟨RX11, "periodOf", "(I)I"⟩
abbrev cX11_stockOf : ByteArray := prog_13_method_81_code
def yX11_stockOf : MethodName := ⟨RX11, "stockOf", "(I)I"⟩
abbrev cX11_priceOf : ByteArray := prog_13_method_82_code
def yX11_priceOf : MethodName := ⟨RX11, "priceOf", "(I)I"⟩
abbrev cX11_daysUntilFair : ByteArray := prog_13_method_83_code
def yX11_daysUntilFair : MethodName := ⟨RX11, "daysUntilFair", "(I)I"⟩
abbrev cX11_oddsOf : ByteArray := prog_13_method_84_code
def yX11_oddsOf : MethodName := ⟨RX11, "oddsOf", "(I)I"⟩
abbrev cX11_chanceOf : ByteArray := prog_13_method_85_code
def yX11_chanceOf : MethodName := ⟨RX11, "chanceOf", "(I)D"⟩
abbrev cX11_drawnThisYear : ByteArray := prog_13_method_86_code
def yX11_drawnThisYear : MethodName := ⟨RX11, "drawnThisYear", "(I)I"⟩
abbrev cX11_likeliestWeather : ByteArray := prog_13_method_87_code
def yX11_likeliestWeather : MethodName := ⟨RX11, "likeliestWeather", "()I"⟩
abbrev cX11_tomorrowIn : ByteArray := prog_13_method_88_code
def yX11_tomorrowIn : MethodName := ⟨RX11, "tomorrowIn", "(I)I"⟩
abbrev cX11_forecastCount : ByteArray := prog_13_method_89_code
def yX11_forecastCount : MethodName := ⟨RX11, "forecastCount", "()I"⟩
abbrev cX11_hasForecast : ByteArray := prog_13_method_90_code
def yX11_hasForecast : MethodName := ⟨RX11, "hasForecast", "(II)Z"⟩
abbrev cX11_weatherOf : ByteArray := prog_13_method_91_code
def yX11_weatherOf : MethodName := ⟨RX11, "weatherOf", "(II)I"⟩
abbrev cX11_soldOf : ByteArray := prog_13_method_92_code
def yX11_soldOf : MethodName := ⟨RX11, "soldOf", "(II)I"⟩
abbrev cX11_paidOf : ByteArray := prog_13_method_93_code
def yX11_paidOf : MethodName := ⟨RX11, "paidOf", "(II)I"⟩
abbrev cX11_pageOf : ByteArray := prog_13_method_94_code
def yX11_pageOf : MethodName := ⟨RX11, "pageOf", "(II)I"⟩
abbrev cX11_told : ByteArray := prog_13_method_95_code
def yX11_told : MethodName := ⟨RX11, "told", "(I)I"⟩
abbrev cX11_forecastAt : ByteArray := prog_13_method_96_code
def yX11_forecastAt : MethodName := ⟨RX11, "forecastAt", "(I)I"⟩
abbrev cX11_pageCount : ByteArray := prog_13_method_97_code
def yX11_pageCount : MethodName := ⟨RX11, "pageCount", "()I"⟩
abbrev cX11_refundOf : ByteArray := prog_13_method_98_code
def yX11_refundOf : MethodName := ⟨RX11, "refundOf", "(I)I"⟩
abbrev cX11_canRetract : ByteArray := prog_13_method_99_code
def yX11_canRetract : MethodName := ⟨RX11, "canRetract", "(I)Z"⟩
abbrev cX11_printRefusal : ByteArray := prog_13_method_100_code
def yX11_printRefusal : MethodName := ⟨RX11, "printRefusal", "(II)I"⟩
abbrev cX11_regretCount : ByteArray := prog_13_method_101_code
def yX11_regretCount : MethodName := ⟨RX11, "regretCount", "()I"⟩
abbrev cX11_regretAt : ByteArray := prog_13_method_102_code
def yX11_regretAt : MethodName := ⟨RX11, "regretAt", "(I)I"⟩
abbrev cX11_hits : ByteArray := prog_13_method_103_code
def yX11_hits : MethodName := ⟨RX11, "hits", "()I"⟩
abbrev cX11_regrets : ByteArray := prog_13_method_104_code
def yX11_regrets : MethodName := ⟨RX11, "regrets", "()I"⟩
abbrev cX11_retractions : ByteArray := prog_13_method_105_code
def yX11_retractions : MethodName := ⟨RX11, "retractions", "()I"⟩
abbrev cX11_coinsAfter : ByteArray := prog_13_method_106_code
def yX11_coinsAfter : MethodName := ⟨RX11, "coinsAfter", "(I)I"⟩
abbrev cX11_trustAfter : ByteArray := prog_13_method_107_code
def yX11_trustAfter : MethodName := ⟨RX11, "trustAfter", "(II)I"⟩
abbrev cX11_daysUntilEmpty : ByteArray := prog_13_method_108_code
def yX11_daysUntilEmpty : MethodName := ⟨RX11, "daysUntilEmpty", "()I"⟩
abbrev cX11_bestSeller : ByteArray := prog_13_method_109_code
def yX11_bestSeller : MethodName := ⟨RX11, "bestSeller", "()I"⟩
abbrev cX11_copyDifference : ByteArray := prog_13_method_110_code
def yX11_copyDifference : MethodName := ⟨RX11, "copyDifference", "()I"⟩
abbrev cX11_coinDifference : ByteArray := prog_13_method_111_code
def yX11_coinDifference : MethodName := ⟨RX11, "coinDifference", "()I"⟩
abbrev cX11_alikeBehind : ByteArray := prog_13_method_112_code
def yX11_alikeBehind : MethodName := ⟨RX11, "alikeBehind", "(I)I"⟩
abbrev cX11_bookErrors : ByteArray := prog_13_method_113_code
def yX11_bookErrors : MethodName := ⟨RX11, "bookErrors", "()I"⟩
abbrev cX11_hitShare : ByteArray := prog_13_method_114_code
def yX11_hitShare : MethodName := ⟨RX11, "hitShare", "()F"⟩
abbrev cX11_averageTrust : ByteArray := prog_13_method_115_code
def yX11_averageTrust : MethodName := ⟨RX11, "averageTrust", "()D"⟩
abbrev cX11_print : ByteArray := prog_13_method_116_code
def yX11_print : MethodName := ⟨RX11, "print", "(III)I"⟩
abbrev cX11_retract : ByteArray := prog_13_method_117_code
def yX11_retract : MethodName := ⟨RX11, "retract", "(I)I"⟩
abbrev cX11_setTrust : ByteArray := prog_13_method_118_code
def yX11_setTrust : MethodName := ⟨RX11, "setTrust", "(II)I"⟩
abbrev cX11_setPeople : ByteArray := prog_13_method_119_code
def yX11_setPeople : MethodName := ⟨RX11, "setPeople", "(II)I"⟩
abbrev cX11_setOdds : ByteArray := prog_13_method_120_code
def yX11_setOdds : MethodName := ⟨RX11, "setOdds", "(II)I"⟩
abbrev cX11_pass : ByteArray := prog_13_method_121_code
def yX11_pass : MethodName := ⟨RX11, "pass", "(I)I"⟩
abbrev cX11_put : ByteArray := prog_13_method_122_code
def yX11_put : MethodName := ⟨RX11, "put", "(I)V"⟩
abbrev cX11_printNumber : ByteArray := prog_13_method_123_code
def yX11_printNumber : MethodName := ⟨RX11, "printNumber", "(I)V"⟩
abbrev cX11_printName : ByteArray := prog_13_method_124_code
def yX11_printName : MethodName := ⟨RX11, "printName", "(I)V"⟩
abbrev cX11_letterOf : ByteArray := prog_13_method_125_code
def yX11_letterOf : MethodName := ⟨RX11, "letterOf", "(I)I"⟩
abbrev cX11_writePage : ByteArray := prog_13_method_126_code
def yX11_writePage : MethodName := ⟨RX11, "writePage", "(I)I"⟩
abbrev cX11_outputByte : ByteArray := prog_13_method_127_code
def yX11_outputByte : MethodName := ⟨RX11, "outputByte", "(I)I"⟩
abbrev cX11_save : ByteArray := prog_13_method_128_code
def yX11_save : MethodName := ⟨RX11, "save", "(I)I"⟩
abbrev cX11_restore : ByteArray := prog_13_method_129_code
def yX11_restore : MethodName := ⟨RX11, "restore", "(I)I"⟩
def RJx145de : String := "java/io/Serializable"
def TJx145de : u_T := fun k => match k with
  | _ => ("", "", "", false)
def tyJx145de : Nat → FieldType := fun k => match k with
  | _ => .int
abbrev wsJx145de0 : List Cond := u_ws RJx145de TJx145de 0
theorem nmJx145de : ∀ a, a < 0 → ∀ b, b < 0 → a ≠ b → (TJx145de a).2.1 ≠ (TJx145de b).2.1 := by decide +kernel
theorem tyJx145de_ok : ∀ k, k < 0 → parseFieldDescriptor (TJx145de k).2.2.1 = some (tyJx145de k) := by decide +kernel
def RJx9f9b0 : String := "java/lang/CharSequence"
def TJx9f9b0 : u_T := fun k => match k with
  | _ => ("", "", "", false)
def tyJx9f9b0 : Nat → FieldType := fun k => match k with
  | _ => .int
abbrev wsJx9f9b00 : List Cond := u_ws RJx9f9b0 TJx9f9b0 0
theorem nmJx9f9b0 : ∀ a, a < 0 → ∀ b, b < 0 → a ≠ b → (TJx9f9b0 a).2.1 ≠ (TJx9f9b0 b).2.1 := by decide +kernel
theorem tyJx9f9b0_ok : ∀ k, k < 0 → parseFieldDescriptor (TJx9f9b0 k).2.2.1 = some (tyJx9f9b0 k) := by decide +kernel
def RJxb160c : String := "java/lang/Comparable"
def TJxb160c : u_T := fun k => match k with
  | _ => ("", "", "", false)
def tyJxb160c : Nat → FieldType := fun k => match k with
  | _ => .int
abbrev wsJxb160c0 : List Cond := u_ws RJxb160c TJxb160c 0
theorem nmJxb160c : ∀ a, a < 0 → ∀ b, b < 0 → a ≠ b → (TJxb160c a).2.1 ≠ (TJxb160c b).2.1 := by decide +kernel
theorem tyJxb160c_ok : ∀ k, k < 0 → parseFieldDescriptor (TJxb160c k).2.2.1 = some (tyJxb160c k) := by decide +kernel
def RJ9 : String := "java/lang/Math"
def TJ9 : u_T := fun k => match k with
  | _ => ("", "", "", false)
def tyJ9 : Nat → FieldType := fun k => match k with
  | _ => .int
abbrev wsJ90 : List Cond := u_ws RJ9 TJ9 0
theorem nmJ9 : ∀ a, a < 0 → ∀ b, b < 0 → a ≠ b → (TJ9 a).2.1 ≠ (TJ9 b).2.1 := by decide +kernel
theorem tyJ9_ok : ∀ k, k < 0 → parseFieldDescriptor (TJ9 k).2.2.1 = some (tyJ9 k) := by decide +kernel
abbrev cJ9_max_7cf53 : ByteArray := prog_21_method_65_code
def yJ9_max_7cf53 : MethodName := ⟨RJ9, "max", "(II)I"⟩
abbrev cJ9_min_7cf53 : ByteArray := prog_21_method_69_code
def yJ9_min_7cf53 : MethodName := ⟨RJ9, "min", "(II)I"⟩
def RJ0 : String := "java/lang/String"
def TJ0 : u_T := fun k => match k with
  | _ => ("", "", "", false)
def tyJ0 : Nat → FieldType := fun k => match k with
  | _ => .int
abbrev wsJ00 : List Cond := u_ws RJ0 TJ0 0
theorem nmJ0 : ∀ a, a < 0 → ∀ b, b < 0 → a ≠ b → (TJ0 a).2.1 ≠ (TJ0 b).2.1 := by decide +kernel
theorem tyJ0_ok : ∀ k, k < 0 → parseFieldDescriptor (TJ0 k).2.2.1 = some (tyJ0 k) := by decide +kernel
abbrev cJ0_length_8abf5 : ByteArray := prog_23_method_54_code
def yJ0_length_8abf5 : MethodName := ⟨RJ0, "length", "()I"⟩
abbrev cJ0_charAt_5068e : ByteArray := prog_23_method_56_code
def yJ0_charAt_5068e : MethodName := ⟨RJ0, "charAt", "(I)C"⟩
abbrev cJ0_coder_7d493 : ByteArray := prog_23_method_152_code
def yJ0_coder_7d493 : MethodName := ⟨RJ0, "coder", "()B"⟩
abbrev cJ0_isLatin1_aae02 : ByteArray := prog_23_method_154_code
def yJ0_isLatin1_aae02 : MethodName := ⟨RJ0, "isLatin1", "()Z"⟩
abbrev cJ0_checkIndex_df160 : ByteArray := prog_23_method_155_code
def yJ0_checkIndex_df160 : MethodName := ⟨RJ0, "checkIndex", "(II)V"⟩
def RJ1 : String := "java/lang/StringLatin1"
def TJ1 : u_T := fun k => match k with
  | _ => ("", "", "", false)
def tyJ1 : Nat → FieldType := fun k => match k with
  | _ => .int
abbrev wsJ10 : List Cond := u_ws RJ1 TJ1 0
theorem nmJ1 : ∀ a, a < 0 → ∀ b, b < 0 → a ≠ b → (TJ1 a).2.1 ≠ (TJ1 b).2.1 := by decide +kernel
theorem tyJ1_ok : ∀ k, k < 0 → parseFieldDescriptor (TJ1 k).2.2.1 = some (tyJ1 k) := by decide +kernel
abbrev cJ1_charAt_3b067 : ByteArray := prog_24_method_2_code
def yJ1_charAt_3b067 : MethodName := ⟨RJ1, "charAt", "([BI)C"⟩
def RJ2 : String := "java/lang/StringUTF16"
def TJ2 : u_T := fun k => match k with
  | _ => ("", "", "", false)
def tyJ2 : Nat → FieldType := fun k => match k with
  | _ => .int
abbrev wsJ20 : List Cond := u_ws RJ2 TJ2 0
theorem nmJ2 : ∀ a, a < 0 → ∀ b, b < 0 → a ≠ b → (TJ2 a).2.1 ≠ (TJ2 b).2.1 := by decide +kernel
theorem tyJ2_ok : ∀ k, k < 0 → parseFieldDescriptor (TJ2 k).2.2.1 = some (tyJ2 k) := by decide +kernel
abbrev cJ2_getChar_3b067 : ByteArray := prog_25_method_5_code
def yJ2_getChar_3b067 : MethodName := ⟨RJ2, "getChar", "([BI)C"⟩
abbrev cJ2_length_9d52b : ByteArray := prog_25_method_6_code
def yJ2_length_9d52b : MethodName := ⟨RJ2, "length", "([B)I"⟩
abbrev cJ2_charAt_3b067 : ByteArray := prog_25_method_83_code
def yJ2_charAt_3b067 : MethodName := ⟨RJ2, "charAt", "([BI)C"⟩
abbrev cJ2_checkIndex_2214a : ByteArray := prog_25_method_91_code
def yJ2_checkIndex_2214a : MethodName := ⟨RJ2, "checkIndex", "(I[B)V"⟩
def RJ10 : String := "java/lang/System"
def TJ10 : u_T := fun k => match k with
  | _ => ("", "", "", false)
def tyJ10 : Nat → FieldType := fun k => match k with
  | _ => .int
abbrev wsJ100 : List Cond := u_ws RJ10 TJ10 0
theorem nmJ10 : ∀ a, a < 0 → ∀ b, b < 0 → a ≠ b → (TJ10 a).2.1 ≠ (TJ10 b).2.1 := by decide +kernel
theorem tyJ10_ok : ∀ k, k < 0 → parseFieldDescriptor (TJ10 k).2.2.1 = some (tyJ10 k) := by decide +kernel
def RJxfd54e : String := "java/lang/constant/Constable"
def TJxfd54e : u_T := fun k => match k with
  | _ => ("", "", "", false)
def tyJxfd54e : Nat → FieldType := fun k => match k with
  | _ => .int
abbrev wsJxfd54e0 : List Cond := u_ws RJxfd54e TJxfd54e 0
theorem nmJxfd54e : ∀ a, a < 0 → ∀ b, b < 0 → a ≠ b → (TJxfd54e a).2.1 ≠ (TJxfd54e b).2.1 := by decide +kernel
theorem tyJxfd54e_ok : ∀ k, k < 0 → parseFieldDescriptor (TJxfd54e k).2.2.1 = some (tyJxfd54e k) := by decide +kernel
def RJx3cf43 : String := "java/lang/constant/ConstantDesc"
def TJx3cf43 : u_T := fun k => match k with
  | _ => ("", "", "", false)
def tyJx3cf43 : Nat → FieldType := fun k => match k with
  | _ => .int
abbrev wsJx3cf430 : List Cond := u_ws RJx3cf43 TJx3cf43 0
theorem nmJx3cf43 : ∀ a, a < 0 → ∀ b, b < 0 → a ≠ b → (TJx3cf43 a).2.1 ≠ (TJx3cf43 b).2.1 := by decide +kernel
theorem tyJx3cf43_ok : ∀ k, k < 0 → parseFieldDescriptor (TJx3cf43 k).2.2.1 = some (tyJx3cf43 k) := by decide +kernel
def RJ3 : String := "jdk/internal/util/Preconditions"
def TJ3 : u_T := fun k => match k with
  | _ => ("", "", "", false)
def tyJ3 : Nat → FieldType := fun k => match k with
  | _ => .int
abbrev wsJ30 : List Cond := u_ws RJ3 TJ3 0
theorem nmJ3 : ∀ a, a < 0 → ∀ b, b < 0 → a ≠ b → (TJ3 a).2.1 ≠ (TJ3 b).2.1 := by decide +kernel
theorem tyJ3_ok : ∀ k, k < 0 → parseFieldDescriptor (TJ3 k).2.2.1 = some (tyJ3 k) := by decide +kernel
abbrev cJ3_checkIndex_8e157 : ByteArray := prog_31_method_11_code
def yJ3_checkIndex_8e157 : MethodName := ⟨RJ3, "checkIndex", "(IILjava/util/function/BiFunction;)I"⟩
def RL : String := "AlmanacOfficeLaw"
abbrev cL_appendInput : ByteArray := method_3_code
def yL_appendInput : MethodName := ⟨RL, "appendInput", "(LAlmanacOffice;IIIII[J)I"⟩
abbrev cL_truncateInput : ByteArray := method_4_code
def yL_truncateInput : MethodName := ⟨RL, "truncateInput", "(LAlmanacOffice;I[J)I"⟩
abbrev cL_load : ByteArray := method_5_code
def yL_load : MethodName := ⟨RL, "load", "(LAlmanacOffice;[J)I"⟩
abbrev cL_peopleOf : ByteArray := method_6_code
def yL_peopleOf : MethodName := ⟨RL, "peopleOf", "(LAlmanacOffice;I[J)I"⟩
abbrev cL_trustOf : ByteArray := method_7_code
def yL_trustOf : MethodName := ⟨RL, "trustOf", "(LAlmanacOffice;I[J)I"⟩
abbrev cL_forecastsFor : ByteArray := method_8_code
def yL_forecastsFor : MethodName := ⟨RL, "forecastsFor", "(LAlmanacOffice;I[J)I"⟩
abbrev cL_fairVillage : ByteArray := method_9_code
def yL_fairVillage : MethodName := ⟨RL, "fairVillage", "(LAlmanacOffice;I[J)I"⟩
abbrev cL_periodOf : ByteArray := method_10_code
def yL_periodOf : MethodName := ⟨RL, "periodOf", "(LAlmanacOffice;I[J)I"⟩
abbrev cL_stockOf : ByteArray := method_11_code
def yL_stockOf : MethodName := ⟨RL, "stockOf", "(LAlmanacOffice;I[J)I"⟩
abbrev cL_priceOf : ByteArray := method_12_code
def yL_priceOf : MethodName := ⟨RL, "priceOf", "(LAlmanacOffice;I[J)I"⟩
abbrev cL_daysUntilFair : ByteArray := method_13_code
def yL_daysUntilFair : MethodName := ⟨RL, "daysUntilFair", "(LAlmanacOffice;I[J)I"⟩
abbrev cL_oddsOf : ByteArray := method_14_code
def yL_oddsOf : MethodName := ⟨RL, "oddsOf", "(LAlmanacOffice;I[J)I"⟩
abbrev cL_chanceOf : ByteArray := method_15_code
def yL_chanceOf : MethodName := ⟨RL, "chanceOf", "(LAlmanacOffice;I[D)I"⟩
abbrev cL_drawnThisYear : ByteArray := method_16_code
def yL_drawnThisYear : MethodName := ⟨RL, "drawnThisYear", "(LAlmanacOffice;I[J)I"⟩
abbrev cL_hasForecast : ByteArray := method_17_code
def yL_hasForecast : MethodName := ⟨RL, "hasForecast", "(LAlmanacOffice;II[J)I"⟩
abbrev cL_weatherOf : ByteArray := method_18_code
def yL_weatherOf : MethodName := ⟨RL, "weatherOf", "(LAlmanacOffice;II[J)I"⟩
abbrev cL_soldOf : ByteArray := method_19_code
def yL_soldOf : MethodName := ⟨RL, "soldOf", "(LAlmanacOffice;II[J)I"⟩
abbrev cL_paidOf : ByteArray := method_20_code
def yL_paidOf : MethodName := ⟨RL, "paidOf", "(LAlmanacOffice;II[J)I"⟩
abbrev cL_pageOf : ByteArray := method_21_code
def yL_pageOf : MethodName := ⟨RL, "pageOf", "(LAlmanacOffice;II[J)I"⟩
abbrev cL_forecastAt : ByteArray := method_22_code
def yL_forecastAt : MethodName := ⟨RL, "forecastAt", "(LAlmanacOffice;I[J)I"⟩
abbrev cL_refundOf : ByteArray := method_23_code
def yL_refundOf : MethodName := ⟨RL, "refundOf", "(LAlmanacOffice;I[J)I"⟩
abbrev cL_canRetract : ByteArray := method_24_code
def yL_canRetract : MethodName := ⟨RL, "canRetract", "(LAlmanacOffice;I[J)I"⟩
abbrev cL_printRefusal : ByteArray := method_25_code
def yL_printRefusal : MethodName := ⟨RL, "printRefusal", "(LAlmanacOffice;II[J)I"⟩
abbrev cL_tomorrowIn : ByteArray := method_26_code
def yL_tomorrowIn : MethodName := ⟨RL, "tomorrowIn", "(LAlmanacOffice;I[J)I"⟩
abbrev cL_regretAt : ByteArray := method_27_code
def yL_regretAt : MethodName := ⟨RL, "regretAt", "(LAlmanacOffice;I[J)I"⟩
abbrev cL_coinsAfter : ByteArray := method_28_code
def yL_coinsAfter : MethodName := ⟨RL, "coinsAfter", "(LAlmanacOffice;I[J)I"⟩
abbrev cL_trustAfter : ByteArray := method_29_code
def yL_trustAfter : MethodName := ⟨RL, "trustAfter", "(LAlmanacOffice;II[J)I"⟩
abbrev cL_print : ByteArray := method_30_code
def yL_print : MethodName := ⟨RL, "print", "(LAlmanacOffice;III[J)I"⟩
abbrev cL_retract : ByteArray := method_31_code
def yL_retract : MethodName := ⟨RL, "retract", "(LAlmanacOffice;I[J)I"⟩
abbrev cL_setTrust : ByteArray := method_32_code
def yL_setTrust : MethodName := ⟨RL, "setTrust", "(LAlmanacOffice;II[J)I"⟩
abbrev cL_setPeople : ByteArray := method_33_code
def yL_setPeople : MethodName := ⟨RL, "setPeople", "(LAlmanacOffice;II[J)I"⟩
abbrev cL_setOdds : ByteArray := method_34_code
def yL_setOdds : MethodName := ⟨RL, "setOdds", "(LAlmanacOffice;II[J)I"⟩
abbrev cL_pass : ByteArray := method_35_code
def yL_pass : MethodName := ⟨RL, "pass", "(LAlmanacOffice;I[J)I"⟩
abbrev cL_writePage : ByteArray := method_36_code
def yL_writePage : MethodName := ⟨RL, "writePage", "(LAlmanacOffice;I[J)I"⟩
abbrev cL_outputByte : ByteArray := method_37_code
def yL_outputByte : MethodName := ⟨RL, "outputByte", "(LAlmanacOffice;I[J)I"⟩
abbrev cL_save : ByteArray := method_38_code
def yL_save : MethodName := ⟨RL, "save", "(LAlmanacOffice;I[J)I"⟩
abbrev cL_restore : ByteArray := method_39_code
def yL_restore : MethodName := ⟨RL, "restore", "(LAlmanacOffice;I[J)I"⟩
abbrev cL_undo : ByteArray := method_40_code
def yL_undo : MethodName := ⟨RL, "undo", "(LAlmanacOffice;[J)I"⟩
abbrev cL_law : ByteArray := code
def yL_law : MethodName := ⟨RL, "law", "([I)Z"⟩
theorem wsL_law_x0 : ∀ w ∈ (vx_at0 RX10 76 "java/lang/IllegalStateException" ["java/lang/RuntimeException", "java/lang/Exception"]).filter goodWord, w ∈ lw_tbl := by decide +kernel
theorem wsL_law_x1 : ∀ w ∈ (vx_at0 RX10 95 "java/lang/IllegalArgumentException" ["java/lang/RuntimeException", "java/lang/Exception"]).filter goodWord, w ∈ lw_tbl := by decide +kernel
theorem wsL_law_x2 : ∀ w ∈ (vx_at0 RX10 245 "java/lang/IndexOutOfBoundsException" ["java/lang/RuntimeException", "java/lang/Exception"]).filter goodWord, w ∈ lw_tbl := by decide +kernel
theorem wsL_law_x3 : ∀ w ∈ (vx_at0 RX10 207 "java/util/NoSuchElementException" ["java/lang/RuntimeException", "java/lang/Exception"]).filter goodWord, w ∈ lw_tbl := by decide +kernel
abbrev vwCl : List vw_C := [(RX0, TX0, 6), (RX1, TX1, 2), (RX2, TX2, 6), (RX3, TX3, 3), (RX4, TX4, 2), (RX5, TX5, 4), (RX6, TX6, 5), (RX7, TX7, 3), (RX8, TX8, 14), (RX9, TX9, 4), (RX10, TX10, 9), (RX11, TX11, 20)]
end
section
/-! the good words of the tables: every method's words are its own code and these; a row for each: it is one of them -/
def GW : List Cond := lw_tbl.filter goodWord
theorem gw_mem {w : Cond} (h : w ∈ lw_tbl) (g : goodWord w = true) : w ∈ GW := List.mem_filter.mpr ⟨h, g⟩
theorem gw_good : ∀ w ∈ GW, (w.onTables && w.keeps) = true ∨ ∃ ty, w = .arrayClass ty := fun w h => good_of_word (List.mem_filter.mp h).2
theorem gw_sub {ws : List Cond} (h : ∀ w ∈ ws, w ∈ lw_tbl) (g : ws.all goodWord = true) : ∀ w ∈ ws, w ∈ GW := fun w hw => gw_mem (h w hw) (List.all_eq_true.mp g w hw)
theorem gw_at0 {w : Cond} (i : Nat) (h : (k2_sels lw_privs)[i]? = some w) (g : goodWord w = true) : w ∈ GW := gw_mem (List.mem_append_left _ (List.mem_of_getElem? h)) g
theorem gw_at1 {w : Cond} (i : Nat) (h : tables_1_1[i]? = some w) (g : goodWord w = true) : w ∈ GW := gw_mem (List.mem_append_right _ (List.mem_append_left _ (List.mem_of_getElem? h))) g
theorem gw_at2 {w : Cond} (i : Nat) (h : tables_1_2[i]? = some w) (g : goodWord w = true) : w ∈ GW := gw_mem (List.mem_append_right _ (List.mem_append_right _ (List.mem_append_left _ (List.mem_of_getElem? h)))) g
theorem gw_at3 {w : Cond} (i : Nat) (h : tables_1_3[i]? = some w) (g : goodWord w = true) : w ∈ GW := gw_mem (List.mem_append_right _ (List.mem_append_right _ (List.mem_append_right _ (List.mem_append_left _ (List.mem_of_getElem? h))))) g
theorem gw_at4 {w : Cond} (i : Nat) (h : tables_1_4[i]? = some w) (g : goodWord w = true) : w ∈ GW := gw_mem (List.mem_append_right _ (List.mem_append_right _ (List.mem_append_right _ (List.mem_append_right _ (List.mem_append_left _ (List.mem_of_getElem? h)))))) g
theorem gw_at5 {w : Cond} (i : Nat) (h : tables_1_5[i]? = some w) (g : goodWord w = true) : w ∈ GW := gw_mem (List.mem_append_right _ (List.mem_append_right _ (List.mem_append_right _ (List.mem_append_right _ (List.mem_append_right _ (List.mem_append_left _ (List.mem_of_getElem? h))))))) g
theorem gw_at6 {w : Cond} (i : Nat) (h : tables_1_6[i]? = some w) (g : goodWord w = true) : w ∈ GW := gw_mem (List.mem_append_right _ (List.mem_append_right _ (List.mem_append_right _ (List.mem_append_right _ (List.mem_append_right _ (List.mem_append_right _ (List.mem_append_left _ (List.mem_of_getElem? h)))))))) g
theorem gw_at7 {w : Cond} (i : Nat) (h : tables_1_7[i]? = some w) (g : goodWord w = true) : w ∈ GW := gw_mem (List.mem_append_right _ (List.mem_append_right _ (List.mem_append_right _ (List.mem_append_right _ (List.mem_append_right _ (List.mem_append_right _ (List.mem_append_right _ (List.mem_append_left _ (List.mem_of_getElem? h))))))))) g
theorem gw_at8 {w : Cond} (i : Nat) (h : tables_1_8[i]? = some w) (g : goodWord w = true) : w ∈ GW := gw_mem (List.mem_append_right _ (List.mem_append_right _ (List.mem_append_right _ (List.mem_append_right _ (List.mem_append_right _ (List.mem_append_right _ (List.mem_append_right _ (List.mem_append_right _ (List.mem_of_getElem? h))))))))) g
theorem we_X5_readAlmanac : Cond.selects RX5 yX5_readAlmanac yX5_readAlmanac ∈ GW := gw_at0 0 (by decide +kernel) (by decide +kernel)
theorem we_X6_isBlank : Cond.selects RX6 yX6_isBlank yX6_isBlank ∈ GW := gw_at0 1 (by decide +kernel) (by decide +kernel)
theorem we_X6_readDigits : Cond.selects RX6 yX6_readDigits yX6_readDigits ∈ GW := gw_at0 2 (by decide +kernel) (by decide +kernel)
theorem we_X5_fail : Cond.selects RX5 yX5_fail yX5_fail ∈ GW := gw_at0 3 (by decide +kernel) (by decide +kernel)
theorem we_X5_readNumber : Cond.selects RX5 yX5_readNumber yX5_readNumber ∈ GW := gw_at0 4 (by decide +kernel) (by decide +kernel)
theorem we_X5_readSemicolon : Cond.selects RX5 yX5_readSemicolon yX5_readSemicolon ∈ GW := gw_at0 5 (by decide +kernel) (by decide +kernel)
theorem we_X5_readStatement : Cond.selects RX5 yX5_readStatement yX5_readStatement ∈ GW := gw_at0 6 (by decide +kernel) (by decide +kernel)
theorem we_X5_readVillage : Cond.selects RX5 yX5_readVillage yX5_readVillage ∈ GW := gw_at0 7 (by decide +kernel) (by decide +kernel)
theorem we_X5_readNewName : Cond.selects RX5 yX5_readNewName yX5_readNewName ∈ GW := gw_at0 8 (by decide +kernel) (by decide +kernel)
theorem we_X5_readFair : Cond.selects RX5 yX5_readFair yX5_readFair ∈ GW := gw_at0 9 (by decide +kernel) (by decide +kernel)
theorem we_X5_readKnownVillage : Cond.selects RX5 yX5_readKnownVillage yX5_readKnownVillage ∈ GW := gw_at0 10 (by decide +kernel) (by decide +kernel)
theorem we_X5_readSay : Cond.selects RX5 yX5_readSay yX5_readSay ∈ GW := gw_at0 11 (by decide +kernel) (by decide +kernel)
theorem we_X5_weatherOfToken : Cond.selects RX5 yX5_weatherOfToken yX5_weatherOfToken ∈ GW := gw_at0 12 (by decide +kernel) (by decide +kernel)
theorem we_X5_readRetract : Cond.selects RX5 yX5_readRetract yX5_readRetract ∈ GW := gw_at0 13 (by decide +kernel) (by decide +kernel)
theorem we_X8_payBack : Cond.selects RX8 yX8_payBack yX8_payBack ∈ GW := gw_at0 14 (by decide +kernel) (by decide +kernel)
theorem we_X5_readPass : Cond.selects RX5 yX5_readPass yX5_readPass ∈ GW := gw_at0 15 (by decide +kernel) (by decide +kernel)
theorem we_X8_sellAt : Cond.selects RX8 yX8_sellAt yX8_sellAt ∈ GW := gw_at0 16 (by decide +kernel) (by decide +kernel)
theorem we_X8_judge : Cond.selects RX8 yX8_judge yX8_judge ∈ GW := gw_at0 17 (by decide +kernel) (by decide +kernel)
theorem we_X10_requireRange : Cond.selects RX10 yX10_requireRange yX10_requireRange ∈ GW := gw_at0 19 (by decide +kernel) (by decide +kernel)
theorem we_X10_requireVillage : Cond.selects RX10 yX10_requireVillage yX10_requireVillage ∈ GW := gw_at0 20 (by decide +kernel) (by decide +kernel)
theorem we_X10_requireFair : Cond.selects RX10 yX10_requireFair yX10_requireFair ∈ GW := gw_at0 21 (by decide +kernel) (by decide +kernel)
theorem we_X10_requireForecast : Cond.selects RX10 yX10_requireForecast yX10_requireForecast ∈ GW := gw_at0 22 (by decide +kernel) (by decide +kernel)
theorem we_X10_requirePage : Cond.selects RX10 yX10_requirePage yX10_requirePage ∈ GW := gw_at0 23 (by decide +kernel) (by decide +kernel)
theorem we_X10_lookAhead : Cond.selects RX10 yX10_lookAhead yX10_lookAhead ∈ GW := gw_at0 24 (by decide +kernel) (by decide +kernel)
theorem we_X10_writeForecast : Cond.selects RX10 yX10_writeForecast yX10_writeForecast ∈ GW := gw_at0 25 (by decide +kernel) (by decide +kernel)
theorem we_X10_requireSlot : Cond.selects RX10 yX10_requireSlot yX10_requireSlot ∈ GW := gw_at0 26 (by decide +kernel) (by decide +kernel)
theorem we_X11_layInput : Cond.selects RX11 yX11_layInput yX11_layInput ∈ GW := gw_at0 27 (by decide +kernel) (by decide +kernel)
theorem we_X11_read : Cond.selects RX11 yX11_read yX11_read ∈ GW := gw_at0 28 (by decide +kernel) (by decide +kernel)
theorem we_X11_advance : Cond.selects RX11 yX11_advance yX11_advance ∈ GW := gw_at0 29 (by decide +kernel) (by decide +kernel)
theorem we_X11_byteAt : Cond.selects RX11 yX11_byteAt yX11_byteAt ∈ GW := gw_at0 30 (by decide +kernel) (by decide +kernel)
theorem we_X11_is : Cond.selects RX11 yX11_is yX11_is ∈ GW := gw_at0 31 (by decide +kernel) (by decide +kernel)
theorem we_X11_check : Cond.selects RX11 yX11_check yX11_check ∈ GW := gw_at0 32 (by decide +kernel) (by decide +kernel)
theorem we_X11_next : Cond.selects RX11 yX11_next yX11_next ∈ GW := gw_at0 33 (by decide +kernel) (by decide +kernel)
theorem we_X11_number : Cond.selects RX11 yX11_number yX11_number ∈ GW := gw_at0 34 (by decide +kernel) (by decide +kernel)
theorem we_X11_look : Cond.selects RX11 yX11_look yX11_look ∈ GW := gw_at0 35 (by decide +kernel) (by decide +kernel)
theorem we_X11_finish : Cond.selects RX11 yX11_finish yX11_finish ∈ GW := gw_at0 36 (by decide +kernel) (by decide +kernel)
theorem we_X11_readStatement : Cond.selects RX11 yX11_readStatement yX11_readStatement ∈ GW := gw_at0 37 (by decide +kernel) (by decide +kernel)
theorem we_X11_readVillage : Cond.selects RX11 yX11_readVillage yX11_readVillage ∈ GW := gw_at0 38 (by decide +kernel) (by decide +kernel)
theorem we_X11_newName : Cond.selects RX11 yX11_newName yX11_newName ∈ GW := gw_at0 39 (by decide +kernel) (by decide +kernel)
theorem we_X11_nameFrom : Cond.selects RX11 yX11_nameFrom yX11_nameFrom ∈ GW := gw_at0 40 (by decide +kernel) (by decide +kernel)
theorem we_X11_readFair : Cond.selects RX11 yX11_readFair yX11_readFair ∈ GW := gw_at0 41 (by decide +kernel) (by decide +kernel)
theorem we_X11_villageHere : Cond.selects RX11 yX11_villageHere yX11_villageHere ∈ GW := gw_at0 42 (by decide +kernel) (by decide +kernel)
theorem we_X11_readSay : Cond.selects RX11 yX11_readSay yX11_readSay ∈ GW := gw_at0 43 (by decide +kernel) (by decide +kernel)
theorem we_X11_weatherHere : Cond.selects RX11 yX11_weatherHere yX11_weatherHere ∈ GW := gw_at0 44 (by decide +kernel) (by decide +kernel)
theorem we_X11_readRetract : Cond.selects RX11 yX11_readRetract yX11_readRetract ∈ GW := gw_at0 45 (by decide +kernel) (by decide +kernel)
theorem we_X11_readPass : Cond.selects RX11 yX11_readPass yX11_readPass ∈ GW := gw_at0 46 (by decide +kernel) (by decide +kernel)
theorem we_X11_refuses : Cond.selects RX11 yX11_refuses yX11_refuses ∈ GW := gw_at0 47 (by decide +kernel) (by decide +kernel)
theorem we_X11_appendWord : Cond.selects RX11 yX11_appendWord yX11_appendWord ∈ GW := gw_at0 48 (by decide +kernel) (by decide +kernel)
theorem we_X11_noNumber : Cond.selects RX11 yX11_noNumber yX11_noNumber ∈ GW := gw_at0 49 (by decide +kernel) (by decide +kernel)
theorem we_X11_remember : Cond.selects RX11 yX11_remember yX11_remember ∈ GW := gw_at0 50 (by decide +kernel) (by decide +kernel)
theorem we_X11_noVillage : Cond.selects RX11 yX11_noVillage yX11_noVillage ∈ GW := gw_at0 51 (by decide +kernel) (by decide +kernel)
theorem we_X11_noFair : Cond.selects RX11 yX11_noFair yX11_noFair ∈ GW := gw_at0 52 (by decide +kernel) (by decide +kernel)
theorem we_X11_noWeather : Cond.selects RX11 yX11_noWeather yX11_noWeather ∈ GW := gw_at0 53 (by decide +kernel) (by decide +kernel)
theorem we_X11_noForecast : Cond.selects RX11 yX11_noForecast yX11_noForecast ∈ GW := gw_at0 54 (by decide +kernel) (by decide +kernel)
theorem we_X11_told : Cond.selects RX11 yX11_told yX11_told ∈ GW := gw_at0 55 (by decide +kernel) (by decide +kernel)
theorem we_X11_noPage : Cond.selects RX11 yX11_noPage yX11_noPage ∈ GW := gw_at0 56 (by decide +kernel) (by decide +kernel)
theorem we_X11_out : Cond.selects RX11 yX11_out yX11_out ∈ GW := gw_at0 57 (by decide +kernel) (by decide +kernel)
theorem we_X11_alikeBehind : Cond.selects RX11 yX11_alikeBehind yX11_alikeBehind ∈ GW := gw_at0 58 (by decide +kernel) (by decide +kernel)
theorem we_X11_put : Cond.selects RX11 yX11_put yX11_put ∈ GW := gw_at0 59 (by decide +kernel) (by decide +kernel)
theorem we_X11_printName : Cond.selects RX11 yX11_printName yX11_printName ∈ GW := gw_at0 60 (by decide +kernel) (by decide +kernel)
theorem we_X11_printNumber : Cond.selects RX11 yX11_printNumber yX11_printNumber ∈ GW := gw_at0 61 (by decide +kernel) (by decide +kernel)
theorem wi_L : Cond.initialized RL ∈ GW := gw_at1 0 (by decide +kernel) (by decide +kernel)
theorem wi_X10 : Cond.initialized RX10 ∈ GW := gw_at1 1 (by decide +kernel) (by decide +kernel)
theorem wi_X1 : Cond.initialized RX1 ∈ GW := gw_at1 2 (by decide +kernel) (by decide +kernel)
theorem wi_X8 : Cond.initialized RX8 ∈ GW := gw_at1 3 (by decide +kernel) (by decide +kernel)
theorem wi_X9 : Cond.initialized RX9 ∈ GW := gw_at1 4 (by decide +kernel) (by decide +kernel)
theorem wi_X2 : Cond.initialized RX2 ∈ GW := gw_at1 5 (by decide +kernel) (by decide +kernel)
theorem wi_X7 : Cond.initialized RX7 ∈ GW := gw_at1 6 (by decide +kernel) (by decide +kernel)
theorem wi_X0 : Cond.initialized RX0 ∈ GW := gw_at1 7 (by decide +kernel) (by decide +kernel)
theorem wi_X4 : Cond.initialized RX4 ∈ GW := gw_at1 8 (by decide +kernel) (by decide +kernel)
theorem wi_X3 : Cond.initialized RX3 ∈ GW := gw_at1 9 (by decide +kernel) (by decide +kernel)
theorem wi_J0 : Cond.initialized RJ0 ∈ GW := gw_at1 10 (by decide +kernel) (by decide +kernel)
theorem wi_J1 : Cond.initialized RJ1 ∈ GW := gw_at1 11 (by decide +kernel) (by decide +kernel)
theorem wi_J3 : Cond.initialized RJ3 ∈ GW := gw_at1 12 (by decide +kernel) (by decide +kernel)
theorem wi_J2 : Cond.initialized RJ2 ∈ GW := gw_at1 13 (by decide +kernel) (by decide +kernel)
theorem wi_X5 : Cond.initialized RX5 ∈ GW := gw_at1 14 (by decide +kernel) (by decide +kernel)
theorem wi_X6 : Cond.initialized RX6 ∈ GW := gw_at1 15 (by decide +kernel) (by decide +kernel)
theorem wi_J9 : Cond.initialized RJ9 ∈ GW := gw_at1 16 (by decide +kernel) (by decide +kernel)
theorem wi_J10 : Cond.initialized RJ10 ∈ GW := gw_at1 17 (by decide +kernel) (by decide +kernel)
theorem wi_X11 : Cond.initialized RX11 ∈ GW := gw_at1 18 (by decide +kernel) (by decide +kernel)
theorem wi_Exception : Cond.initialized "java/lang/Exception" ∈ GW := gw_at1 20 (by decide +kernel) (by decide +kernel)
theorem wi_RuntimeException : Cond.initialized "java/lang/RuntimeException" ∈ GW := gw_at1 21 (by decide +kernel) (by decide +kernel)
theorem wi_IllegalStateException : Cond.initialized "java/lang/IllegalStateException" ∈ GW := gw_at1 22 (by decide +kernel) (by decide +kernel)
theorem wi_IllegalArgumentException : Cond.initialized "java/lang/IllegalArgumentException" ∈ GW := gw_at1 23 (by decide +kernel) (by decide +kernel)
theorem wi_IndexOutOfBoundsException : Cond.initialized "java/lang/IndexOutOfBoundsException" ∈ GW := gw_at1 24 (by decide +kernel) (by decide +kernel)
theorem wi_NoSuchElementException : Cond.initialized "java/util/NoSuchElementException" ∈ GW := gw_at1 25 (by decide +kernel) (by decide +kernel)
theorem wk_L_8 : Cond.classLink RL 8 RX10 ∈ GW := gw_at1 26 (by decide +kernel) (by decide +kernel)
theorem wt_X10 : Cond.instantiable RX10 9 ∈ GW := gw_at1 27 (by decide +kernel) (by decide +kernel)
theorem wl_L_139 : Cond.methodLink RL 139 yX10_init ∈ GW := gw_at1 28 (by decide +kernel) (by decide +kernel)
theorem wn_X10_init : Cond.instanceMethod yX10_init ∈ GW := gw_at1 29 (by decide +kernel) (by decide +kernel)
theorem wc_X10_init : Cond.code yX10_init cX10_init 3 none ∈ GW := gw_at1 30 (by decide +kernel) (by decide +kernel)
theorem wl_X10_1 : Cond.methodLink RX10 1 objectInit ∈ GW := gw_at1 31 (by decide +kernel) (by decide +kernel)
theorem wn_objectInit : Cond.instanceMethod objectInit ∈ GW := gw_at1 32 (by decide +kernel) (by decide +kernel)
theorem wc_objectInit : Cond.code objectInit ⟨#[0xb1]⟩ 1 none ∈ GW := gw_at1 33 (by decide +kernel) (by decide +kernel)
theorem wk_X10_7 : Cond.classLink RX10 7 RX1 ∈ GW := gw_at1 34 (by decide +kernel) (by decide +kernel)
theorem wt_X1 : Cond.instantiable RX1 2 ∈ GW := gw_at1 35 (by decide +kernel) (by decide +kernel)
theorem wn_X1_init : Cond.instanceMethod yX1_init ∈ GW := gw_at1 37 (by decide +kernel) (by decide +kernel)
theorem wc_X1_init : Cond.code yX1_init cX1_init 1 none ∈ GW := gw_at1 38 (by decide +kernel) (by decide +kernel)
theorem wl_X1_3 : Cond.methodLink RX1 3 objectInit ∈ GW := gw_at1 39 (by decide +kernel) (by decide +kernel)
theorem wf_X1_11 : Cond.fieldLink RX1 11 "AlmanacOffice$Bytes" "row" "[B" ∈ GW := gw_at1 40 (by decide +kernel) (by decide +kernel)
theorem wf_X1_15 : Cond.fieldLink RX1 15 "AlmanacOffice$Bytes" "length" "I" ∈ GW := gw_at1 41 (by decide +kernel) (by decide +kernel)
theorem wf_X6_28 : Cond.fieldLink RX6 28 "AlmanacOffice$Bytes" "length" "I" ∈ GW := gw_at1 42 (by decide +kernel) (by decide +kernel)
theorem wf_X10_81 : Cond.fieldLink RX10 81 "AlmanacOffice$Bytes" "length" "I" ∈ GW := gw_at1 43 (by decide +kernel) (by decide +kernel)
theorem wa_byte : Cond.arrayClass (FieldType.byte) ∈ GW := gw_at1 49 (by decide +kernel) (by decide +kernel)
theorem wk_X10_19 : Cond.classLink RX10 19 RX8 ∈ GW := gw_at1 50 (by decide +kernel) (by decide +kernel)
theorem wt_X8 : Cond.instantiable RX8 14 ∈ GW := gw_at1 51 (by decide +kernel) (by decide +kernel)
theorem wn_X8_init : Cond.instanceMethod yX8_init ∈ GW := gw_at1 53 (by decide +kernel) (by decide +kernel)
theorem wc_X8_init : Cond.code yX8_init cX8_init 1 none ∈ GW := gw_at1 54 (by decide +kernel) (by decide +kernel)
theorem wl_X8_3 : Cond.methodLink RX8 3 objectInit ∈ GW := gw_at1 55 (by decide +kernel) (by decide +kernel)
theorem wk_X8_9 : Cond.classLink RX8 9 RX9 ∈ GW := gw_at1 56 (by decide +kernel) (by decide +kernel)
theorem wt_X9 : Cond.instantiable RX9 4 ∈ GW := gw_at1 57 (by decide +kernel) (by decide +kernel)
theorem wn_X9_init : Cond.instanceMethod yX9_init ∈ GW := gw_at1 59 (by decide +kernel) (by decide +kernel)
theorem wc_X9_init : Cond.code yX9_init cX9_init 1 none ∈ GW := gw_at1 60 (by decide +kernel) (by decide +kernel)
theorem wl_X9_3 : Cond.methodLink RX9 3 objectInit ∈ GW := gw_at1 61 (by decide +kernel) (by decide +kernel)
theorem wf_X9_9 : Cond.fieldLink RX9 9 "AlmanacOffice$Villages" "names" "[I" ∈ GW := gw_at1 62 (by decide +kernel) (by decide +kernel)
theorem wf_X10_326 : Cond.fieldLink RX10 326 "AlmanacOffice$Villages" "names" "[I" ∈ GW := gw_at1 63 (by decide +kernel) (by decide +kernel)
theorem wf_X9_15 : Cond.fieldLink RX9 15 "AlmanacOffice$Villages" "people" "[I" ∈ GW := gw_at1 64 (by decide +kernel) (by decide +kernel)
theorem wf_X10_142 : Cond.fieldLink RX10 142 "AlmanacOffice$Villages" "people" "[I" ∈ GW := gw_at1 65 (by decide +kernel) (by decide +kernel)
theorem wf_X9_18 : Cond.fieldLink RX9 18 "AlmanacOffice$Villages" "trusts" "[I" ∈ GW := gw_at1 66 (by decide +kernel) (by decide +kernel)
theorem wf_X10_146 : Cond.fieldLink RX10 146 "AlmanacOffice$Villages" "trusts" "[I" ∈ GW := gw_at1 67 (by decide +kernel) (by decide +kernel)
theorem wf_X9_21 : Cond.fieldLink RX9 21 "AlmanacOffice$Villages" "count" "I" ∈ GW := gw_at1 68 (by decide +kernel) (by decide +kernel)
theorem wf_X8_74 : Cond.fieldLink RX8 74 "AlmanacOffice$Villages" "count" "I" ∈ GW := gw_at1 69 (by decide +kernel) (by decide +kernel)
theorem wf_X10_103 : Cond.fieldLink RX10 103 "AlmanacOffice$Villages" "count" "I" ∈ GW := gw_at1 70 (by decide +kernel) (by decide +kernel)
theorem wf_X5_114 : Cond.fieldLink RX5 114 "AlmanacOffice$Villages" "count" "I" ∈ GW := gw_at1 71 (by decide +kernel) (by decide +kernel)
theorem wa_int : Cond.arrayClass (FieldType.int) ∈ GW := gw_at1 81 (by decide +kernel) (by decide +kernel)
theorem wk_X8_18 : Cond.classLink RX8 18 RX2 ∈ GW := gw_at1 82 (by decide +kernel) (by decide +kernel)
theorem wt_X2 : Cond.instantiable RX2 6 ∈ GW := gw_at1 83 (by decide +kernel) (by decide +kernel)
theorem wn_X2_init : Cond.instanceMethod yX2_init ∈ GW := gw_at1 85 (by decide +kernel) (by decide +kernel)
theorem wc_X2_init : Cond.code yX2_init cX2_init 1 none ∈ GW := gw_at1 86 (by decide +kernel) (by decide +kernel)
theorem wl_X2_3 : Cond.methodLink RX2 3 objectInit ∈ GW := gw_at1 87 (by decide +kernel) (by decide +kernel)
theorem wf_X2_9 : Cond.fieldLink RX2 9 "AlmanacOffice$Fairs" "names" "[I" ∈ GW := gw_at1 88 (by decide +kernel) (by decide +kernel)
theorem wf_X2_15 : Cond.fieldLink RX2 15 "AlmanacOffice$Fairs" "villages" "[I" ∈ GW := gw_at1 89 (by decide +kernel) (by decide +kernel)
theorem wf_X8_151 : Cond.fieldLink RX8 151 "AlmanacOffice$Fairs" "villages" "[I" ∈ GW := gw_at1 90 (by decide +kernel) (by decide +kernel)
theorem wf_X10_161 : Cond.fieldLink RX10 161 "AlmanacOffice$Fairs" "villages" "[I" ∈ GW := gw_at1 91 (by decide +kernel) (by decide +kernel)
theorem wf_X2_18 : Cond.fieldLink RX2 18 "AlmanacOffice$Fairs" "periods" "[I" ∈ GW := gw_at1 92 (by decide +kernel) (by decide +kernel)
theorem wf_X10_163 : Cond.fieldLink RX10 163 "AlmanacOffice$Fairs" "periods" "[I" ∈ GW := gw_at1 93 (by decide +kernel) (by decide +kernel)
theorem wf_X2_21 : Cond.fieldLink RX2 21 "AlmanacOffice$Fairs" "stocks" "[I" ∈ GW := gw_at1 94 (by decide +kernel) (by decide +kernel)
theorem wf_X8_152 : Cond.fieldLink RX8 152 "AlmanacOffice$Fairs" "stocks" "[I" ∈ GW := gw_at1 95 (by decide +kernel) (by decide +kernel)
theorem wf_X10_166 : Cond.fieldLink RX10 166 "AlmanacOffice$Fairs" "stocks" "[I" ∈ GW := gw_at1 96 (by decide +kernel) (by decide +kernel)
theorem wf_X2_24 : Cond.fieldLink RX2 24 "AlmanacOffice$Fairs" "prices" "[I" ∈ GW := gw_at1 97 (by decide +kernel) (by decide +kernel)
theorem wf_X8_166 : Cond.fieldLink RX8 166 "AlmanacOffice$Fairs" "prices" "[I" ∈ GW := gw_at1 98 (by decide +kernel) (by decide +kernel)
theorem wf_X10_169 : Cond.fieldLink RX10 169 "AlmanacOffice$Fairs" "prices" "[I" ∈ GW := gw_at1 99 (by decide +kernel) (by decide +kernel)
theorem wf_X2_27 : Cond.fieldLink RX2 27 "AlmanacOffice$Fairs" "count" "I" ∈ GW := gw_at1 100 (by decide +kernel) (by decide +kernel)
theorem wf_X8_77 : Cond.fieldLink RX8 77 "AlmanacOffice$Fairs" "count" "I" ∈ GW := gw_at1 101 (by decide +kernel) (by decide +kernel)
theorem wf_X5_133 : Cond.fieldLink RX5 133 "AlmanacOffice$Fairs" "count" "I" ∈ GW := gw_at1 102 (by decide +kernel) (by decide +kernel)
theorem wf_X10_127 : Cond.fieldLink RX10 127 "AlmanacOffice$Fairs" "count" "I" ∈ GW := gw_at1 103 (by decide +kernel) (by decide +kernel)
theorem wk_X8_25 : Cond.classLink RX8 25 RX7 ∈ GW := gw_at1 117 (by decide +kernel) (by decide +kernel)
theorem wt_X7 : Cond.instantiable RX7 3 ∈ GW := gw_at1 118 (by decide +kernel) (by decide +kernel)
theorem wn_X7_init : Cond.instanceMethod yX7_init ∈ GW := gw_at1 120 (by decide +kernel) (by decide +kernel)
theorem wc_X7_init : Cond.code yX7_init cX7_init 1 none ∈ GW := gw_at1 121 (by decide +kernel) (by decide +kernel)
theorem wl_X7_3 : Cond.methodLink RX7 3 objectInit ∈ GW := gw_at1 122 (by decide +kernel) (by decide +kernel)
theorem wf_X7_9 : Cond.fieldLink RX7 9 "AlmanacOffice$Sky" "odds" "[I" ∈ GW := gw_at1 123 (by decide +kernel) (by decide +kernel)
theorem wf_X5_74 : Cond.fieldLink RX5 74 "AlmanacOffice$Sky" "odds" "[I" ∈ GW := gw_at1 124 (by decide +kernel) (by decide +kernel)
theorem wf_X10_175 : Cond.fieldLink RX10 175 "AlmanacOffice$Sky" "odds" "[I" ∈ GW := gw_at1 125 (by decide +kernel) (by decide +kernel)
theorem wf_X7_15 : Cond.fieldLink RX7 15 "AlmanacOffice$Sky" "drawn" "[I" ∈ GW := gw_at1 126 (by decide +kernel) (by decide +kernel)
theorem wf_X8_80 : Cond.fieldLink RX8 80 "AlmanacOffice$Sky" "drawn" "[I" ∈ GW := gw_at1 127 (by decide +kernel) (by decide +kernel)
theorem wf_X10_182 : Cond.fieldLink RX10 182 "AlmanacOffice$Sky" "drawn" "[I" ∈ GW := gw_at1 128 (by decide +kernel) (by decide +kernel)
theorem wf_X7_18 : Cond.fieldLink RX7 18 "AlmanacOffice$Sky" "seed" "I" ∈ GW := gw_at1 129 (by decide +kernel) (by decide +kernel)
theorem wf_X5_69 : Cond.fieldLink RX5 69 "AlmanacOffice$Sky" "seed" "I" ∈ GW := gw_at1 130 (by decide +kernel) (by decide +kernel)
theorem wf_X10_115 : Cond.fieldLink RX10 115 "AlmanacOffice$Sky" "seed" "I" ∈ GW := gw_at1 131 (by decide +kernel) (by decide +kernel)
theorem wk_X8_32 : Cond.classLink RX8 32 RX0 ∈ GW := gw_at1 139 (by decide +kernel) (by decide +kernel)
theorem wt_X0 : Cond.instantiable RX0 6 ∈ GW := gw_at1 140 (by decide +kernel) (by decide +kernel)
theorem wn_X0_init : Cond.instanceMethod yX0_init ∈ GW := gw_at1 142 (by decide +kernel) (by decide +kernel)
theorem wc_X0_init : Cond.code yX0_init cX0_init 1 none ∈ GW := gw_at1 143 (by decide +kernel) (by decide +kernel)
theorem wl_X0_3 : Cond.methodLink RX0 3 objectInit ∈ GW := gw_at1 144 (by decide +kernel) (by decide +kernel)
theorem wf_X0_9 : Cond.fieldLink RX0 9 "AlmanacOffice$Book" "villages" "[I" ∈ GW := gw_at1 145 (by decide +kernel) (by decide +kernel)
theorem wf_X8_118 : Cond.fieldLink RX8 118 "AlmanacOffice$Book" "villages" "[I" ∈ GW := gw_at1 146 (by decide +kernel) (by decide +kernel)
theorem wf_X10_329 : Cond.fieldLink RX10 329 "AlmanacOffice$Book" "villages" "[I" ∈ GW := gw_at1 147 (by decide +kernel) (by decide +kernel)
theorem wf_X0_15 : Cond.fieldLink RX0 15 "AlmanacOffice$Book" "days" "[I" ∈ GW := gw_at1 148 (by decide +kernel) (by decide +kernel)
theorem wf_X8_155 : Cond.fieldLink RX8 155 "AlmanacOffice$Book" "days" "[I" ∈ GW := gw_at1 149 (by decide +kernel) (by decide +kernel)
theorem wf_X10_333 : Cond.fieldLink RX10 333 "AlmanacOffice$Book" "days" "[I" ∈ GW := gw_at1 150 (by decide +kernel) (by decide +kernel)
theorem wf_X0_18 : Cond.fieldLink RX0 18 "AlmanacOffice$Book" "weathers" "[I" ∈ GW := gw_at1 151 (by decide +kernel) (by decide +kernel)
theorem wf_X8_172 : Cond.fieldLink RX8 172 "AlmanacOffice$Book" "weathers" "[I" ∈ GW := gw_at1 152 (by decide +kernel) (by decide +kernel)
theorem wf_X10_189 : Cond.fieldLink RX10 189 "AlmanacOffice$Book" "weathers" "[I" ∈ GW := gw_at1 153 (by decide +kernel) (by decide +kernel)
theorem wf_X0_21 : Cond.fieldLink RX0 21 "AlmanacOffice$Book" "sold" "[I" ∈ GW := gw_at1 154 (by decide +kernel) (by decide +kernel)
theorem wf_X8_124 : Cond.fieldLink RX8 124 "AlmanacOffice$Book" "sold" "[I" ∈ GW := gw_at1 155 (by decide +kernel) (by decide +kernel)
theorem wf_X10_195 : Cond.fieldLink RX10 195 "AlmanacOffice$Book" "sold" "[I" ∈ GW := gw_at1 156 (by decide +kernel) (by decide +kernel)
theorem wf_X0_24 : Cond.fieldLink RX0 24 "AlmanacOffice$Book" "paid" "[I" ∈ GW := gw_at1 157 (by decide +kernel) (by decide +kernel)
theorem wf_X8_169 : Cond.fieldLink RX8 169 "AlmanacOffice$Book" "paid" "[I" ∈ GW := gw_at1 158 (by decide +kernel) (by decide +kernel)
theorem wf_X10_198 : Cond.fieldLink RX10 198 "AlmanacOffice$Book" "paid" "[I" ∈ GW := gw_at1 159 (by decide +kernel) (by decide +kernel)
theorem wf_X0_27 : Cond.fieldLink RX0 27 "AlmanacOffice$Book" "count" "I" ∈ GW := gw_at1 160 (by decide +kernel) (by decide +kernel)
theorem wf_X8_78 : Cond.fieldLink RX8 78 "AlmanacOffice$Book" "count" "I" ∈ GW := gw_at1 161 (by decide +kernel) (by decide +kernel)
theorem wf_X10_185 : Cond.fieldLink RX10 185 "AlmanacOffice$Book" "count" "I" ∈ GW := gw_at1 162 (by decide +kernel) (by decide +kernel)
theorem wk_X8_39 : Cond.classLink RX8 39 RX4 ∈ GW := gw_at1 176 (by decide +kernel) (by decide +kernel)
theorem wt_X4 : Cond.instantiable RX4 2 ∈ GW := gw_at1 177 (by decide +kernel) (by decide +kernel)
theorem wn_X4_init : Cond.instanceMethod yX4_init ∈ GW := gw_at1 179 (by decide +kernel) (by decide +kernel)
theorem wc_X4_init : Cond.code yX4_init cX4_init 1 none ∈ GW := gw_at1 180 (by decide +kernel) (by decide +kernel)
theorem wl_X4_1 : Cond.methodLink RX4 1 objectInit ∈ GW := gw_at1 181 (by decide +kernel) (by decide +kernel)
theorem wf_X4_9 : Cond.fieldLink RX4 9 "AlmanacOffice$Memory" "labels" "[I" ∈ GW := gw_at1 182 (by decide +kernel) (by decide +kernel)
theorem wf_X10_246 : Cond.fieldLink RX10 246 "AlmanacOffice$Memory" "labels" "[I" ∈ GW := gw_at1 183 (by decide +kernel) (by decide +kernel)
theorem wf_X4_13 : Cond.fieldLink RX4 13 "AlmanacOffice$Memory" "count" "I" ∈ GW := gw_at1 184 (by decide +kernel) (by decide +kernel)
theorem wf_X8_79 : Cond.fieldLink RX8 79 "AlmanacOffice$Memory" "count" "I" ∈ GW := gw_at1 185 (by decide +kernel) (by decide +kernel)
theorem wf_X10_240 : Cond.fieldLink RX10 240 "AlmanacOffice$Memory" "count" "I" ∈ GW := gw_at1 186 (by decide +kernel) (by decide +kernel)
theorem wf_X8_12 : Cond.fieldLink RX8 12 "AlmanacOffice$State" "villages" "LAlmanacOffice$Villages;" ∈ GW := gw_at1 192 (by decide +kernel) (by decide +kernel)
theorem wf_X10_99 : Cond.fieldLink RX10 99 "AlmanacOffice$State" "villages" "LAlmanacOffice$Villages;" ∈ GW := gw_at1 193 (by decide +kernel) (by decide +kernel)
theorem wf_X5_110 : Cond.fieldLink RX5 110 "AlmanacOffice$State" "villages" "LAlmanacOffice$Villages;" ∈ GW := gw_at1 194 (by decide +kernel) (by decide +kernel)
theorem wf_X8_21 : Cond.fieldLink RX8 21 "AlmanacOffice$State" "fairs" "LAlmanacOffice$Fairs;" ∈ GW := gw_at1 195 (by decide +kernel) (by decide +kernel)
theorem wf_X5_129 : Cond.fieldLink RX5 129 "AlmanacOffice$State" "fairs" "LAlmanacOffice$Fairs;" ∈ GW := gw_at1 196 (by decide +kernel) (by decide +kernel)
theorem wf_X10_123 : Cond.fieldLink RX10 123 "AlmanacOffice$State" "fairs" "LAlmanacOffice$Fairs;" ∈ GW := gw_at1 197 (by decide +kernel) (by decide +kernel)
theorem wf_X8_28 : Cond.fieldLink RX8 28 "AlmanacOffice$State" "sky" "LAlmanacOffice$Sky;" ∈ GW := gw_at1 198 (by decide +kernel) (by decide +kernel)
theorem wf_X5_60 : Cond.fieldLink RX5 60 "AlmanacOffice$State" "sky" "LAlmanacOffice$Sky;" ∈ GW := gw_at1 199 (by decide +kernel) (by decide +kernel)
theorem wf_X10_111 : Cond.fieldLink RX10 111 "AlmanacOffice$State" "sky" "LAlmanacOffice$Sky;" ∈ GW := gw_at1 200 (by decide +kernel) (by decide +kernel)
theorem wf_X8_35 : Cond.fieldLink RX8 35 "AlmanacOffice$State" "book" "LAlmanacOffice$Book;" ∈ GW := gw_at1 201 (by decide +kernel) (by decide +kernel)
theorem wf_X5_153 : Cond.fieldLink RX5 153 "AlmanacOffice$State" "book" "LAlmanacOffice$Book;" ∈ GW := gw_at1 202 (by decide +kernel) (by decide +kernel)
theorem wf_X10_149 : Cond.fieldLink RX10 149 "AlmanacOffice$State" "book" "LAlmanacOffice$Book;" ∈ GW := gw_at1 203 (by decide +kernel) (by decide +kernel)
theorem wf_X8_42 : Cond.fieldLink RX8 42 "AlmanacOffice$State" "memory" "LAlmanacOffice$Memory;" ∈ GW := gw_at1 204 (by decide +kernel) (by decide +kernel)
theorem wf_X10_236 : Cond.fieldLink RX10 236 "AlmanacOffice$State" "memory" "LAlmanacOffice$Memory;" ∈ GW := gw_at1 205 (by decide +kernel) (by decide +kernel)
theorem wf_X8_46 : Cond.fieldLink RX8 46 "AlmanacOffice$State" "day" "I" ∈ GW := gw_at1 206 (by decide +kernel) (by decide +kernel)
theorem wf_X10_108 : Cond.fieldLink RX10 108 "AlmanacOffice$State" "day" "I" ∈ GW := gw_at1 207 (by decide +kernel) (by decide +kernel)
theorem wf_X8_50 : Cond.fieldLink RX8 50 "AlmanacOffice$State" "coins" "I" ∈ GW := gw_at1 208 (by decide +kernel) (by decide +kernel)
theorem wf_X10_120 : Cond.fieldLink RX10 120 "AlmanacOffice$State" "coins" "I" ∈ GW := gw_at1 209 (by decide +kernel) (by decide +kernel)
theorem wf_X8_53 : Cond.fieldLink RX8 53 "AlmanacOffice$State" "hits" "I" ∈ GW := gw_at1 210 (by decide +kernel) (by decide +kernel)
theorem wf_X10_249 : Cond.fieldLink RX10 249 "AlmanacOffice$State" "hits" "I" ∈ GW := gw_at1 211 (by decide +kernel) (by decide +kernel)
theorem wf_X8_56 : Cond.fieldLink RX8 56 "AlmanacOffice$State" "regrets" "I" ∈ GW := gw_at1 212 (by decide +kernel) (by decide +kernel)
theorem wf_X10_252 : Cond.fieldLink RX10 252 "AlmanacOffice$State" "regrets" "I" ∈ GW := gw_at1 213 (by decide +kernel) (by decide +kernel)
theorem wf_X8_59 : Cond.fieldLink RX8 59 "AlmanacOffice$State" "retractions" "I" ∈ GW := gw_at1 214 (by decide +kernel) (by decide +kernel)
theorem wf_X10_255 : Cond.fieldLink RX10 255 "AlmanacOffice$State" "retractions" "I" ∈ GW := gw_at1 215 (by decide +kernel) (by decide +kernel)
theorem wf_X8_62 : Cond.fieldLink RX8 62 "AlmanacOffice$State" "copiesSold" "I" ∈ GW := gw_at1 216 (by decide +kernel) (by decide +kernel)
theorem wf_X10_267 : Cond.fieldLink RX10 267 "AlmanacOffice$State" "copiesSold" "I" ∈ GW := gw_at1 217 (by decide +kernel) (by decide +kernel)
theorem wf_X8_65 : Cond.fieldLink RX8 65 "AlmanacOffice$State" "copiesGone" "I" ∈ GW := gw_at1 218 (by decide +kernel) (by decide +kernel)
theorem wf_X10_273 : Cond.fieldLink RX10 273 "AlmanacOffice$State" "copiesGone" "I" ∈ GW := gw_at1 219 (by decide +kernel) (by decide +kernel)
theorem wf_X8_68 : Cond.fieldLink RX8 68 "AlmanacOffice$State" "coinsEarned" "I" ∈ GW := gw_at1 220 (by decide +kernel) (by decide +kernel)
theorem wf_X10_276 : Cond.fieldLink RX10 276 "AlmanacOffice$State" "coinsEarned" "I" ∈ GW := gw_at1 221 (by decide +kernel) (by decide +kernel)
theorem wf_X8_71 : Cond.fieldLink RX8 71 "AlmanacOffice$State" "coinsPaidBack" "I" ∈ GW := gw_at1 222 (by decide +kernel) (by decide +kernel)
theorem wf_X10_279 : Cond.fieldLink RX10 279 "AlmanacOffice$State" "coinsPaidBack" "I" ∈ GW := gw_at1 223 (by decide +kernel) (by decide +kernel)
theorem wk_X10_29 : Cond.classLink RX10 29 RX3 ∈ GW := gw_at2 13 (by decide +kernel) (by decide +kernel)
theorem wt_X3 : Cond.instantiable RX3 3 ∈ GW := gw_at2 14 (by decide +kernel) (by decide +kernel)
theorem wl_X10_31 : Cond.methodLink RX10 31 yX3_init ∈ GW := gw_at2 15 (by decide +kernel) (by decide +kernel)
theorem wn_X3_init : Cond.instanceMethod yX3_init ∈ GW := gw_at2 16 (by decide +kernel) (by decide +kernel)
theorem wc_X3_init : Cond.code yX3_init cX3_init 2 none ∈ GW := gw_at2 17 (by decide +kernel) (by decide +kernel)
theorem wl_X3_1 : Cond.methodLink RX3 1 objectInit ∈ GW := gw_at2 18 (by decide +kernel) (by decide +kernel)
theorem wk_X3_9 : Cond.classLink RX3 9 RX8 ∈ GW := gw_at2 19 (by decide +kernel) (by decide +kernel)
theorem wf_X3_11 : Cond.fieldLink RX3 11 "AlmanacOffice$History" "past" "[LAlmanacOffice$State;" ∈ GW := gw_at2 22 (by decide +kernel) (by decide +kernel)
theorem wf_X3_15 : Cond.fieldLink RX3 15 "AlmanacOffice$History" "next" "I" ∈ GW := gw_at2 23 (by decide +kernel) (by decide +kernel)
theorem wf_X3_19 : Cond.fieldLink RX3 19 "AlmanacOffice$History" "count" "I" ∈ GW := gw_at2 24 (by decide +kernel) (by decide +kernel)
theorem wf_X10_315 : Cond.fieldLink RX10 315 "AlmanacOffice$History" "count" "I" ∈ GW := gw_at2 25 (by decide +kernel) (by decide +kernel)
theorem wl_X10_53 : Cond.methodLink RX10 53 yX1_putText ∈ GW := gw_at2 34 (by decide +kernel) (by decide +kernel)
theorem wn_X1_putText : Cond.instanceMethod yX1_putText ∈ GW := gw_at2 35 (by decide +kernel) (by decide +kernel)
theorem we_X1_putText : Cond.selects RX1 yX1_putText yX1_putText ∈ GW := gw_at2 36 (by decide +kernel) (by decide +kernel)
theorem wc_X1_putText : Cond.code yX1_putText cX1_putText 3 none ∈ GW := gw_at2 37 (by decide +kernel) (by decide +kernel)
theorem wl_X1_23 : Cond.methodLink RX1 23 yJ0_length_8abf5 ∈ GW := gw_at2 38 (by decide +kernel) (by decide +kernel)
theorem wn_J0_length_8abf5 : Cond.instanceMethod yJ0_length_8abf5 ∈ GW := gw_at2 39 (by decide +kernel) (by decide +kernel)
theorem we_J0_length_8abf5 : Cond.selects RJ0 yJ0_length_8abf5 yJ0_length_8abf5 ∈ GW := gw_at2 40 (by decide +kernel) (by decide +kernel)
theorem wc_J0_length_8abf5 : Cond.code yJ0_length_8abf5 cJ0_length_8abf5 1 (some FieldType.int) ∈ GW := gw_at2 41 (by decide +kernel) (by decide +kernel)
theorem wl_J0_335 : Cond.methodLink RJ0 335 yJ0_coder_7d493 ∈ GW := gw_at2 42 (by decide +kernel) (by decide +kernel)
theorem wn_J0_coder_7d493 : Cond.instanceMethod yJ0_coder_7d493 ∈ GW := gw_at2 43 (by decide +kernel) (by decide +kernel)
theorem we_J0_coder_7d493 : Cond.selects RJ0 yJ0_coder_7d493 yJ0_coder_7d493 ∈ GW := gw_at2 44 (by decide +kernel) (by decide +kernel)
theorem wc_J0_coder_7d493 : Cond.code yJ0_coder_7d493 cJ0_coder_7d493 1 (some FieldType.byte) ∈ GW := gw_at2 45 (by decide +kernel) (by decide +kernel)
theorem wf_J0_38 : Cond.fieldLink RJ0 38 "java/lang/String" "COMPACT_STRINGS" "Z" ∈ GW := gw_at2 46 (by decide +kernel) (by decide +kernel)
theorem wl_X1_28 : Cond.methodLink RX1 28 yJ0_charAt_5068e ∈ GW := gw_at2 48 (by decide +kernel) (by decide +kernel)
theorem wn_J0_charAt_5068e : Cond.instanceMethod yJ0_charAt_5068e ∈ GW := gw_at2 49 (by decide +kernel) (by decide +kernel)
theorem we_J0_charAt_5068e : Cond.selects RJ0 yJ0_charAt_5068e yJ0_charAt_5068e ∈ GW := gw_at2 50 (by decide +kernel) (by decide +kernel)
theorem wc_J0_charAt_5068e : Cond.code yJ0_charAt_5068e cJ0_charAt_5068e 2 (some FieldType.char) ∈ GW := gw_at2 51 (by decide +kernel) (by decide +kernel)
theorem wl_J0_492 : Cond.methodLink RJ0 492 yJ0_isLatin1_aae02 ∈ GW := gw_at2 52 (by decide +kernel) (by decide +kernel)
theorem wn_J0_isLatin1_aae02 : Cond.instanceMethod yJ0_isLatin1_aae02 ∈ GW := gw_at2 53 (by decide +kernel) (by decide +kernel)
theorem we_J0_isLatin1_aae02 : Cond.selects RJ0 yJ0_isLatin1_aae02 yJ0_isLatin1_aae02 ∈ GW := gw_at2 54 (by decide +kernel) (by decide +kernel)
theorem wc_J0_isLatin1_aae02 : Cond.code yJ0_isLatin1_aae02 cJ0_isLatin1_aae02 1 (some FieldType.boolean) ∈ GW := gw_at2 55 (by decide +kernel) (by decide +kernel)
theorem wl_J0_495 : Cond.methodLink RJ0 495 yJ1_charAt_3b067 ∈ GW := gw_at2 56 (by decide +kernel) (by decide +kernel)
theorem wst_J1_charAt_3b067 : Cond.static yJ1_charAt_3b067 ∈ GW := gw_at2 57 (by decide +kernel) (by decide +kernel)
theorem wc_J1_charAt_3b067 : Cond.code yJ1_charAt_3b067 cJ1_charAt_3b067 2 (some FieldType.char) ∈ GW := gw_at2 58 (by decide +kernel) (by decide +kernel)
theorem wl_J1_9 : Cond.methodLink RJ1 9 yJ0_checkIndex_df160 ∈ GW := gw_at2 59 (by decide +kernel) (by decide +kernel)
theorem wst_J0_checkIndex_df160 : Cond.static yJ0_checkIndex_df160 ∈ GW := gw_at2 60 (by decide +kernel) (by decide +kernel)
theorem wc_J0_checkIndex_df160 : Cond.code yJ0_checkIndex_df160 cJ0_checkIndex_df160 2 none ∈ GW := gw_at2 61 (by decide +kernel) (by decide +kernel)
theorem wf_J0_1053 : Cond.fieldLink RJ0 1053 "jdk/internal/util/Preconditions" "SIOOBE_FORMATTER" "Ljava/util/function/BiFunction;" ∈ GW := gw_at2 62 (by decide +kernel) (by decide +kernel)
theorem wl_J0_1059 : Cond.methodLink RJ0 1059 yJ3_checkIndex_8e157 ∈ GW := gw_at2 64 (by decide +kernel) (by decide +kernel)
theorem wst_J3_checkIndex_8e157 : Cond.static yJ3_checkIndex_8e157 ∈ GW := gw_at2 65 (by decide +kernel) (by decide +kernel)
theorem wc_J3_checkIndex_8e157 : Cond.code yJ3_checkIndex_8e157 cJ3_checkIndex_8e157 3 (some FieldType.int) ∈ GW := gw_at2 66 (by decide +kernel) (by decide +kernel)
theorem wl_J0_498 : Cond.methodLink RJ0 498 yJ2_charAt_3b067 ∈ GW := gw_at2 67 (by decide +kernel) (by decide +kernel)
theorem wst_J2_charAt_3b067 : Cond.static yJ2_charAt_3b067 ∈ GW := gw_at2 68 (by decide +kernel) (by decide +kernel)
theorem wc_J2_charAt_3b067 : Cond.code yJ2_charAt_3b067 cJ2_charAt_3b067 2 (some FieldType.char) ∈ GW := gw_at2 69 (by decide +kernel) (by decide +kernel)
theorem wl_J2_67 : Cond.methodLink RJ2 67 yJ2_checkIndex_2214a ∈ GW := gw_at2 70 (by decide +kernel) (by decide +kernel)
theorem wst_J2_checkIndex_2214a : Cond.static yJ2_checkIndex_2214a ∈ GW := gw_at2 71 (by decide +kernel) (by decide +kernel)
theorem wc_J2_checkIndex_2214a : Cond.code yJ2_checkIndex_2214a cJ2_checkIndex_2214a 2 none ∈ GW := gw_at2 72 (by decide +kernel) (by decide +kernel)
theorem wl_J2_48 : Cond.methodLink RJ2 48 yJ2_length_9d52b ∈ GW := gw_at2 73 (by decide +kernel) (by decide +kernel)
theorem wst_J2_length_9d52b : Cond.static yJ2_length_9d52b ∈ GW := gw_at2 74 (by decide +kernel) (by decide +kernel)
theorem wc_J2_length_9d52b : Cond.code yJ2_length_9d52b cJ2_length_9d52b 1 (some FieldType.int) ∈ GW := gw_at2 75 (by decide +kernel) (by decide +kernel)
theorem wl_J2_414 : Cond.methodLink RJ2 414 yJ0_checkIndex_df160 ∈ GW := gw_at2 76 (by decide +kernel) (by decide +kernel)
theorem wl_J2_71 : Cond.methodLink RJ2 71 yJ2_getChar_3b067 ∈ GW := gw_at2 77 (by decide +kernel) (by decide +kernel)
theorem wst_J2_getChar_3b067 : Cond.static yJ2_getChar_3b067 ∈ GW := gw_at2 78 (by decide +kernel) (by decide +kernel)
theorem wc_J2_getChar_3b067 : Cond.code yJ2_getChar_3b067 cJ2_getChar_3b067 2 (some FieldType.char) ∈ GW := gw_at2 79 (by decide +kernel) (by decide +kernel)
theorem wf_J2_44 : Cond.fieldLink RJ2 44 "java/lang/StringUTF16" "$assertionsDisabled" "Z" ∈ GW := gw_at2 80 (by decide +kernel) (by decide +kernel)
theorem wf_J2_59 : Cond.fieldLink RJ2 59 "java/lang/StringUTF16" "HI_BYTE_SHIFT" "I" ∈ GW := gw_at2 82 (by decide +kernel) (by decide +kernel)
theorem wf_J2_63 : Cond.fieldLink RJ2 63 "java/lang/StringUTF16" "LO_BYTE_SHIFT" "I" ∈ GW := gw_at2 84 (by decide +kernel) (by decide +kernel)
theorem wl_X1_19 : Cond.methodLink RX1 19 yX1_put ∈ GW := gw_at2 86 (by decide +kernel) (by decide +kernel)
theorem wn_X1_put : Cond.instanceMethod yX1_put ∈ GW := gw_at2 87 (by decide +kernel) (by decide +kernel)
theorem we_X1_put : Cond.selects RX1 yX1_put yX1_put ∈ GW := gw_at2 88 (by decide +kernel) (by decide +kernel)
theorem wc_X1_put : Cond.code yX1_put cX1_put 2 none ∈ GW := gw_at2 89 (by decide +kernel) (by decide +kernel)
theorem wk_X10_57 : Cond.classLink RX10 57 RX5 ∈ GW := gw_at2 90 (by decide +kernel) (by decide +kernel)
theorem wt_X5 : Cond.instantiable RX5 4 ∈ GW := gw_at2 91 (by decide +kernel) (by decide +kernel)
theorem wl_X10_59 : Cond.methodLink RX10 59 yX5_init ∈ GW := gw_at2 92 (by decide +kernel) (by decide +kernel)
theorem wn_X5_init : Cond.instanceMethod yX5_init ∈ GW := gw_at2 93 (by decide +kernel) (by decide +kernel)
theorem wc_X5_init : Cond.code yX5_init cX5_init 3 none ∈ GW := gw_at2 94 (by decide +kernel) (by decide +kernel)
theorem wl_X5_3 : Cond.methodLink RX5 3 objectInit ∈ GW := gw_at2 95 (by decide +kernel) (by decide +kernel)
theorem wk_X5_18 : Cond.classLink RX5 18 RX6 ∈ GW := gw_at2 96 (by decide +kernel) (by decide +kernel)
theorem wt_X6 : Cond.instantiable RX6 5 ∈ GW := gw_at2 97 (by decide +kernel) (by decide +kernel)
theorem wl_X5_20 : Cond.methodLink RX5 20 yX6_init ∈ GW := gw_at2 98 (by decide +kernel) (by decide +kernel)
theorem wn_X6_init : Cond.instanceMethod yX6_init ∈ GW := gw_at2 99 (by decide +kernel) (by decide +kernel)
theorem wc_X6_init : Cond.code yX6_init cX6_init 2 none ∈ GW := gw_at2 100 (by decide +kernel) (by decide +kernel)
theorem wl_X6_3 : Cond.methodLink RX6 3 objectInit ∈ GW := gw_at2 101 (by decide +kernel) (by decide +kernel)
theorem wf_X6_24 : Cond.fieldLink RX6 24 "AlmanacOffice$Scanner" "text" "LAlmanacOffice$Bytes;" ∈ GW := gw_at2 102 (by decide +kernel) (by decide +kernel)
theorem wf_X6_11 : Cond.fieldLink RX6 11 "AlmanacOffice$Scanner" "kind" "I" ∈ GW := gw_at2 103 (by decide +kernel) (by decide +kernel)
theorem wf_X5_40 : Cond.fieldLink RX5 40 "AlmanacOffice$Scanner" "kind" "I" ∈ GW := gw_at2 104 (by decide +kernel) (by decide +kernel)
theorem wf_X6_15 : Cond.fieldLink RX6 15 "AlmanacOffice$Scanner" "start" "I" ∈ GW := gw_at2 105 (by decide +kernel) (by decide +kernel)
theorem wf_X5_187 : Cond.fieldLink RX5 187 "AlmanacOffice$Scanner" "start" "I" ∈ GW := gw_at2 106 (by decide +kernel) (by decide +kernel)
theorem wf_X6_18 : Cond.fieldLink RX6 18 "AlmanacOffice$Scanner" "end" "I" ∈ GW := gw_at2 107 (by decide +kernel) (by decide +kernel)
theorem wf_X6_21 : Cond.fieldLink RX6 21 "AlmanacOffice$Scanner" "number" "I" ∈ GW := gw_at2 108 (by decide +kernel) (by decide +kernel)
theorem wf_X5_66 : Cond.fieldLink RX5 66 "AlmanacOffice$Scanner" "number" "I" ∈ GW := gw_at2 109 (by decide +kernel) (by decide +kernel)
theorem wa_boolean : Cond.arrayClass (FieldType.boolean) ∈ GW := gw_at2 121 (by decide +kernel) (by decide +kernel)
theorem wf_X5_23 : Cond.fieldLink RX5 23 "AlmanacOffice$Parser" "scanner" "LAlmanacOffice$Scanner;" ∈ GW := gw_at2 122 (by decide +kernel) (by decide +kernel)
theorem wf_X5_27 : Cond.fieldLink RX5 27 "AlmanacOffice$Parser" "state" "LAlmanacOffice$State;" ∈ GW := gw_at2 123 (by decide +kernel) (by decide +kernel)
theorem wf_X5_9 : Cond.fieldLink RX5 9 "AlmanacOffice$Parser" "errorCode" "I" ∈ GW := gw_at2 124 (by decide +kernel) (by decide +kernel)
theorem wf_X10_91 : Cond.fieldLink RX10 91 "AlmanacOffice$Parser" "errorCode" "I" ∈ GW := gw_at2 125 (by decide +kernel) (by decide +kernel)
theorem wf_X5_15 : Cond.fieldLink RX5 15 "AlmanacOffice$Parser" "errorPosition" "I" ∈ GW := gw_at2 126 (by decide +kernel) (by decide +kernel)
theorem wf_X10_92 : Cond.fieldLink RX10 92 "AlmanacOffice$Parser" "errorPosition" "I" ∈ GW := gw_at2 127 (by decide +kernel) (by decide +kernel)
theorem wl_X10_62 : Cond.methodLink RX10 62 yX5_readText ∈ GW := gw_at2 137 (by decide +kernel) (by decide +kernel)
theorem wn_X5_readText : Cond.instanceMethod yX5_readText ∈ GW := gw_at2 138 (by decide +kernel) (by decide +kernel)
theorem we_X5_readText : Cond.selects RX5 yX5_readText yX5_readText ∈ GW := gw_at2 139 (by decide +kernel) (by decide +kernel)
theorem wc_X5_readText : Cond.code yX5_readText cX5_readText 2 (some FieldType.boolean) ∈ GW := gw_at2 140 (by decide +kernel) (by decide +kernel)
theorem wl_X5_31 : Cond.methodLink RX5 31 yX5_readAlmanac ∈ GW := gw_at2 141 (by decide +kernel) (by decide +kernel)
theorem wn_X5_readAlmanac : Cond.instanceMethod yX5_readAlmanac ∈ GW := gw_at2 143 (by decide +kernel) (by decide +kernel)
theorem wc_X5_readAlmanac : Cond.code yX5_readAlmanac cX5_readAlmanac 2 (some FieldType.boolean) ∈ GW := gw_at2 144 (by decide +kernel) (by decide +kernel)
theorem wl_X5_35 : Cond.methodLink RX5 35 yX6_next ∈ GW := gw_at2 145 (by decide +kernel) (by decide +kernel)
theorem wn_X6_next : Cond.instanceMethod yX6_next ∈ GW := gw_at2 146 (by decide +kernel) (by decide +kernel)
theorem we_X6_next : Cond.selects RX6 yX6_next yX6_next ∈ GW := gw_at2 147 (by decide +kernel) (by decide +kernel)
theorem wc_X6_next : Cond.code yX6_next cX6_next 2 none ∈ GW := gw_at2 148 (by decide +kernel) (by decide +kernel)
theorem wl_X6_33 : Cond.methodLink RX6 33 yX1_at ∈ GW := gw_at2 149 (by decide +kernel) (by decide +kernel)
theorem wn_X1_at : Cond.instanceMethod yX1_at ∈ GW := gw_at2 150 (by decide +kernel) (by decide +kernel)
theorem we_X1_at : Cond.selects RX1 yX1_at yX1_at ∈ GW := gw_at2 151 (by decide +kernel) (by decide +kernel)
theorem wc_X1_at : Cond.code yX1_at cX1_at 2 (some FieldType.int) ∈ GW := gw_at2 152 (by decide +kernel) (by decide +kernel)
theorem wl_X6_37 : Cond.methodLink RX6 37 yX6_isBlank ∈ GW := gw_at2 153 (by decide +kernel) (by decide +kernel)
theorem wn_X6_isBlank : Cond.instanceMethod yX6_isBlank ∈ GW := gw_at2 155 (by decide +kernel) (by decide +kernel)
theorem wc_X6_isBlank : Cond.code yX6_isBlank cX6_isBlank 2 (some FieldType.boolean) ∈ GW := gw_at2 156 (by decide +kernel) (by decide +kernel)
theorem wst_X10_isLetter : Cond.static yX10_isLetter ∈ GW := gw_at2 158 (by decide +kernel) (by decide +kernel)
theorem wc_X10_isLetter : Cond.code yX10_isLetter cX10_isLetter 1 (some FieldType.boolean) ∈ GW := gw_at2 159 (by decide +kernel) (by decide +kernel)
theorem wst_X10_isDigit : Cond.static yX10_isDigit ∈ GW := gw_at2 161 (by decide +kernel) (by decide +kernel)
theorem wc_X10_isDigit : Cond.code yX10_isDigit cX10_isDigit 1 (some FieldType.boolean) ∈ GW := gw_at2 162 (by decide +kernel) (by decide +kernel)
theorem wl_X6_47 : Cond.methodLink RX6 47 yX6_readDigits ∈ GW := gw_at2 163 (by decide +kernel) (by decide +kernel)
theorem wn_X6_readDigits : Cond.instanceMethod yX6_readDigits ∈ GW := gw_at2 165 (by decide +kernel) (by decide +kernel)
theorem wc_X6_readDigits : Cond.code yX6_readDigits cX6_readDigits 1 none ∈ GW := gw_at2 166 (by decide +kernel) (by decide +kernel)
theorem wx_X6_50 : Cond.constant RX6 50 (1000000 : Int32) ∈ GW := gw_at2 167 (by decide +kernel) (by decide +kernel)
theorem wl_X6_51 : Cond.methodLink RX6 51 Lib.Math.min.name ∈ GW := gw_at2 168 (by decide +kernel) (by decide +kernel)
theorem wst_Lib_Math_min_name : Cond.static Lib.Math.min.name ∈ GW := gw_at2 169 (by decide +kernel) (by decide +kernel)
theorem wc_Lib_Math_min_name : Cond.code Lib.Math.min.name cJ9_min_7cf53 2 (some FieldType.int) ∈ GW := gw_at2 170 (by decide +kernel) (by decide +kernel)
theorem wl_X5_48 : Cond.methodLink RX5 48 yX6_isWord ∈ GW := gw_at2 172 (by decide +kernel) (by decide +kernel)
theorem wn_X6_isWord : Cond.instanceMethod yX6_isWord ∈ GW := gw_at2 173 (by decide +kernel) (by decide +kernel)
theorem we_X6_isWord : Cond.selects RX6 yX6_isWord yX6_isWord ∈ GW := gw_at2 174 (by decide +kernel) (by decide +kernel)
theorem wc_X6_isWord : Cond.code yX6_isWord cX6_isWord 3 (some FieldType.boolean) ∈ GW := gw_at2 175 (by decide +kernel) (by decide +kernel)
theorem wl_X6_57 : Cond.methodLink RX6 57 yJ0_length_8abf5 ∈ GW := gw_at2 176 (by decide +kernel) (by decide +kernel)
theorem wl_X6_62 : Cond.methodLink RX6 62 yJ0_charAt_5068e ∈ GW := gw_at2 177 (by decide +kernel) (by decide +kernel)
theorem wl_X5_52 : Cond.methodLink RX5 52 yX5_fail ∈ GW := gw_at2 178 (by decide +kernel) (by decide +kernel)
theorem wn_X5_fail : Cond.instanceMethod yX5_fail ∈ GW := gw_at2 180 (by decide +kernel) (by decide +kernel)
theorem wc_X5_fail : Cond.code yX5_fail cX5_fail 2 (some FieldType.boolean) ∈ GW := gw_at2 181 (by decide +kernel) (by decide +kernel)
theorem wl_X5_56 : Cond.methodLink RX5 56 yX5_readNumber ∈ GW := gw_at2 182 (by decide +kernel) (by decide +kernel)
theorem wn_X5_readNumber : Cond.instanceMethod yX5_readNumber ∈ GW := gw_at2 184 (by decide +kernel) (by decide +kernel)
theorem wc_X5_readNumber : Cond.code yX5_readNumber cX5_readNumber 3 (some FieldType.boolean) ∈ GW := gw_at2 185 (by decide +kernel) (by decide +kernel)
theorem wst_X10_isBetween : Cond.static yX10_isBetween ∈ GW := gw_at2 187 (by decide +kernel) (by decide +kernel)
theorem wc_X10_isBetween : Cond.code yX10_isBetween cX10_isBetween 3 (some FieldType.boolean) ∈ GW := gw_at2 188 (by decide +kernel) (by decide +kernel)
theorem wl_X5_78 : Cond.methodLink RX5 78 yX7_sumOfOdds ∈ GW := gw_at2 189 (by decide +kernel) (by decide +kernel)
theorem wn_X7_sumOfOdds : Cond.instanceMethod yX7_sumOfOdds ∈ GW := gw_at2 190 (by decide +kernel) (by decide +kernel)
theorem we_X7_sumOfOdds : Cond.selects RX7 yX7_sumOfOdds yX7_sumOfOdds ∈ GW := gw_at2 191 (by decide +kernel) (by decide +kernel)
theorem wc_X7_sumOfOdds : Cond.code yX7_sumOfOdds cX7_sumOfOdds 1 (some FieldType.int) ∈ GW := gw_at2 192 (by decide +kernel) (by decide +kernel)
theorem wl_X5_82 : Cond.methodLink RX5 82 yX5_readSemicolon ∈ GW := gw_at2 193 (by decide +kernel) (by decide +kernel)
theorem wn_X5_readSemicolon : Cond.instanceMethod yX5_readSemicolon ∈ GW := gw_at2 195 (by decide +kernel) (by decide +kernel)
theorem wc_X5_readSemicolon : Cond.code yX5_readSemicolon cX5_readSemicolon 1 (some FieldType.boolean) ∈ GW := gw_at2 196 (by decide +kernel) (by decide +kernel)
theorem wl_X5_184 : Cond.methodLink RX5 184 yX6_isSemicolon ∈ GW := gw_at2 197 (by decide +kernel) (by decide +kernel)
theorem wn_X6_isSemicolon : Cond.instanceMethod yX6_isSemicolon ∈ GW := gw_at2 198 (by decide +kernel) (by decide +kernel)
theorem we_X6_isSemicolon : Cond.selects RX6 yX6_isSemicolon yX6_isSemicolon ∈ GW := gw_at2 199 (by decide +kernel) (by decide +kernel)
theorem wc_X6_isSemicolon : Cond.code yX6_isSemicolon cX6_isSemicolon 1 (some FieldType.boolean) ∈ GW := gw_at2 200 (by decide +kernel) (by decide +kernel)
theorem wl_X5_43 : Cond.methodLink RX5 43 yX5_readStatement ∈ GW := gw_at2 201 (by decide +kernel) (by decide +kernel)
theorem wn_X5_readStatement : Cond.instanceMethod yX5_readStatement ∈ GW := gw_at2 203 (by decide +kernel) (by decide +kernel)
theorem wc_X5_readStatement : Cond.code yX5_readStatement cX5_readStatement 1 (some FieldType.boolean) ∈ GW := gw_at2 204 (by decide +kernel) (by decide +kernel)
theorem wl_X5_87 : Cond.methodLink RX5 87 yX5_readVillage ∈ GW := gw_at2 206 (by decide +kernel) (by decide +kernel)
theorem wn_X5_readVillage : Cond.instanceMethod yX5_readVillage ∈ GW := gw_at2 208 (by decide +kernel) (by decide +kernel)
theorem wc_X5_readVillage : Cond.code yX5_readVillage cX5_readVillage 4 (some FieldType.boolean) ∈ GW := gw_at2 209 (by decide +kernel) (by decide +kernel)
theorem wl_X5_119 : Cond.methodLink RX5 119 yX5_readNewName ∈ GW := gw_at2 210 (by decide +kernel) (by decide +kernel)
theorem wn_X5_readNewName : Cond.instanceMethod yX5_readNewName ∈ GW := gw_at2 212 (by decide +kernel) (by decide +kernel)
theorem wc_X5_readNewName : Cond.code yX5_readNewName cX5_readNewName 3 (some FieldType.boolean) ∈ GW := gw_at2 213 (by decide +kernel) (by decide +kernel)
theorem wl_X5_122 : Cond.methodLink RX5 122 yX6_name ∈ GW := gw_at2 214 (by decide +kernel) (by decide +kernel)
theorem wn_X6_name : Cond.instanceMethod yX6_name ∈ GW := gw_at2 215 (by decide +kernel) (by decide +kernel)
theorem we_X6_name : Cond.selects RX6 yX6_name yX6_name ∈ GW := gw_at2 216 (by decide +kernel) (by decide +kernel)
theorem wc_X6_name : Cond.code yX6_name cX6_name 1 (some FieldType.int) ∈ GW := gw_at2 217 (by decide +kernel) (by decide +kernel)
theorem wl_X6_66 : Cond.methodLink RX6 66 yX1_nameBetween ∈ GW := gw_at2 218 (by decide +kernel) (by decide +kernel)
theorem wn_X1_nameBetween : Cond.instanceMethod yX1_nameBetween ∈ GW := gw_at2 219 (by decide +kernel) (by decide +kernel)
theorem we_X1_nameBetween : Cond.selects RX1 yX1_nameBetween yX1_nameBetween ∈ GW := gw_at2 220 (by decide +kernel) (by decide +kernel)
theorem wc_X1_nameBetween : Cond.code yX1_nameBetween cX1_nameBetween 6 (some FieldType.int) ∈ GW := gw_at2 221 (by decide +kernel) (by decide +kernel)
theorem wl_X1_33 : Cond.methodLink RX1 33 yX1_at ∈ GW := gw_at2 222 (by decide +kernel) (by decide +kernel)
theorem wl_X5_139 : Cond.methodLink RX5 139 yX9_numberOf ∈ GW := gw_at2 224 (by decide +kernel) (by decide +kernel)
theorem wn_X9_numberOf : Cond.instanceMethod yX9_numberOf ∈ GW := gw_at2 225 (by decide +kernel) (by decide +kernel)
theorem we_X9_numberOf : Cond.selects RX9 yX9_numberOf yX9_numberOf ∈ GW := gw_at2 226 (by decide +kernel) (by decide +kernel)
theorem wc_X9_numberOf : Cond.code yX9_numberOf cX9_numberOf 2 (some FieldType.int) ∈ GW := gw_at2 227 (by decide +kernel) (by decide +kernel)
theorem wst_X10_placeIn : Cond.static yX10_placeIn ∈ GW := gw_at2 229 (by decide +kernel) (by decide +kernel)
theorem wc_X10_placeIn : Cond.code yX10_placeIn cX10_placeIn 4 (some FieldType.int) ∈ GW := gw_at2 230 (by decide +kernel) (by decide +kernel)
theorem wl_X5_179 : Cond.methodLink RX5 179 yX2_numberOf ∈ GW := gw_at2 231 (by decide +kernel) (by decide +kernel)
theorem wn_X2_numberOf : Cond.instanceMethod yX2_numberOf ∈ GW := gw_at2 232 (by decide +kernel) (by decide +kernel)
theorem we_X2_numberOf : Cond.selects RX2 yX2_numberOf yX2_numberOf ∈ GW := gw_at2 233 (by decide +kernel) (by decide +kernel)
theorem wc_X2_numberOf : Cond.code yX2_numberOf cX2_numberOf 2 (some FieldType.int) ∈ GW := gw_at2 234 (by decide +kernel) (by decide +kernel)
theorem wl_X5_125 : Cond.methodLink RX5 125 yX9_add ∈ GW := gw_at2 236 (by decide +kernel) (by decide +kernel)
theorem wn_X9_add : Cond.instanceMethod yX9_add ∈ GW := gw_at2 237 (by decide +kernel) (by decide +kernel)
theorem we_X9_add : Cond.selects RX9 yX9_add yX9_add ∈ GW := gw_at2 238 (by decide +kernel) (by decide +kernel)
theorem wc_X9_add : Cond.code yX9_add cX9_add 4 none ∈ GW := gw_at2 239 (by decide +kernel) (by decide +kernel)
theorem wl_X5_92 : Cond.methodLink RX5 92 yX5_readFair ∈ GW := gw_at3 1 (by decide +kernel) (by decide +kernel)
theorem wn_X5_readFair : Cond.instanceMethod yX5_readFair ∈ GW := gw_at3 3 (by decide +kernel) (by decide +kernel)
theorem wc_X5_readFair : Cond.code yX5_readFair cX5_readFair 6 (some FieldType.boolean) ∈ GW := gw_at3 4 (by decide +kernel) (by decide +kernel)
theorem wl_X5_136 : Cond.methodLink RX5 136 yX5_readKnownVillage ∈ GW := gw_at3 5 (by decide +kernel) (by decide +kernel)
theorem wn_X5_readKnownVillage : Cond.instanceMethod yX5_readKnownVillage ∈ GW := gw_at3 7 (by decide +kernel) (by decide +kernel)
theorem wc_X5_readKnownVillage : Cond.code yX5_readKnownVillage cX5_readKnownVillage 1 (some FieldType.boolean) ∈ GW := gw_at3 8 (by decide +kernel) (by decide +kernel)
theorem wl_X5_143 : Cond.methodLink RX5 143 yX2_add ∈ GW := gw_at3 9 (by decide +kernel) (by decide +kernel)
theorem wn_X2_add : Cond.instanceMethod yX2_add ∈ GW := gw_at3 10 (by decide +kernel) (by decide +kernel)
theorem we_X2_add : Cond.selects RX2 yX2_add yX2_add ∈ GW := gw_at3 11 (by decide +kernel) (by decide +kernel)
theorem wc_X2_add : Cond.code yX2_add cX2_add 6 none ∈ GW := gw_at3 12 (by decide +kernel) (by decide +kernel)
theorem wl_X5_97 : Cond.methodLink RX5 97 yX5_readSay ∈ GW := gw_at3 14 (by decide +kernel) (by decide +kernel)
theorem wn_X5_readSay : Cond.instanceMethod yX5_readSay ∈ GW := gw_at3 16 (by decide +kernel) (by decide +kernel)
theorem wc_X5_readSay : Cond.code yX5_readSay cX5_readSay 4 (some FieldType.boolean) ∈ GW := gw_at3 17 (by decide +kernel) (by decide +kernel)
theorem wl_X5_146 : Cond.methodLink RX5 146 yX5_weatherOfToken ∈ GW := gw_at3 18 (by decide +kernel) (by decide +kernel)
theorem wn_X5_weatherOfToken : Cond.instanceMethod yX5_weatherOfToken ∈ GW := gw_at3 20 (by decide +kernel) (by decide +kernel)
theorem wc_X5_weatherOfToken : Cond.code yX5_weatherOfToken cX5_weatherOfToken 1 (some FieldType.int) ∈ GW := gw_at3 21 (by decide +kernel) (by decide +kernel)
theorem wl_X5_149 : Cond.methodLink RX5 149 yX8_refusalToPrint ∈ GW := gw_at3 25 (by decide +kernel) (by decide +kernel)
theorem wn_X8_refusalToPrint : Cond.instanceMethod yX8_refusalToPrint ∈ GW := gw_at3 26 (by decide +kernel) (by decide +kernel)
theorem we_X8_refusalToPrint : Cond.selects RX8 yX8_refusalToPrint yX8_refusalToPrint ∈ GW := gw_at3 27 (by decide +kernel) (by decide +kernel)
theorem wc_X8_refusalToPrint : Cond.code yX8_refusalToPrint cX8_refusalToPrint 3 (some FieldType.int) ∈ GW := gw_at3 28 (by decide +kernel) (by decide +kernel)
theorem wl_X8_104 : Cond.methodLink RX8 104 yX0_placeOf ∈ GW := gw_at3 30 (by decide +kernel) (by decide +kernel)
theorem wn_X0_placeOf : Cond.instanceMethod yX0_placeOf ∈ GW := gw_at3 31 (by decide +kernel) (by decide +kernel)
theorem we_X0_placeOf : Cond.selects RX0 yX0_placeOf yX0_placeOf ∈ GW := gw_at3 32 (by decide +kernel) (by decide +kernel)
theorem wc_X0_placeOf : Cond.code yX0_placeOf cX0_placeOf 4 (some FieldType.int) ∈ GW := gw_at3 33 (by decide +kernel) (by decide +kernel)
theorem wl_X5_157 : Cond.methodLink RX5 157 yX0_add ∈ GW := gw_at3 34 (by decide +kernel) (by decide +kernel)
theorem wn_X0_add : Cond.instanceMethod yX0_add ∈ GW := gw_at3 35 (by decide +kernel) (by decide +kernel)
theorem we_X0_add : Cond.selects RX0 yX0_add yX0_add ∈ GW := gw_at3 36 (by decide +kernel) (by decide +kernel)
theorem wc_X0_add : Cond.code yX0_add cX0_add 4 none ∈ GW := gw_at3 37 (by decide +kernel) (by decide +kernel)
theorem wl_X5_102 : Cond.methodLink RX5 102 yX5_readRetract ∈ GW := gw_at3 39 (by decide +kernel) (by decide +kernel)
theorem wn_X5_readRetract : Cond.instanceMethod yX5_readRetract ∈ GW := gw_at3 41 (by decide +kernel) (by decide +kernel)
theorem wc_X5_readRetract : Cond.code yX5_readRetract cX5_readRetract 2 (some FieldType.boolean) ∈ GW := gw_at3 42 (by decide +kernel) (by decide +kernel)
theorem wl_X5_160 : Cond.methodLink RX5 160 yX0_hasPage ∈ GW := gw_at3 43 (by decide +kernel) (by decide +kernel)
theorem wn_X0_hasPage : Cond.instanceMethod yX0_hasPage ∈ GW := gw_at3 44 (by decide +kernel) (by decide +kernel)
theorem we_X0_hasPage : Cond.selects RX0 yX0_hasPage yX0_hasPage ∈ GW := gw_at3 45 (by decide +kernel) (by decide +kernel)
theorem wc_X0_hasPage : Cond.code yX0_hasPage cX0_hasPage 2 (some FieldType.boolean) ∈ GW := gw_at3 46 (by decide +kernel) (by decide +kernel)
theorem wl_X0_41 : Cond.methodLink RX0 41 yX0_pages ∈ GW := gw_at3 47 (by decide +kernel) (by decide +kernel)
theorem wn_X0_pages : Cond.instanceMethod yX0_pages ∈ GW := gw_at3 48 (by decide +kernel) (by decide +kernel)
theorem we_X0_pages : Cond.selects RX0 yX0_pages yX0_pages ∈ GW := gw_at3 49 (by decide +kernel) (by decide +kernel)
theorem wc_X0_pages : Cond.code yX0_pages cX0_pages 1 (some FieldType.int) ∈ GW := gw_at3 50 (by decide +kernel) (by decide +kernel)
theorem wl_X5_163 : Cond.methodLink RX5 163 yX8_canPayBackPage ∈ GW := gw_at3 51 (by decide +kernel) (by decide +kernel)
theorem wn_X8_canPayBackPage : Cond.instanceMethod yX8_canPayBackPage ∈ GW := gw_at3 52 (by decide +kernel) (by decide +kernel)
theorem we_X8_canPayBackPage : Cond.selects RX8 yX8_canPayBackPage yX8_canPayBackPage ∈ GW := gw_at3 53 (by decide +kernel) (by decide +kernel)
theorem wc_X8_canPayBackPage : Cond.code yX8_canPayBackPage cX8_canPayBackPage 2 (some FieldType.boolean) ∈ GW := gw_at3 54 (by decide +kernel) (by decide +kernel)
theorem wl_X8_108 : Cond.methodLink RX8 108 yX0_paidForPage ∈ GW := gw_at3 55 (by decide +kernel) (by decide +kernel)
theorem wn_X0_paidForPage : Cond.instanceMethod yX0_paidForPage ∈ GW := gw_at3 56 (by decide +kernel) (by decide +kernel)
theorem we_X0_paidForPage : Cond.selects RX0 yX0_paidForPage yX0_paidForPage ∈ GW := gw_at3 57 (by decide +kernel) (by decide +kernel)
theorem wc_X0_paidForPage : Cond.code yX0_paidForPage cX0_paidForPage 4 (some FieldType.int) ∈ GW := gw_at3 58 (by decide +kernel) (by decide +kernel)
theorem wl_X0_50 : Cond.methodLink RX0 50 yX0_startOf ∈ GW := gw_at3 59 (by decide +kernel) (by decide +kernel)
theorem wn_X0_startOf : Cond.instanceMethod yX0_startOf ∈ GW := gw_at3 60 (by decide +kernel) (by decide +kernel)
theorem we_X0_startOf : Cond.selects RX0 yX0_startOf yX0_startOf ∈ GW := gw_at3 61 (by decide +kernel) (by decide +kernel)
theorem wc_X0_startOf : Cond.code yX0_startOf cX0_startOf 2 (some FieldType.int) ∈ GW := gw_at3 62 (by decide +kernel) (by decide +kernel)
theorem wl_X0_54 : Cond.methodLink RX0 54 yX0_endOf ∈ GW := gw_at3 63 (by decide +kernel) (by decide +kernel)
theorem wn_X0_endOf : Cond.instanceMethod yX0_endOf ∈ GW := gw_at3 64 (by decide +kernel) (by decide +kernel)
theorem we_X0_endOf : Cond.selects RX0 yX0_endOf yX0_endOf ∈ GW := gw_at3 65 (by decide +kernel) (by decide +kernel)
theorem wc_X0_endOf : Cond.code yX0_endOf cX0_endOf 2 (some FieldType.int) ∈ GW := gw_at3 66 (by decide +kernel) (by decide +kernel)
theorem wl_X0_45 : Cond.methodLink RX0 45 Lib.Math.min.name ∈ GW := gw_at3 67 (by decide +kernel) (by decide +kernel)
theorem wl_X5_166 : Cond.methodLink RX5 166 yX8_takeBackPage ∈ GW := gw_at3 68 (by decide +kernel) (by decide +kernel)
theorem wn_X8_takeBackPage : Cond.instanceMethod yX8_takeBackPage ∈ GW := gw_at3 69 (by decide +kernel) (by decide +kernel)
theorem we_X8_takeBackPage : Cond.selects RX8 yX8_takeBackPage yX8_takeBackPage ∈ GW := gw_at3 70 (by decide +kernel) (by decide +kernel)
theorem wc_X8_takeBackPage : Cond.code yX8_takeBackPage cX8_takeBackPage 6 (some FieldType.int) ∈ GW := gw_at3 71 (by decide +kernel) (by decide +kernel)
theorem wl_X8_112 : Cond.methodLink RX8 112 yX0_startOf ∈ GW := gw_at3 72 (by decide +kernel) (by decide +kernel)
theorem wl_X8_115 : Cond.methodLink RX8 115 yX0_endOf ∈ GW := gw_at3 73 (by decide +kernel) (by decide +kernel)
theorem wl_X8_120 : Cond.methodLink RX8 120 yX9_changeTrust ∈ GW := gw_at3 74 (by decide +kernel) (by decide +kernel)
theorem wn_X9_changeTrust : Cond.instanceMethod yX9_changeTrust ∈ GW := gw_at3 75 (by decide +kernel) (by decide +kernel)
theorem we_X9_changeTrust : Cond.selects RX9 yX9_changeTrust yX9_changeTrust ∈ GW := gw_at3 76 (by decide +kernel) (by decide +kernel)
theorem wc_X9_changeTrust : Cond.code yX9_changeTrust cX9_changeTrust 4 none ∈ GW := gw_at3 77 (by decide +kernel) (by decide +kernel)
theorem wl_X9_29 : Cond.methodLink RX9 29 yX9_has ∈ GW := gw_at3 78 (by decide +kernel) (by decide +kernel)
theorem wn_X9_has : Cond.instanceMethod yX9_has ∈ GW := gw_at3 79 (by decide +kernel) (by decide +kernel)
theorem we_X9_has : Cond.selects RX9 yX9_has yX9_has ∈ GW := gw_at3 80 (by decide +kernel) (by decide +kernel)
theorem wc_X9_has : Cond.code yX9_has cX9_has 2 (some FieldType.boolean) ∈ GW := gw_at3 81 (by decide +kernel) (by decide +kernel)
theorem wl_X8_127 : Cond.methodLink RX8 127 yX0_remove ∈ GW := gw_at3 82 (by decide +kernel) (by decide +kernel)
theorem wn_X0_remove : Cond.instanceMethod yX0_remove ∈ GW := gw_at3 83 (by decide +kernel) (by decide +kernel)
theorem we_X0_remove : Cond.selects RX0 yX0_remove yX0_remove ∈ GW := gw_at3 84 (by decide +kernel) (by decide +kernel)
theorem wc_X0_remove : Cond.code yX0_remove cX0_remove 4 none ∈ GW := gw_at3 85 (by decide +kernel) (by decide +kernel)
theorem wl_X0_35 : Cond.methodLink RX0 35 arraycopyName ∈ GW := gw_at3 86 (by decide +kernel) (by decide +kernel)
theorem wst_arraycopyName : Cond.static arraycopyName ∈ GW := gw_at3 87 (by decide +kernel) (by decide +kernel)
theorem wnat_arraycopyName : Cond.native arraycopyName ∈ GW := gw_at3 88 (by decide +kernel) (by decide +kernel)
theorem wl_X8_130 : Cond.methodLink RX8 130 yX8_payBack ∈ GW := gw_at3 89 (by decide +kernel) (by decide +kernel)
theorem wn_X8_payBack : Cond.instanceMethod yX8_payBack ∈ GW := gw_at3 91 (by decide +kernel) (by decide +kernel)
theorem wc_X8_payBack : Cond.code yX8_payBack cX8_payBack 2 none ∈ GW := gw_at3 92 (by decide +kernel) (by decide +kernel)
theorem wl_X5_107 : Cond.methodLink RX5 107 yX5_readPass ∈ GW := gw_at3 94 (by decide +kernel) (by decide +kernel)
theorem wn_X5_readPass : Cond.instanceMethod yX5_readPass ∈ GW := gw_at3 96 (by decide +kernel) (by decide +kernel)
theorem wc_X5_readPass : Cond.code yX5_readPass cX5_readPass 2 (some FieldType.boolean) ∈ GW := gw_at3 97 (by decide +kernel) (by decide +kernel)
theorem wl_X5_169 : Cond.methodLink RX5 169 yX8_letDaysPass ∈ GW := gw_at3 98 (by decide +kernel) (by decide +kernel)
theorem wn_X8_letDaysPass : Cond.instanceMethod yX8_letDaysPass ∈ GW := gw_at3 99 (by decide +kernel) (by decide +kernel)
theorem we_X8_letDaysPass : Cond.selects RX8 yX8_letDaysPass yX8_letDaysPass ∈ GW := gw_at3 100 (by decide +kernel) (by decide +kernel)
theorem wc_X8_letDaysPass : Cond.code yX8_letDaysPass cX8_letDaysPass 4 none ∈ GW := gw_at3 101 (by decide +kernel) (by decide +kernel)
theorem wl_X8_134 : Cond.methodLink RX8 134 yX2_isHeld ∈ GW := gw_at3 102 (by decide +kernel) (by decide +kernel)
theorem wn_X2_isHeld : Cond.instanceMethod yX2_isHeld ∈ GW := gw_at3 103 (by decide +kernel) (by decide +kernel)
theorem we_X2_isHeld : Cond.selects RX2 yX2_isHeld yX2_isHeld ∈ GW := gw_at3 104 (by decide +kernel) (by decide +kernel)
theorem wc_X2_isHeld : Cond.code yX2_isHeld cX2_isHeld 4 (some FieldType.boolean) ∈ GW := gw_at3 105 (by decide +kernel) (by decide +kernel)
theorem wl_X8_138 : Cond.methodLink RX8 138 yX8_sellAt ∈ GW := gw_at3 106 (by decide +kernel) (by decide +kernel)
theorem wn_X8_sellAt : Cond.instanceMethod yX8_sellAt ∈ GW := gw_at3 108 (by decide +kernel) (by decide +kernel)
theorem wc_X8_sellAt : Cond.code yX8_sellAt cX8_sellAt 7 none ∈ GW := gw_at3 109 (by decide +kernel) (by decide +kernel)
theorem wl_X8_158 : Cond.methodLink RX8 158 yX9_wish ∈ GW := gw_at3 110 (by decide +kernel) (by decide +kernel)
theorem wn_X9_wish : Cond.instanceMethod yX9_wish ∈ GW := gw_at3 111 (by decide +kernel) (by decide +kernel)
theorem we_X9_wish : Cond.selects RX9 yX9_wish yX9_wish ∈ GW := gw_at3 112 (by decide +kernel) (by decide +kernel)
theorem wc_X9_wish : Cond.code yX9_wish cX9_wish 3 (some FieldType.int) ∈ GW := gw_at3 113 (by decide +kernel) (by decide +kernel)
theorem wl_X8_161 : Cond.methodLink RX8 161 Lib.Math.min.name ∈ GW := gw_at3 114 (by decide +kernel) (by decide +kernel)
theorem wl_X8_141 : Cond.methodLink RX8 141 yX7_draw ∈ GW := gw_at3 115 (by decide +kernel) (by decide +kernel)
theorem wn_X7_draw : Cond.instanceMethod yX7_draw ∈ GW := gw_at3 116 (by decide +kernel) (by decide +kernel)
theorem we_X7_draw : Cond.selects RX7 yX7_draw yX7_draw ∈ GW := gw_at3 117 (by decide +kernel) (by decide +kernel)
theorem wc_X7_draw : Cond.code yX7_draw cX7_draw 2 (some FieldType.int) ∈ GW := gw_at3 118 (by decide +kernel) (by decide +kernel)
theorem wl_X7_26 : Cond.methodLink RX7 26 yX7_seedAfter ∈ GW := gw_at3 119 (by decide +kernel) (by decide +kernel)
theorem wst_X7_seedAfter : Cond.static yX7_seedAfter ∈ GW := gw_at3 120 (by decide +kernel) (by decide +kernel)
theorem wc_X7_seedAfter : Cond.code yX7_seedAfter cX7_seedAfter 1 (some FieldType.int) ∈ GW := gw_at3 121 (by decide +kernel) (by decide +kernel)
theorem wl_X7_30 : Cond.methodLink RX7 30 yX7_weatherFor ∈ GW := gw_at3 122 (by decide +kernel) (by decide +kernel)
theorem wn_X7_weatherFor : Cond.instanceMethod yX7_weatherFor ∈ GW := gw_at3 123 (by decide +kernel) (by decide +kernel)
theorem we_X7_weatherFor : Cond.selects RX7 yX7_weatherFor yX7_weatherFor ∈ GW := gw_at3 124 (by decide +kernel) (by decide +kernel)
theorem wc_X7_weatherFor : Cond.code yX7_weatherFor cX7_weatherFor 4 (some FieldType.int) ∈ GW := gw_at3 125 (by decide +kernel) (by decide +kernel)
theorem wl_X7_22 : Cond.methodLink RX7 22 yX7_sumOfOdds ∈ GW := gw_at3 126 (by decide +kernel) (by decide +kernel)
theorem wl_X8_145 : Cond.methodLink RX8 145 yX8_judge ∈ GW := gw_at3 127 (by decide +kernel) (by decide +kernel)
theorem wn_X8_judge : Cond.instanceMethod yX8_judge ∈ GW := gw_at3 129 (by decide +kernel) (by decide +kernel)
theorem wc_X8_judge : Cond.code yX8_judge cX8_judge 5 none ∈ GW := gw_at3 130 (by decide +kernel) (by decide +kernel)
theorem wl_X8_175 : Cond.methodLink RX8 175 yX4_add ∈ GW := gw_at3 131 (by decide +kernel) (by decide +kernel)
theorem wn_X4_add : Cond.instanceMethod yX4_add ∈ GW := gw_at3 132 (by decide +kernel) (by decide +kernel)
theorem we_X4_add : Cond.selects RX4 yX4_add yX4_add ∈ GW := gw_at3 133 (by decide +kernel) (by decide +kernel)
theorem wc_X4_add : Cond.code yX4_add cX4_add 3 none ∈ GW := gw_at3 134 (by decide +kernel) (by decide +kernel)
theorem wl_X4_17 : Cond.methodLink RX4 17 arraycopyName ∈ GW := gw_at3 135 (by decide +kernel) (by decide +kernel)
theorem wst_X10_labelOf : Cond.static yX10_labelOf ∈ GW := gw_at3 137 (by decide +kernel) (by decide +kernel)
theorem wc_X10_labelOf : Cond.code yX10_labelOf cX10_labelOf 2 (some FieldType.int) ∈ GW := gw_at3 138 (by decide +kernel) (by decide +kernel)
theorem wl_X8_148 : Cond.methodLink RX8 148 yX7_closeYear ∈ GW := gw_at3 139 (by decide +kernel) (by decide +kernel)
theorem wn_X7_closeYear : Cond.instanceMethod yX7_closeYear ∈ GW := gw_at3 140 (by decide +kernel) (by decide +kernel)
theorem we_X7_closeYear : Cond.selects RX7 yX7_closeYear yX7_closeYear ∈ GW := gw_at3 141 (by decide +kernel) (by decide +kernel)
theorem wc_X7_closeYear : Cond.code yX7_closeYear cX7_closeYear 4 none ∈ GW := gw_at3 142 (by decide +kernel) (by decide +kernel)
theorem wl_X7_33 : Cond.methodLink RX7 33 yX7_firstGreatest ∈ GW := gw_at3 143 (by decide +kernel) (by decide +kernel)
theorem wst_X7_firstGreatest : Cond.static yX7_firstGreatest ∈ GW := gw_at3 144 (by decide +kernel) (by decide +kernel)
theorem wc_X7_firstGreatest : Cond.code yX7_firstGreatest cX7_firstGreatest 3 (some FieldType.int) ∈ GW := gw_at3 145 (by decide +kernel) (by decide +kernel)
theorem wl_X7_37 : Cond.methodLink RX7 37 yX7_lastLeast ∈ GW := gw_at3 146 (by decide +kernel) (by decide +kernel)
theorem wst_X7_lastLeast : Cond.static yX7_lastLeast ∈ GW := gw_at3 147 (by decide +kernel) (by decide +kernel)
theorem wc_X7_lastLeast : Cond.code yX7_lastLeast cX7_lastLeast 3 (some FieldType.int) ∈ GW := gw_at3 148 (by decide +kernel) (by decide +kernel)
theorem wl_X10_66 : Cond.methodLink RX10 66 yX8_takeFrom ∈ GW := gw_at3 149 (by decide +kernel) (by decide +kernel)
theorem wn_X8_takeFrom : Cond.instanceMethod yX8_takeFrom ∈ GW := gw_at3 150 (by decide +kernel) (by decide +kernel)
theorem we_X8_takeFrom : Cond.selects RX8 yX8_takeFrom yX8_takeFrom ∈ GW := gw_at3 151 (by decide +kernel) (by decide +kernel)
theorem wc_X8_takeFrom : Cond.code yX8_takeFrom cX8_takeFrom 2 none ∈ GW := gw_at3 152 (by decide +kernel) (by decide +kernel)
theorem wl_X8_84 : Cond.methodLink RX8 84 yX9_takeFrom ∈ GW := gw_at3 153 (by decide +kernel) (by decide +kernel)
theorem wn_X9_takeFrom : Cond.instanceMethod yX9_takeFrom ∈ GW := gw_at3 154 (by decide +kernel) (by decide +kernel)
theorem we_X9_takeFrom : Cond.selects RX9 yX9_takeFrom yX9_takeFrom ∈ GW := gw_at3 155 (by decide +kernel) (by decide +kernel)
theorem wc_X9_takeFrom : Cond.code yX9_takeFrom cX9_takeFrom 2 none ∈ GW := gw_at3 156 (by decide +kernel) (by decide +kernel)
theorem wl_X9_33 : Cond.methodLink RX9 33 arraycopyName ∈ GW := gw_at3 157 (by decide +kernel) (by decide +kernel)
theorem wl_X8_88 : Cond.methodLink RX8 88 yX2_takeFrom ∈ GW := gw_at3 158 (by decide +kernel) (by decide +kernel)
theorem wn_X2_takeFrom : Cond.instanceMethod yX2_takeFrom ∈ GW := gw_at3 159 (by decide +kernel) (by decide +kernel)
theorem we_X2_takeFrom : Cond.selects RX2 yX2_takeFrom yX2_takeFrom ∈ GW := gw_at3 160 (by decide +kernel) (by decide +kernel)
theorem wc_X2_takeFrom : Cond.code yX2_takeFrom cX2_takeFrom 2 none ∈ GW := gw_at3 161 (by decide +kernel) (by decide +kernel)
theorem wl_X2_35 : Cond.methodLink RX2 35 arraycopyName ∈ GW := gw_at3 162 (by decide +kernel) (by decide +kernel)
theorem wl_X8_91 : Cond.methodLink RX8 91 yX7_takeFrom ∈ GW := gw_at3 163 (by decide +kernel) (by decide +kernel)
theorem wn_X7_takeFrom : Cond.instanceMethod yX7_takeFrom ∈ GW := gw_at3 164 (by decide +kernel) (by decide +kernel)
theorem we_X7_takeFrom : Cond.selects RX7 yX7_takeFrom yX7_takeFrom ∈ GW := gw_at3 165 (by decide +kernel) (by decide +kernel)
theorem wc_X7_takeFrom : Cond.code yX7_takeFrom cX7_takeFrom 2 none ∈ GW := gw_at3 166 (by decide +kernel) (by decide +kernel)
theorem wl_X7_40 : Cond.methodLink RX7 40 arraycopyName ∈ GW := gw_at3 167 (by decide +kernel) (by decide +kernel)
theorem wl_X8_94 : Cond.methodLink RX8 94 yX0_takeFrom ∈ GW := gw_at3 168 (by decide +kernel) (by decide +kernel)
theorem wn_X0_takeFrom : Cond.instanceMethod yX0_takeFrom ∈ GW := gw_at3 169 (by decide +kernel) (by decide +kernel)
theorem we_X0_takeFrom : Cond.selects RX0 yX0_takeFrom yX0_takeFrom ∈ GW := gw_at3 170 (by decide +kernel) (by decide +kernel)
theorem wc_X0_takeFrom : Cond.code yX0_takeFrom cX0_takeFrom 2 none ∈ GW := gw_at3 171 (by decide +kernel) (by decide +kernel)
theorem wl_X8_97 : Cond.methodLink RX8 97 yX4_takeFrom ∈ GW := gw_at3 172 (by decide +kernel) (by decide +kernel)
theorem wn_X4_takeFrom : Cond.instanceMethod yX4_takeFrom ∈ GW := gw_at3 173 (by decide +kernel) (by decide +kernel)
theorem we_X4_takeFrom : Cond.selects RX4 yX4_takeFrom yX4_takeFrom ∈ GW := gw_at3 174 (by decide +kernel) (by decide +kernel)
theorem wc_X4_takeFrom : Cond.code yX4_takeFrom cX4_takeFrom 2 none ∈ GW := gw_at3 175 (by decide +kernel) (by decide +kernel)
theorem wf_X10_10 : Cond.fieldLink RX10 10 "AlmanacOffice" "input" "LAlmanacOffice$Bytes;" ∈ GW := gw_at3 176 (by decide +kernel) (by decide +kernel)
theorem wf_X10_16 : Cond.fieldLink RX10 16 "AlmanacOffice" "output" "LAlmanacOffice$Bytes;" ∈ GW := gw_at3 177 (by decide +kernel) (by decide +kernel)
theorem wf_X10_22 : Cond.fieldLink RX10 22 "AlmanacOffice" "state" "LAlmanacOffice$State;" ∈ GW := gw_at3 178 (by decide +kernel) (by decide +kernel)
theorem wf_X10_26 : Cond.fieldLink RX10 26 "AlmanacOffice" "draft" "LAlmanacOffice$State;" ∈ GW := gw_at3 179 (by decide +kernel) (by decide +kernel)
theorem wf_X10_32 : Cond.fieldLink RX10 32 "AlmanacOffice" "history" "LAlmanacOffice$History;" ∈ GW := gw_at3 180 (by decide +kernel) (by decide +kernel)
theorem wf_X10_36 : Cond.fieldLink RX10 36 "AlmanacOffice" "slots" "[LAlmanacOffice$State;" ∈ GW := gw_at3 181 (by decide +kernel) (by decide +kernel)
theorem wf_X10_40 : Cond.fieldLink RX10 40 "AlmanacOffice" "slotIsFull" "[Z" ∈ GW := gw_at3 182 (by decide +kernel) (by decide +kernel)
theorem wf_X10_44 : Cond.fieldLink RX10 44 "AlmanacOffice" "errorCode" "I" ∈ GW := gw_at3 183 (by decide +kernel) (by decide +kernel)
theorem wf_X10_48 : Cond.fieldLink RX10 48 "AlmanacOffice" "errorPosition" "I" ∈ GW := gw_at3 184 (by decide +kernel) (by decide +kernel)
theorem wl_L_160 : Cond.methodLink RL 160 yX10_errorCode ∈ GW := gw_at3 204 (by decide +kernel) (by decide +kernel)
theorem wn_X10_errorCode : Cond.instanceMethod yX10_errorCode ∈ GW := gw_at3 205 (by decide +kernel) (by decide +kernel)
theorem we_X10_errorCode : Cond.selects RX10 yX10_errorCode yX10_errorCode ∈ GW := gw_at3 206 (by decide +kernel) (by decide +kernel)
theorem wc_X10_errorCode : Cond.code yX10_errorCode cX10_errorCode 1 (some FieldType.int) ∈ GW := gw_at3 207 (by decide +kernel) (by decide +kernel)
theorem wl_L_164 : Cond.methodLink RL 164 yX10_errorPosition ∈ GW := gw_at3 208 (by decide +kernel) (by decide +kernel)
theorem wn_X10_errorPosition : Cond.instanceMethod yX10_errorPosition ∈ GW := gw_at3 209 (by decide +kernel) (by decide +kernel)
theorem we_X10_errorPosition : Cond.selects RX10 yX10_errorPosition yX10_errorPosition ∈ GW := gw_at3 210 (by decide +kernel) (by decide +kernel)
theorem wc_X10_errorPosition : Cond.code yX10_errorPosition cX10_errorPosition 1 (some FieldType.int) ∈ GW := gw_at3 211 (by decide +kernel) (by decide +kernel)
theorem wl_L_168 : Cond.methodLink RL 168 yX10_day ∈ GW := gw_at3 212 (by decide +kernel) (by decide +kernel)
theorem wn_X10_day : Cond.instanceMethod yX10_day ∈ GW := gw_at3 213 (by decide +kernel) (by decide +kernel)
theorem we_X10_day : Cond.selects RX10 yX10_day yX10_day ∈ GW := gw_at3 214 (by decide +kernel) (by decide +kernel)
theorem wc_X10_day : Cond.code yX10_day cX10_day 1 (some FieldType.int) ∈ GW := gw_at3 215 (by decide +kernel) (by decide +kernel)
theorem wl_L_172 : Cond.methodLink RL 172 yX10_seed ∈ GW := gw_at3 216 (by decide +kernel) (by decide +kernel)
theorem wn_X10_seed : Cond.instanceMethod yX10_seed ∈ GW := gw_at3 217 (by decide +kernel) (by decide +kernel)
theorem we_X10_seed : Cond.selects RX10 yX10_seed yX10_seed ∈ GW := gw_at3 218 (by decide +kernel) (by decide +kernel)
theorem wc_X10_seed : Cond.code yX10_seed cX10_seed 1 (some FieldType.int) ∈ GW := gw_at3 219 (by decide +kernel) (by decide +kernel)
theorem wl_L_176 : Cond.methodLink RL 176 yX10_coins ∈ GW := gw_at3 220 (by decide +kernel) (by decide +kernel)
theorem wn_X10_coins : Cond.instanceMethod yX10_coins ∈ GW := gw_at3 221 (by decide +kernel) (by decide +kernel)
theorem we_X10_coins : Cond.selects RX10 yX10_coins yX10_coins ∈ GW := gw_at3 222 (by decide +kernel) (by decide +kernel)
theorem wc_X10_coins : Cond.code yX10_coins cX10_coins 1 (some FieldType.int) ∈ GW := gw_at3 223 (by decide +kernel) (by decide +kernel)
theorem wl_L_180 : Cond.methodLink RL 180 yX10_villageCount ∈ GW := gw_at3 224 (by decide +kernel) (by decide +kernel)
theorem wn_X10_villageCount : Cond.instanceMethod yX10_villageCount ∈ GW := gw_at3 225 (by decide +kernel) (by decide +kernel)
theorem we_X10_villageCount : Cond.selects RX10 yX10_villageCount yX10_villageCount ∈ GW := gw_at3 226 (by decide +kernel) (by decide +kernel)
theorem wc_X10_villageCount : Cond.code yX10_villageCount cX10_villageCount 1 (some FieldType.int) ∈ GW := gw_at3 227 (by decide +kernel) (by decide +kernel)
theorem wl_L_184 : Cond.methodLink RL 184 yX10_fairCount ∈ GW := gw_at3 228 (by decide +kernel) (by decide +kernel)
theorem wn_X10_fairCount : Cond.instanceMethod yX10_fairCount ∈ GW := gw_at3 229 (by decide +kernel) (by decide +kernel)
theorem we_X10_fairCount : Cond.selects RX10 yX10_fairCount yX10_fairCount ∈ GW := gw_at3 230 (by decide +kernel) (by decide +kernel)
theorem wc_X10_fairCount : Cond.code yX10_fairCount cX10_fairCount 1 (some FieldType.int) ∈ GW := gw_at3 231 (by decide +kernel) (by decide +kernel)
theorem wl_L_188 : Cond.methodLink RL 188 yX10_findName ∈ GW := gw_at3 232 (by decide +kernel) (by decide +kernel)
theorem wn_X10_findName : Cond.instanceMethod yX10_findName ∈ GW := gw_at3 233 (by decide +kernel) (by decide +kernel)
theorem we_X10_findName : Cond.selects RX10 yX10_findName yX10_findName ∈ GW := gw_at3 234 (by decide +kernel) (by decide +kernel)
theorem wc_X10_findName : Cond.code yX10_findName cX10_findName 4 (some FieldType.int) ∈ GW := gw_at3 235 (by decide +kernel) (by decide +kernel)
theorem wl_X10_130 : Cond.methodLink RX10 130 yX1_nameBetween ∈ GW := gw_at3 236 (by decide +kernel) (by decide +kernel)
theorem wl_X10_134 : Cond.methodLink RX10 134 yX9_numberOf ∈ GW := gw_at3 237 (by decide +kernel) (by decide +kernel)
theorem wl_X10_138 : Cond.methodLink RX10 138 yX2_numberOf ∈ GW := gw_at3 238 (by decide +kernel) (by decide +kernel)
theorem wl_L_226 : Cond.methodLink RL 226 yX10_forecastCount ∈ GW := gw_at3 239 (by decide +kernel) (by decide +kernel)
theorem wn_X10_forecastCount : Cond.instanceMethod yX10_forecastCount ∈ GW := gw_at4 0 (by decide +kernel) (by decide +kernel)
theorem we_X10_forecastCount : Cond.selects RX10 yX10_forecastCount yX10_forecastCount ∈ GW := gw_at4 1 (by decide +kernel) (by decide +kernel)
theorem wc_X10_forecastCount : Cond.code yX10_forecastCount cX10_forecastCount 1 (some FieldType.int) ∈ GW := gw_at4 2 (by decide +kernel) (by decide +kernel)
theorem wl_L_249 : Cond.methodLink RL 249 yX10_pageCount ∈ GW := gw_at4 3 (by decide +kernel) (by decide +kernel)
theorem wn_X10_pageCount : Cond.instanceMethod yX10_pageCount ∈ GW := gw_at4 4 (by decide +kernel) (by decide +kernel)
theorem we_X10_pageCount : Cond.selects RX10 yX10_pageCount yX10_pageCount ∈ GW := gw_at4 5 (by decide +kernel) (by decide +kernel)
theorem wc_X10_pageCount : Cond.code yX10_pageCount cX10_pageCount 1 (some FieldType.int) ∈ GW := gw_at4 6 (by decide +kernel) (by decide +kernel)
theorem wl_X10_211 : Cond.methodLink RX10 211 yX0_pages ∈ GW := gw_at4 7 (by decide +kernel) (by decide +kernel)
theorem wl_L_262 : Cond.methodLink RL 262 yX10_likeliestWeather ∈ GW := gw_at4 8 (by decide +kernel) (by decide +kernel)
theorem wn_X10_likeliestWeather : Cond.instanceMethod yX10_likeliestWeather ∈ GW := gw_at4 9 (by decide +kernel) (by decide +kernel)
theorem we_X10_likeliestWeather : Cond.selects RX10 yX10_likeliestWeather yX10_likeliestWeather ∈ GW := gw_at4 10 (by decide +kernel) (by decide +kernel)
theorem wc_X10_likeliestWeather : Cond.code yX10_likeliestWeather cX10_likeliestWeather 1 (some FieldType.int) ∈ GW := gw_at4 11 (by decide +kernel) (by decide +kernel)
theorem wl_X10_226 : Cond.methodLink RX10 226 yX7_firstGreatest ∈ GW := gw_at4 12 (by decide +kernel) (by decide +kernel)
theorem wl_L_269 : Cond.methodLink RL 269 yX10_regretCount ∈ GW := gw_at4 13 (by decide +kernel) (by decide +kernel)
theorem wn_X10_regretCount : Cond.instanceMethod yX10_regretCount ∈ GW := gw_at4 14 (by decide +kernel) (by decide +kernel)
theorem we_X10_regretCount : Cond.selects RX10 yX10_regretCount yX10_regretCount ∈ GW := gw_at4 15 (by decide +kernel) (by decide +kernel)
theorem wc_X10_regretCount : Cond.code yX10_regretCount cX10_regretCount 1 (some FieldType.int) ∈ GW := gw_at4 16 (by decide +kernel) (by decide +kernel)
theorem wl_L_276 : Cond.methodLink RL 276 yX10_hits ∈ GW := gw_at4 17 (by decide +kernel) (by decide +kernel)
theorem wn_X10_hits : Cond.instanceMethod yX10_hits ∈ GW := gw_at4 18 (by decide +kernel) (by decide +kernel)
theorem we_X10_hits : Cond.selects RX10 yX10_hits yX10_hits ∈ GW := gw_at4 19 (by decide +kernel) (by decide +kernel)
theorem wc_X10_hits : Cond.code yX10_hits cX10_hits 1 (some FieldType.int) ∈ GW := gw_at4 20 (by decide +kernel) (by decide +kernel)
theorem wl_L_280 : Cond.methodLink RL 280 yX10_regrets ∈ GW := gw_at4 21 (by decide +kernel) (by decide +kernel)
theorem wn_X10_regrets : Cond.instanceMethod yX10_regrets ∈ GW := gw_at4 22 (by decide +kernel) (by decide +kernel)
theorem we_X10_regrets : Cond.selects RX10 yX10_regrets yX10_regrets ∈ GW := gw_at4 23 (by decide +kernel) (by decide +kernel)
theorem wc_X10_regrets : Cond.code yX10_regrets cX10_regrets 1 (some FieldType.int) ∈ GW := gw_at4 24 (by decide +kernel) (by decide +kernel)
theorem wl_L_284 : Cond.methodLink RL 284 yX10_retractions ∈ GW := gw_at4 25 (by decide +kernel) (by decide +kernel)
theorem wn_X10_retractions : Cond.instanceMethod yX10_retractions ∈ GW := gw_at4 26 (by decide +kernel) (by decide +kernel)
theorem we_X10_retractions : Cond.selects RX10 yX10_retractions yX10_retractions ∈ GW := gw_at4 27 (by decide +kernel) (by decide +kernel)
theorem wc_X10_retractions : Cond.code yX10_retractions cX10_retractions 1 (some FieldType.int) ∈ GW := gw_at4 28 (by decide +kernel) (by decide +kernel)
theorem wl_L_294 : Cond.methodLink RL 294 yX10_daysUntilEmpty ∈ GW := gw_at4 29 (by decide +kernel) (by decide +kernel)
theorem wn_X10_daysUntilEmpty : Cond.instanceMethod yX10_daysUntilEmpty ∈ GW := gw_at4 30 (by decide +kernel) (by decide +kernel)
theorem we_X10_daysUntilEmpty : Cond.selects RX10 yX10_daysUntilEmpty yX10_daysUntilEmpty ∈ GW := gw_at4 31 (by decide +kernel) (by decide +kernel)
theorem wc_X10_daysUntilEmpty : Cond.code yX10_daysUntilEmpty cX10_daysUntilEmpty 1 (some FieldType.int) ∈ GW := gw_at4 32 (by decide +kernel) (by decide +kernel)
theorem wl_X10_261 : Cond.methodLink RX10 261 yX0_latestDay ∈ GW := gw_at4 33 (by decide +kernel) (by decide +kernel)
theorem wn_X0_latestDay : Cond.instanceMethod yX0_latestDay ∈ GW := gw_at4 34 (by decide +kernel) (by decide +kernel)
theorem we_X0_latestDay : Cond.selects RX0 yX0_latestDay yX0_latestDay ∈ GW := gw_at4 35 (by decide +kernel) (by decide +kernel)
theorem wc_X0_latestDay : Cond.code yX0_latestDay cX0_latestDay 3 (some FieldType.int) ∈ GW := gw_at4 36 (by decide +kernel) (by decide +kernel)
theorem wl_X0_57 : Cond.methodLink RX0 57 Lib.Math.max.name ∈ GW := gw_at4 37 (by decide +kernel) (by decide +kernel)
theorem wst_Lib_Math_max_name : Cond.static Lib.Math.max.name ∈ GW := gw_at4 38 (by decide +kernel) (by decide +kernel)
theorem wc_Lib_Math_max_name : Cond.code Lib.Math.max.name cJ9_max_7cf53 2 (some FieldType.int) ∈ GW := gw_at4 39 (by decide +kernel) (by decide +kernel)
theorem wl_L_298 : Cond.methodLink RL 298 yX10_bestSeller ∈ GW := gw_at4 40 (by decide +kernel) (by decide +kernel)
theorem wn_X10_bestSeller : Cond.instanceMethod yX10_bestSeller ∈ GW := gw_at4 41 (by decide +kernel) (by decide +kernel)
theorem we_X10_bestSeller : Cond.selects RX10 yX10_bestSeller yX10_bestSeller ∈ GW := gw_at4 42 (by decide +kernel) (by decide +kernel)
theorem wc_X10_bestSeller : Cond.code yX10_bestSeller cX10_bestSeller 2 (some FieldType.int) ∈ GW := gw_at4 43 (by decide +kernel) (by decide +kernel)
theorem wl_X10_264 : Cond.methodLink RX10 264 yX0_placeOfBestSeller ∈ GW := gw_at4 44 (by decide +kernel) (by decide +kernel)
theorem wn_X0_placeOfBestSeller : Cond.instanceMethod yX0_placeOfBestSeller ∈ GW := gw_at4 45 (by decide +kernel) (by decide +kernel)
theorem we_X0_placeOfBestSeller : Cond.selects RX0 yX0_placeOfBestSeller yX0_placeOfBestSeller ∈ GW := gw_at4 46 (by decide +kernel) (by decide +kernel)
theorem wc_X0_placeOfBestSeller : Cond.code yX0_placeOfBestSeller cX0_placeOfBestSeller 3 (some FieldType.int) ∈ GW := gw_at4 47 (by decide +kernel) (by decide +kernel)
theorem wl_X10_208 : Cond.methodLink RX10 208 yX0_labelAt ∈ GW := gw_at4 48 (by decide +kernel) (by decide +kernel)
theorem wn_X0_labelAt : Cond.instanceMethod yX0_labelAt ∈ GW := gw_at4 49 (by decide +kernel) (by decide +kernel)
theorem we_X0_labelAt : Cond.selects RX0 yX0_labelAt yX0_labelAt ∈ GW := gw_at4 50 (by decide +kernel) (by decide +kernel)
theorem wc_X0_labelAt : Cond.code yX0_labelAt cX0_labelAt 2 (some FieldType.int) ∈ GW := gw_at4 51 (by decide +kernel) (by decide +kernel)
theorem wl_L_302 : Cond.methodLink RL 302 yX10_copyDifference ∈ GW := gw_at4 53 (by decide +kernel) (by decide +kernel)
theorem wn_X10_copyDifference : Cond.instanceMethod yX10_copyDifference ∈ GW := gw_at4 54 (by decide +kernel) (by decide +kernel)
theorem we_X10_copyDifference : Cond.selects RX10 yX10_copyDifference yX10_copyDifference ∈ GW := gw_at4 55 (by decide +kernel) (by decide +kernel)
theorem wc_X10_copyDifference : Cond.code yX10_copyDifference cX10_copyDifference 1 (some FieldType.int) ∈ GW := gw_at4 56 (by decide +kernel) (by decide +kernel)
theorem wl_X10_270 : Cond.methodLink RX10 270 yX0_copies ∈ GW := gw_at4 57 (by decide +kernel) (by decide +kernel)
theorem wn_X0_copies : Cond.instanceMethod yX0_copies ∈ GW := gw_at4 58 (by decide +kernel) (by decide +kernel)
theorem we_X0_copies : Cond.selects RX0 yX0_copies yX0_copies ∈ GW := gw_at4 59 (by decide +kernel) (by decide +kernel)
theorem wc_X0_copies : Cond.code yX0_copies cX0_copies 3 (some FieldType.int) ∈ GW := gw_at4 60 (by decide +kernel) (by decide +kernel)
theorem wl_L_306 : Cond.methodLink RL 306 yX10_coinDifference ∈ GW := gw_at4 61 (by decide +kernel) (by decide +kernel)
theorem wn_X10_coinDifference : Cond.instanceMethod yX10_coinDifference ∈ GW := gw_at4 62 (by decide +kernel) (by decide +kernel)
theorem we_X10_coinDifference : Cond.selects RX10 yX10_coinDifference yX10_coinDifference ∈ GW := gw_at4 63 (by decide +kernel) (by decide +kernel)
theorem wc_X10_coinDifference : Cond.code yX10_coinDifference cX10_coinDifference 1 (some FieldType.int) ∈ GW := gw_at4 64 (by decide +kernel) (by decide +kernel)
theorem wl_L_310 : Cond.methodLink RL 310 yX10_bookErrors ∈ GW := gw_at4 65 (by decide +kernel) (by decide +kernel)
theorem wn_X10_bookErrors : Cond.instanceMethod yX10_bookErrors ∈ GW := gw_at4 66 (by decide +kernel) (by decide +kernel)
theorem we_X10_bookErrors : Cond.selects RX10 yX10_bookErrors yX10_bookErrors ∈ GW := gw_at4 67 (by decide +kernel) (by decide +kernel)
theorem wc_X10_bookErrors : Cond.code yX10_bookErrors cX10_bookErrors 1 (some FieldType.int) ∈ GW := gw_at4 68 (by decide +kernel) (by decide +kernel)
theorem wl_X10_282 : Cond.methodLink RX10 282 yX0_errors ∈ GW := gw_at4 69 (by decide +kernel) (by decide +kernel)
theorem wn_X0_errors : Cond.instanceMethod yX0_errors ∈ GW := gw_at4 70 (by decide +kernel) (by decide +kernel)
theorem we_X0_errors : Cond.selects RX0 yX0_errors yX0_errors ∈ GW := gw_at4 71 (by decide +kernel) (by decide +kernel)
theorem wc_X0_errors : Cond.code yX0_errors cX0_errors 3 (some FieldType.int) ∈ GW := gw_at4 72 (by decide +kernel) (by decide +kernel)
theorem wl_X0_60 : Cond.methodLink RX0 60 yX0_placeOf ∈ GW := gw_at4 73 (by decide +kernel) (by decide +kernel)
theorem wl_L_314 : Cond.methodLink RL 314 yX10_hitShare ∈ GW := gw_at4 74 (by decide +kernel) (by decide +kernel)
theorem wn_X10_hitShare : Cond.instanceMethod yX10_hitShare ∈ GW := gw_at4 75 (by decide +kernel) (by decide +kernel)
theorem we_X10_hitShare : Cond.selects RX10 yX10_hitShare yX10_hitShare ∈ GW := gw_at4 76 (by decide +kernel) (by decide +kernel)
theorem wc_X10_hitShare : Cond.code yX10_hitShare cX10_hitShare 2 (some FieldType.float) ∈ GW := gw_at4 77 (by decide +kernel) (by decide +kernel)
theorem wl_L_319 : Cond.methodLink RL 319 yX10_averageTrust ∈ GW := gw_at4 78 (by decide +kernel) (by decide +kernel)
theorem wn_X10_averageTrust : Cond.instanceMethod yX10_averageTrust ∈ GW := gw_at4 79 (by decide +kernel) (by decide +kernel)
theorem we_X10_averageTrust : Cond.selects RX10 yX10_averageTrust yX10_averageTrust ∈ GW := gw_at4 80 (by decide +kernel) (by decide +kernel)
theorem wc_X10_averageTrust : Cond.code yX10_averageTrust cX10_averageTrust 2 (some FieldType.double) ∈ GW := gw_at4 81 (by decide +kernel) (by decide +kernel)
theorem wl_X10_285 : Cond.methodLink RX10 285 yX9_sumOfTrusts ∈ GW := gw_at4 82 (by decide +kernel) (by decide +kernel)
theorem wn_X9_sumOfTrusts : Cond.instanceMethod yX9_sumOfTrusts ∈ GW := gw_at4 83 (by decide +kernel) (by decide +kernel)
theorem we_X9_sumOfTrusts : Cond.selects RX9 yX9_sumOfTrusts yX9_sumOfTrusts ∈ GW := gw_at4 84 (by decide +kernel) (by decide +kernel)
theorem wc_X9_sumOfTrusts : Cond.code yX9_sumOfTrusts cX9_sumOfTrusts 3 (some FieldType.int) ∈ GW := gw_at4 85 (by decide +kernel) (by decide +kernel)
theorem wl_L_143 : Cond.methodLink RL 143 yL_appendInput ∈ GW := gw_at4 86 (by decide +kernel) (by decide +kernel)
theorem wst_L_appendInput : Cond.static yL_appendInput ∈ GW := gw_at4 87 (by decide +kernel) (by decide +kernel)
theorem wc_L_appendInput : Cond.codeWith yL_appendInput cL_appendInput 8 (some FieldType.int) [(0, 16, 19, 13)] ∈ GW := gw_at4 88 (by decide +kernel) (by decide +kernel)
theorem wk_L_13 : Cond.classLink RL 13 "java/lang/IllegalStateException" ∈ GW := gw_at4 89 (by decide +kernel) (by decide +kernel)
theorem wl_L_7 : Cond.methodLink RL 7 yX10_appendInput ∈ GW := gw_at4 90 (by decide +kernel) (by decide +kernel)
theorem wn_X10_appendInput : Cond.instanceMethod yX10_appendInput ∈ GW := gw_at4 91 (by decide +kernel) (by decide +kernel)
theorem we_X10_appendInput : Cond.selects RX10 yX10_appendInput yX10_appendInput ∈ GW := gw_at4 92 (by decide +kernel) (by decide +kernel)
theorem wc_X10_appendInput : Cond.code yX10_appendInput cX10_appendInput 6 (some FieldType.int) ∈ GW := gw_at4 93 (by decide +kernel) (by decide +kernel)
theorem wl_X10_70 : Cond.methodLink RX10 70 yX1_hasRoomFor ∈ GW := gw_at4 94 (by decide +kernel) (by decide +kernel)
theorem wn_X1_hasRoomFor : Cond.instanceMethod yX1_hasRoomFor ∈ GW := gw_at4 95 (by decide +kernel) (by decide +kernel)
theorem we_X1_hasRoomFor : Cond.selects RX1 yX1_hasRoomFor yX1_hasRoomFor ∈ GW := gw_at4 96 (by decide +kernel) (by decide +kernel)
theorem wc_X1_hasRoomFor : Cond.code yX1_hasRoomFor cX1_hasRoomFor 2 (some FieldType.boolean) ∈ GW := gw_at4 97 (by decide +kernel) (by decide +kernel)
theorem wk_X10_74 : Cond.classLink RX10 74 "java/lang/IllegalStateException" ∈ GW := gw_at4 98 (by decide +kernel) (by decide +kernel)
theorem wl_X10_77 : Cond.methodLink RX10 77 yX1_putFour ∈ GW := gw_at4 162 (by decide +kernel) (by decide +kernel)
theorem wn_X1_putFour : Cond.instanceMethod yX1_putFour ∈ GW := gw_at4 163 (by decide +kernel) (by decide +kernel)
theorem we_X1_putFour : Cond.selects RX1 yX1_putFour yX1_putFour ∈ GW := gw_at4 164 (by decide +kernel) (by decide +kernel)
theorem wc_X1_putFour : Cond.code yX1_putFour cX1_putFour 3 none ∈ GW := gw_at4 165 (by decide +kernel) (by decide +kernel)
theorem wl_L_152 : Cond.methodLink RL 152 yL_truncateInput ∈ GW := gw_at4 166 (by decide +kernel) (by decide +kernel)
theorem wst_L_truncateInput : Cond.static yL_truncateInput ∈ GW := gw_at4 167 (by decide +kernel) (by decide +kernel)
theorem wc_L_truncateInput : Cond.codeWith yL_truncateInput cL_truncateInput 4 (some FieldType.int) [(0, 9, 12, 19)] ∈ GW := gw_at4 168 (by decide +kernel) (by decide +kernel)
theorem wk_L_19 : Cond.classLink RL 19 "java/lang/IllegalArgumentException" ∈ GW := gw_at4 169 (by decide +kernel) (by decide +kernel)
theorem wl_L_15 : Cond.methodLink RL 15 yX10_truncateInput ∈ GW := gw_at4 170 (by decide +kernel) (by decide +kernel)
theorem wn_X10_truncateInput : Cond.instanceMethod yX10_truncateInput ∈ GW := gw_at4 171 (by decide +kernel) (by decide +kernel)
theorem we_X10_truncateInput : Cond.selects RX10 yX10_truncateInput yX10_truncateInput ∈ GW := gw_at4 172 (by decide +kernel) (by decide +kernel)
theorem wc_X10_truncateInput : Cond.code yX10_truncateInput cX10_truncateInput 2 (some FieldType.int) ∈ GW := gw_at4 173 (by decide +kernel) (by decide +kernel)
theorem wl_X10_84 : Cond.methodLink RX10 84 yX10_requireRange ∈ GW := gw_at4 174 (by decide +kernel) (by decide +kernel)
theorem wn_X10_requireRange : Cond.instanceMethod yX10_requireRange ∈ GW := gw_at4 176 (by decide +kernel) (by decide +kernel)
theorem wc_X10_requireRange : Cond.code yX10_requireRange cX10_requireRange 4 none ∈ GW := gw_at4 177 (by decide +kernel) (by decide +kernel)
theorem wl_X10_201 : Cond.methodLink RX10 201 yX10_isBetween ∈ GW := gw_at4 178 (by decide +kernel) (by decide +kernel)
theorem wk_X10_93 : Cond.classLink RX10 93 "java/lang/IllegalArgumentException" ∈ GW := gw_at4 179 (by decide +kernel) (by decide +kernel)
theorem wl_L_156 : Cond.methodLink RL 156 yL_load ∈ GW := gw_at4 194 (by decide +kernel) (by decide +kernel)
theorem wst_L_load : Cond.static yL_load ∈ GW := gw_at4 195 (by decide +kernel) (by decide +kernel)
theorem wc_L_load : Cond.codeWith yL_load cL_load 3 (some FieldType.int) [(0, 8, 11, 19)] ∈ GW := gw_at4 196 (by decide +kernel) (by decide +kernel)
theorem wl_L_21 : Cond.methodLink RL 21 yX10_load ∈ GW := gw_at4 197 (by decide +kernel) (by decide +kernel)
theorem wn_X10_load : Cond.instanceMethod yX10_load ∈ GW := gw_at4 198 (by decide +kernel) (by decide +kernel)
theorem we_X10_load : Cond.selects RX10 yX10_load yX10_load ∈ GW := gw_at4 199 (by decide +kernel) (by decide +kernel)
theorem wc_X10_load : Cond.code yX10_load cX10_load 3 (some FieldType.int) ∈ GW := gw_at4 200 (by decide +kernel) (by decide +kernel)
theorem wl_X10_88 : Cond.methodLink RX10 88 yX8_clear ∈ GW := gw_at4 201 (by decide +kernel) (by decide +kernel)
theorem wn_X8_clear : Cond.instanceMethod yX8_clear ∈ GW := gw_at4 202 (by decide +kernel) (by decide +kernel)
theorem we_X8_clear : Cond.selects RX8 yX8_clear yX8_clear ∈ GW := gw_at4 203 (by decide +kernel) (by decide +kernel)
theorem wc_X8_clear : Cond.code yX8_clear cX8_clear 2 none ∈ GW := gw_at4 204 (by decide +kernel) (by decide +kernel)
theorem wl_X10_96 : Cond.methodLink RX10 96 yX3_remember ∈ GW := gw_at4 205 (by decide +kernel) (by decide +kernel)
theorem wn_X3_remember : Cond.instanceMethod yX3_remember ∈ GW := gw_at4 206 (by decide +kernel) (by decide +kernel)
theorem we_X3_remember : Cond.selects RX3 yX3_remember yX3_remember ∈ GW := gw_at4 207 (by decide +kernel) (by decide +kernel)
theorem wc_X3_remember : Cond.code yX3_remember cX3_remember 2 none ∈ GW := gw_at4 208 (by decide +kernel) (by decide +kernel)
theorem wl_X3_23 : Cond.methodLink RX3 23 yX8_takeFrom ∈ GW := gw_at4 209 (by decide +kernel) (by decide +kernel)
theorem wl_L_192 : Cond.methodLink RL 192 yL_peopleOf ∈ GW := gw_at4 210 (by decide +kernel) (by decide +kernel)
theorem wst_L_peopleOf : Cond.static yL_peopleOf ∈ GW := gw_at4 211 (by decide +kernel) (by decide +kernel)
theorem wc_L_peopleOf : Cond.codeWith yL_peopleOf cL_peopleOf 4 (some FieldType.int) [(0, 9, 12, 28)] ∈ GW := gw_at4 212 (by decide +kernel) (by decide +kernel)
theorem wk_L_28 : Cond.classLink RL 28 "java/lang/IndexOutOfBoundsException" ∈ GW := gw_at4 213 (by decide +kernel) (by decide +kernel)
theorem wl_L_25 : Cond.methodLink RL 25 yX10_peopleOf ∈ GW := gw_at4 214 (by decide +kernel) (by decide +kernel)
theorem wn_X10_peopleOf : Cond.instanceMethod yX10_peopleOf ∈ GW := gw_at4 215 (by decide +kernel) (by decide +kernel)
theorem we_X10_peopleOf : Cond.selects RX10 yX10_peopleOf yX10_peopleOf ∈ GW := gw_at4 216 (by decide +kernel) (by decide +kernel)
theorem wc_X10_peopleOf : Cond.code yX10_peopleOf cX10_peopleOf 2 (some FieldType.int) ∈ GW := gw_at4 217 (by decide +kernel) (by decide +kernel)
theorem wl_X10_139 : Cond.methodLink RX10 139 yX10_requireVillage ∈ GW := gw_at4 218 (by decide +kernel) (by decide +kernel)
theorem wn_X10_requireVillage : Cond.instanceMethod yX10_requireVillage ∈ GW := gw_at4 220 (by decide +kernel) (by decide +kernel)
theorem wc_X10_requireVillage : Cond.code yX10_requireVillage cX10_requireVillage 2 none ∈ GW := gw_at4 221 (by decide +kernel) (by decide +kernel)
theorem wl_X10_319 : Cond.methodLink RX10 319 yX9_has ∈ GW := gw_at4 222 (by decide +kernel) (by decide +kernel)
theorem wk_X10_243 : Cond.classLink RX10 243 "java/lang/IndexOutOfBoundsException" ∈ GW := gw_at4 223 (by decide +kernel) (by decide +kernel)
theorem wl_L_195 : Cond.methodLink RL 195 yL_trustOf ∈ GW := gw_at4 238 (by decide +kernel) (by decide +kernel)
theorem wst_L_trustOf : Cond.static yL_trustOf ∈ GW := gw_at4 239 (by decide +kernel) (by decide +kernel)
theorem wc_L_trustOf : Cond.codeWith yL_trustOf cL_trustOf 4 (some FieldType.int) [(0, 9, 12, 28)] ∈ GW := gw_at5 0 (by decide +kernel) (by decide +kernel)
theorem wl_L_30 : Cond.methodLink RL 30 yX10_trustOf ∈ GW := gw_at5 1 (by decide +kernel) (by decide +kernel)
theorem wn_X10_trustOf : Cond.instanceMethod yX10_trustOf ∈ GW := gw_at5 2 (by decide +kernel) (by decide +kernel)
theorem we_X10_trustOf : Cond.selects RX10 yX10_trustOf yX10_trustOf ∈ GW := gw_at5 3 (by decide +kernel) (by decide +kernel)
theorem wc_X10_trustOf : Cond.code yX10_trustOf cX10_trustOf 2 (some FieldType.int) ∈ GW := gw_at5 4 (by decide +kernel) (by decide +kernel)
theorem wl_L_198 : Cond.methodLink RL 198 yL_forecastsFor ∈ GW := gw_at5 5 (by decide +kernel) (by decide +kernel)
theorem wst_L_forecastsFor : Cond.static yL_forecastsFor ∈ GW := gw_at5 6 (by decide +kernel) (by decide +kernel)
theorem wc_L_forecastsFor : Cond.codeWith yL_forecastsFor cL_forecastsFor 4 (some FieldType.int) [(0, 9, 12, 28)] ∈ GW := gw_at5 7 (by decide +kernel) (by decide +kernel)
theorem wl_L_33 : Cond.methodLink RL 33 yX10_forecastsFor ∈ GW := gw_at5 8 (by decide +kernel) (by decide +kernel)
theorem wn_X10_forecastsFor : Cond.instanceMethod yX10_forecastsFor ∈ GW := gw_at5 9 (by decide +kernel) (by decide +kernel)
theorem we_X10_forecastsFor : Cond.selects RX10 yX10_forecastsFor yX10_forecastsFor ∈ GW := gw_at5 10 (by decide +kernel) (by decide +kernel)
theorem wc_X10_forecastsFor : Cond.code yX10_forecastsFor cX10_forecastsFor 2 (some FieldType.int) ∈ GW := gw_at5 11 (by decide +kernel) (by decide +kernel)
theorem wl_X10_153 : Cond.methodLink RX10 153 yX0_countFor ∈ GW := gw_at5 12 (by decide +kernel) (by decide +kernel)
theorem wn_X0_countFor : Cond.instanceMethod yX0_countFor ∈ GW := gw_at5 13 (by decide +kernel) (by decide +kernel)
theorem we_X0_countFor : Cond.selects RX0 yX0_countFor yX0_countFor ∈ GW := gw_at5 14 (by decide +kernel) (by decide +kernel)
theorem wc_X0_countFor : Cond.code yX0_countFor cX0_countFor 4 (some FieldType.int) ∈ GW := gw_at5 15 (by decide +kernel) (by decide +kernel)
theorem wl_L_201 : Cond.methodLink RL 201 yL_fairVillage ∈ GW := gw_at5 16 (by decide +kernel) (by decide +kernel)
theorem wst_L_fairVillage : Cond.static yL_fairVillage ∈ GW := gw_at5 17 (by decide +kernel) (by decide +kernel)
theorem wc_L_fairVillage : Cond.codeWith yL_fairVillage cL_fairVillage 4 (some FieldType.int) [(0, 9, 12, 28)] ∈ GW := gw_at5 18 (by decide +kernel) (by decide +kernel)
theorem wl_L_36 : Cond.methodLink RL 36 yX10_fairVillage ∈ GW := gw_at5 19 (by decide +kernel) (by decide +kernel)
theorem wn_X10_fairVillage : Cond.instanceMethod yX10_fairVillage ∈ GW := gw_at5 20 (by decide +kernel) (by decide +kernel)
theorem we_X10_fairVillage : Cond.selects RX10 yX10_fairVillage yX10_fairVillage ∈ GW := gw_at5 21 (by decide +kernel) (by decide +kernel)
theorem wc_X10_fairVillage : Cond.code yX10_fairVillage cX10_fairVillage 2 (some FieldType.int) ∈ GW := gw_at5 22 (by decide +kernel) (by decide +kernel)
theorem wl_X10_158 : Cond.methodLink RX10 158 yX10_requireFair ∈ GW := gw_at5 23 (by decide +kernel) (by decide +kernel)
theorem wn_X10_requireFair : Cond.instanceMethod yX10_requireFair ∈ GW := gw_at5 25 (by decide +kernel) (by decide +kernel)
theorem wc_X10_requireFair : Cond.code yX10_requireFair cX10_requireFair 2 none ∈ GW := gw_at5 26 (by decide +kernel) (by decide +kernel)
theorem wl_X10_322 : Cond.methodLink RX10 322 yX2_has ∈ GW := gw_at5 27 (by decide +kernel) (by decide +kernel)
theorem wn_X2_has : Cond.instanceMethod yX2_has ∈ GW := gw_at5 28 (by decide +kernel) (by decide +kernel)
theorem we_X2_has : Cond.selects RX2 yX2_has yX2_has ∈ GW := gw_at5 29 (by decide +kernel) (by decide +kernel)
theorem wc_X2_has : Cond.code yX2_has cX2_has 2 (some FieldType.boolean) ∈ GW := gw_at5 30 (by decide +kernel) (by decide +kernel)
theorem wl_L_204 : Cond.methodLink RL 204 yL_periodOf ∈ GW := gw_at5 31 (by decide +kernel) (by decide +kernel)
theorem wst_L_periodOf : Cond.static yL_periodOf ∈ GW := gw_at5 32 (by decide +kernel) (by decide +kernel)
theorem wc_L_periodOf : Cond.codeWith yL_periodOf cL_periodOf 4 (some FieldType.int) [(0, 9, 12, 28)] ∈ GW := gw_at5 33 (by decide +kernel) (by decide +kernel)
theorem wl_L_39 : Cond.methodLink RL 39 yX10_periodOf ∈ GW := gw_at5 34 (by decide +kernel) (by decide +kernel)
theorem wn_X10_periodOf : Cond.instanceMethod yX10_periodOf ∈ GW := gw_at5 35 (by decide +kernel) (by decide +kernel)
theorem we_X10_periodOf : Cond.selects RX10 yX10_periodOf yX10_periodOf ∈ GW := gw_at5 36 (by decide +kernel) (by decide +kernel)
theorem wc_X10_periodOf : Cond.code yX10_periodOf cX10_periodOf 2 (some FieldType.int) ∈ GW := gw_at5 37 (by decide +kernel) (by decide +kernel)
theorem wl_L_207 : Cond.methodLink RL 207 yL_stockOf ∈ GW := gw_at5 38 (by decide +kernel) (by decide +kernel)
theorem wst_L_stockOf : Cond.static yL_stockOf ∈ GW := gw_at5 39 (by decide +kernel) (by decide +kernel)
theorem wc_L_stockOf : Cond.codeWith yL_stockOf cL_stockOf 4 (some FieldType.int) [(0, 9, 12, 28)] ∈ GW := gw_at5 40 (by decide +kernel) (by decide +kernel)
theorem wl_L_42 : Cond.methodLink RL 42 yX10_stockOf ∈ GW := gw_at5 41 (by decide +kernel) (by decide +kernel)
theorem wn_X10_stockOf : Cond.instanceMethod yX10_stockOf ∈ GW := gw_at5 42 (by decide +kernel) (by decide +kernel)
theorem we_X10_stockOf : Cond.selects RX10 yX10_stockOf yX10_stockOf ∈ GW := gw_at5 43 (by decide +kernel) (by decide +kernel)
theorem wc_X10_stockOf : Cond.code yX10_stockOf cX10_stockOf 2 (some FieldType.int) ∈ GW := gw_at5 44 (by decide +kernel) (by decide +kernel)
theorem wl_L_210 : Cond.methodLink RL 210 yL_priceOf ∈ GW := gw_at5 45 (by decide +kernel) (by decide +kernel)
theorem wst_L_priceOf : Cond.static yL_priceOf ∈ GW := gw_at5 46 (by decide +kernel) (by decide +kernel)
theorem wc_L_priceOf : Cond.codeWith yL_priceOf cL_priceOf 4 (some FieldType.int) [(0, 9, 12, 28)] ∈ GW := gw_at5 47 (by decide +kernel) (by decide +kernel)
theorem wl_L_45 : Cond.methodLink RL 45 yX10_priceOf ∈ GW := gw_at5 48 (by decide +kernel) (by decide +kernel)
theorem wn_X10_priceOf : Cond.instanceMethod yX10_priceOf ∈ GW := gw_at5 49 (by decide +kernel) (by decide +kernel)
theorem we_X10_priceOf : Cond.selects RX10 yX10_priceOf yX10_priceOf ∈ GW := gw_at5 50 (by decide +kernel) (by decide +kernel)
theorem wc_X10_priceOf : Cond.code yX10_priceOf cX10_priceOf 2 (some FieldType.int) ∈ GW := gw_at5 51 (by decide +kernel) (by decide +kernel)
theorem wl_L_213 : Cond.methodLink RL 213 yL_daysUntilFair ∈ GW := gw_at5 52 (by decide +kernel) (by decide +kernel)
theorem wst_L_daysUntilFair : Cond.static yL_daysUntilFair ∈ GW := gw_at5 53 (by decide +kernel) (by decide +kernel)
theorem wc_L_daysUntilFair : Cond.codeWith yL_daysUntilFair cL_daysUntilFair 4 (some FieldType.int) [(0, 9, 12, 28)] ∈ GW := gw_at5 54 (by decide +kernel) (by decide +kernel)
theorem wl_L_48 : Cond.methodLink RL 48 yX10_daysUntilFair ∈ GW := gw_at5 55 (by decide +kernel) (by decide +kernel)
theorem wn_X10_daysUntilFair : Cond.instanceMethod yX10_daysUntilFair ∈ GW := gw_at5 56 (by decide +kernel) (by decide +kernel)
theorem we_X10_daysUntilFair : Cond.selects RX10 yX10_daysUntilFair yX10_daysUntilFair ∈ GW := gw_at5 57 (by decide +kernel) (by decide +kernel)
theorem wc_X10_daysUntilFair : Cond.code yX10_daysUntilFair cX10_daysUntilFair 2 (some FieldType.int) ∈ GW := gw_at5 58 (by decide +kernel) (by decide +kernel)
theorem wl_X10_172 : Cond.methodLink RX10 172 yX2_daysUntil ∈ GW := gw_at5 59 (by decide +kernel) (by decide +kernel)
theorem wn_X2_daysUntil : Cond.instanceMethod yX2_daysUntil ∈ GW := gw_at5 60 (by decide +kernel) (by decide +kernel)
theorem we_X2_daysUntil : Cond.selects RX2 yX2_daysUntil yX2_daysUntil ∈ GW := gw_at5 61 (by decide +kernel) (by decide +kernel)
theorem wc_X2_daysUntil : Cond.code yX2_daysUntil cX2_daysUntil 4 (some FieldType.int) ∈ GW := gw_at5 62 (by decide +kernel) (by decide +kernel)
theorem wl_L_216 : Cond.methodLink RL 216 yL_oddsOf ∈ GW := gw_at5 63 (by decide +kernel) (by decide +kernel)
theorem wst_L_oddsOf : Cond.static yL_oddsOf ∈ GW := gw_at5 64 (by decide +kernel) (by decide +kernel)
theorem wc_L_oddsOf : Cond.codeWith yL_oddsOf cL_oddsOf 4 (some FieldType.int) [(0, 9, 12, 19)] ∈ GW := gw_at5 65 (by decide +kernel) (by decide +kernel)
theorem wl_L_51 : Cond.methodLink RL 51 yX10_oddsOf ∈ GW := gw_at5 66 (by decide +kernel) (by decide +kernel)
theorem wn_X10_oddsOf : Cond.instanceMethod yX10_oddsOf ∈ GW := gw_at5 67 (by decide +kernel) (by decide +kernel)
theorem we_X10_oddsOf : Cond.selects RX10 yX10_oddsOf yX10_oddsOf ∈ GW := gw_at5 68 (by decide +kernel) (by decide +kernel)
theorem wc_X10_oddsOf : Cond.code yX10_oddsOf cX10_oddsOf 2 (some FieldType.int) ∈ GW := gw_at5 69 (by decide +kernel) (by decide +kernel)
theorem wl_L_219 : Cond.methodLink RL 219 yL_chanceOf ∈ GW := gw_at5 70 (by decide +kernel) (by decide +kernel)
theorem wst_L_chanceOf : Cond.static yL_chanceOf ∈ GW := gw_at5 71 (by decide +kernel) (by decide +kernel)
theorem wc_L_chanceOf : Cond.codeWith yL_chanceOf cL_chanceOf 4 (some FieldType.int) [(0, 8, 11, 19)] ∈ GW := gw_at5 72 (by decide +kernel) (by decide +kernel)
theorem wl_L_54 : Cond.methodLink RL 54 yX10_chanceOf ∈ GW := gw_at5 73 (by decide +kernel) (by decide +kernel)
theorem wn_X10_chanceOf : Cond.instanceMethod yX10_chanceOf ∈ GW := gw_at5 74 (by decide +kernel) (by decide +kernel)
theorem we_X10_chanceOf : Cond.selects RX10 yX10_chanceOf yX10_chanceOf ∈ GW := gw_at5 75 (by decide +kernel) (by decide +kernel)
theorem wc_X10_chanceOf : Cond.code yX10_chanceOf cX10_chanceOf 3 (some FieldType.double) ∈ GW := gw_at5 76 (by decide +kernel) (by decide +kernel)
theorem wl_X10_178 : Cond.methodLink RX10 178 yX7_sumOfOdds ∈ GW := gw_at5 77 (by decide +kernel) (by decide +kernel)
theorem wl_L_223 : Cond.methodLink RL 223 yL_drawnThisYear ∈ GW := gw_at5 78 (by decide +kernel) (by decide +kernel)
theorem wst_L_drawnThisYear : Cond.static yL_drawnThisYear ∈ GW := gw_at5 79 (by decide +kernel) (by decide +kernel)
theorem wc_L_drawnThisYear : Cond.codeWith yL_drawnThisYear cL_drawnThisYear 4 (some FieldType.int) [(0, 9, 12, 19)] ∈ GW := gw_at5 80 (by decide +kernel) (by decide +kernel)
theorem wl_L_58 : Cond.methodLink RL 58 yX10_drawnThisYear ∈ GW := gw_at5 81 (by decide +kernel) (by decide +kernel)
theorem wn_X10_drawnThisYear : Cond.instanceMethod yX10_drawnThisYear ∈ GW := gw_at5 82 (by decide +kernel) (by decide +kernel)
theorem we_X10_drawnThisYear : Cond.selects RX10 yX10_drawnThisYear yX10_drawnThisYear ∈ GW := gw_at5 83 (by decide +kernel) (by decide +kernel)
theorem wc_X10_drawnThisYear : Cond.code yX10_drawnThisYear cX10_drawnThisYear 2 (some FieldType.int) ∈ GW := gw_at5 84 (by decide +kernel) (by decide +kernel)
theorem wl_L_230 : Cond.methodLink RL 230 yL_hasForecast ∈ GW := gw_at5 85 (by decide +kernel) (by decide +kernel)
theorem wst_L_hasForecast : Cond.static yL_hasForecast ∈ GW := gw_at5 86 (by decide +kernel) (by decide +kernel)
theorem wc_L_hasForecast : Cond.codeWith yL_hasForecast cL_hasForecast 5 (some FieldType.int) [(0, 17, 20, 28)] ∈ GW := gw_at5 87 (by decide +kernel) (by decide +kernel)
theorem wl_L_61 : Cond.methodLink RL 61 yX10_hasForecast ∈ GW := gw_at5 88 (by decide +kernel) (by decide +kernel)
theorem wn_X10_hasForecast : Cond.instanceMethod yX10_hasForecast ∈ GW := gw_at5 89 (by decide +kernel) (by decide +kernel)
theorem we_X10_hasForecast : Cond.selects RX10 yX10_hasForecast yX10_hasForecast ∈ GW := gw_at5 90 (by decide +kernel) (by decide +kernel)
theorem wc_X10_hasForecast : Cond.code yX10_hasForecast cX10_hasForecast 3 (some FieldType.boolean) ∈ GW := gw_at5 91 (by decide +kernel) (by decide +kernel)
theorem wl_X10_186 : Cond.methodLink RX10 186 yX0_placeOf ∈ GW := gw_at5 92 (by decide +kernel) (by decide +kernel)
theorem wl_L_234 : Cond.methodLink RL 234 yL_weatherOf ∈ GW := gw_at5 93 (by decide +kernel) (by decide +kernel)
theorem wst_L_weatherOf : Cond.static yL_weatherOf ∈ GW := gw_at5 94 (by decide +kernel) (by decide +kernel)
theorem wc_L_weatherOf : Cond.codeWith yL_weatherOf cL_weatherOf 5 (some FieldType.int) [(0, 10, 13, 28), (0, 10, 17, 69)] ∈ GW := gw_at5 95 (by decide +kernel) (by decide +kernel)
theorem wk_L_69 : Cond.classLink RL 69 "java/util/NoSuchElementException" ∈ GW := gw_at5 96 (by decide +kernel) (by decide +kernel)
theorem wl_L_65 : Cond.methodLink RL 65 yX10_weatherOf ∈ GW := gw_at5 97 (by decide +kernel) (by decide +kernel)
theorem wn_X10_weatherOf : Cond.instanceMethod yX10_weatherOf ∈ GW := gw_at5 98 (by decide +kernel) (by decide +kernel)
theorem we_X10_weatherOf : Cond.selects RX10 yX10_weatherOf yX10_weatherOf ∈ GW := gw_at5 99 (by decide +kernel) (by decide +kernel)
theorem wc_X10_weatherOf : Cond.code yX10_weatherOf cX10_weatherOf 3 (some FieldType.int) ∈ GW := gw_at5 100 (by decide +kernel) (by decide +kernel)
theorem wl_X10_192 : Cond.methodLink RX10 192 yX10_requireForecast ∈ GW := gw_at5 101 (by decide +kernel) (by decide +kernel)
theorem wn_X10_requireForecast : Cond.instanceMethod yX10_requireForecast ∈ GW := gw_at5 103 (by decide +kernel) (by decide +kernel)
theorem wc_X10_requireForecast : Cond.code yX10_requireForecast cX10_requireForecast 4 (some FieldType.int) ∈ GW := gw_at5 104 (by decide +kernel) (by decide +kernel)
theorem wk_X10_205 : Cond.classLink RX10 205 "java/util/NoSuchElementException" ∈ GW := gw_at5 105 (by decide +kernel) (by decide +kernel)
theorem wl_L_237 : Cond.methodLink RL 237 yL_soldOf ∈ GW := gw_at5 120 (by decide +kernel) (by decide +kernel)
theorem wst_L_soldOf : Cond.static yL_soldOf ∈ GW := gw_at5 121 (by decide +kernel) (by decide +kernel)
theorem wc_L_soldOf : Cond.codeWith yL_soldOf cL_soldOf 5 (some FieldType.int) [(0, 10, 13, 28), (0, 10, 17, 69)] ∈ GW := gw_at5 122 (by decide +kernel) (by decide +kernel)
theorem wl_L_71 : Cond.methodLink RL 71 yX10_soldOf ∈ GW := gw_at5 123 (by decide +kernel) (by decide +kernel)
theorem wn_X10_soldOf : Cond.instanceMethod yX10_soldOf ∈ GW := gw_at5 124 (by decide +kernel) (by decide +kernel)
theorem we_X10_soldOf : Cond.selects RX10 yX10_soldOf yX10_soldOf ∈ GW := gw_at5 125 (by decide +kernel) (by decide +kernel)
theorem wc_X10_soldOf : Cond.code yX10_soldOf cX10_soldOf 3 (some FieldType.int) ∈ GW := gw_at5 126 (by decide +kernel) (by decide +kernel)
theorem wl_L_240 : Cond.methodLink RL 240 yL_paidOf ∈ GW := gw_at5 127 (by decide +kernel) (by decide +kernel)
theorem wst_L_paidOf : Cond.static yL_paidOf ∈ GW := gw_at5 128 (by decide +kernel) (by decide +kernel)
theorem wc_L_paidOf : Cond.codeWith yL_paidOf cL_paidOf 5 (some FieldType.int) [(0, 10, 13, 28), (0, 10, 17, 69)] ∈ GW := gw_at5 129 (by decide +kernel) (by decide +kernel)
theorem wl_L_74 : Cond.methodLink RL 74 yX10_paidOf ∈ GW := gw_at5 130 (by decide +kernel) (by decide +kernel)
theorem wn_X10_paidOf : Cond.instanceMethod yX10_paidOf ∈ GW := gw_at5 131 (by decide +kernel) (by decide +kernel)
theorem we_X10_paidOf : Cond.selects RX10 yX10_paidOf yX10_paidOf ∈ GW := gw_at5 132 (by decide +kernel) (by decide +kernel)
theorem wc_X10_paidOf : Cond.code yX10_paidOf cX10_paidOf 3 (some FieldType.int) ∈ GW := gw_at5 133 (by decide +kernel) (by decide +kernel)
theorem wl_L_243 : Cond.methodLink RL 243 yL_pageOf ∈ GW := gw_at5 134 (by decide +kernel) (by decide +kernel)
theorem wst_L_pageOf : Cond.static yL_pageOf ∈ GW := gw_at5 135 (by decide +kernel) (by decide +kernel)
theorem wc_L_pageOf : Cond.codeWith yL_pageOf cL_pageOf 5 (some FieldType.int) [(0, 10, 13, 28), (0, 10, 17, 69)] ∈ GW := gw_at5 136 (by decide +kernel) (by decide +kernel)
theorem wl_L_77 : Cond.methodLink RL 77 yX10_pageOf ∈ GW := gw_at5 137 (by decide +kernel) (by decide +kernel)
theorem wn_X10_pageOf : Cond.instanceMethod yX10_pageOf ∈ GW := gw_at5 138 (by decide +kernel) (by decide +kernel)
theorem we_X10_pageOf : Cond.selects RX10 yX10_pageOf yX10_pageOf ∈ GW := gw_at5 139 (by decide +kernel) (by decide +kernel)
theorem wc_X10_pageOf : Cond.code yX10_pageOf cX10_pageOf 3 (some FieldType.int) ∈ GW := gw_at5 140 (by decide +kernel) (by decide +kernel)
theorem wl_L_246 : Cond.methodLink RL 246 yL_forecastAt ∈ GW := gw_at5 141 (by decide +kernel) (by decide +kernel)
theorem wst_L_forecastAt : Cond.static yL_forecastAt ∈ GW := gw_at5 142 (by decide +kernel) (by decide +kernel)
theorem wc_L_forecastAt : Cond.codeWith yL_forecastAt cL_forecastAt 4 (some FieldType.int) [(0, 9, 12, 69)] ∈ GW := gw_at5 143 (by decide +kernel) (by decide +kernel)
theorem wl_L_80 : Cond.methodLink RL 80 yX10_forecastAt ∈ GW := gw_at5 144 (by decide +kernel) (by decide +kernel)
theorem wn_X10_forecastAt : Cond.instanceMethod yX10_forecastAt ∈ GW := gw_at5 145 (by decide +kernel) (by decide +kernel)
theorem we_X10_forecastAt : Cond.selects RX10 yX10_forecastAt yX10_forecastAt ∈ GW := gw_at5 146 (by decide +kernel) (by decide +kernel)
theorem wc_X10_forecastAt : Cond.code yX10_forecastAt cX10_forecastAt 2 (some FieldType.int) ∈ GW := gw_at5 147 (by decide +kernel) (by decide +kernel)
theorem wl_L_253 : Cond.methodLink RL 253 yL_refundOf ∈ GW := gw_at5 148 (by decide +kernel) (by decide +kernel)
theorem wst_L_refundOf : Cond.static yL_refundOf ∈ GW := gw_at5 149 (by decide +kernel) (by decide +kernel)
theorem wc_L_refundOf : Cond.codeWith yL_refundOf cL_refundOf 4 (some FieldType.int) [(0, 9, 12, 69)] ∈ GW := gw_at5 150 (by decide +kernel) (by decide +kernel)
theorem wl_L_83 : Cond.methodLink RL 83 yX10_refundOf ∈ GW := gw_at5 151 (by decide +kernel) (by decide +kernel)
theorem wn_X10_refundOf : Cond.instanceMethod yX10_refundOf ∈ GW := gw_at5 152 (by decide +kernel) (by decide +kernel)
theorem we_X10_refundOf : Cond.selects RX10 yX10_refundOf yX10_refundOf ∈ GW := gw_at5 153 (by decide +kernel) (by decide +kernel)
theorem wc_X10_refundOf : Cond.code yX10_refundOf cX10_refundOf 2 (some FieldType.int) ∈ GW := gw_at5 154 (by decide +kernel) (by decide +kernel)
theorem wl_X10_214 : Cond.methodLink RX10 214 yX10_requirePage ∈ GW := gw_at5 155 (by decide +kernel) (by decide +kernel)
theorem wn_X10_requirePage : Cond.instanceMethod yX10_requirePage ∈ GW := gw_at5 157 (by decide +kernel) (by decide +kernel)
theorem wc_X10_requirePage : Cond.code yX10_requirePage cX10_requirePage 2 none ∈ GW := gw_at5 158 (by decide +kernel) (by decide +kernel)
theorem wl_X10_323 : Cond.methodLink RX10 323 yX0_hasPage ∈ GW := gw_at5 159 (by decide +kernel) (by decide +kernel)
theorem wl_X10_217 : Cond.methodLink RX10 217 yX0_paidForPage ∈ GW := gw_at5 160 (by decide +kernel) (by decide +kernel)
theorem wl_L_256 : Cond.methodLink RL 256 yL_canRetract ∈ GW := gw_at5 161 (by decide +kernel) (by decide +kernel)
theorem wst_L_canRetract : Cond.static yL_canRetract ∈ GW := gw_at5 162 (by decide +kernel) (by decide +kernel)
theorem wc_L_canRetract : Cond.codeWith yL_canRetract cL_canRetract 4 (some FieldType.int) [(0, 16, 19, 69)] ∈ GW := gw_at5 163 (by decide +kernel) (by decide +kernel)
theorem wl_L_86 : Cond.methodLink RL 86 yX10_canRetract ∈ GW := gw_at5 164 (by decide +kernel) (by decide +kernel)
theorem wn_X10_canRetract : Cond.instanceMethod yX10_canRetract ∈ GW := gw_at5 165 (by decide +kernel) (by decide +kernel)
theorem we_X10_canRetract : Cond.selects RX10 yX10_canRetract yX10_canRetract ∈ GW := gw_at5 166 (by decide +kernel) (by decide +kernel)
theorem wc_X10_canRetract : Cond.code yX10_canRetract cX10_canRetract 2 (some FieldType.boolean) ∈ GW := gw_at5 167 (by decide +kernel) (by decide +kernel)
theorem wl_X10_220 : Cond.methodLink RX10 220 yX8_canPayBackPage ∈ GW := gw_at5 168 (by decide +kernel) (by decide +kernel)
theorem wl_L_259 : Cond.methodLink RL 259 yL_printRefusal ∈ GW := gw_at5 169 (by decide +kernel) (by decide +kernel)
theorem wst_L_printRefusal : Cond.static yL_printRefusal ∈ GW := gw_at5 170 (by decide +kernel) (by decide +kernel)
theorem wc_L_printRefusal : Cond.codeWith yL_printRefusal cL_printRefusal 5 (some FieldType.int) [(0, 10, 13, 28)] ∈ GW := gw_at5 171 (by decide +kernel) (by decide +kernel)
theorem wl_L_90 : Cond.methodLink RL 90 yX10_printRefusal ∈ GW := gw_at5 172 (by decide +kernel) (by decide +kernel)
theorem wn_X10_printRefusal : Cond.instanceMethod yX10_printRefusal ∈ GW := gw_at5 173 (by decide +kernel) (by decide +kernel)
theorem we_X10_printRefusal : Cond.selects RX10 yX10_printRefusal yX10_printRefusal ∈ GW := gw_at5 174 (by decide +kernel) (by decide +kernel)
theorem wc_X10_printRefusal : Cond.code yX10_printRefusal cX10_printRefusal 3 (some FieldType.int) ∈ GW := gw_at5 175 (by decide +kernel) (by decide +kernel)
theorem wl_X10_223 : Cond.methodLink RX10 223 yX8_refusalToPrint ∈ GW := gw_at5 176 (by decide +kernel) (by decide +kernel)
theorem wl_L_266 : Cond.methodLink RL 266 yL_tomorrowIn ∈ GW := gw_at5 177 (by decide +kernel) (by decide +kernel)
theorem wst_L_tomorrowIn : Cond.static yL_tomorrowIn ∈ GW := gw_at5 178 (by decide +kernel) (by decide +kernel)
theorem wc_L_tomorrowIn : Cond.codeWith yL_tomorrowIn cL_tomorrowIn 4 (some FieldType.int) [(0, 9, 12, 28)] ∈ GW := gw_at5 179 (by decide +kernel) (by decide +kernel)
theorem wl_L_93 : Cond.methodLink RL 93 yX10_tomorrowIn ∈ GW := gw_at5 180 (by decide +kernel) (by decide +kernel)
theorem wn_X10_tomorrowIn : Cond.instanceMethod yX10_tomorrowIn ∈ GW := gw_at5 181 (by decide +kernel) (by decide +kernel)
theorem we_X10_tomorrowIn : Cond.selects RX10 yX10_tomorrowIn yX10_tomorrowIn ∈ GW := gw_at5 182 (by decide +kernel) (by decide +kernel)
theorem wc_X10_tomorrowIn : Cond.code yX10_tomorrowIn cX10_tomorrowIn 4 (some FieldType.int) ∈ GW := gw_at5 183 (by decide +kernel) (by decide +kernel)
theorem wl_X10_230 : Cond.methodLink RX10 230 yX7_seedAfter ∈ GW := gw_at5 184 (by decide +kernel) (by decide +kernel)
theorem wl_X10_233 : Cond.methodLink RX10 233 yX7_weatherFor ∈ GW := gw_at5 185 (by decide +kernel) (by decide +kernel)
theorem wl_L_273 : Cond.methodLink RL 273 yL_regretAt ∈ GW := gw_at5 186 (by decide +kernel) (by decide +kernel)
theorem wst_L_regretAt : Cond.static yL_regretAt ∈ GW := gw_at5 187 (by decide +kernel) (by decide +kernel)
theorem wc_L_regretAt : Cond.codeWith yL_regretAt cL_regretAt 4 (some FieldType.int) [(0, 9, 12, 28)] ∈ GW := gw_at5 188 (by decide +kernel) (by decide +kernel)
theorem wl_L_96 : Cond.methodLink RL 96 yX10_regretAt ∈ GW := gw_at5 189 (by decide +kernel) (by decide +kernel)
theorem wn_X10_regretAt : Cond.instanceMethod yX10_regretAt ∈ GW := gw_at5 190 (by decide +kernel) (by decide +kernel)
theorem we_X10_regretAt : Cond.selects RX10 yX10_regretAt yX10_regretAt ∈ GW := gw_at5 191 (by decide +kernel) (by decide +kernel)
theorem wc_X10_regretAt : Cond.code yX10_regretAt cX10_regretAt 2 (some FieldType.int) ∈ GW := gw_at5 192 (by decide +kernel) (by decide +kernel)
theorem wl_L_288 : Cond.methodLink RL 288 yL_coinsAfter ∈ GW := gw_at5 193 (by decide +kernel) (by decide +kernel)
theorem wst_L_coinsAfter : Cond.static yL_coinsAfter ∈ GW := gw_at5 194 (by decide +kernel) (by decide +kernel)
theorem wc_L_coinsAfter : Cond.codeWith yL_coinsAfter cL_coinsAfter 4 (some FieldType.int) [(0, 9, 12, 19)] ∈ GW := gw_at5 195 (by decide +kernel) (by decide +kernel)
theorem wl_L_99 : Cond.methodLink RL 99 yX10_coinsAfter ∈ GW := gw_at5 196 (by decide +kernel) (by decide +kernel)
theorem wn_X10_coinsAfter : Cond.instanceMethod yX10_coinsAfter ∈ GW := gw_at5 197 (by decide +kernel) (by decide +kernel)
theorem we_X10_coinsAfter : Cond.selects RX10 yX10_coinsAfter yX10_coinsAfter ∈ GW := gw_at5 198 (by decide +kernel) (by decide +kernel)
theorem wc_X10_coinsAfter : Cond.code yX10_coinsAfter cX10_coinsAfter 2 (some FieldType.int) ∈ GW := gw_at5 199 (by decide +kernel) (by decide +kernel)
theorem wl_X10_258 : Cond.methodLink RX10 258 yX10_lookAhead ∈ GW := gw_at5 200 (by decide +kernel) (by decide +kernel)
theorem wn_X10_lookAhead : Cond.instanceMethod yX10_lookAhead ∈ GW := gw_at5 202 (by decide +kernel) (by decide +kernel)
theorem wc_X10_lookAhead : Cond.code yX10_lookAhead cX10_lookAhead 2 none ∈ GW := gw_at5 203 (by decide +kernel) (by decide +kernel)
theorem wl_X10_294 : Cond.methodLink RX10 294 yX8_letDaysPass ∈ GW := gw_at5 204 (by decide +kernel) (by decide +kernel)
theorem wl_L_291 : Cond.methodLink RL 291 yL_trustAfter ∈ GW := gw_at5 205 (by decide +kernel) (by decide +kernel)
theorem wst_L_trustAfter : Cond.static yL_trustAfter ∈ GW := gw_at5 206 (by decide +kernel) (by decide +kernel)
theorem wc_L_trustAfter : Cond.codeWith yL_trustAfter cL_trustAfter 5 (some FieldType.int) [(0, 10, 13, 28), (0, 10, 17, 19)] ∈ GW := gw_at5 207 (by decide +kernel) (by decide +kernel)
theorem wl_L_102 : Cond.methodLink RL 102 yX10_trustAfter ∈ GW := gw_at5 208 (by decide +kernel) (by decide +kernel)
theorem wn_X10_trustAfter : Cond.instanceMethod yX10_trustAfter ∈ GW := gw_at5 209 (by decide +kernel) (by decide +kernel)
theorem we_X10_trustAfter : Cond.selects RX10 yX10_trustAfter yX10_trustAfter ∈ GW := gw_at5 210 (by decide +kernel) (by decide +kernel)
theorem wc_X10_trustAfter : Cond.code yX10_trustAfter cX10_trustAfter 3 (some FieldType.int) ∈ GW := gw_at5 211 (by decide +kernel) (by decide +kernel)
theorem wl_L_324 : Cond.methodLink RL 324 yL_print ∈ GW := gw_at5 212 (by decide +kernel) (by decide +kernel)
theorem wst_L_print : Cond.static yL_print ∈ GW := gw_at5 213 (by decide +kernel) (by decide +kernel)
theorem wc_L_print : Cond.codeWith yL_print cL_print 6 (some FieldType.int) [(0, 12, 15, 28), (0, 12, 19, 19), (0, 12, 23, 13)] ∈ GW := gw_at5 214 (by decide +kernel) (by decide +kernel)
theorem wl_L_105 : Cond.methodLink RL 105 yX10_print ∈ GW := gw_at5 215 (by decide +kernel) (by decide +kernel)
theorem wn_X10_print : Cond.instanceMethod yX10_print ∈ GW := gw_at5 216 (by decide +kernel) (by decide +kernel)
theorem we_X10_print : Cond.selects RX10 yX10_print yX10_print ∈ GW := gw_at5 217 (by decide +kernel) (by decide +kernel)
theorem wc_X10_print : Cond.code yX10_print cX10_print 4 (some FieldType.int) ∈ GW := gw_at5 218 (by decide +kernel) (by decide +kernel)
theorem wl_X10_288 : Cond.methodLink RX10 288 yX0_add ∈ GW := gw_at5 219 (by decide +kernel) (by decide +kernel)
theorem wl_L_328 : Cond.methodLink RL 328 yL_retract ∈ GW := gw_at5 220 (by decide +kernel) (by decide +kernel)
theorem wst_L_retract : Cond.static yL_retract ∈ GW := gw_at5 221 (by decide +kernel) (by decide +kernel)
theorem wc_L_retract : Cond.codeWith yL_retract cL_retract 4 (some FieldType.int) [(0, 9, 12, 69), (0, 9, 15, 13)] ∈ GW := gw_at5 222 (by decide +kernel) (by decide +kernel)
theorem wl_L_109 : Cond.methodLink RL 109 yX10_retract ∈ GW := gw_at5 223 (by decide +kernel) (by decide +kernel)
theorem wn_X10_retract : Cond.instanceMethod yX10_retract ∈ GW := gw_at5 224 (by decide +kernel) (by decide +kernel)
theorem we_X10_retract : Cond.selects RX10 yX10_retract yX10_retract ∈ GW := gw_at5 225 (by decide +kernel) (by decide +kernel)
theorem wc_X10_retract : Cond.code yX10_retract cX10_retract 2 (some FieldType.int) ∈ GW := gw_at5 226 (by decide +kernel) (by decide +kernel)
theorem wl_X10_291 : Cond.methodLink RX10 291 yX8_takeBackPage ∈ GW := gw_at5 227 (by decide +kernel) (by decide +kernel)
theorem wl_L_331 : Cond.methodLink RL 331 yL_setTrust ∈ GW := gw_at5 228 (by decide +kernel) (by decide +kernel)
theorem wst_L_setTrust : Cond.static yL_setTrust ∈ GW := gw_at5 229 (by decide +kernel) (by decide +kernel)
theorem wc_L_setTrust : Cond.codeWith yL_setTrust cL_setTrust 5 (some FieldType.int) [(0, 10, 13, 28), (0, 10, 17, 19)] ∈ GW := gw_at5 230 (by decide +kernel) (by decide +kernel)
theorem wl_L_112 : Cond.methodLink RL 112 yX10_setTrust ∈ GW := gw_at5 231 (by decide +kernel) (by decide +kernel)
theorem wn_X10_setTrust : Cond.instanceMethod yX10_setTrust ∈ GW := gw_at5 232 (by decide +kernel) (by decide +kernel)
theorem we_X10_setTrust : Cond.selects RX10 yX10_setTrust yX10_setTrust ∈ GW := gw_at5 233 (by decide +kernel) (by decide +kernel)
theorem wc_X10_setTrust : Cond.code yX10_setTrust cX10_setTrust 4 (some FieldType.int) ∈ GW := gw_at5 234 (by decide +kernel) (by decide +kernel)
theorem wl_L_334 : Cond.methodLink RL 334 yL_setPeople ∈ GW := gw_at5 235 (by decide +kernel) (by decide +kernel)
theorem wst_L_setPeople : Cond.static yL_setPeople ∈ GW := gw_at5 236 (by decide +kernel) (by decide +kernel)
theorem wc_L_setPeople : Cond.codeWith yL_setPeople cL_setPeople 5 (some FieldType.int) [(0, 10, 13, 28), (0, 10, 17, 19)] ∈ GW := gw_at5 237 (by decide +kernel) (by decide +kernel)
theorem wl_L_115 : Cond.methodLink RL 115 yX10_setPeople ∈ GW := gw_at5 238 (by decide +kernel) (by decide +kernel)
theorem wn_X10_setPeople : Cond.instanceMethod yX10_setPeople ∈ GW := gw_at5 239 (by decide +kernel) (by decide +kernel)
theorem we_X10_setPeople : Cond.selects RX10 yX10_setPeople yX10_setPeople ∈ GW := gw_at6 0 (by decide +kernel) (by decide +kernel)
theorem wc_X10_setPeople : Cond.code yX10_setPeople cX10_setPeople 4 (some FieldType.int) ∈ GW := gw_at6 1 (by decide +kernel) (by decide +kernel)
theorem wl_L_337 : Cond.methodLink RL 337 yL_setOdds ∈ GW := gw_at6 2 (by decide +kernel) (by decide +kernel)
theorem wst_L_setOdds : Cond.static yL_setOdds ∈ GW := gw_at6 3 (by decide +kernel) (by decide +kernel)
theorem wc_L_setOdds : Cond.codeWith yL_setOdds cL_setOdds 5 (some FieldType.int) [(0, 10, 13, 19), (0, 10, 17, 13)] ∈ GW := gw_at6 4 (by decide +kernel) (by decide +kernel)
theorem wl_L_118 : Cond.methodLink RL 118 yX10_setOdds ∈ GW := gw_at6 5 (by decide +kernel) (by decide +kernel)
theorem wn_X10_setOdds : Cond.instanceMethod yX10_setOdds ∈ GW := gw_at6 6 (by decide +kernel) (by decide +kernel)
theorem we_X10_setOdds : Cond.selects RX10 yX10_setOdds yX10_setOdds ∈ GW := gw_at6 7 (by decide +kernel) (by decide +kernel)
theorem wc_X10_setOdds : Cond.code yX10_setOdds cX10_setOdds 4 (some FieldType.int) ∈ GW := gw_at6 8 (by decide +kernel) (by decide +kernel)
theorem wl_L_340 : Cond.methodLink RL 340 yL_pass ∈ GW := gw_at6 9 (by decide +kernel) (by decide +kernel)
theorem wst_L_pass : Cond.static yL_pass ∈ GW := gw_at6 10 (by decide +kernel) (by decide +kernel)
theorem wc_L_pass : Cond.codeWith yL_pass cL_pass 4 (some FieldType.int) [(0, 9, 12, 19)] ∈ GW := gw_at6 11 (by decide +kernel) (by decide +kernel)
theorem wl_L_121 : Cond.methodLink RL 121 yX10_pass ∈ GW := gw_at6 12 (by decide +kernel) (by decide +kernel)
theorem wn_X10_pass : Cond.instanceMethod yX10_pass ∈ GW := gw_at6 13 (by decide +kernel) (by decide +kernel)
theorem we_X10_pass : Cond.selects RX10 yX10_pass yX10_pass ∈ GW := gw_at6 14 (by decide +kernel) (by decide +kernel)
theorem wc_X10_pass : Cond.code yX10_pass cX10_pass 3 (some FieldType.int) ∈ GW := gw_at6 15 (by decide +kernel) (by decide +kernel)
theorem wl_L_343 : Cond.methodLink RL 343 yL_writePage ∈ GW := gw_at6 16 (by decide +kernel) (by decide +kernel)
theorem wst_L_writePage : Cond.static yL_writePage ∈ GW := gw_at6 17 (by decide +kernel) (by decide +kernel)
theorem wc_L_writePage : Cond.codeWith yL_writePage cL_writePage 4 (some FieldType.int) [(0, 9, 12, 69)] ∈ GW := gw_at6 18 (by decide +kernel) (by decide +kernel)
theorem wl_L_124 : Cond.methodLink RL 124 yX10_writePage ∈ GW := gw_at6 19 (by decide +kernel) (by decide +kernel)
theorem wn_X10_writePage : Cond.instanceMethod yX10_writePage ∈ GW := gw_at6 20 (by decide +kernel) (by decide +kernel)
theorem we_X10_writePage : Cond.selects RX10 yX10_writePage yX10_writePage ∈ GW := gw_at6 21 (by decide +kernel) (by decide +kernel)
theorem wc_X10_writePage : Cond.code yX10_writePage cX10_writePage 5 (some FieldType.int) ∈ GW := gw_at6 22 (by decide +kernel) (by decide +kernel)
theorem wl_X10_297 : Cond.methodLink RX10 297 yX0_startOf ∈ GW := gw_at6 23 (by decide +kernel) (by decide +kernel)
theorem wl_X10_300 : Cond.methodLink RX10 300 yX0_endOf ∈ GW := gw_at6 24 (by decide +kernel) (by decide +kernel)
theorem wl_X10_303 : Cond.methodLink RX10 303 yX1_put ∈ GW := gw_at6 25 (by decide +kernel) (by decide +kernel)
theorem wl_X10_306 : Cond.methodLink RX10 306 yX10_writeForecast ∈ GW := gw_at6 26 (by decide +kernel) (by decide +kernel)
theorem wn_X10_writeForecast : Cond.instanceMethod yX10_writeForecast ∈ GW := gw_at6 28 (by decide +kernel) (by decide +kernel)
theorem wc_X10_writeForecast : Cond.code yX10_writeForecast cX10_writeForecast 3 none ∈ GW := gw_at6 29 (by decide +kernel) (by decide +kernel)
theorem wl_X10_330 : Cond.methodLink RX10 330 yX1_putName ∈ GW := gw_at6 30 (by decide +kernel) (by decide +kernel)
theorem wn_X1_putName : Cond.instanceMethod yX1_putName ∈ GW := gw_at6 31 (by decide +kernel) (by decide +kernel)
theorem we_X1_putName : Cond.selects RX1 yX1_putName yX1_putName ∈ GW := gw_at6 32 (by decide +kernel) (by decide +kernel)
theorem wc_X1_putName : Cond.code yX1_putName cX1_putName 4 none ∈ GW := gw_at6 33 (by decide +kernel) (by decide +kernel)
theorem wl_X10_336 : Cond.methodLink RX10 336 yX1_putDecimal ∈ GW := gw_at6 34 (by decide +kernel) (by decide +kernel)
theorem wn_X1_putDecimal : Cond.instanceMethod yX1_putDecimal ∈ GW := gw_at6 35 (by decide +kernel) (by decide +kernel)
theorem we_X1_putDecimal : Cond.selects RX1 yX1_putDecimal yX1_putDecimal ∈ GW := gw_at6 36 (by decide +kernel) (by decide +kernel)
theorem wc_X1_putDecimal : Cond.code yX1_putDecimal cX1_putDecimal 3 none ∈ GW := gw_at6 37 (by decide +kernel) (by decide +kernel)
theorem wx_X1_32 : Cond.constant RX1 32 (1000000000 : Int32) ∈ GW := gw_at6 38 (by decide +kernel) (by decide +kernel)
theorem wl_L_346 : Cond.methodLink RL 346 yL_outputByte ∈ GW := gw_at6 39 (by decide +kernel) (by decide +kernel)
theorem wst_L_outputByte : Cond.static yL_outputByte ∈ GW := gw_at6 40 (by decide +kernel) (by decide +kernel)
theorem wc_L_outputByte : Cond.codeWith yL_outputByte cL_outputByte 4 (some FieldType.int) [(0, 9, 12, 69)] ∈ GW := gw_at6 41 (by decide +kernel) (by decide +kernel)
theorem wl_L_127 : Cond.methodLink RL 127 yX10_outputByte ∈ GW := gw_at6 42 (by decide +kernel) (by decide +kernel)
theorem wn_X10_outputByte : Cond.instanceMethod yX10_outputByte ∈ GW := gw_at6 43 (by decide +kernel) (by decide +kernel)
theorem we_X10_outputByte : Cond.selects RX10 yX10_outputByte yX10_outputByte ∈ GW := gw_at6 44 (by decide +kernel) (by decide +kernel)
theorem wc_X10_outputByte : Cond.code yX10_outputByte cX10_outputByte 2 (some FieldType.int) ∈ GW := gw_at6 45 (by decide +kernel) (by decide +kernel)
theorem wl_X10_309 : Cond.methodLink RX10 309 yX1_at ∈ GW := gw_at6 46 (by decide +kernel) (by decide +kernel)
theorem wl_L_349 : Cond.methodLink RL 349 yL_save ∈ GW := gw_at6 47 (by decide +kernel) (by decide +kernel)
theorem wst_L_save : Cond.static yL_save ∈ GW := gw_at6 48 (by decide +kernel) (by decide +kernel)
theorem wc_L_save : Cond.codeWith yL_save cL_save 4 (some FieldType.int) [(0, 9, 12, 28)] ∈ GW := gw_at6 49 (by decide +kernel) (by decide +kernel)
theorem wl_L_130 : Cond.methodLink RL 130 yX10_save ∈ GW := gw_at6 50 (by decide +kernel) (by decide +kernel)
theorem wn_X10_save : Cond.instanceMethod yX10_save ∈ GW := gw_at6 51 (by decide +kernel) (by decide +kernel)
theorem we_X10_save : Cond.selects RX10 yX10_save yX10_save ∈ GW := gw_at6 52 (by decide +kernel) (by decide +kernel)
theorem wc_X10_save : Cond.code yX10_save cX10_save 2 (some FieldType.int) ∈ GW := gw_at6 53 (by decide +kernel) (by decide +kernel)
theorem wl_X10_312 : Cond.methodLink RX10 312 yX10_requireSlot ∈ GW := gw_at6 54 (by decide +kernel) (by decide +kernel)
theorem wn_X10_requireSlot : Cond.instanceMethod yX10_requireSlot ∈ GW := gw_at6 56 (by decide +kernel) (by decide +kernel)
theorem wc_X10_requireSlot : Cond.code yX10_requireSlot cX10_requireSlot 2 none ∈ GW := gw_at6 57 (by decide +kernel) (by decide +kernel)
theorem wl_L_352 : Cond.methodLink RL 352 yL_restore ∈ GW := gw_at6 58 (by decide +kernel) (by decide +kernel)
theorem wst_L_restore : Cond.static yL_restore ∈ GW := gw_at6 59 (by decide +kernel) (by decide +kernel)
theorem wc_L_restore : Cond.codeWith yL_restore cL_restore 4 (some FieldType.int) [(0, 9, 12, 28), (0, 9, 15, 13)] ∈ GW := gw_at6 60 (by decide +kernel) (by decide +kernel)
theorem wl_L_133 : Cond.methodLink RL 133 yX10_restore ∈ GW := gw_at6 61 (by decide +kernel) (by decide +kernel)
theorem wn_X10_restore : Cond.instanceMethod yX10_restore ∈ GW := gw_at6 62 (by decide +kernel) (by decide +kernel)
theorem we_X10_restore : Cond.selects RX10 yX10_restore yX10_restore ∈ GW := gw_at6 63 (by decide +kernel) (by decide +kernel)
theorem wc_X10_restore : Cond.code yX10_restore cX10_restore 2 (some FieldType.int) ∈ GW := gw_at6 64 (by decide +kernel) (by decide +kernel)
theorem wl_L_355 : Cond.methodLink RL 355 yL_undo ∈ GW := gw_at6 65 (by decide +kernel) (by decide +kernel)
theorem wst_L_undo : Cond.static yL_undo ∈ GW := gw_at6 66 (by decide +kernel) (by decide +kernel)
theorem wc_L_undo : Cond.codeWith yL_undo cL_undo 3 (some FieldType.int) [(0, 8, 11, 13)] ∈ GW := gw_at6 67 (by decide +kernel) (by decide +kernel)
theorem wl_L_136 : Cond.methodLink RL 136 yX10_undo ∈ GW := gw_at6 68 (by decide +kernel) (by decide +kernel)
theorem wn_X10_undo : Cond.instanceMethod yX10_undo ∈ GW := gw_at6 69 (by decide +kernel) (by decide +kernel)
theorem we_X10_undo : Cond.selects RX10 yX10_undo yX10_undo ∈ GW := gw_at6 70 (by decide +kernel) (by decide +kernel)
theorem wc_X10_undo : Cond.code yX10_undo cX10_undo 1 (some FieldType.int) ∈ GW := gw_at6 71 (by decide +kernel) (by decide +kernel)
theorem wl_X10_316 : Cond.methodLink RX10 316 yX3_bringBack ∈ GW := gw_at6 72 (by decide +kernel) (by decide +kernel)
theorem wn_X3_bringBack : Cond.instanceMethod yX3_bringBack ∈ GW := gw_at6 73 (by decide +kernel) (by decide +kernel)
theorem we_X3_bringBack : Cond.selects RX3 yX3_bringBack yX3_bringBack ∈ GW := gw_at6 74 (by decide +kernel) (by decide +kernel)
theorem wc_X3_bringBack : Cond.code yX3_bringBack cX3_bringBack 2 none ∈ GW := gw_at6 75 (by decide +kernel) (by decide +kernel)
theorem wk_L_140 : Cond.classLink RL 140 RX11 ∈ GW := gw_at6 76 (by decide +kernel) (by decide +kernel)
theorem wt_X11 : Cond.instantiable RX11 20 ∈ GW := gw_at6 77 (by decide +kernel) (by decide +kernel)
theorem wl_L_142 : Cond.methodLink RL 142 yX11_init ∈ GW := gw_at6 78 (by decide +kernel) (by decide +kernel)
theorem wn_X11_init : Cond.instanceMethod yX11_init ∈ GW := gw_at6 79 (by decide +kernel) (by decide +kernel)
theorem wc_X11_init : Cond.code yX11_init cX11_init 1 none ∈ GW := gw_at6 80 (by decide +kernel) (by decide +kernel)
theorem wl_X11_1 : Cond.methodLink RX11 1 objectInit ∈ GW := gw_at6 81 (by decide +kernel) (by decide +kernel)
theorem wl_X11_42 : Cond.methodLink RX11 42 yX11_layInput ∈ GW := gw_at6 83 (by decide +kernel) (by decide +kernel)
theorem wn_X11_layInput : Cond.instanceMethod yX11_layInput ∈ GW := gw_at6 85 (by decide +kernel) (by decide +kernel)
theorem wc_X11_layInput : Cond.code yX11_layInput cX11_layInput 3 none ∈ GW := gw_at6 86 (by decide +kernel) (by decide +kernel)
theorem wl_X11_56 : Cond.methodLink RX11 56 yJ0_length_8abf5 ∈ GW := gw_at6 87 (by decide +kernel) (by decide +kernel)
theorem wl_X11_62 : Cond.methodLink RX11 62 yJ0_charAt_5068e ∈ GW := gw_at6 88 (by decide +kernel) (by decide +kernel)
theorem wl_X11_46 : Cond.methodLink RX11 46 yX11_read ∈ GW := gw_at6 89 (by decide +kernel) (by decide +kernel)
theorem wn_X11_read : Cond.instanceMethod yX11_read ∈ GW := gw_at6 91 (by decide +kernel) (by decide +kernel)
theorem wc_X11_read : Cond.code yX11_read cX11_read 2 none ∈ GW := gw_at6 92 (by decide +kernel) (by decide +kernel)
theorem wl_X11_182 : Cond.methodLink RX11 182 yX11_advance ∈ GW := gw_at6 93 (by decide +kernel) (by decide +kernel)
theorem wn_X11_advance : Cond.instanceMethod yX11_advance ∈ GW := gw_at6 95 (by decide +kernel) (by decide +kernel)
theorem wc_X11_advance : Cond.code yX11_advance cX11_advance 2 none ∈ GW := gw_at6 96 (by decide +kernel) (by decide +kernel)
theorem wl_X11_162 : Cond.methodLink RX11 162 yX11_byteAt ∈ GW := gw_at6 97 (by decide +kernel) (by decide +kernel)
theorem wn_X11_byteAt : Cond.instanceMethod yX11_byteAt ∈ GW := gw_at6 99 (by decide +kernel) (by decide +kernel)
theorem wc_X11_byteAt : Cond.code yX11_byteAt cX11_byteAt 2 (some FieldType.int) ∈ GW := gw_at6 100 (by decide +kernel) (by decide +kernel)
theorem wl_X11_177 : Cond.methodLink RX11 177 yX11_isLetter ∈ GW := gw_at6 101 (by decide +kernel) (by decide +kernel)
theorem wst_X11_isLetter : Cond.static yX11_isLetter ∈ GW := gw_at6 102 (by decide +kernel) (by decide +kernel)
theorem wc_X11_isLetter : Cond.code yX11_isLetter cX11_isLetter 1 (some FieldType.boolean) ∈ GW := gw_at6 103 (by decide +kernel) (by decide +kernel)
theorem wl_X11_156 : Cond.methodLink RX11 156 yX11_isBetween ∈ GW := gw_at6 104 (by decide +kernel) (by decide +kernel)
theorem wst_X11_isBetween : Cond.static yX11_isBetween ∈ GW := gw_at6 105 (by decide +kernel) (by decide +kernel)
theorem wc_X11_isBetween : Cond.code yX11_isBetween cX11_isBetween 3 (some FieldType.boolean) ∈ GW := gw_at6 106 (by decide +kernel) (by decide +kernel)
theorem wx_X11_181 : Cond.constant RX11 181 (99999999 : Int32) ∈ GW := gw_at6 107 (by decide +kernel) (by decide +kernel)
theorem wl_X11_206 : Cond.methodLink RX11 206 yX11_is ∈ GW := gw_at6 109 (by decide +kernel) (by decide +kernel)
theorem wn_X11_is : Cond.instanceMethod yX11_is ∈ GW := gw_at6 111 (by decide +kernel) (by decide +kernel)
theorem wc_X11_is : Cond.code yX11_is cX11_is 3 (some FieldType.boolean) ∈ GW := gw_at6 112 (by decide +kernel) (by decide +kernel)
theorem wl_X11_185 : Cond.methodLink RX11 185 yX11_check ∈ GW := gw_at6 113 (by decide +kernel) (by decide +kernel)
theorem wn_X11_check : Cond.instanceMethod yX11_check ∈ GW := gw_at6 115 (by decide +kernel) (by decide +kernel)
theorem wc_X11_check : Cond.code yX11_check cX11_check 3 (some FieldType.boolean) ∈ GW := gw_at6 116 (by decide +kernel) (by decide +kernel)
theorem wl_X11_192 : Cond.methodLink RX11 192 yX11_next ∈ GW := gw_at6 117 (by decide +kernel) (by decide +kernel)
theorem wn_X11_next : Cond.instanceMethod yX11_next ∈ GW := gw_at6 119 (by decide +kernel) (by decide +kernel)
theorem wc_X11_next : Cond.code yX11_next cX11_next 1 none ∈ GW := gw_at6 120 (by decide +kernel) (by decide +kernel)
theorem wl_X11_217 : Cond.methodLink RX11 217 yX11_number ∈ GW := gw_at6 121 (by decide +kernel) (by decide +kernel)
theorem wn_X11_number : Cond.instanceMethod yX11_number ∈ GW := gw_at6 123 (by decide +kernel) (by decide +kernel)
theorem wc_X11_number : Cond.code yX11_number cX11_number 4 (some FieldType.int) ∈ GW := gw_at6 124 (by decide +kernel) (by decide +kernel)
theorem wl_X11_188 : Cond.methodLink RX11 188 yX11_look ∈ GW := gw_at6 125 (by decide +kernel) (by decide +kernel)
theorem wn_X11_look : Cond.instanceMethod yX11_look ∈ GW := gw_at6 127 (by decide +kernel) (by decide +kernel)
theorem wc_X11_look : Cond.code yX11_look cX11_look 3 (some FieldType.int) ∈ GW := gw_at6 128 (by decide +kernel) (by decide +kernel)
theorem wl_X11_108 : Cond.methodLink RX11 108 yX11_allOdds ∈ GW := gw_at6 129 (by decide +kernel) (by decide +kernel)
theorem wst_X11_allOdds : Cond.static yX11_allOdds ∈ GW := gw_at6 130 (by decide +kernel) (by decide +kernel)
theorem wc_X11_allOdds : Cond.code yX11_allOdds cX11_allOdds 1 (some FieldType.int) ∈ GW := gw_at6 131 (by decide +kernel) (by decide +kernel)
theorem wl_X11_220 : Cond.methodLink RX11 220 yX11_finish ∈ GW := gw_at6 132 (by decide +kernel) (by decide +kernel)
theorem wn_X11_finish : Cond.instanceMethod yX11_finish ∈ GW := gw_at6 134 (by decide +kernel) (by decide +kernel)
theorem wc_X11_finish : Cond.code yX11_finish cX11_finish 1 none ∈ GW := gw_at6 135 (by decide +kernel) (by decide +kernel)
theorem wl_X11_272 : Cond.methodLink RX11 272 yX11_readStatement ∈ GW := gw_at6 136 (by decide +kernel) (by decide +kernel)
theorem wn_X11_readStatement : Cond.instanceMethod yX11_readStatement ∈ GW := gw_at6 138 (by decide +kernel) (by decide +kernel)
theorem wc_X11_readStatement : Cond.code yX11_readStatement cX11_readStatement 1 none ∈ GW := gw_at6 139 (by decide +kernel) (by decide +kernel)
theorem wl_X11_247 : Cond.methodLink RX11 247 yX11_readVillage ∈ GW := gw_at6 141 (by decide +kernel) (by decide +kernel)
theorem wn_X11_readVillage : Cond.instanceMethod yX11_readVillage ∈ GW := gw_at6 143 (by decide +kernel) (by decide +kernel)
theorem wc_X11_readVillage : Cond.code yX11_readVillage cX11_readVillage 5 none ∈ GW := gw_at6 144 (by decide +kernel) (by decide +kernel)
theorem wl_X11_214 : Cond.methodLink RX11 214 yX11_newName ∈ GW := gw_at6 145 (by decide +kernel) (by decide +kernel)
theorem wn_X11_newName : Cond.instanceMethod yX11_newName ∈ GW := gw_at6 147 (by decide +kernel) (by decide +kernel)
theorem wc_X11_newName : Cond.code yX11_newName cX11_newName 2 (some FieldType.int) ∈ GW := gw_at6 148 (by decide +kernel) (by decide +kernel)
theorem wl_X11_195 : Cond.methodLink RX11 195 yX11_nameFrom ∈ GW := gw_at6 149 (by decide +kernel) (by decide +kernel)
theorem wn_X11_nameFrom : Cond.instanceMethod yX11_nameFrom ∈ GW := gw_at6 151 (by decide +kernel) (by decide +kernel)
theorem wc_X11_nameFrom : Cond.code yX11_nameFrom cX11_nameFrom 5 (some FieldType.int) ∈ GW := gw_at6 152 (by decide +kernel) (by decide +kernel)
theorem wl_X11_198 : Cond.methodLink RX11 198 yX11_villageNamed ∈ GW := gw_at6 153 (by decide +kernel) (by decide +kernel)
theorem wst_X11_villageNamed : Cond.static yX11_villageNamed ∈ GW := gw_at6 154 (by decide +kernel) (by decide +kernel)
theorem wc_X11_villageNamed : Cond.code yX11_villageNamed cX11_villageNamed 3 (some FieldType.int) ∈ GW := gw_at6 155 (by decide +kernel) (by decide +kernel)
theorem wl_X11_81 : Cond.methodLink RX11 81 yX11_ofVillage ∈ GW := gw_at6 156 (by decide +kernel) (by decide +kernel)
theorem wst_X11_ofVillage : Cond.static yX11_ofVillage ∈ GW := gw_at6 157 (by decide +kernel) (by decide +kernel)
theorem wc_X11_ofVillage : Cond.code yX11_ofVillage cX11_ofVillage 1 (some FieldType.int) ∈ GW := gw_at6 158 (by decide +kernel) (by decide +kernel)
theorem wl_X11_201 : Cond.methodLink RX11 201 yX11_fairNamed ∈ GW := gw_at6 159 (by decide +kernel) (by decide +kernel)
theorem wst_X11_fairNamed : Cond.static yX11_fairNamed ∈ GW := gw_at6 160 (by decide +kernel) (by decide +kernel)
theorem wc_X11_fairNamed : Cond.code yX11_fairNamed cX11_fairNamed 3 (some FieldType.int) ∈ GW := gw_at6 161 (by decide +kernel) (by decide +kernel)
theorem wl_X11_98 : Cond.methodLink RX11 98 yX11_ofFair ∈ GW := gw_at6 162 (by decide +kernel) (by decide +kernel)
theorem wst_X11_ofFair : Cond.static yX11_ofFair ∈ GW := gw_at6 163 (by decide +kernel) (by decide +kernel)
theorem wc_X11_ofFair : Cond.code yX11_ofFair cX11_ofFair 1 (some FieldType.int) ∈ GW := gw_at6 164 (by decide +kernel) (by decide +kernel)
theorem wl_X11_252 : Cond.methodLink RX11 252 yX11_readFair ∈ GW := gw_at6 166 (by decide +kernel) (by decide +kernel)
theorem wn_X11_readFair : Cond.instanceMethod yX11_readFair ∈ GW := gw_at6 168 (by decide +kernel) (by decide +kernel)
theorem wc_X11_readFair : Cond.code yX11_readFair cX11_readFair 7 none ∈ GW := gw_at6 169 (by decide +kernel) (by decide +kernel)
theorem wl_X11_223 : Cond.methodLink RX11 223 yX11_villageHere ∈ GW := gw_at6 170 (by decide +kernel) (by decide +kernel)
theorem wn_X11_villageHere : Cond.instanceMethod yX11_villageHere ∈ GW := gw_at6 172 (by decide +kernel) (by decide +kernel)
theorem wc_X11_villageHere : Cond.code yX11_villageHere cX11_villageHere 2 (some FieldType.int) ∈ GW := gw_at6 173 (by decide +kernel) (by decide +kernel)
theorem wl_X11_257 : Cond.methodLink RX11 257 yX11_readSay ∈ GW := gw_at6 175 (by decide +kernel) (by decide +kernel)
theorem wn_X11_readSay : Cond.instanceMethod yX11_readSay ∈ GW := gw_at6 177 (by decide +kernel) (by decide +kernel)
theorem wc_X11_readSay : Cond.code yX11_readSay cX11_readSay 4 none ∈ GW := gw_at6 178 (by decide +kernel) (by decide +kernel)
theorem wl_X11_226 : Cond.methodLink RX11 226 yX11_weatherHere ∈ GW := gw_at6 179 (by decide +kernel) (by decide +kernel)
theorem wn_X11_weatherHere : Cond.instanceMethod yX11_weatherHere ∈ GW := gw_at6 181 (by decide +kernel) (by decide +kernel)
theorem wc_X11_weatherHere : Cond.code yX11_weatherHere cX11_weatherHere 2 (some FieldType.int) ∈ GW := gw_at6 182 (by decide +kernel) (by decide +kernel)
theorem wl_X11_229 : Cond.methodLink RX11 229 yX11_whyNotPrint ∈ GW := gw_at6 186 (by decide +kernel) (by decide +kernel)
theorem wst_X11_whyNotPrint : Cond.static yX11_whyNotPrint ∈ GW := gw_at6 187 (by decide +kernel) (by decide +kernel)
theorem wc_X11_whyNotPrint : Cond.code yX11_whyNotPrint cX11_whyNotPrint 3 (some FieldType.int) ∈ GW := gw_at6 188 (by decide +kernel) (by decide +kernel)
theorem wl_X11_73 : Cond.methodLink RX11 73 yX11_find ∈ GW := gw_at6 189 (by decide +kernel) (by decide +kernel)
theorem wst_X11_find : Cond.static yX11_find ∈ GW := gw_at6 190 (by decide +kernel) (by decide +kernel)
theorem wc_X11_find : Cond.code yX11_find cX11_find 4 (some FieldType.int) ∈ GW := gw_at6 191 (by decide +kernel) (by decide +kernel)
theorem wl_X11_69 : Cond.methodLink RX11 69 yX11_ofForecast ∈ GW := gw_at6 192 (by decide +kernel) (by decide +kernel)
theorem wst_X11_ofForecast : Cond.static yX11_ofForecast ∈ GW := gw_at6 193 (by decide +kernel) (by decide +kernel)
theorem wc_X11_ofForecast : Cond.code yX11_ofForecast cX11_ofForecast 1 (some FieldType.int) ∈ GW := gw_at6 194 (by decide +kernel) (by decide +kernel)
theorem wl_X11_232 : Cond.methodLink RX11 232 yX11_prints ∈ GW := gw_at6 195 (by decide +kernel) (by decide +kernel)
theorem wst_X11_prints : Cond.static yX11_prints ∈ GW := gw_at6 196 (by decide +kernel) (by decide +kernel)
theorem wc_X11_prints : Cond.code yX11_prints cX11_prints 5 (some FieldType.int) ∈ GW := gw_at6 197 (by decide +kernel) (by decide +kernel)
theorem wl_X11_262 : Cond.methodLink RX11 262 yX11_readRetract ∈ GW := gw_at6 199 (by decide +kernel) (by decide +kernel)
theorem wn_X11_readRetract : Cond.instanceMethod yX11_readRetract ∈ GW := gw_at6 201 (by decide +kernel) (by decide +kernel)
theorem wc_X11_readRetract : Cond.code yX11_readRetract cX11_readRetract 2 none ∈ GW := gw_at6 202 (by decide +kernel) (by decide +kernel)
theorem wl_X11_236 : Cond.methodLink RX11 236 yX11_pages ∈ GW := gw_at6 203 (by decide +kernel) (by decide +kernel)
theorem wst_X11_pages : Cond.static yX11_pages ∈ GW := gw_at6 204 (by decide +kernel) (by decide +kernel)
theorem wc_X11_pages : Cond.code yX11_pages cX11_pages 1 (some FieldType.int) ∈ GW := gw_at6 205 (by decide +kernel) (by decide +kernel)
theorem wl_X11_84 : Cond.methodLink RX11 84 yX11_refund ∈ GW := gw_at6 206 (by decide +kernel) (by decide +kernel)
theorem wst_X11_refund : Cond.static yX11_refund ∈ GW := gw_at6 207 (by decide +kernel) (by decide +kernel)
theorem wc_X11_refund : Cond.code yX11_refund cX11_refund 4 (some FieldType.int) ∈ GW := gw_at6 208 (by decide +kernel) (by decide +kernel)
theorem wl_X11_77 : Cond.methodLink RX11 77 yX11_pageEnd ∈ GW := gw_at6 209 (by decide +kernel) (by decide +kernel)
theorem wst_X11_pageEnd : Cond.static yX11_pageEnd ∈ GW := gw_at6 210 (by decide +kernel) (by decide +kernel)
theorem wc_X11_pageEnd : Cond.code yX11_pageEnd cX11_pageEnd 3 (some FieldType.int) ∈ GW := gw_at6 211 (by decide +kernel) (by decide +kernel)
theorem wl_X11_239 : Cond.methodLink RX11 239 yX11_retracts ∈ GW := gw_at6 212 (by decide +kernel) (by decide +kernel)
theorem wst_X11_retracts : Cond.static yX11_retracts ∈ GW := gw_at6 213 (by decide +kernel) (by decide +kernel)
theorem wc_X11_retracts : Cond.code yX11_retracts cX11_retracts 4 (some FieldType.int) ∈ GW := gw_at6 214 (by decide +kernel) (by decide +kernel)
theorem wl_X11_87 : Cond.methodLink RX11 87 yX11_payBack ∈ GW := gw_at6 215 (by decide +kernel) (by decide +kernel)
theorem wst_X11_payBack : Cond.static yX11_payBack ∈ GW := gw_at6 216 (by decide +kernel) (by decide +kernel)
theorem wc_X11_payBack : Cond.code yX11_payBack cX11_payBack 2 none ∈ GW := gw_at6 217 (by decide +kernel) (by decide +kernel)
theorem wl_X11_91 : Cond.methodLink RX11 91 yX11_addTrust ∈ GW := gw_at6 218 (by decide +kernel) (by decide +kernel)
theorem wst_X11_addTrust : Cond.static yX11_addTrust ∈ GW := gw_at6 219 (by decide +kernel) (by decide +kernel)
theorem wc_X11_addTrust : Cond.code yX11_addTrust cX11_addTrust 5 none ∈ GW := gw_at6 220 (by decide +kernel) (by decide +kernel)
theorem wl_X11_95 : Cond.methodLink RX11 95 yX11_dropForecast ∈ GW := gw_at6 221 (by decide +kernel) (by decide +kernel)
theorem wst_X11_dropForecast : Cond.static yX11_dropForecast ∈ GW := gw_at6 222 (by decide +kernel) (by decide +kernel)
theorem wc_X11_dropForecast : Cond.code yX11_dropForecast cX11_dropForecast 3 none ∈ GW := gw_at6 223 (by decide +kernel) (by decide +kernel)
theorem wl_X11_267 : Cond.methodLink RX11 267 yX11_readPass ∈ GW := gw_at6 225 (by decide +kernel) (by decide +kernel)
theorem wn_X11_readPass : Cond.instanceMethod yX11_readPass ∈ GW := gw_at6 227 (by decide +kernel) (by decide +kernel)
theorem wc_X11_readPass : Cond.code yX11_readPass cX11_readPass 2 none ∈ GW := gw_at6 228 (by decide +kernel) (by decide +kernel)
theorem wl_X11_242 : Cond.methodLink RX11 242 yX11_passMany ∈ GW := gw_at6 229 (by decide +kernel) (by decide +kernel)
theorem wst_X11_passMany : Cond.static yX11_passMany ∈ GW := gw_at6 230 (by decide +kernel) (by decide +kernel)
theorem wc_X11_passMany : Cond.code yX11_passMany cX11_passMany 4 (some FieldType.int) ∈ GW := gw_at6 231 (by decide +kernel) (by decide +kernel)
theorem wl_X11_138 : Cond.methodLink RX11 138 yX11_passDay ∈ GW := gw_at6 232 (by decide +kernel) (by decide +kernel)
theorem wst_X11_passDay : Cond.static yX11_passDay ∈ GW := gw_at6 233 (by decide +kernel) (by decide +kernel)
theorem wc_X11_passDay : Cond.code yX11_passDay cX11_passDay 3 none ∈ GW := gw_at6 234 (by decide +kernel) (by decide +kernel)
theorem wl_X11_118 : Cond.methodLink RX11 118 yX11_isHeld ∈ GW := gw_at6 235 (by decide +kernel) (by decide +kernel)
theorem wst_X11_isHeld : Cond.static yX11_isHeld ∈ GW := gw_at6 236 (by decide +kernel) (by decide +kernel)
theorem wc_X11_isHeld : Cond.code yX11_isHeld cX11_isHeld 3 (some FieldType.boolean) ∈ GW := gw_at6 237 (by decide +kernel) (by decide +kernel)
theorem wl_X11_122 : Cond.methodLink RX11 122 yX11_holdFair ∈ GW := gw_at6 238 (by decide +kernel) (by decide +kernel)
theorem wst_X11_holdFair : Cond.static yX11_holdFair ∈ GW := gw_at6 239 (by decide +kernel) (by decide +kernel)
theorem wc_X11_holdFair : Cond.code yX11_holdFair cX11_holdFair 6 none ∈ GW := gw_at7 0 (by decide +kernel) (by decide +kernel)
theorem wl_X11_101 : Cond.methodLink RX11 101 yX11_wanted ∈ GW := gw_at7 1 (by decide +kernel) (by decide +kernel)
theorem wst_X11_wanted : Cond.static yX11_wanted ∈ GW := gw_at7 2 (by decide +kernel) (by decide +kernel)
theorem wc_X11_wanted : Cond.code yX11_wanted cX11_wanted 4 (some FieldType.int) ∈ GW := gw_at7 3 (by decide +kernel) (by decide +kernel)
theorem wl_X11_104 : Cond.methodLink RX11 104 yX11_sell ∈ GW := gw_at7 4 (by decide +kernel) (by decide +kernel)
theorem wst_X11_sell : Cond.static yX11_sell ∈ GW := gw_at7 5 (by decide +kernel) (by decide +kernel)
theorem wc_X11_sell : Cond.code yX11_sell cX11_sell 5 none ∈ GW := gw_at7 6 (by decide +kernel) (by decide +kernel)
theorem wl_X11_125 : Cond.methodLink RX11 125 yX11_seedBehind ∈ GW := gw_at7 7 (by decide +kernel) (by decide +kernel)
theorem wst_X11_seedBehind : Cond.static yX11_seedBehind ∈ GW := gw_at7 8 (by decide +kernel) (by decide +kernel)
theorem wc_X11_seedBehind : Cond.code yX11_seedBehind cX11_seedBehind 1 (some FieldType.int) ∈ GW := gw_at7 9 (by decide +kernel) (by decide +kernel)
theorem wl_X11_128 : Cond.methodLink RX11 128 yX11_weatherBy ∈ GW := gw_at7 10 (by decide +kernel) (by decide +kernel)
theorem wst_X11_weatherBy : Cond.static yX11_weatherBy ∈ GW := gw_at7 11 (by decide +kernel) (by decide +kernel)
theorem wc_X11_weatherBy : Cond.code yX11_weatherBy cX11_weatherBy 5 (some FieldType.int) ∈ GW := gw_at7 12 (by decide +kernel) (by decide +kernel)
theorem wl_X11_131 : Cond.methodLink RX11 131 yX11_weigh ∈ GW := gw_at7 13 (by decide +kernel) (by decide +kernel)
theorem wst_X11_weigh : Cond.static yX11_weigh ∈ GW := gw_at7 14 (by decide +kernel) (by decide +kernel)
theorem wc_X11_weigh : Cond.code yX11_weigh cX11_weigh 5 none ∈ GW := gw_at7 15 (by decide +kernel) (by decide +kernel)
theorem wl_X11_115 : Cond.methodLink RX11 115 yX11_regret ∈ GW := gw_at7 16 (by decide +kernel) (by decide +kernel)
theorem wst_X11_regret : Cond.static yX11_regret ∈ GW := gw_at7 17 (by decide +kernel) (by decide +kernel)
theorem wc_X11_regret : Cond.code yX11_regret cX11_regret 3 none ∈ GW := gw_at7 18 (by decide +kernel) (by decide +kernel)
theorem wl_X11_112 : Cond.methodLink RX11 112 yX11_ofRegret ∈ GW := gw_at7 19 (by decide +kernel) (by decide +kernel)
theorem wst_X11_ofRegret : Cond.static yX11_ofRegret ∈ GW := gw_at7 20 (by decide +kernel) (by decide +kernel)
theorem wc_X11_ofRegret : Cond.code yX11_ofRegret cX11_ofRegret 1 (some FieldType.int) ∈ GW := gw_at7 21 (by decide +kernel) (by decide +kernel)
theorem wl_X11_134 : Cond.methodLink RX11 134 yX11_endYear ∈ GW := gw_at7 22 (by decide +kernel) (by decide +kernel)
theorem wst_X11_endYear : Cond.static yX11_endYear ∈ GW := gw_at7 23 (by decide +kernel) (by decide +kernel)
theorem wc_X11_endYear : Cond.code yX11_endYear cX11_endYear 4 none ∈ GW := gw_at7 24 (by decide +kernel) (by decide +kernel)
theorem wl_X11_52 : Cond.methodLink RX11 52 yX11_copyRow ∈ GW := gw_at7 25 (by decide +kernel) (by decide +kernel)
theorem wst_X11_copyRow : Cond.static yX11_copyRow ∈ GW := gw_at7 26 (by decide +kernel) (by decide +kernel)
theorem wc_X11_copyRow : Cond.code yX11_copyRow cX11_copyRow 5 none ∈ GW := gw_at7 27 (by decide +kernel) (by decide +kernel)
theorem wf_X11_7 : Cond.fieldLink RX11 7 "AlmanacOfficeModel" "s" "[I" ∈ GW := gw_at7 28 (by decide +kernel) (by decide +kernel)
theorem wf_X11_13 : Cond.fieldLink RX11 13 "AlmanacOfficeModel" "parsed" "[I" ∈ GW := gw_at7 29 (by decide +kernel) (by decide +kernel)
theorem wf_X11_16 : Cond.fieldLink RX11 16 "AlmanacOfficeModel" "tried" "[I" ∈ GW := gw_at7 30 (by decide +kernel) (by decide +kernel)
theorem wf_X11_19 : Cond.fieldLink RX11 19 "AlmanacOfficeModel" "remembered" "[I" ∈ GW := gw_at7 31 (by decide +kernel) (by decide +kernel)
theorem wf_X11_22 : Cond.fieldLink RX11 22 "AlmanacOfficeModel" "slots" "[I" ∈ GW := gw_at7 32 (by decide +kernel) (by decide +kernel)
theorem wf_X11_25 : Cond.fieldLink RX11 25 "AlmanacOfficeModel" "kept" "[Z" ∈ GW := gw_at7 33 (by decide +kernel) (by decide +kernel)
theorem wf_X11_278 : Cond.fieldLink RX11 278 "AlmanacOfficeModel" "undoable" "I" ∈ GW := gw_at7 34 (by decide +kernel) (by decide +kernel)
theorem wf_X11_281 : Cond.fieldLink RX11 281 "AlmanacOfficeModel" "undoStart" "I" ∈ GW := gw_at7 35 (by decide +kernel) (by decide +kernel)
theorem wf_X11_66 : Cond.fieldLink RX11 66 "AlmanacOfficeModel" "thrown" "I" ∈ GW := gw_at7 36 (by decide +kernel) (by decide +kernel)
theorem wf_X11_29 : Cond.fieldLink RX11 29 "AlmanacOfficeModel" "input" "[I" ∈ GW := gw_at7 37 (by decide +kernel) (by decide +kernel)
theorem wf_X11_49 : Cond.fieldLink RX11 49 "AlmanacOfficeModel" "inputLength" "I" ∈ GW := gw_at7 38 (by decide +kernel) (by decide +kernel)
theorem wf_X11_159 : Cond.fieldLink RX11 159 "AlmanacOfficeModel" "position" "I" ∈ GW := gw_at7 39 (by decide +kernel) (by decide +kernel)
theorem wf_X11_165 : Cond.fieldLink RX11 165 "AlmanacOfficeModel" "start" "I" ∈ GW := gw_at7 40 (by decide +kernel) (by decide +kernel)
theorem wf_X11_174 : Cond.fieldLink RX11 174 "AlmanacOfficeModel" "token" "I" ∈ GW := gw_at7 41 (by decide +kernel) (by decide +kernel)
theorem wf_X11_171 : Cond.fieldLink RX11 171 "AlmanacOfficeModel" "value" "I" ∈ GW := gw_at7 42 (by decide +kernel) (by decide +kernel)
theorem wf_X11_168 : Cond.fieldLink RX11 168 "AlmanacOfficeModel" "letters" "I" ∈ GW := gw_at7 43 (by decide +kernel) (by decide +kernel)
theorem wf_X11_153 : Cond.fieldLink RX11 153 "AlmanacOfficeModel" "code" "I" ∈ GW := gw_at7 44 (by decide +kernel) (by decide +kernel)
theorem wf_X11_32 : Cond.fieldLink RX11 32 "AlmanacOfficeModel" "place" "I" ∈ GW := gw_at7 45 (by decide +kernel) (by decide +kernel)
theorem wf_X11_36 : Cond.fieldLink RX11 36 "AlmanacOfficeModel" "output" "[B" ∈ GW := gw_at7 46 (by decide +kernel) (by decide +kernel)
theorem wf_X11_309 : Cond.fieldLink RX11 309 "AlmanacOfficeModel" "outputLength" "I" ∈ GW := gw_at7 47 (by decide +kernel) (by decide +kernel)
theorem wl_L_149 : Cond.methodLink RL 149 yX11_thrown ∈ GW := gw_at7 89 (by decide +kernel) (by decide +kernel)
theorem wn_X11_thrown : Cond.instanceMethod yX11_thrown ∈ GW := gw_at7 90 (by decide +kernel) (by decide +kernel)
theorem we_X11_thrown : Cond.selects RX11 yX11_thrown yX11_thrown ∈ GW := gw_at7 91 (by decide +kernel) (by decide +kernel)
theorem wc_X11_thrown : Cond.code yX11_thrown cX11_thrown 1 (some FieldType.int) ∈ GW := gw_at7 92 (by decide +kernel) (by decide +kernel)
theorem wl_L_148 : Cond.methodLink RL 148 yX11_appendInput ∈ GW := gw_at7 93 (by decide +kernel) (by decide +kernel)
theorem wn_X11_appendInput : Cond.instanceMethod yX11_appendInput ∈ GW := gw_at7 94 (by decide +kernel) (by decide +kernel)
theorem we_X11_appendInput : Cond.selects RX11 yX11_appendInput yX11_appendInput ∈ GW := gw_at7 95 (by decide +kernel) (by decide +kernel)
theorem wc_X11_appendInput : Cond.code yX11_appendInput cX11_appendInput 6 (some FieldType.int) ∈ GW := gw_at7 96 (by decide +kernel) (by decide +kernel)
theorem wl_X11_141 : Cond.methodLink RX11 141 yX11_refuses ∈ GW := gw_at7 97 (by decide +kernel) (by decide +kernel)
theorem wn_X11_refuses : Cond.instanceMethod yX11_refuses ∈ GW := gw_at7 99 (by decide +kernel) (by decide +kernel)
theorem wc_X11_refuses : Cond.code yX11_refuses cX11_refuses 3 (some FieldType.boolean) ∈ GW := gw_at7 100 (by decide +kernel) (by decide +kernel)
theorem wl_X11_145 : Cond.methodLink RX11 145 yX11_appendWord ∈ GW := gw_at7 101 (by decide +kernel) (by decide +kernel)
theorem wn_X11_appendWord : Cond.instanceMethod yX11_appendWord ∈ GW := gw_at7 103 (by decide +kernel) (by decide +kernel)
theorem wc_X11_appendWord : Cond.code yX11_appendWord cX11_appendWord 3 none ∈ GW := gw_at7 104 (by decide +kernel) (by decide +kernel)
theorem wl_L_155 : Cond.methodLink RL 155 yX11_truncateInput ∈ GW := gw_at7 105 (by decide +kernel) (by decide +kernel)
theorem wn_X11_truncateInput : Cond.instanceMethod yX11_truncateInput ∈ GW := gw_at7 106 (by decide +kernel) (by decide +kernel)
theorem we_X11_truncateInput : Cond.selects RX11 yX11_truncateInput yX11_truncateInput ∈ GW := gw_at7 107 (by decide +kernel) (by decide +kernel)
theorem wc_X11_truncateInput : Cond.code yX11_truncateInput cX11_truncateInput 2 (some FieldType.int) ∈ GW := gw_at7 108 (by decide +kernel) (by decide +kernel)
theorem wl_X11_149 : Cond.methodLink RX11 149 yX11_noNumber ∈ GW := gw_at7 109 (by decide +kernel) (by decide +kernel)
theorem wn_X11_noNumber : Cond.instanceMethod yX11_noNumber ∈ GW := gw_at7 111 (by decide +kernel) (by decide +kernel)
theorem wc_X11_noNumber : Cond.code yX11_noNumber cX11_noNumber 4 (some FieldType.boolean) ∈ GW := gw_at7 112 (by decide +kernel) (by decide +kernel)
theorem wl_L_163 : Cond.methodLink RL 163 yX11_errorCode ∈ GW := gw_at7 113 (by decide +kernel) (by decide +kernel)
theorem wn_X11_errorCode : Cond.instanceMethod yX11_errorCode ∈ GW := gw_at7 114 (by decide +kernel) (by decide +kernel)
theorem we_X11_errorCode : Cond.selects RX11 yX11_errorCode yX11_errorCode ∈ GW := gw_at7 115 (by decide +kernel) (by decide +kernel)
theorem wc_X11_errorCode : Cond.code yX11_errorCode cX11_errorCode 1 (some FieldType.int) ∈ GW := gw_at7 116 (by decide +kernel) (by decide +kernel)
theorem wl_L_167 : Cond.methodLink RL 167 yX11_errorPosition ∈ GW := gw_at7 117 (by decide +kernel) (by decide +kernel)
theorem wn_X11_errorPosition : Cond.instanceMethod yX11_errorPosition ∈ GW := gw_at7 118 (by decide +kernel) (by decide +kernel)
theorem we_X11_errorPosition : Cond.selects RX11 yX11_errorPosition yX11_errorPosition ∈ GW := gw_at7 119 (by decide +kernel) (by decide +kernel)
theorem wc_X11_errorPosition : Cond.code yX11_errorPosition cX11_errorPosition 1 (some FieldType.int) ∈ GW := gw_at7 120 (by decide +kernel) (by decide +kernel)
theorem wl_L_159 : Cond.methodLink RL 159 yX11_load ∈ GW := gw_at7 121 (by decide +kernel) (by decide +kernel)
theorem wn_X11_load : Cond.instanceMethod yX11_load ∈ GW := gw_at7 122 (by decide +kernel) (by decide +kernel)
theorem we_X11_load : Cond.selects RX11 yX11_load yX11_load ∈ GW := gw_at7 123 (by decide +kernel) (by decide +kernel)
theorem wc_X11_load : Cond.code yX11_load cX11_load 1 (some FieldType.int) ∈ GW := gw_at7 124 (by decide +kernel) (by decide +kernel)
theorem wl_X11_275 : Cond.methodLink RX11 275 yX11_remember ∈ GW := gw_at7 125 (by decide +kernel) (by decide +kernel)
theorem wn_X11_remember : Cond.instanceMethod yX11_remember ∈ GW := gw_at7 127 (by decide +kernel) (by decide +kernel)
theorem wc_X11_remember : Cond.code yX11_remember cX11_remember 1 none ∈ GW := gw_at7 128 (by decide +kernel) (by decide +kernel)
theorem wl_L_357 : Cond.methodLink RL 357 yX11_undo ∈ GW := gw_at7 129 (by decide +kernel) (by decide +kernel)
theorem wn_X11_undo : Cond.instanceMethod yX11_undo ∈ GW := gw_at7 130 (by decide +kernel) (by decide +kernel)
theorem we_X11_undo : Cond.selects RX11 yX11_undo yX11_undo ∈ GW := gw_at7 131 (by decide +kernel) (by decide +kernel)
theorem wc_X11_undo : Cond.code yX11_undo cX11_undo 1 (some FieldType.int) ∈ GW := gw_at7 132 (by decide +kernel) (by decide +kernel)
theorem wl_L_171 : Cond.methodLink RL 171 yX11_day ∈ GW := gw_at7 133 (by decide +kernel) (by decide +kernel)
theorem wn_X11_day : Cond.instanceMethod yX11_day ∈ GW := gw_at7 134 (by decide +kernel) (by decide +kernel)
theorem we_X11_day : Cond.selects RX11 yX11_day yX11_day ∈ GW := gw_at7 135 (by decide +kernel) (by decide +kernel)
theorem wc_X11_day : Cond.code yX11_day cX11_day 1 (some FieldType.int) ∈ GW := gw_at7 136 (by decide +kernel) (by decide +kernel)
theorem wl_L_175 : Cond.methodLink RL 175 yX11_seed ∈ GW := gw_at7 137 (by decide +kernel) (by decide +kernel)
theorem wn_X11_seed : Cond.instanceMethod yX11_seed ∈ GW := gw_at7 138 (by decide +kernel) (by decide +kernel)
theorem we_X11_seed : Cond.selects RX11 yX11_seed yX11_seed ∈ GW := gw_at7 139 (by decide +kernel) (by decide +kernel)
theorem wc_X11_seed : Cond.code yX11_seed cX11_seed 1 (some FieldType.int) ∈ GW := gw_at7 140 (by decide +kernel) (by decide +kernel)
theorem wl_L_179 : Cond.methodLink RL 179 yX11_coins ∈ GW := gw_at7 141 (by decide +kernel) (by decide +kernel)
theorem wn_X11_coins : Cond.instanceMethod yX11_coins ∈ GW := gw_at7 142 (by decide +kernel) (by decide +kernel)
theorem we_X11_coins : Cond.selects RX11 yX11_coins yX11_coins ∈ GW := gw_at7 143 (by decide +kernel) (by decide +kernel)
theorem wc_X11_coins : Cond.code yX11_coins cX11_coins 1 (some FieldType.int) ∈ GW := gw_at7 144 (by decide +kernel) (by decide +kernel)
theorem wl_L_183 : Cond.methodLink RL 183 yX11_villageCount ∈ GW := gw_at7 145 (by decide +kernel) (by decide +kernel)
theorem wn_X11_villageCount : Cond.instanceMethod yX11_villageCount ∈ GW := gw_at7 146 (by decide +kernel) (by decide +kernel)
theorem we_X11_villageCount : Cond.selects RX11 yX11_villageCount yX11_villageCount ∈ GW := gw_at7 147 (by decide +kernel) (by decide +kernel)
theorem wc_X11_villageCount : Cond.code yX11_villageCount cX11_villageCount 1 (some FieldType.int) ∈ GW := gw_at7 148 (by decide +kernel) (by decide +kernel)
theorem wl_L_187 : Cond.methodLink RL 187 yX11_fairCount ∈ GW := gw_at7 149 (by decide +kernel) (by decide +kernel)
theorem wn_X11_fairCount : Cond.instanceMethod yX11_fairCount ∈ GW := gw_at7 150 (by decide +kernel) (by decide +kernel)
theorem we_X11_fairCount : Cond.selects RX11 yX11_fairCount yX11_fairCount ∈ GW := gw_at7 151 (by decide +kernel) (by decide +kernel)
theorem wc_X11_fairCount : Cond.code yX11_fairCount cX11_fairCount 1 (some FieldType.int) ∈ GW := gw_at7 152 (by decide +kernel) (by decide +kernel)
theorem wl_L_191 : Cond.methodLink RL 191 yX11_findName ∈ GW := gw_at7 153 (by decide +kernel) (by decide +kernel)
theorem wn_X11_findName : Cond.instanceMethod yX11_findName ∈ GW := gw_at7 154 (by decide +kernel) (by decide +kernel)
theorem we_X11_findName : Cond.selects RX11 yX11_findName yX11_findName ∈ GW := gw_at7 155 (by decide +kernel) (by decide +kernel)
theorem wc_X11_findName : Cond.code yX11_findName cX11_findName 4 (some FieldType.int) ∈ GW := gw_at7 156 (by decide +kernel) (by decide +kernel)
theorem wl_L_194 : Cond.methodLink RL 194 yX11_peopleOf ∈ GW := gw_at7 157 (by decide +kernel) (by decide +kernel)
theorem wn_X11_peopleOf : Cond.instanceMethod yX11_peopleOf ∈ GW := gw_at7 158 (by decide +kernel) (by decide +kernel)
theorem we_X11_peopleOf : Cond.selects RX11 yX11_peopleOf yX11_peopleOf ∈ GW := gw_at7 159 (by decide +kernel) (by decide +kernel)
theorem wc_X11_peopleOf : Cond.code yX11_peopleOf cX11_peopleOf 2 (some FieldType.int) ∈ GW := gw_at7 160 (by decide +kernel) (by decide +kernel)
theorem wl_X11_284 : Cond.methodLink RX11 284 yX11_noVillage ∈ GW := gw_at7 161 (by decide +kernel) (by decide +kernel)
theorem wn_X11_noVillage : Cond.instanceMethod yX11_noVillage ∈ GW := gw_at7 163 (by decide +kernel) (by decide +kernel)
theorem wc_X11_noVillage : Cond.code yX11_noVillage cX11_noVillage 2 (some FieldType.boolean) ∈ GW := gw_at7 164 (by decide +kernel) (by decide +kernel)
theorem wl_L_197 : Cond.methodLink RL 197 yX11_trustOf ∈ GW := gw_at7 165 (by decide +kernel) (by decide +kernel)
theorem wn_X11_trustOf : Cond.instanceMethod yX11_trustOf ∈ GW := gw_at7 166 (by decide +kernel) (by decide +kernel)
theorem we_X11_trustOf : Cond.selects RX11 yX11_trustOf yX11_trustOf ∈ GW := gw_at7 167 (by decide +kernel) (by decide +kernel)
theorem wc_X11_trustOf : Cond.code yX11_trustOf cX11_trustOf 2 (some FieldType.int) ∈ GW := gw_at7 168 (by decide +kernel) (by decide +kernel)
theorem wl_L_200 : Cond.methodLink RL 200 yX11_forecastsFor ∈ GW := gw_at7 169 (by decide +kernel) (by decide +kernel)
theorem wn_X11_forecastsFor : Cond.instanceMethod yX11_forecastsFor ∈ GW := gw_at7 170 (by decide +kernel) (by decide +kernel)
theorem we_X11_forecastsFor : Cond.selects RX11 yX11_forecastsFor yX11_forecastsFor ∈ GW := gw_at7 171 (by decide +kernel) (by decide +kernel)
theorem wc_X11_forecastsFor : Cond.code yX11_forecastsFor cX11_forecastsFor 4 (some FieldType.int) ∈ GW := gw_at7 172 (by decide +kernel) (by decide +kernel)
theorem wl_L_203 : Cond.methodLink RL 203 yX11_fairVillage ∈ GW := gw_at7 173 (by decide +kernel) (by decide +kernel)
theorem wn_X11_fairVillage : Cond.instanceMethod yX11_fairVillage ∈ GW := gw_at7 174 (by decide +kernel) (by decide +kernel)
theorem we_X11_fairVillage : Cond.selects RX11 yX11_fairVillage yX11_fairVillage ∈ GW := gw_at7 175 (by decide +kernel) (by decide +kernel)
theorem wc_X11_fairVillage : Cond.code yX11_fairVillage cX11_fairVillage 2 (some FieldType.int) ∈ GW := gw_at7 176 (by decide +kernel) (by decide +kernel)
theorem wl_X11_287 : Cond.methodLink RX11 287 yX11_noFair ∈ GW := gw_at7 177 (by decide +kernel) (by decide +kernel)
theorem wn_X11_noFair : Cond.instanceMethod yX11_noFair ∈ GW := gw_at7 179 (by decide +kernel) (by decide +kernel)
theorem wc_X11_noFair : Cond.code yX11_noFair cX11_noFair 2 (some FieldType.boolean) ∈ GW := gw_at7 180 (by decide +kernel) (by decide +kernel)
theorem wl_L_206 : Cond.methodLink RL 206 yX11_periodOf ∈ GW := gw_at7 181 (by decide +kernel) (by decide +kernel)
theorem wn_X11_periodOf : Cond.instanceMethod yX11_periodOf ∈ GW := gw_at7 182 (by decide +kernel) (by decide +kernel)
theorem we_X11_periodOf : Cond.selects RX11 yX11_periodOf yX11_periodOf ∈ GW := gw_at7 183 (by decide +kernel) (by decide +kernel)
theorem wc_X11_periodOf : Cond.code yX11_periodOf cX11_periodOf 2 (some FieldType.int) ∈ GW := gw_at7 184 (by decide +kernel) (by decide +kernel)
theorem wl_L_209 : Cond.methodLink RL 209 yX11_stockOf ∈ GW := gw_at7 185 (by decide +kernel) (by decide +kernel)
theorem wn_X11_stockOf : Cond.instanceMethod yX11_stockOf ∈ GW := gw_at7 186 (by decide +kernel) (by decide +kernel)
theorem we_X11_stockOf : Cond.selects RX11 yX11_stockOf yX11_stockOf ∈ GW := gw_at7 187 (by decide +kernel) (by decide +kernel)
theorem wc_X11_stockOf : Cond.code yX11_stockOf cX11_stockOf 2 (some FieldType.int) ∈ GW := gw_at7 188 (by decide +kernel) (by decide +kernel)
theorem wl_L_212 : Cond.methodLink RL 212 yX11_priceOf ∈ GW := gw_at7 189 (by decide +kernel) (by decide +kernel)
theorem wn_X11_priceOf : Cond.instanceMethod yX11_priceOf ∈ GW := gw_at7 190 (by decide +kernel) (by decide +kernel)
theorem we_X11_priceOf : Cond.selects RX11 yX11_priceOf yX11_priceOf ∈ GW := gw_at7 191 (by decide +kernel) (by decide +kernel)
theorem wc_X11_priceOf : Cond.code yX11_priceOf cX11_priceOf 2 (some FieldType.int) ∈ GW := gw_at7 192 (by decide +kernel) (by decide +kernel)
theorem wl_L_215 : Cond.methodLink RL 215 yX11_daysUntilFair ∈ GW := gw_at7 193 (by decide +kernel) (by decide +kernel)
theorem wn_X11_daysUntilFair : Cond.instanceMethod yX11_daysUntilFair ∈ GW := gw_at7 194 (by decide +kernel) (by decide +kernel)
theorem we_X11_daysUntilFair : Cond.selects RX11 yX11_daysUntilFair yX11_daysUntilFair ∈ GW := gw_at7 195 (by decide +kernel) (by decide +kernel)
theorem wc_X11_daysUntilFair : Cond.code yX11_daysUntilFair cX11_daysUntilFair 3 (some FieldType.int) ∈ GW := gw_at7 196 (by decide +kernel) (by decide +kernel)
theorem wl_L_218 : Cond.methodLink RL 218 yX11_oddsOf ∈ GW := gw_at7 197 (by decide +kernel) (by decide +kernel)
theorem wn_X11_oddsOf : Cond.instanceMethod yX11_oddsOf ∈ GW := gw_at7 198 (by decide +kernel) (by decide +kernel)
theorem we_X11_oddsOf : Cond.selects RX11 yX11_oddsOf yX11_oddsOf ∈ GW := gw_at7 199 (by decide +kernel) (by decide +kernel)
theorem wc_X11_oddsOf : Cond.code yX11_oddsOf cX11_oddsOf 2 (some FieldType.int) ∈ GW := gw_at7 200 (by decide +kernel) (by decide +kernel)
theorem wl_X11_290 : Cond.methodLink RX11 290 yX11_noWeather ∈ GW := gw_at7 201 (by decide +kernel) (by decide +kernel)
theorem wn_X11_noWeather : Cond.instanceMethod yX11_noWeather ∈ GW := gw_at7 203 (by decide +kernel) (by decide +kernel)
theorem wc_X11_noWeather : Cond.code yX11_noWeather cX11_noWeather 2 (some FieldType.boolean) ∈ GW := gw_at7 204 (by decide +kernel) (by decide +kernel)
theorem wl_L_222 : Cond.methodLink RL 222 yX11_chanceOf ∈ GW := gw_at7 205 (by decide +kernel) (by decide +kernel)
theorem wn_X11_chanceOf : Cond.instanceMethod yX11_chanceOf ∈ GW := gw_at7 206 (by decide +kernel) (by decide +kernel)
theorem we_X11_chanceOf : Cond.selects RX11 yX11_chanceOf yX11_chanceOf ∈ GW := gw_at7 207 (by decide +kernel) (by decide +kernel)
theorem wc_X11_chanceOf : Cond.code yX11_chanceOf cX11_chanceOf 2 (some FieldType.double) ∈ GW := gw_at7 208 (by decide +kernel) (by decide +kernel)
theorem wl_L_225 : Cond.methodLink RL 225 yX11_drawnThisYear ∈ GW := gw_at7 209 (by decide +kernel) (by decide +kernel)
theorem wn_X11_drawnThisYear : Cond.instanceMethod yX11_drawnThisYear ∈ GW := gw_at7 210 (by decide +kernel) (by decide +kernel)
theorem we_X11_drawnThisYear : Cond.selects RX11 yX11_drawnThisYear yX11_drawnThisYear ∈ GW := gw_at7 211 (by decide +kernel) (by decide +kernel)
theorem wc_X11_drawnThisYear : Cond.code yX11_drawnThisYear cX11_drawnThisYear 2 (some FieldType.int) ∈ GW := gw_at7 212 (by decide +kernel) (by decide +kernel)
theorem wl_L_265 : Cond.methodLink RL 265 yX11_likeliestWeather ∈ GW := gw_at7 213 (by decide +kernel) (by decide +kernel)
theorem wn_X11_likeliestWeather : Cond.instanceMethod yX11_likeliestWeather ∈ GW := gw_at7 214 (by decide +kernel) (by decide +kernel)
theorem we_X11_likeliestWeather : Cond.selects RX11 yX11_likeliestWeather yX11_likeliestWeather ∈ GW := gw_at7 215 (by decide +kernel) (by decide +kernel)
theorem wc_X11_likeliestWeather : Cond.code yX11_likeliestWeather cX11_likeliestWeather 3 (some FieldType.int) ∈ GW := gw_at7 216 (by decide +kernel) (by decide +kernel)
theorem wl_L_268 : Cond.methodLink RL 268 yX11_tomorrowIn ∈ GW := gw_at7 217 (by decide +kernel) (by decide +kernel)
theorem wn_X11_tomorrowIn : Cond.instanceMethod yX11_tomorrowIn ∈ GW := gw_at7 218 (by decide +kernel) (by decide +kernel)
theorem we_X11_tomorrowIn : Cond.selects RX11 yX11_tomorrowIn yX11_tomorrowIn ∈ GW := gw_at7 219 (by decide +kernel) (by decide +kernel)
theorem wc_X11_tomorrowIn : Cond.code yX11_tomorrowIn cX11_tomorrowIn 4 (some FieldType.int) ∈ GW := gw_at7 220 (by decide +kernel) (by decide +kernel)
theorem wl_L_229 : Cond.methodLink RL 229 yX11_forecastCount ∈ GW := gw_at7 221 (by decide +kernel) (by decide +kernel)
theorem wn_X11_forecastCount : Cond.instanceMethod yX11_forecastCount ∈ GW := gw_at7 222 (by decide +kernel) (by decide +kernel)
theorem we_X11_forecastCount : Cond.selects RX11 yX11_forecastCount yX11_forecastCount ∈ GW := gw_at7 223 (by decide +kernel) (by decide +kernel)
theorem wc_X11_forecastCount : Cond.code yX11_forecastCount cX11_forecastCount 1 (some FieldType.int) ∈ GW := gw_at7 224 (by decide +kernel) (by decide +kernel)
theorem wl_L_233 : Cond.methodLink RL 233 yX11_hasForecast ∈ GW := gw_at7 225 (by decide +kernel) (by decide +kernel)
theorem wn_X11_hasForecast : Cond.instanceMethod yX11_hasForecast ∈ GW := gw_at7 226 (by decide +kernel) (by decide +kernel)
theorem we_X11_hasForecast : Cond.selects RX11 yX11_hasForecast yX11_hasForecast ∈ GW := gw_at7 227 (by decide +kernel) (by decide +kernel)
theorem wc_X11_hasForecast : Cond.code yX11_hasForecast cX11_hasForecast 3 (some FieldType.boolean) ∈ GW := gw_at7 228 (by decide +kernel) (by decide +kernel)
theorem wl_L_236 : Cond.methodLink RL 236 yX11_weatherOf ∈ GW := gw_at7 229 (by decide +kernel) (by decide +kernel)
theorem wn_X11_weatherOf : Cond.instanceMethod yX11_weatherOf ∈ GW := gw_at7 230 (by decide +kernel) (by decide +kernel)
theorem we_X11_weatherOf : Cond.selects RX11 yX11_weatherOf yX11_weatherOf ∈ GW := gw_at7 231 (by decide +kernel) (by decide +kernel)
theorem wc_X11_weatherOf : Cond.code yX11_weatherOf cX11_weatherOf 4 (some FieldType.int) ∈ GW := gw_at7 232 (by decide +kernel) (by decide +kernel)
theorem wl_X11_293 : Cond.methodLink RX11 293 yX11_noForecast ∈ GW := gw_at7 233 (by decide +kernel) (by decide +kernel)
theorem wn_X11_noForecast : Cond.instanceMethod yX11_noForecast ∈ GW := gw_at7 235 (by decide +kernel) (by decide +kernel)
theorem wc_X11_noForecast : Cond.code yX11_noForecast cX11_noForecast 3 (some FieldType.boolean) ∈ GW := gw_at7 236 (by decide +kernel) (by decide +kernel)
theorem wl_L_239 : Cond.methodLink RL 239 yX11_soldOf ∈ GW := gw_at7 237 (by decide +kernel) (by decide +kernel)
theorem wn_X11_soldOf : Cond.instanceMethod yX11_soldOf ∈ GW := gw_at7 238 (by decide +kernel) (by decide +kernel)
theorem we_X11_soldOf : Cond.selects RX11 yX11_soldOf yX11_soldOf ∈ GW := gw_at7 239 (by decide +kernel) (by decide +kernel)
theorem wc_X11_soldOf : Cond.code yX11_soldOf cX11_soldOf 4 (some FieldType.int) ∈ GW := gw_at8 0 (by decide +kernel) (by decide +kernel)
theorem wl_L_242 : Cond.methodLink RL 242 yX11_paidOf ∈ GW := gw_at8 1 (by decide +kernel) (by decide +kernel)
theorem wn_X11_paidOf : Cond.instanceMethod yX11_paidOf ∈ GW := gw_at8 2 (by decide +kernel) (by decide +kernel)
theorem we_X11_paidOf : Cond.selects RX11 yX11_paidOf yX11_paidOf ∈ GW := gw_at8 3 (by decide +kernel) (by decide +kernel)
theorem wc_X11_paidOf : Cond.code yX11_paidOf cX11_paidOf 4 (some FieldType.int) ∈ GW := gw_at8 4 (by decide +kernel) (by decide +kernel)
theorem wl_L_245 : Cond.methodLink RL 245 yX11_pageOf ∈ GW := gw_at8 5 (by decide +kernel) (by decide +kernel)
theorem wn_X11_pageOf : Cond.instanceMethod yX11_pageOf ∈ GW := gw_at8 6 (by decide +kernel) (by decide +kernel)
theorem we_X11_pageOf : Cond.selects RX11 yX11_pageOf yX11_pageOf ∈ GW := gw_at8 7 (by decide +kernel) (by decide +kernel)
theorem wc_X11_pageOf : Cond.code yX11_pageOf cX11_pageOf 3 (some FieldType.int) ∈ GW := gw_at8 8 (by decide +kernel) (by decide +kernel)
theorem wl_L_248 : Cond.methodLink RL 248 yX11_forecastAt ∈ GW := gw_at8 9 (by decide +kernel) (by decide +kernel)
theorem wn_X11_forecastAt : Cond.instanceMethod yX11_forecastAt ∈ GW := gw_at8 10 (by decide +kernel) (by decide +kernel)
theorem we_X11_forecastAt : Cond.selects RX11 yX11_forecastAt yX11_forecastAt ∈ GW := gw_at8 11 (by decide +kernel) (by decide +kernel)
theorem wc_X11_forecastAt : Cond.code yX11_forecastAt cX11_forecastAt 2 (some FieldType.int) ∈ GW := gw_at8 12 (by decide +kernel) (by decide +kernel)
theorem wl_X11_297 : Cond.methodLink RX11 297 yX11_told ∈ GW := gw_at8 13 (by decide +kernel) (by decide +kernel)
theorem wn_X11_told : Cond.instanceMethod yX11_told ∈ GW := gw_at8 15 (by decide +kernel) (by decide +kernel)
theorem wc_X11_told : Cond.code yX11_told cX11_told 2 (some FieldType.int) ∈ GW := gw_at8 16 (by decide +kernel) (by decide +kernel)
theorem wl_L_252 : Cond.methodLink RL 252 yX11_pageCount ∈ GW := gw_at8 17 (by decide +kernel) (by decide +kernel)
theorem wn_X11_pageCount : Cond.instanceMethod yX11_pageCount ∈ GW := gw_at8 18 (by decide +kernel) (by decide +kernel)
theorem we_X11_pageCount : Cond.selects RX11 yX11_pageCount yX11_pageCount ∈ GW := gw_at8 19 (by decide +kernel) (by decide +kernel)
theorem wc_X11_pageCount : Cond.code yX11_pageCount cX11_pageCount 1 (some FieldType.int) ∈ GW := gw_at8 20 (by decide +kernel) (by decide +kernel)
theorem wl_L_255 : Cond.methodLink RL 255 yX11_refundOf ∈ GW := gw_at8 21 (by decide +kernel) (by decide +kernel)
theorem wn_X11_refundOf : Cond.instanceMethod yX11_refundOf ∈ GW := gw_at8 22 (by decide +kernel) (by decide +kernel)
theorem we_X11_refundOf : Cond.selects RX11 yX11_refundOf yX11_refundOf ∈ GW := gw_at8 23 (by decide +kernel) (by decide +kernel)
theorem wc_X11_refundOf : Cond.code yX11_refundOf cX11_refundOf 2 (some FieldType.int) ∈ GW := gw_at8 24 (by decide +kernel) (by decide +kernel)
theorem wl_X11_300 : Cond.methodLink RX11 300 yX11_noPage ∈ GW := gw_at8 25 (by decide +kernel) (by decide +kernel)
theorem wn_X11_noPage : Cond.instanceMethod yX11_noPage ∈ GW := gw_at8 27 (by decide +kernel) (by decide +kernel)
theorem wc_X11_noPage : Cond.code yX11_noPage cX11_noPage 2 (some FieldType.boolean) ∈ GW := gw_at8 28 (by decide +kernel) (by decide +kernel)
theorem wl_L_258 : Cond.methodLink RL 258 yX11_canRetract ∈ GW := gw_at8 29 (by decide +kernel) (by decide +kernel)
theorem wn_X11_canRetract : Cond.instanceMethod yX11_canRetract ∈ GW := gw_at8 30 (by decide +kernel) (by decide +kernel)
theorem we_X11_canRetract : Cond.selects RX11 yX11_canRetract yX11_canRetract ∈ GW := gw_at8 31 (by decide +kernel) (by decide +kernel)
theorem wc_X11_canRetract : Cond.code yX11_canRetract cX11_canRetract 2 (some FieldType.boolean) ∈ GW := gw_at8 32 (by decide +kernel) (by decide +kernel)
theorem wl_L_261 : Cond.methodLink RL 261 yX11_printRefusal ∈ GW := gw_at8 33 (by decide +kernel) (by decide +kernel)
theorem wn_X11_printRefusal : Cond.instanceMethod yX11_printRefusal ∈ GW := gw_at8 34 (by decide +kernel) (by decide +kernel)
theorem we_X11_printRefusal : Cond.selects RX11 yX11_printRefusal yX11_printRefusal ∈ GW := gw_at8 35 (by decide +kernel) (by decide +kernel)
theorem wc_X11_printRefusal : Cond.code yX11_printRefusal cX11_printRefusal 3 (some FieldType.int) ∈ GW := gw_at8 36 (by decide +kernel) (by decide +kernel)
theorem wl_L_272 : Cond.methodLink RL 272 yX11_regretCount ∈ GW := gw_at8 37 (by decide +kernel) (by decide +kernel)
theorem wn_X11_regretCount : Cond.instanceMethod yX11_regretCount ∈ GW := gw_at8 38 (by decide +kernel) (by decide +kernel)
theorem we_X11_regretCount : Cond.selects RX11 yX11_regretCount yX11_regretCount ∈ GW := gw_at8 39 (by decide +kernel) (by decide +kernel)
theorem wc_X11_regretCount : Cond.code yX11_regretCount cX11_regretCount 1 (some FieldType.int) ∈ GW := gw_at8 40 (by decide +kernel) (by decide +kernel)
theorem wl_L_275 : Cond.methodLink RL 275 yX11_regretAt ∈ GW := gw_at8 41 (by decide +kernel) (by decide +kernel)
theorem wn_X11_regretAt : Cond.instanceMethod yX11_regretAt ∈ GW := gw_at8 42 (by decide +kernel) (by decide +kernel)
theorem we_X11_regretAt : Cond.selects RX11 yX11_regretAt yX11_regretAt ∈ GW := gw_at8 43 (by decide +kernel) (by decide +kernel)
theorem wc_X11_regretAt : Cond.code yX11_regretAt cX11_regretAt 2 (some FieldType.int) ∈ GW := gw_at8 44 (by decide +kernel) (by decide +kernel)
theorem wl_L_279 : Cond.methodLink RL 279 yX11_hits ∈ GW := gw_at8 45 (by decide +kernel) (by decide +kernel)
theorem wn_X11_hits : Cond.instanceMethod yX11_hits ∈ GW := gw_at8 46 (by decide +kernel) (by decide +kernel)
theorem we_X11_hits : Cond.selects RX11 yX11_hits yX11_hits ∈ GW := gw_at8 47 (by decide +kernel) (by decide +kernel)
theorem wc_X11_hits : Cond.code yX11_hits cX11_hits 1 (some FieldType.int) ∈ GW := gw_at8 48 (by decide +kernel) (by decide +kernel)
theorem wl_L_283 : Cond.methodLink RL 283 yX11_regrets ∈ GW := gw_at8 49 (by decide +kernel) (by decide +kernel)
theorem wn_X11_regrets : Cond.instanceMethod yX11_regrets ∈ GW := gw_at8 50 (by decide +kernel) (by decide +kernel)
theorem we_X11_regrets : Cond.selects RX11 yX11_regrets yX11_regrets ∈ GW := gw_at8 51 (by decide +kernel) (by decide +kernel)
theorem wc_X11_regrets : Cond.code yX11_regrets cX11_regrets 1 (some FieldType.int) ∈ GW := gw_at8 52 (by decide +kernel) (by decide +kernel)
theorem wl_L_287 : Cond.methodLink RL 287 yX11_retractions ∈ GW := gw_at8 53 (by decide +kernel) (by decide +kernel)
theorem wn_X11_retractions : Cond.instanceMethod yX11_retractions ∈ GW := gw_at8 54 (by decide +kernel) (by decide +kernel)
theorem we_X11_retractions : Cond.selects RX11 yX11_retractions yX11_retractions ∈ GW := gw_at8 55 (by decide +kernel) (by decide +kernel)
theorem wc_X11_retractions : Cond.code yX11_retractions cX11_retractions 1 (some FieldType.int) ∈ GW := gw_at8 56 (by decide +kernel) (by decide +kernel)
theorem wl_L_290 : Cond.methodLink RL 290 yX11_coinsAfter ∈ GW := gw_at8 57 (by decide +kernel) (by decide +kernel)
theorem wn_X11_coinsAfter : Cond.instanceMethod yX11_coinsAfter ∈ GW := gw_at8 58 (by decide +kernel) (by decide +kernel)
theorem we_X11_coinsAfter : Cond.selects RX11 yX11_coinsAfter yX11_coinsAfter ∈ GW := gw_at8 59 (by decide +kernel) (by decide +kernel)
theorem wc_X11_coinsAfter : Cond.code yX11_coinsAfter cX11_coinsAfter 2 (some FieldType.int) ∈ GW := gw_at8 60 (by decide +kernel) (by decide +kernel)
theorem wl_L_293 : Cond.methodLink RL 293 yX11_trustAfter ∈ GW := gw_at8 61 (by decide +kernel) (by decide +kernel)
theorem wn_X11_trustAfter : Cond.instanceMethod yX11_trustAfter ∈ GW := gw_at8 62 (by decide +kernel) (by decide +kernel)
theorem we_X11_trustAfter : Cond.selects RX11 yX11_trustAfter yX11_trustAfter ∈ GW := gw_at8 63 (by decide +kernel) (by decide +kernel)
theorem wc_X11_trustAfter : Cond.code yX11_trustAfter cX11_trustAfter 3 (some FieldType.int) ∈ GW := gw_at8 64 (by decide +kernel) (by decide +kernel)
theorem wl_X11_303 : Cond.methodLink RX11 303 yX11_out ∈ GW := gw_at8 65 (by decide +kernel) (by decide +kernel)
theorem wn_X11_out : Cond.instanceMethod yX11_out ∈ GW := gw_at8 67 (by decide +kernel) (by decide +kernel)
theorem wc_X11_out : Cond.code yX11_out cX11_out 4 (some FieldType.boolean) ∈ GW := gw_at8 68 (by decide +kernel) (by decide +kernel)
theorem wl_L_297 : Cond.methodLink RL 297 yX11_daysUntilEmpty ∈ GW := gw_at8 69 (by decide +kernel) (by decide +kernel)
theorem wn_X11_daysUntilEmpty : Cond.instanceMethod yX11_daysUntilEmpty ∈ GW := gw_at8 70 (by decide +kernel) (by decide +kernel)
theorem we_X11_daysUntilEmpty : Cond.selects RX11 yX11_daysUntilEmpty yX11_daysUntilEmpty ∈ GW := gw_at8 71 (by decide +kernel) (by decide +kernel)
theorem wc_X11_daysUntilEmpty : Cond.code yX11_daysUntilEmpty cX11_daysUntilEmpty 2 (some FieldType.int) ∈ GW := gw_at8 72 (by decide +kernel) (by decide +kernel)
theorem wl_L_301 : Cond.methodLink RL 301 yX11_bestSeller ∈ GW := gw_at8 73 (by decide +kernel) (by decide +kernel)
theorem wn_X11_bestSeller : Cond.instanceMethod yX11_bestSeller ∈ GW := gw_at8 74 (by decide +kernel) (by decide +kernel)
theorem we_X11_bestSeller : Cond.selects RX11 yX11_bestSeller yX11_bestSeller ∈ GW := gw_at8 75 (by decide +kernel) (by decide +kernel)
theorem wc_X11_bestSeller : Cond.code yX11_bestSeller cX11_bestSeller 3 (some FieldType.int) ∈ GW := gw_at8 76 (by decide +kernel) (by decide +kernel)
theorem wl_L_305 : Cond.methodLink RL 305 yX11_copyDifference ∈ GW := gw_at8 77 (by decide +kernel) (by decide +kernel)
theorem wn_X11_copyDifference : Cond.instanceMethod yX11_copyDifference ∈ GW := gw_at8 78 (by decide +kernel) (by decide +kernel)
theorem we_X11_copyDifference : Cond.selects RX11 yX11_copyDifference yX11_copyDifference ∈ GW := gw_at8 79 (by decide +kernel) (by decide +kernel)
theorem wc_X11_copyDifference : Cond.code yX11_copyDifference cX11_copyDifference 3 (some FieldType.int) ∈ GW := gw_at8 80 (by decide +kernel) (by decide +kernel)
theorem wl_L_309 : Cond.methodLink RL 309 yX11_coinDifference ∈ GW := gw_at8 81 (by decide +kernel) (by decide +kernel)
theorem wn_X11_coinDifference : Cond.instanceMethod yX11_coinDifference ∈ GW := gw_at8 82 (by decide +kernel) (by decide +kernel)
theorem we_X11_coinDifference : Cond.selects RX11 yX11_coinDifference yX11_coinDifference ∈ GW := gw_at8 83 (by decide +kernel) (by decide +kernel)
theorem wc_X11_coinDifference : Cond.code yX11_coinDifference cX11_coinDifference 1 (some FieldType.int) ∈ GW := gw_at8 84 (by decide +kernel) (by decide +kernel)
theorem wl_L_313 : Cond.methodLink RL 313 yX11_bookErrors ∈ GW := gw_at8 85 (by decide +kernel) (by decide +kernel)
theorem wn_X11_bookErrors : Cond.instanceMethod yX11_bookErrors ∈ GW := gw_at8 86 (by decide +kernel) (by decide +kernel)
theorem we_X11_bookErrors : Cond.selects RX11 yX11_bookErrors yX11_bookErrors ∈ GW := gw_at8 87 (by decide +kernel) (by decide +kernel)
theorem wc_X11_bookErrors : Cond.code yX11_bookErrors cX11_bookErrors 4 (some FieldType.int) ∈ GW := gw_at8 88 (by decide +kernel) (by decide +kernel)
theorem wl_X11_306 : Cond.methodLink RX11 306 yX11_alikeBehind ∈ GW := gw_at8 89 (by decide +kernel) (by decide +kernel)
theorem wn_X11_alikeBehind : Cond.instanceMethod yX11_alikeBehind ∈ GW := gw_at8 91 (by decide +kernel) (by decide +kernel)
theorem wc_X11_alikeBehind : Cond.code yX11_alikeBehind cX11_alikeBehind 4 (some FieldType.int) ∈ GW := gw_at8 92 (by decide +kernel) (by decide +kernel)
theorem wl_L_318 : Cond.methodLink RL 318 yX11_hitShare ∈ GW := gw_at8 93 (by decide +kernel) (by decide +kernel)
theorem wn_X11_hitShare : Cond.instanceMethod yX11_hitShare ∈ GW := gw_at8 94 (by decide +kernel) (by decide +kernel)
theorem we_X11_hitShare : Cond.selects RX11 yX11_hitShare yX11_hitShare ∈ GW := gw_at8 95 (by decide +kernel) (by decide +kernel)
theorem wc_X11_hitShare : Cond.code yX11_hitShare cX11_hitShare 2 (some FieldType.float) ∈ GW := gw_at8 96 (by decide +kernel) (by decide +kernel)
theorem wl_L_323 : Cond.methodLink RL 323 yX11_averageTrust ∈ GW := gw_at8 97 (by decide +kernel) (by decide +kernel)
theorem wn_X11_averageTrust : Cond.instanceMethod yX11_averageTrust ∈ GW := gw_at8 98 (by decide +kernel) (by decide +kernel)
theorem we_X11_averageTrust : Cond.selects RX11 yX11_averageTrust yX11_averageTrust ∈ GW := gw_at8 99 (by decide +kernel) (by decide +kernel)
theorem wc_X11_averageTrust : Cond.code yX11_averageTrust cX11_averageTrust 3 (some FieldType.double) ∈ GW := gw_at8 100 (by decide +kernel) (by decide +kernel)
theorem wl_L_327 : Cond.methodLink RL 327 yX11_print ∈ GW := gw_at8 101 (by decide +kernel) (by decide +kernel)
theorem wn_X11_print : Cond.instanceMethod yX11_print ∈ GW := gw_at8 102 (by decide +kernel) (by decide +kernel)
theorem we_X11_print : Cond.selects RX11 yX11_print yX11_print ∈ GW := gw_at8 103 (by decide +kernel) (by decide +kernel)
theorem wc_X11_print : Cond.code yX11_print cX11_print 4 (some FieldType.int) ∈ GW := gw_at8 104 (by decide +kernel) (by decide +kernel)
theorem wl_L_330 : Cond.methodLink RL 330 yX11_retract ∈ GW := gw_at8 105 (by decide +kernel) (by decide +kernel)
theorem wn_X11_retract : Cond.instanceMethod yX11_retract ∈ GW := gw_at8 106 (by decide +kernel) (by decide +kernel)
theorem we_X11_retract : Cond.selects RX11 yX11_retract yX11_retract ∈ GW := gw_at8 107 (by decide +kernel) (by decide +kernel)
theorem wc_X11_retract : Cond.code yX11_retract cX11_retract 2 (some FieldType.int) ∈ GW := gw_at8 108 (by decide +kernel) (by decide +kernel)
theorem wl_L_333 : Cond.methodLink RL 333 yX11_setTrust ∈ GW := gw_at8 109 (by decide +kernel) (by decide +kernel)
theorem wn_X11_setTrust : Cond.instanceMethod yX11_setTrust ∈ GW := gw_at8 110 (by decide +kernel) (by decide +kernel)
theorem we_X11_setTrust : Cond.selects RX11 yX11_setTrust yX11_setTrust ∈ GW := gw_at8 111 (by decide +kernel) (by decide +kernel)
theorem wc_X11_setTrust : Cond.code yX11_setTrust cX11_setTrust 4 (some FieldType.int) ∈ GW := gw_at8 112 (by decide +kernel) (by decide +kernel)
theorem wl_L_336 : Cond.methodLink RL 336 yX11_setPeople ∈ GW := gw_at8 113 (by decide +kernel) (by decide +kernel)
theorem wn_X11_setPeople : Cond.instanceMethod yX11_setPeople ∈ GW := gw_at8 114 (by decide +kernel) (by decide +kernel)
theorem we_X11_setPeople : Cond.selects RX11 yX11_setPeople yX11_setPeople ∈ GW := gw_at8 115 (by decide +kernel) (by decide +kernel)
theorem wc_X11_setPeople : Cond.code yX11_setPeople cX11_setPeople 4 (some FieldType.int) ∈ GW := gw_at8 116 (by decide +kernel) (by decide +kernel)
theorem wl_L_339 : Cond.methodLink RL 339 yX11_setOdds ∈ GW := gw_at8 117 (by decide +kernel) (by decide +kernel)
theorem wn_X11_setOdds : Cond.instanceMethod yX11_setOdds ∈ GW := gw_at8 118 (by decide +kernel) (by decide +kernel)
theorem we_X11_setOdds : Cond.selects RX11 yX11_setOdds yX11_setOdds ∈ GW := gw_at8 119 (by decide +kernel) (by decide +kernel)
theorem wc_X11_setOdds : Cond.code yX11_setOdds cX11_setOdds 4 (some FieldType.int) ∈ GW := gw_at8 120 (by decide +kernel) (by decide +kernel)
theorem wl_L_342 : Cond.methodLink RL 342 yX11_pass ∈ GW := gw_at8 121 (by decide +kernel) (by decide +kernel)
theorem wn_X11_pass : Cond.instanceMethod yX11_pass ∈ GW := gw_at8 122 (by decide +kernel) (by decide +kernel)
theorem we_X11_pass : Cond.selects RX11 yX11_pass yX11_pass ∈ GW := gw_at8 123 (by decide +kernel) (by decide +kernel)
theorem wc_X11_pass : Cond.code yX11_pass cX11_pass 2 (some FieldType.int) ∈ GW := gw_at8 124 (by decide +kernel) (by decide +kernel)
theorem wl_L_345 : Cond.methodLink RL 345 yX11_writePage ∈ GW := gw_at8 125 (by decide +kernel) (by decide +kernel)
theorem wn_X11_writePage : Cond.instanceMethod yX11_writePage ∈ GW := gw_at8 126 (by decide +kernel) (by decide +kernel)
theorem we_X11_writePage : Cond.selects RX11 yX11_writePage yX11_writePage ∈ GW := gw_at8 127 (by decide +kernel) (by decide +kernel)
theorem wc_X11_writePage : Cond.code yX11_writePage cX11_writePage 4 (some FieldType.int) ∈ GW := gw_at8 128 (by decide +kernel) (by decide +kernel)
theorem wl_X11_312 : Cond.methodLink RX11 312 yX11_put ∈ GW := gw_at8 129 (by decide +kernel) (by decide +kernel)
theorem wn_X11_put : Cond.instanceMethod yX11_put ∈ GW := gw_at8 131 (by decide +kernel) (by decide +kernel)
theorem wc_X11_put : Cond.code yX11_put cX11_put 2 none ∈ GW := gw_at8 132 (by decide +kernel) (by decide +kernel)
theorem wl_X11_315 : Cond.methodLink RX11 315 yX11_printName ∈ GW := gw_at8 133 (by decide +kernel) (by decide +kernel)
theorem wn_X11_printName : Cond.instanceMethod yX11_printName ∈ GW := gw_at8 135 (by decide +kernel) (by decide +kernel)
theorem wc_X11_printName : Cond.code yX11_printName cX11_printName 4 none ∈ GW := gw_at8 136 (by decide +kernel) (by decide +kernel)
theorem wl_X11_318 : Cond.methodLink RX11 318 yX11_printNumber ∈ GW := gw_at8 137 (by decide +kernel) (by decide +kernel)
theorem wn_X11_printNumber : Cond.instanceMethod yX11_printNumber ∈ GW := gw_at8 139 (by decide +kernel) (by decide +kernel)
theorem wc_X11_printNumber : Cond.code yX11_printNumber cX11_printNumber 4 none ∈ GW := gw_at8 140 (by decide +kernel) (by decide +kernel)
theorem wl_X11_321 : Cond.methodLink RX11 321 yX11_letterOf ∈ GW := gw_at8 141 (by decide +kernel) (by decide +kernel)
theorem wst_X11_letterOf : Cond.static yX11_letterOf ∈ GW := gw_at8 142 (by decide +kernel) (by decide +kernel)
theorem wc_X11_letterOf : Cond.code yX11_letterOf cX11_letterOf 1 (some FieldType.int) ∈ GW := gw_at8 143 (by decide +kernel) (by decide +kernel)
theorem wl_L_348 : Cond.methodLink RL 348 yX11_outputByte ∈ GW := gw_at8 144 (by decide +kernel) (by decide +kernel)
theorem wn_X11_outputByte : Cond.instanceMethod yX11_outputByte ∈ GW := gw_at8 145 (by decide +kernel) (by decide +kernel)
theorem we_X11_outputByte : Cond.selects RX11 yX11_outputByte yX11_outputByte ∈ GW := gw_at8 146 (by decide +kernel) (by decide +kernel)
theorem wc_X11_outputByte : Cond.code yX11_outputByte cX11_outputByte 2 (some FieldType.int) ∈ GW := gw_at8 147 (by decide +kernel) (by decide +kernel)
theorem wl_L_351 : Cond.methodLink RL 351 yX11_save ∈ GW := gw_at8 148 (by decide +kernel) (by decide +kernel)
theorem wn_X11_save : Cond.instanceMethod yX11_save ∈ GW := gw_at8 149 (by decide +kernel) (by decide +kernel)
theorem we_X11_save : Cond.selects RX11 yX11_save yX11_save ∈ GW := gw_at8 150 (by decide +kernel) (by decide +kernel)
theorem wc_X11_save : Cond.code yX11_save cX11_save 2 (some FieldType.int) ∈ GW := gw_at8 151 (by decide +kernel) (by decide +kernel)
theorem wl_L_354 : Cond.methodLink RL 354 yX11_restore ∈ GW := gw_at8 152 (by decide +kernel) (by decide +kernel)
theorem wn_X11_restore : Cond.instanceMethod yX11_restore ∈ GW := gw_at8 153 (by decide +kernel) (by decide +kernel)
theorem we_X11_restore : Cond.selects RX11 yX11_restore yX11_restore ∈ GW := gw_at8 154 (by decide +kernel) (by decide +kernel)
theorem wc_X11_restore : Cond.code yX11_restore cX11_restore 2 (some FieldType.int) ∈ GW := gw_at8 155 (by decide +kernel) (by decide +kernel)
theorem wa_long : Cond.arrayClass (FieldType.long) ∈ GW := gw_at8 156 (by decide +kernel) (by decide +kernel)
theorem wa_double : Cond.arrayClass (FieldType.double) ∈ GW := gw_at8 157 (by decide +kernel) (by decide +kernel)
theorem wf_J0_9 : Cond.fieldLink RJ0 9 "java/lang/String" "value" "[B" ∈ GW := gw_at8 177 (by decide +kernel) (by decide +kernel)
theorem wf_J0_15 : Cond.fieldLink RJ0 15 "java/lang/String" "coder" "B" ∈ GW := gw_at8 178 (by decide +kernel) (by decide +kernel)
theorem wu_X0 : ∀ w ∈ wsX00, w ∈ GW := gw_sub (by decide +kernel) (by decide +kernel)
theorem wu_X1 : ∀ w ∈ wsX10, w ∈ GW := gw_sub (by decide +kernel) (by decide +kernel)
theorem wu_X2 : ∀ w ∈ wsX20, w ∈ GW := gw_sub (by decide +kernel) (by decide +kernel)
theorem wu_X3 : ∀ w ∈ wsX30, w ∈ GW := gw_sub (by decide +kernel) (by decide +kernel)
theorem wu_X4 : ∀ w ∈ wsX40, w ∈ GW := gw_sub (by decide +kernel) (by decide +kernel)
theorem wu_X5 : ∀ w ∈ wsX50, w ∈ GW := gw_sub (by decide +kernel) (by decide +kernel)
theorem wu_X6 : ∀ w ∈ wsX60, w ∈ GW := gw_sub (by decide +kernel) (by decide +kernel)
theorem wu_X7 : ∀ w ∈ wsX70, w ∈ GW := gw_sub (by decide +kernel) (by decide +kernel)
theorem wu_X8 : ∀ w ∈ wsX80, w ∈ GW := gw_sub (by decide +kernel) (by decide +kernel)
theorem wu_X9 : ∀ w ∈ wsX90, w ∈ GW := gw_sub (by decide +kernel) (by decide +kernel)
theorem wu_X10 : ∀ w ∈ wsX100, w ∈ GW := gw_sub (by decide +kernel) (by decide +kernel)
theorem wu_X11 : ∀ w ∈ wsX110, w ∈ GW := gw_sub (by decide +kernel) (by decide +kernel)
theorem wu_Jx145de : ∀ w ∈ wsJx145de0, w ∈ GW := gw_sub (by decide +kernel) (by decide +kernel)
theorem wu_Jx9f9b0 : ∀ w ∈ wsJx9f9b00, w ∈ GW := gw_sub (by decide +kernel) (by decide +kernel)
theorem wu_Jxb160c : ∀ w ∈ wsJxb160c0, w ∈ GW := gw_sub (by decide +kernel) (by decide +kernel)
theorem wu_J9 : ∀ w ∈ wsJ90, w ∈ GW := gw_sub (by decide +kernel) (by decide +kernel)
theorem wu_J0 : ∀ w ∈ wsJ00, w ∈ GW := gw_sub (by decide +kernel) (by decide +kernel)
theorem wu_J1 : ∀ w ∈ wsJ10, w ∈ GW := gw_sub (by decide +kernel) (by decide +kernel)
theorem wu_J2 : ∀ w ∈ wsJ20, w ∈ GW := gw_sub (by decide +kernel) (by decide +kernel)
theorem wu_J10 : ∀ w ∈ wsJ100, w ∈ GW := gw_sub (by decide +kernel) (by decide +kernel)
theorem wu_Jxfd54e : ∀ w ∈ wsJxfd54e0, w ∈ GW := gw_sub (by decide +kernel) (by decide +kernel)
theorem wu_Jx3cf43 : ∀ w ∈ wsJx3cf430, w ∈ GW := gw_sub (by decide +kernel) (by decide +kernel)
theorem wu_J3 : ∀ w ∈ wsJ30, w ∈ GW := gw_sub (by decide +kernel) (by decide +kernel)
/-- the links of nest mates: facts of a state that go with it -/
def NWL : List Cond := [Cond.methodLinkNest RX10 9 yX1_init RX10, Cond.methodLinkNest RX10 21 yX8_init RX10, Cond.methodLinkNest RX8 11 yX9_init RX10, Cond.methodLinkNest RX8 20 yX2_init RX10, Cond.methodLinkNest RX8 27 yX7_init RX10, Cond.methodLinkNest RX8 34 yX0_init RX10, Cond.methodLinkNest RX8 41 yX4_init RX10, Cond.methodLinkNest RX3 22 yX8_init RX10, Cond.methodLinkNest RX6 41 yX10_isLetter RX10, Cond.methodLinkNest RX6 44 yX10_isDigit RX10, Cond.methodLinkNest RX5 180 yX10_isBetween RX10, Cond.methodLinkNest RX1 37 yX10_isLetter RX10, Cond.methodLinkNest RX9 25 yX10_placeIn RX10, Cond.methodLinkNest RX2 31 yX10_placeIn RX10, Cond.methodLinkNest RX8 100 yX10_isBetween RX10, Cond.methodLinkNest RX4 23 yX10_labelOf RX10, Cond.methodLinkNest RX0 31 yX10_labelOf RX10]
theorem wln_X10_9 : Cond.methodLinkNest RX10 9 yX1_init RX10 ∈ NWL := List.mem_of_getElem? (i := 0) rfl
theorem wln_X10_21 : Cond.methodLinkNest RX10 21 yX8_init RX10 ∈ NWL := List.mem_of_getElem? (i := 1) rfl
theorem wln_X8_11 : Cond.methodLinkNest RX8 11 yX9_init RX10 ∈ NWL := List.mem_of_getElem? (i := 2) rfl
theorem wln_X8_20 : Cond.methodLinkNest RX8 20 yX2_init RX10 ∈ NWL := List.mem_of_getElem? (i := 3) rfl
theorem wln_X8_27 : Cond.methodLinkNest RX8 27 yX7_init RX10 ∈ NWL := List.mem_of_getElem? (i := 4) rfl
theorem wln_X8_34 : Cond.methodLinkNest RX8 34 yX0_init RX10 ∈ NWL := List.mem_of_getElem? (i := 5) rfl
theorem wln_X8_41 : Cond.methodLinkNest RX8 41 yX4_init RX10 ∈ NWL := List.mem_of_getElem? (i := 6) rfl
theorem wln_X3_22 : Cond.methodLinkNest RX3 22 yX8_init RX10 ∈ NWL := List.mem_of_getElem? (i := 7) rfl
theorem wln_X6_41 : Cond.methodLinkNest RX6 41 yX10_isLetter RX10 ∈ NWL := List.mem_of_getElem? (i := 8) rfl
theorem wln_X6_44 : Cond.methodLinkNest RX6 44 yX10_isDigit RX10 ∈ NWL := List.mem_of_getElem? (i := 9) rfl
theorem wln_X5_180 : Cond.methodLinkNest RX5 180 yX10_isBetween RX10 ∈ NWL := List.mem_of_getElem? (i := 10) rfl
theorem wln_X1_37 : Cond.methodLinkNest RX1 37 yX10_isLetter RX10 ∈ NWL := List.mem_of_getElem? (i := 11) rfl
theorem wln_X9_25 : Cond.methodLinkNest RX9 25 yX10_placeIn RX10 ∈ NWL := List.mem_of_getElem? (i := 12) rfl
theorem wln_X2_31 : Cond.methodLinkNest RX2 31 yX10_placeIn RX10 ∈ NWL := List.mem_of_getElem? (i := 13) rfl
theorem wln_X8_100 : Cond.methodLinkNest RX8 100 yX10_isBetween RX10 ∈ NWL := List.mem_of_getElem? (i := 14) rfl
theorem wln_X4_23 : Cond.methodLinkNest RX4 23 yX10_labelOf RX10 ∈ NWL := List.mem_of_getElem? (i := 15) rfl
theorem wln_X0_31 : Cond.methodLinkNest RX0 31 yX10_labelOf RX10 ∈ NWL := List.mem_of_getElem? (i := 16) rfl
/-- the String constants: class, entry, text, bytes -/
def SKo : List String := [RX10, RX5, RX5, RX5, RX5, RX5, RX5, RX5, RX5, RX5, RX11, RX11, RX11, RX11, RX11, RX11, RX11, RX11, RX11, RX11]
def SKi : List Nat := [51, 46, 85, 90, 95, 173, 175, 177, 100, 105, 40, 270, 245, 250, 255, 204, 210, 212, 260, 265]
def SKt : List String := ["almanac 7 9 6 5;village bree 40 50;village dale 20 80;fair mart bree 3 30 4;fair wake dale 2 9 7;say bree 5 rain;say dale 3 sun;say bree 2 sun;say dale 9 storm;say bree 8 sun;pass 3;", "almanac", "village", "fair", "say", "sun", "rain", "storm", "retract", "pass", "almanac 7 9 6 5;village bree 40 50;village dale 20 80;fair mart bree 3 30 4;fair wake dale 2 9 7;say bree 5 rain;say dale 3 sun;say bree 2 sun;say dale 9 storm;say bree 8 sun;pass 3;", "almanac", "village", "fair", "say", "sun", "rain", "storm", "retract", "pass"]
def SKn : List Nat := [182, 7, 7, 4, 3, 3, 4, 5, 7, 4, 182, 7, 7, 4, 3, 3, 4, 5, 7, 4]
def SKb : List (List Int32) := [[97, 108, 109, 97, 110, 97, 99, 32, 55, 32, 57, 32, 54, 32, 53, 59, 118, 105, 108, 108, 97, 103, 101, 32, 98, 114, 101, 101, 32, 52, 48, 32, 53, 48, 59, 118, 105, 108, 108, 97, 103, 101, 32, 100, 97, 108, 101, 32, 50, 48, 32, 56, 48, 59, 102, 97, 105, 114, 32, 109, 97, 114, 116, 32, 98, 114, 101, 101, 32, 51, 32, 51, 48, 32, 52, 59, 102, 97, 105, 114, 32, 119, 97, 107, 101, 32, 100, 97, 108, 101, 32, 50, 32, 57, 32, 55, 59, 115, 97, 121, 32, 98, 114, 101, 101, 32, 53, 32, 114, 97, 105, 110, 59, 115, 97, 121, 32, 100, 97, 108, 101, 32, 51, 32, 115, 117, 110, 59, 115, 97, 121, 32, 98, 114, 101, 101, 32, 50, 32, 115, 117, 110, 59, 115, 97, 121, 32, 100, 97, 108, 101, 32, 57, 32, 115, 116, 111, 114, 109, 59, 115, 97, 121, 32, 98, 114, 101, 101, 32, 56, 32, 115, 117, 110, 59, 112, 97, 115, 115, 32, 51, 59], [97, 108, 109, 97, 110, 97, 99], [118, 105, 108, 108, 97, 103, 101], [102, 97, 105, 114], [115, 97, 121], [115, 117, 110], [114, 97, 105, 110], [115, 116, 111, 114, 109], [114, 101, 116, 114, 97, 99, 116], [112, 97, 115, 115], [97, 108, 109, 97, 110, 97, 99, 32, 55, 32, 57, 32, 54, 32, 53, 59, 118, 105, 108, 108, 97, 103, 101, 32, 98, 114, 101, 101, 32, 52, 48, 32, 53, 48, 59, 118, 105, 108, 108, 97, 103, 101, 32, 100, 97, 108, 101, 32, 50, 48, 32, 56, 48, 59, 102, 97, 105, 114, 32, 109, 97, 114, 116, 32, 98, 114, 101, 101, 32, 51, 32, 51, 48, 32, 52, 59, 102, 97, 105, 114, 32, 119, 97, 107, 101, 32, 100, 97, 108, 101, 32, 50, 32, 57, 32, 55, 59, 115, 97, 121, 32, 98, 114, 101, 101, 32, 53, 32, 114, 97, 105, 110, 59, 115, 97, 121, 32, 100, 97, 108, 101, 32, 51, 32, 115, 117, 110, 59, 115, 97, 121, 32, 98, 114, 101, 101, 32, 50, 32, 115, 117, 110, 59, 115, 97, 121, 32, 100, 97, 108, 101, 32, 57, 32, 115, 116, 111, 114, 109, 59, 115, 97, 121, 32, 98, 114, 101, 101, 32, 56, 32, 115, 117, 110, 59, 112, 97, 115, 115, 32, 51, 59], [97, 108, 109, 97, 110, 97, 99], [118, 105, 108, 108, 97, 103, 101], [102, 97, 105, 114], [115, 97, 121], [115, 117, 110], [114, 97, 105, 110], [115, 116, 111, 114, 109], [114, 101, 116, 114, 97, 99, 116], [112, 97, 115, 115]]
end
section
/-! THE WALKING JUDGEMENT J: the machine at a pc, over data alone (the world's cells, the locals that matter, the stack), for any heap that holds them. -/
/-- what is fixed through a run: the classes' numbers and slots, the array classes' numbers, the addresses of the String constants and of their byte arrays -/
abbrev gT : Type := va_G × (Nat → ClassId) × (Nat → Nat) × (Nat → Nat)
abbrev gc (G : gT) : Nat → ClassId := G.2.1
/-- the array classes of the world: int, byte, boolean, State, long, double -/
abbrev tyl (G : gT) : List (ClassId × FieldType) := [(gc G 0, .int), (gc G 1, .byte), (gc G 2, .boolean), (gc G 3, .object "AlmanacOffice$State"), (gc G 4, .long), (gc G 5, .double)]
/-- what a run may take for granted everywhere: links of nest mates, Throwable's statics, String's and Preconditions', the String constants; none of their cells lies in A -/
def xE (G : gT) (A : Nat → Prop) (U : State) : Prop := (∀ w ∈ NWL, va_Nw w U) ∧ va_AO "AlmanacOffice$State" U ∧ vx_Zq Bundle.tN "UNASSIGNED_STACK" Bundle.steD A U U.heap ∧ vx_Zq Bundle.tN "SUPPRESSED_SENTINEL" Bundle.listD A U U.heap ∧
  va_Z "java/lang/String" "COMPACT_STRINGS" "Z" (.int 1) A U U.heap ∧ va_Zq "jdk/internal/util/Preconditions" "SIOOBE_FORMATTER" "Ljava/util/function/BiFunction;" A U U.heap ∧
  (∀ i : Nat, i < 20 → vk_R (SKo.getD i "") (SKi.getD i 0) (SKt.getD i "") (G.2.2.1 i) U) ∧ vk_S 20 SKn SKb G.2.2.1 G.2.2.2 A U U.heap
theorem nwl_kind : ∀ w ∈ NWL, ∃ a i y h, w = .methodLinkNest a i y h := by
  intro w h
  simp only [NWL, List.mem_cons, List.not_mem_nil, or_false] at h
  rcases h with rfl | rfl | rfl | rfl | rfl | rfl | rfl | rfl | rfl | rfl | rfl | rfl | rfl | rfl | rfl | rfl | rfl <;> exact ⟨_, _, _, _, rfl⟩
theorem xE.step {G : gT} {A B : Nat → Prop} {s U : State} (h : xE G A s) (hW : s.WarmedH U.vm) (hq : ∀ a : Nat, a < s.heap.size → ¬ A a → U.heap[a]? = s.heap[a]?) (hAB : ∀ q, B q → A q) : xE G B U := by
  obtain ⟨h1, h2, h3, h4, h5, h6, h7, h8⟩ := h
  refine ⟨fun w hw => ?_, va_AO.moved hW.alike h2, ((vx_Zq.moved hW.alike h3).kept hq).narrow hAB, ((vx_Zq.moved hW.alike h4).kept hq).narrow hAB, ((va_Z.moved hW.alike h5).kept hq).narrow hAB, ((va_Zq.moved hW.alike h6).kept hq).narrow hAB, fun i hi => (h7 i hi).warm hW, ((vk_S.moved hW.alike h8).kept hq).narrow hAB⟩
  obtain ⟨a, i, y, hh, rfl⟩ := nwl_kind w hw
  exact va_Nw.warmM hW (h1 _ hw)
theorem xE.same {G : gT} {A : Nat → Prop} {s U : State} (h : xE G A s) (hv : s.vm = U.vm) (hh : U.heap = s.heap) : xE G A U := by
  obtain ⟨h1, h2, h3, h4, h5, h6, h7, h8⟩ := h
  have ha : s.vm.Alike U.vm := by rw [hv]; exact Vm.Alike.refl _
  refine ⟨fun w hw => ?_, va_AO.moved ha h2, by rw [hh]; exact vx_Zq.moved ha h3, by rw [hh]; exact vx_Zq.moved ha h4, by rw [hh]; exact va_Z.moved ha h5, by rw [hh]; exact va_Zq.moved ha h6, fun i hi => (h7 i hi).same hv.symm, by rw [hh]; exact vk_S.moved ha h8⟩
  obtain ⟨a, i, y, hh, rfl⟩ := nwl_kind w hw
  exact va_Nw.same rfl hv (h1 _ hw)
theorem xE.narrow {G : gT} {A B : Nat → Prop} {U : State} (h : xE G A U) (hAB : ∀ q, B q → A q) : xE G B U := by
  obtain ⟨h1, h2, h3, h4, h5, h6, h7, h8⟩ := h
  exact ⟨h1, h2, h3.narrow hAB, h4.narrow hAB, h5.narrow hAB, h6.narrow hAB, h7, h8.narrow hAB⟩
def gP (G : gT) (ws : va_W) (sz : Nat) (U : State) : Prop := U.heap.size = sz ∧ va_P G.1 vwCl ws U.heap ∧ va_K G.1 vwCl (tyl G) U ∧ va_D (fun _ => True) ws ∧ xE G (va_A ws sz) U
def gB (G : gT) (ws : va_W) (A : Nat → Prop) (t : State) : Prop := va_P G.1 vwCl ws t.heap ∧ va_K G.1 vwCl (tyl G) t ∧ va_D A ws
theorem gP_blind (G : gT) (av : List Value) (ws : va_W) (sz : Nat) : FrameBlind (va_Pc av (gP G ws sz)) := fun a U g mk h => ⟨h.1, h.2.1, h.2.2.1, va_K.moved (u := U) (U := U.calling g mk a) (Vm.Alike.refl U.vm) h.2.2.2.1, h.2.2.2.2.1, h.2.2.2.2.2.same rfl rfl⟩
abbrev JX : Type := Program × Launch × Env × Room × State × MethodId × Array Value × List Frame × Method × Code × (Nat → Prop) × Heap × (State → Prop)
abbrev jp (x : JX) : Program := x.1
abbrev jl (x : JX) : Launch := x.2.1
abbrev je (x : JX) : Env := x.2.2.1
abbrev jR (x : JX) : Room := x.2.2.2.1
abbrev js (x : JX) : State := x.2.2.2.2.1
abbrev jm (x : JX) : MethodId := x.2.2.2.2.2.1
abbrev ja (x : JX) : Array Value := x.2.2.2.2.2.2.1
abbrev jb (x : JX) : List Frame := x.2.2.2.2.2.2.2.1
abbrev jt (x : JX) : Method := x.2.2.2.2.2.2.2.2.1
abbrev jc (x : JX) : Code := x.2.2.2.2.2.2.2.2.2.1
abbrev jA (x : JX) : Nat → Prop := x.2.2.2.2.2.2.2.2.2.2.1
abbrev jH (x : JX) : Heap := x.2.2.2.2.2.2.2.2.2.2.2.1
abbrev jQ (x : JX) : State → Prop := x.2.2.2.2.2.2.2.2.2.2.2.2
def J (x : JX) (G : gT) (ws : va_W) (k n : Nat) (lv : List (Nat × Value)) (st : List Value) (pc : Nat) : Prop :=
  ∀ (H : Heap) (locs : List Loc) (ls : Array Slot), va_P G.1 vwCl ws H → va_D (jA x) ws → va_S (jA x) (jH x) H locs → lv_has ls (jc x).maxLocals lv →
    W (jp x) (jl x) (je x) (jR x) (js x) (jm x) (ja x) (jb x) (jt x) (jc x) H locs k n (jQ x) (F0 (jm x) pc ls st)
def JC (x : JX) (G : gT) (R : Room) (cc : ByteArray) (w0 : Cond) (own : String) (nL : Nat) : Prop :=
  (jp x).tables.exec = Jvm.exec ∧ (jc x).code = cc ∧ (jc x).maxLocals = nL ∧ (js x).vm.findClass own = some (jm x).cls ∧ (∀ w ∈ w0 :: GW, w.before (ja x) (js x) = true) ∧
  va_K G.1 vwCl (tyl G) (js x) ∧ (∀ q : Nat, (jH x).size ≤ q → jA x q) ∧ jR x = R ∧ jH x = (js x).heap ∧ xE G (jA x) (js x)
section JJ
variable {x : JX} {G : gT} {R : Room} {cc : ByteArray} {w0 : Cond} {own : String} {nL : Nat} {ws : va_W} {k n : Nat} {lv : List (Nat × Value)} {st : List Value} {pc : Nat}
theorem J_aload_n (hC : JC x G R cc w0 own nL) {f : Fin 4} {i a : Nat} (hd : decode cc pc = .ok (.aload_n f, 1)) (j : Nat) (hi : (f : Nat) = i) (hl : lv[j]? = some (i, .ref a)) (kk : J x G ws k n lv (.ref a :: st) (pc + 1)) : J x G ws k n lv st pc :=
  fun H locs ls hP hD hS hL => lv_aload_n hC.1 hC.2.1 hd hi (lv_at hL j hl) (kk H locs ls hP hD hS hL)
theorem J_aload (hC : JC x G R cc w0 own nL) {i a : Nat} (hd : decode cc pc = .ok (.aload i, 2)) (j : Nat) (hl : lv[j]? = some (i, .ref a)) (kk : J x G ws k n lv (.ref a :: st) (pc + 2)) : J x G ws k n lv st pc :=
  fun H locs ls hP hD hS hL => lv_aload hC.1 hC.2.1 hd (lv_at hL j hl) (kk H locs ls hP hD hS hL)
theorem J_iload_n (hC : JC x G R cc w0 own nL) {f : Fin 4} {i : Nat} {v : Int32} (hd : decode cc pc = .ok (.iload_n f, 1)) (j : Nat) (hi : (f : Nat) = i) (hl : lv[j]? = some (i, .int v)) (kk : J x G ws k n lv (.int v :: st) (pc + 1)) : J x G ws k n lv st pc :=
  fun H locs ls hP hD hS hL => lv_iload_n hC.1 hC.2.1 hd hi (lv_at hL j hl) (kk H locs ls hP hD hS hL)
theorem J_iload (hC : JC x G R cc w0 own nL) {i : Nat} {v : Int32} (hd : decode cc pc = .ok (.iload i, 2)) (j : Nat) (hl : lv[j]? = some (i, .int v)) (kk : J x G ws k n lv (.int v :: st) (pc + 2)) : J x G ws k n lv st pc :=
  fun H locs ls hP hD hS hL => lv_iload hC.1 hC.2.1 hd (lv_at hL j hl) (kk H locs ls hP hD hS hL)
theorem J_dload (hC : JC x G R cc w0 own nL) {i : Nat} {v : UInt64} (hd : decode cc pc = .ok (.dload i, 2)) (j : Nat) (hl : lv[j]? = some (i, .double v)) (kk : J x G ws k n lv (.double v :: st) (pc + 2)) : J x G ws k n lv st pc :=
  fun H locs ls hP hD hS hL => lv_dload hC.1 hC.2.1 hd (lv_at hL j hl) (kk H locs ls hP hD hS hL)
theorem J_iconst (hC : JC x G R cc w0 own nL) {c : Int} {v : Int32} (hd : decode cc pc = .ok (.iconst c, 1)) (hv : Int32.ofInt c = v) (kk : J x G ws k n lv (.int v :: st) (pc + 1)) : J x G ws k n lv st pc :=
  fun H locs ls hP hD hS hL => lv_iconst hC.1 hC.2.1 hd hv (kk H locs ls hP hD hS hL)
theorem J_bipush (hC : JC x G R cc w0 own nL) {c : Int} {v : Int32} (hd : decode cc pc = .ok (.bipush c, 2)) (hv : (Int8.ofInt c).toInt32 = v) (kk : J x G ws k n lv (.int v :: st) (pc + 2)) : J x G ws k n lv st pc :=
  fun H locs ls hP hD hS hL => lv_bipush hC.1 hC.2.1 hd hv (kk H locs ls hP hD hS hL)
theorem J_sipush (hC : JC x G R cc w0 own nL) {c : Int} {v : Int32} (hd : decode cc pc = .ok (.sipush c, 3)) (hv : (Int16.ofInt c).toInt32 = v) (kk : J x G ws k n lv (.int v :: st) (pc + 3)) : J x G ws k n lv st pc :=
  fun H locs ls hP hD hS hL => lv_sipush hC.1 hC.2.1 hd hv (kk H locs ls hP hD hS hL)
theorem J_ldc (hC : JC x G R cc w0 own nL) {i : Nat} {v : Int32} (hd : decode cc pc = .ok (.ldc i, 2)) (hw : Cond.constant own i v ∈ GW) (kk : J x G ws k n lv (.int v :: st) (pc + 2)) : J x G ws k n lv st pc :=
  fun H locs ls hP hD hS hL => lv_ldc hC.1 hC.2.1 hC.2.2.2.1 (hC.2.2.2.2.1 _ (List.mem_cons_of_mem _ hw)) hd (kk H locs ls hP hD hS hL)
theorem J_istore_n (hC : JC x G R cc w0 own nL) {f : Fin 4} {i : Nat} {v : Int32} (lv' : List (Nat × Value)) (hd : decode cc pc = .ok (.istore_n f, 1)) (hi : (f : Nat) = i) (hn : i < nL) (hl : (i, Value.int v) :: lv.filter (fun q => !(q.1 == i) && !(q.1 + 1 == i && q.2.category == 2)) = lv') (kk : J x G ws k n lv' st (pc + 1)) : J x G ws k n lv (.int v :: st) pc :=
  fun H locs ls hP hD hS hL => lv_istore_n hC.1 hC.2.1 hd hi hL (by rw [hC.2.2.1]; exact hn) hl (fun ls' hL' => kk H locs ls' hP hD hS hL')
theorem J_istore (hC : JC x G R cc w0 own nL) {i : Nat} {v : Int32} (lv' : List (Nat × Value)) (hd : decode cc pc = .ok (.istore i, 2)) (hn : i < nL) (hl : (i, Value.int v) :: lv.filter (fun q => !(q.1 == i) && !(q.1 + 1 == i && q.2.category == 2)) = lv') (kk : J x G ws k n lv' st (pc + 2)) : J x G ws k n lv (.int v :: st) pc :=
  fun H locs ls hP hD hS hL => lv_istore hC.1 hC.2.1 hd hL (by rw [hC.2.2.1]; exact hn) hl (fun ls' hL' => kk H locs ls' hP hD hS hL')
theorem J_astore_n (hC : JC x G R cc w0 own nL) {f : Fin 4} {i a : Nat} (lv' : List (Nat × Value)) (hd : decode cc pc = .ok (.astore_n f, 1)) (hi : (f : Nat) = i) (hn : i < nL) (hl : (i, Value.ref a) :: lv.filter (fun q => !(q.1 == i) && !(q.1 + 1 == i && q.2.category == 2)) = lv') (kk : J x G ws k n lv' st (pc + 1)) : J x G ws k n lv (.ref a :: st) pc :=
  fun H locs ls hP hD hS hL => lv_astore_n hC.1 hC.2.1 hd hi hL (by rw [hC.2.2.1]; exact hn) hl (fun ls' hL' => kk H locs ls' hP hD hS hL')
theorem J_astore (hC : JC x G R cc w0 own nL) {i a : Nat} (lv' : List (Nat × Value)) (hd : decode cc pc = .ok (.astore i, 2)) (hn : i < nL) (hl : (i, Value.ref a) :: lv.filter (fun q => !(q.1 == i) && !(q.1 + 1 == i && q.2.category == 2)) = lv') (kk : J x G ws k n lv' st (pc + 2)) : J x G ws k n lv (.ref a :: st) pc :=
  fun H locs ls hP hD hS hL => lv_astore hC.1 hC.2.1 hd hL (by rw [hC.2.2.1]; exact hn) hl (fun ls' hL' => kk H locs ls' hP hD hS hL')
theorem J_dstore (hC : JC x G R cc w0 own nL) {i : Nat} {v : UInt64} (lv' : List (Nat × Value)) (hd : decode cc pc = .ok (.dstore i, 2)) (hn : i + 1 < nL) (hl : (i, Value.double v) :: lv.filter (fun q => !(q.1 == i) && (!(q.1 == i + 1) && !(q.1 + 1 == i && q.2.category == 2))) = lv') (kk : J x G ws k n lv' st (pc + 2)) : J x G ws k n lv (.double v :: st) pc :=
  fun H locs ls hP hD hS hL => lv_dstore hC.1 hC.2.1 hd hL (by rw [hC.2.2.1]; exact hn) hl (fun ls' hL' => kk H locs ls' hP hD hS hL')
theorem J_iinc (hC : JC x G R cc w0 own nL) {i : Nat} {d : Int} {v w : Int32} (lv' : List (Nat × Value)) (hd : decode cc pc = .ok (.iinc i d, 3)) (j : Nat) (hj : lv[j]? = some (i, .int v)) (hv : v + Int32.ofInt d = w) (hn : i < nL) (hl : (i, Value.int w) :: lv.filter (fun q => !(q.1 == i) && !(q.1 + 1 == i && q.2.category == 2)) = lv') (kk : J x G ws k n lv' st (pc + 3)) : J x G ws k n lv st pc :=
  fun H locs ls hP hD hS hL => lv_iinc hC.1 hC.2.1 hd hL hj hv (by rw [hC.2.2.1]; exact hn) hl (fun ls' hL' => kk H locs ls' hP hD hS hL')
theorem J_dup (hC : JC x G R cc w0 own nL) {v : Value} (hd : decode cc pc = .ok (.dup, 1)) (hv : v.category = 1) (kk : J x G ws k n lv (v :: v :: st) (pc + 1)) : J x G ws k n lv (v :: st) pc :=
  fun H locs ls hP hD hS hL => lv_dup hC.1 hC.2.1 hd hv (kk H locs ls hP hD hS hL)
theorem J_dup2 (hC : JC x G R cc w0 own nL) {v w : Value} (hd : decode cc pc = .ok (.dup2, 1)) (hv : v.category = 1) (hw : w.category = 1) (kk : J x G ws k n lv (v :: w :: v :: w :: st) (pc + 1)) : J x G ws k n lv (v :: w :: st) pc :=
  fun H locs ls hP hD hS hL => lv_dup2_11 hC.1 hC.2.1 hd (by assumption) (by assumption) (kk H locs ls hP hD hS hL)
theorem J_pop (hC : JC x G R cc w0 own nL) {v : Value} (hd : decode cc pc = .ok (.pop, 1)) (hv : v.category = 1) (kk : J x G ws k n lv st (pc + 1)) : J x G ws k n lv (v :: st) pc :=
  fun H locs ls hP hD hS hL => lv_pop hC.1 hC.2.1 hd hv (kk H locs ls hP hD hS hL)
theorem J_iadd (hC : JC x G R cc w0 own nL) {a b v : Int32} (hd : decode cc pc = .ok (.iadd, 1)) (hv : a + b = v) (kk : J x G ws k n lv (.int v :: st) (pc + 1)) : J x G ws k n lv (.int b :: .int a :: st) pc := by
  subst hv
  exact fun H locs ls hP hD hS hL => lv_iadd hC.1 hC.2.1 hd (kk H locs ls hP hD hS hL)
theorem J_isub (hC : JC x G R cc w0 own nL) {a b v : Int32} (hd : decode cc pc = .ok (.isub, 1)) (hv : a - b = v) (kk : J x G ws k n lv (.int v :: st) (pc + 1)) : J x G ws k n lv (.int b :: .int a :: st) pc := by
  subst hv
  exact fun H locs ls hP hD hS hL => lv_isub hC.1 hC.2.1 hd (kk H locs ls hP hD hS hL)
theorem J_imul (hC : JC x G R cc w0 own nL) {a b v : Int32} (hd : decode cc pc = .ok (.imul, 1)) (hv : a * b = v) (kk : J x G ws k n lv (.int v :: st) (pc + 1)) : J x G ws k n lv (.int b :: .int a :: st) pc := by
  subst hv
  exact fun H locs ls hP hD hS hL => lv_imul hC.1 hC.2.1 hd (kk H locs ls hP hD hS hL)
theorem J_idiv (hC : JC x G R cc w0 own nL) {a b v : Int32} (hd : decode cc pc = .ok (.idiv, 1)) (hne : ¬ b = 0) (hv : a / b = v) (kk : J x G ws k n lv (.int v :: st) (pc + 1)) : J x G ws k n lv (.int b :: .int a :: st) pc := by
  subst hv
  exact fun H locs ls hP hD hS hL => lv_idiv hC.1 hC.2.1 hd hne (kk H locs ls hP hD hS hL)
theorem J_irem (hC : JC x G R cc w0 own nL) {a b v : Int32} (hd : decode cc pc = .ok (.irem, 1)) (hne : ¬ b = 0) (hv : a - a / b * b = v) (kk : J x G ws k n lv (.int v :: st) (pc + 1)) : J x G ws k n lv (.int b :: .int a :: st) pc := by
  subst hv
  exact fun H locs ls hP hD hS hL => lv_irem hC.1 hC.2.1 hd hne (kk H locs ls hP hD hS hL)
theorem J_iand (hC : JC x G R cc w0 own nL) {a b v : Int32} (hd : decode cc pc = .ok (.iand, 1)) (hv : a &&& b = v) (kk : J x G ws k n lv (.int v :: st) (pc + 1)) : J x G ws k n lv (.int b :: .int a :: st) pc := by
  subst hv
  exact fun H locs ls hP hD hS hL => lv_iand hC.1 hC.2.1 hd (kk H locs ls hP hD hS hL)
theorem J_ior (hC : JC x G R cc w0 own nL) {a b v : Int32} (hd : decode cc pc = .ok (.ior, 1)) (hv : a ||| b = v) (kk : J x G ws k n lv (.int v :: st) (pc + 1)) : J x G ws k n lv (.int b :: .int a :: st) pc := by
  subst hv
  exact fun H locs ls hP hD hS hL => lv_ior hC.1 hC.2.1 hd (kk H locs ls hP hD hS hL)
theorem J_ishl (hC : JC x G R cc w0 own nL) {a b v : Int32} (hd : decode cc pc = .ok (.ishl, 1)) (hv : a <<< (b &&& 31) = v) (kk : J x G ws k n lv (.int v :: st) (pc + 1)) : J x G ws k n lv (.int b :: .int a :: st) pc := by
  subst hv
  exact fun H locs ls hP hD hS hL => lv_ishl hC.1 hC.2.1 hd (kk H locs ls hP hD hS hL)
theorem J_ishr (hC : JC x G R cc w0 own nL) {a b v : Int32} (hd : decode cc pc = .ok (.ishr, 1)) (hv : a >>> (b &&& 31) = v) (kk : J x G ws k n lv (.int v :: st) (pc + 1)) : J x G ws k n lv (.int b :: .int a :: st) pc := by
  subst hv
  exact fun H locs ls hP hD hS hL => lv_ishr hC.1 hC.2.1 hd (kk H locs ls hP hD hS hL)
theorem J_iushr (hC : JC x G R cc w0 own nL) {a b v : Int32} (hd : decode cc pc = .ok (.iushr, 1)) (hv : (a.toUInt32 >>> (b.toUInt32 &&& Int32.toUInt32 31)).toInt32 = v) (kk : J x G ws k n lv (.int v :: st) (pc + 1)) : J x G ws k n lv (.int b :: .int a :: st) pc :=
  fun H locs ls hP hD hS hL => lv_iushr hC.1 hC.2.1 hd hv (kk H locs ls hP hD hS hL)
theorem J_i2b (hC : JC x G R cc w0 own nL) {a v : Int32} (hd : decode cc pc = .ok (.i2b, 1)) (hv : a.toInt8.toInt32 = v) (kk : J x G ws k n lv (.int v :: st) (pc + 1)) : J x G ws k n lv (.int a :: st) pc :=
  fun H locs ls hP hD hS hL => lv_i2b hC.1 hC.2.1 hd hv (kk H locs ls hP hD hS hL)
theorem J_i2l (hC : JC x G R cc w0 own nL) {a : Int32} {v : Int64} (hd : decode cc pc = .ok (.i2l, 1)) (hv : a.toInt64 = v) (kk : J x G ws k n lv (.long v :: st) (pc + 1)) : J x G ws k n lv (.int a :: st) pc :=
  fun H locs ls hP hD hS hL => lv_i2l hC.1 hC.2.1 hd hv (kk H locs ls hP hD hS hL)
theorem J_lconst (hC : JC x G R cc w0 own nL) {c : Fin 2} {v : Int64} (hd : decode cc pc = .ok (.lconst c, 1)) (hv : Int64.ofNat (c : Nat) = v) (kk : J x G ws k n lv (.long v :: st) (pc + 1)) : J x G ws k n lv st pc :=
  fun H locs ls hP hD hS hL => lv_lconst hC.1 hC.2.1 hd hv (kk H locs ls hP hD hS hL)
theorem J_goto (hC : JC x G R cc w0 own nL) {off : Int} {tgt : Nat} (hd : decode cc pc = .ok (.goto off, 3)) (ht : (pc : Int) + off = (tgt : Int)) (kk : J x G ws k n lv st tgt) : J x G ws k n lv st pc :=
  fun H locs ls hP hD hS hL => lv_goto hC.1 hC.2.1 hd ht (kk H locs ls hP hD hS hL)
theorem J_if_eq (hC : JC x G R cc w0 own nL) {a : Int32} {off : Int} {tgt : Nat} (hd : decode cc pc = .ok (.ifCond .eq off, 3)) (ht : (pc : Int) + off = (tgt : Int)) (kt : a = 0 → J x G ws k n lv st tgt) (kf : ¬ a = 0 → J x G ws k n lv st (pc + 3)) : J x G ws k n lv (.int a :: st) pc :=
  fun H locs ls hP hD hS hL => lv_if_eq hC.1 hC.2.1 hd ht (fun c => kt c H locs ls hP hD hS hL) (fun c => kf c H locs ls hP hD hS hL)
theorem J_if_ne (hC : JC x G R cc w0 own nL) {a : Int32} {off : Int} {tgt : Nat} (hd : decode cc pc = .ok (.ifCond .ne off, 3)) (ht : (pc : Int) + off = (tgt : Int)) (kt : ¬ a = 0 → J x G ws k n lv st tgt) (kf : a = 0 → J x G ws k n lv st (pc + 3)) : J x G ws k n lv (.int a :: st) pc :=
  fun H locs ls hP hD hS hL => lv_if_ne hC.1 hC.2.1 hd ht (fun c => kt c H locs ls hP hD hS hL) (fun c => kf c H locs ls hP hD hS hL)
theorem J_if_lt (hC : JC x G R cc w0 own nL) {a : Int32} {off : Int} {tgt : Nat} (hd : decode cc pc = .ok (.ifCond .lt off, 3)) (ht : (pc : Int) + off = (tgt : Int)) (kt : a < 0 → J x G ws k n lv st tgt) (kf : ¬ a < 0 → J x G ws k n lv st (pc + 3)) : J x G ws k n lv (.int a :: st) pc :=
  fun H locs ls hP hD hS hL => lv_if_lt hC.1 hC.2.1 hd ht (fun c => kt c H locs ls hP hD hS hL) (fun c => kf c H locs ls hP hD hS hL)
theorem J_if_ge (hC : JC x G R cc w0 own nL) {a : Int32} {off : Int} {tgt : Nat} (hd : decode cc pc = .ok (.ifCond .ge off, 3)) (ht : (pc : Int) + off = (tgt : Int)) (kt : 0 ≤ a → J x G ws k n lv st tgt) (kf : ¬ 0 ≤ a → J x G ws k n lv st (pc + 3)) : J x G ws k n lv (.int a :: st) pc :=
  fun H locs ls hP hD hS hL => lv_if_ge hC.1 hC.2.1 hd ht (fun c => kt c H locs ls hP hD hS hL) (fun c => kf c H locs ls hP hD hS hL)
theorem J_if_gt (hC : JC x G R cc w0 own nL) {a : Int32} {off : Int} {tgt : Nat} (hd : decode cc pc = .ok (.ifCond .gt off, 3)) (ht : (pc : Int) + off = (tgt : Int)) (kt : 0 < a → J x G ws k n lv st tgt) (kf : ¬ 0 < a → J x G ws k n lv st (pc + 3)) : J x G ws k n lv (.int a :: st) pc :=
  fun H locs ls hP hD hS hL => lv_if_gt hC.1 hC.2.1 hd ht (fun c => kt c H locs ls hP hD hS hL) (fun c => kf c H locs ls hP hD hS hL)
theorem J_if_le (hC : JC x G R cc w0 own nL) {a : Int32} {off : Int} {tgt : Nat} (hd : decode cc pc = .ok (.ifCond .le off, 3)) (ht : (pc : Int) + off = (tgt : Int)) (kt : a ≤ 0 → J x G ws k n lv st tgt) (kf : ¬ a ≤ 0 → J x G ws k n lv st (pc + 3)) : J x G ws k n lv (.int a :: st) pc :=
  fun H locs ls hP hD hS hL => lv_if_le hC.1 hC.2.1 hd ht (fun c => kt c H locs ls hP hD hS hL) (fun c => kf c H locs ls hP hD hS hL)
theorem J_ic_eq (hC : JC x G R cc w0 own nL) {a b : Int32} {off : Int} {tgt : Nat} (hd : decode cc pc = .ok (.if_icmp .eq off, 3)) (ht : (pc : Int) + off = (tgt : Int)) (kt : a = b → J x G ws k n lv st tgt) (kf : ¬ a = b → J x G ws k n lv st (pc + 3)) : J x G ws k n lv (.int b :: .int a :: st) pc :=
  fun H locs ls hP hD hS hL => lv_icmp_eq hC.1 hC.2.1 hd ht (fun c => kt c H locs ls hP hD hS hL) (fun c => kf c H locs ls hP hD hS hL)
theorem J_ic_ne (hC : JC x G R cc w0 own nL) {a b : Int32} {off : Int} {tgt : Nat} (hd : decode cc pc = .ok (.if_icmp .ne off, 3)) (ht : (pc : Int) + off = (tgt : Int)) (kt : ¬ a = b → J x G ws k n lv st tgt) (kf : a = b → J x G ws k n lv st (pc + 3)) : J x G ws k n lv (.int b :: .int a :: st) pc :=
  fun H locs ls hP hD hS hL => lv_icmp_ne hC.1 hC.2.1 hd ht (fun c => kt c H locs ls hP hD hS hL) (fun c => kf c H locs ls hP hD hS hL)
theorem J_ic_lt (hC : JC x G R cc w0 own nL) {a b : Int32} {off : Int} {tgt : Nat} (hd : decode cc pc = .ok (.if_icmp .lt off, 3)) (ht : (pc : Int) + off = (tgt : Int)) (kt : a < b → J x G ws k n lv st tgt) (kf : ¬ a < b → J x G ws k n lv st (pc + 3)) : J x G ws k n lv (.int b :: .int a :: st) pc :=
  fun H locs ls hP hD hS hL => lv_icmp_lt hC.1 hC.2.1 hd ht (fun c => kt c H locs ls hP hD hS hL) (fun c => kf c H locs ls hP hD hS hL)
theorem J_ic_ge (hC : JC x G R cc w0 own nL) {a b : Int32} {off : Int} {tgt : Nat} (hd : decode cc pc = .ok (.if_icmp .ge off, 3)) (ht : (pc : Int) + off = (tgt : Int)) (kt : b ≤ a → J x G ws k n lv st tgt) (kf : ¬ b ≤ a → J x G ws k n lv st (pc + 3)) : J x G ws k n lv (.int b :: .int a :: st) pc :=
  fun H locs ls hP hD hS hL => lv_icmp_ge hC.1 hC.2.1 hd ht (fun c => kt c H locs ls hP hD hS hL) (fun c => kf c H locs ls hP hD hS hL)
theorem J_ic_gt (hC : JC x G R cc w0 own nL) {a b : Int32} {off : Int} {tgt : Nat} (hd : decode cc pc = .ok (.if_icmp .gt off, 3)) (ht : (pc : Int) + off = (tgt : Int)) (kt : b < a → J x G ws k n lv st tgt) (kf : ¬ b < a → J x G ws k n lv st (pc + 3)) : J x G ws k n lv (.int b :: .int a :: st) pc :=
  fun H locs ls hP hD hS hL => lv_icmp_gt hC.1 hC.2.1 hd ht (fun c => kt c H locs ls hP hD hS hL) (fun c => kf c H locs ls hP hD hS hL)
theorem J_ic_le (hC : JC x G R cc w0 own nL) {a b : Int32} {off : Int} {tgt : Nat} (hd : decode cc pc = .ok (.if_icmp .le off, 3)) (ht : (pc : Int) + off = (tgt : Int)) (kt : a ≤ b → J x G ws k n lv st tgt) (kf : ¬ a ≤ b → J x G ws k n lv st (pc + 3)) : J x G ws k n lv (.int b :: .int a :: st) pc :=
  fun H locs ls hP hD hS hL => lv_icmp_le hC.1 hC.2.1 hd ht (fun c => kt c H locs ls hP hD hS hL) (fun c => kf c H locs ls hP hD hS hL)
-- comparisons of known numbers
theorem nI_lt' {a b : Nat} (ha : a < 2 ^ 31) (hb : b < 2 ^ 31) : nI a < nI b ↔ a < b := nI_ltI ha hb
theorem J_ic_ltN (hC : JC x G R cc w0 own nL) {a b : Nat} {off : Int} {tgt : Nat} (hd : decode cc pc = .ok (.if_icmp .lt off, 3)) (ht : (pc : Int) + off = (tgt : Int)) (ha : a < 2 ^ 31) (hb : b < 2 ^ 31) (kt : a < b → J x G ws k n lv st tgt) (kf : b ≤ a → J x G ws k n lv st (pc + 3)) : J x G ws k n lv (.int (nI b) :: .int (nI a) :: st) pc :=
  J_ic_lt hC hd ht (fun c => kt ((nI_ltI ha hb).mp c)) (fun c => kf (Nat.le_of_not_lt fun h => c ((nI_ltI ha hb).mpr h)))
theorem J_ic_geN (hC : JC x G R cc w0 own nL) {a b : Nat} {off : Int} {tgt : Nat} (hd : decode cc pc = .ok (.if_icmp .ge off, 3)) (ht : (pc : Int) + off = (tgt : Int)) (ha : a < 2 ^ 31) (hb : b < 2 ^ 31) (kt : b ≤ a → J x G ws k n lv st tgt) (kf : a < b → J x G ws k n lv st (pc + 3)) : J x G ws k n lv (.int (nI b) :: .int (nI a) :: st) pc :=
  J_ic_ge hC hd ht (fun c => kt ((nI_leI hb ha).mp c)) (fun c => kf (Nat.lt_of_not_le fun h => c ((nI_leI hb ha).mpr h)))
theorem J_ic_gtN (hC : JC x G R cc w0 own nL) {a b : Nat} {off : Int} {tgt : Nat} (hd : decode cc pc = .ok (.if_icmp .gt off, 3)) (ht : (pc : Int) + off = (tgt : Int)) (ha : a < 2 ^ 31) (hb : b < 2 ^ 31) (kt : b < a → J x G ws k n lv st tgt) (kf : a ≤ b → J x G ws k n lv st (pc + 3)) : J x G ws k n lv (.int (nI b) :: .int (nI a) :: st) pc :=
  J_ic_gt hC hd ht (fun c => kt ((nI_ltI hb ha).mp c)) (fun c => kf (Nat.le_of_not_lt fun h => c ((nI_ltI hb ha).mpr h)))
theorem J_ic_leN (hC : JC x G R cc w0 own nL) {a b : Nat} {off : Int} {tgt : Nat} (hd : decode cc pc = .ok (.if_icmp .le off, 3)) (ht : (pc : Int) + off = (tgt : Int)) (ha : a < 2 ^ 31) (hb : b < 2 ^ 31) (kt : a ≤ b → J x G ws k n lv st tgt) (kf : b < a → J x G ws k n lv st (pc + 3)) : J x G ws k n lv (.int (nI b) :: .int (nI a) :: st) pc :=
  J_ic_le hC hd ht (fun c => kt ((nI_leI ha hb).mp c)) (fun c => kf (Nat.lt_of_not_le fun h => c ((nI_leI ha hb).mpr h)))
theorem J_ic_eqN (hC : JC x G R cc w0 own nL) {a b : Nat} {off : Int} {tgt : Nat} (hd : decode cc pc = .ok (.if_icmp .eq off, 3)) (ht : (pc : Int) + off = (tgt : Int)) (ha : a < 2 ^ 31) (hb : b < 2 ^ 31) (kt : a = b → J x G ws k n lv st tgt) (kf : ¬ a = b → J x G ws k n lv st (pc + 3)) : J x G ws k n lv (.int (nI b) :: .int (nI a) :: st) pc :=
  J_ic_eq hC hd ht (fun c => kt ((nI_eq ha hb).mp c)) (fun c => kf (fun h => c ((nI_eq ha hb).mpr h)))
theorem J_ic_neN (hC : JC x G R cc w0 own nL) {a b : Nat} {off : Int} {tgt : Nat} (hd : decode cc pc = .ok (.if_icmp .ne off, 3)) (ht : (pc : Int) + off = (tgt : Int)) (ha : a < 2 ^ 31) (hb : b < 2 ^ 31) (kt : ¬ a = b → J x G ws k n lv st tgt) (kf : a = b → J x G ws k n lv st (pc + 3)) : J x G ws k n lv (.int (nI b) :: .int (nI a) :: st) pc :=
  J_ic_ne hC hd ht (fun c => kt (fun h => c ((nI_eq ha hb).mpr h))) (fun c => kf ((nI_eq ha hb).mp c))
theorem J_if_eqN (hC : JC x G R cc w0 own nL) {a : Nat} {off : Int} {tgt : Nat} (hd : decode cc pc = .ok (.ifCond .eq off, 3)) (ht : (pc : Int) + off = (tgt : Int)) (ha : a < 2 ^ 31) (kt : a = 0 → J x G ws k n lv st tgt) (kf : 0 < a → J x G ws k n lv st (pc + 3)) : J x G ws k n lv (.int (nI a) :: st) pc :=
  J_if_eq hC hd ht (fun c => kt ((nI_eq ha (b := 0) (by omega)).mp c)) (fun c => kf (Nat.pos_of_ne_zero fun h => c ((nI_eq ha (b := 0) (by omega)).mpr h)))
theorem J_if_neN (hC : JC x G R cc w0 own nL) {a : Nat} {off : Int} {tgt : Nat} (hd : decode cc pc = .ok (.ifCond .ne off, 3)) (ht : (pc : Int) + off = (tgt : Int)) (ha : a < 2 ^ 31) (kt : 0 < a → J x G ws k n lv st tgt) (kf : a = 0 → J x G ws k n lv st (pc + 3)) : J x G ws k n lv (.int (nI a) :: st) pc :=
  J_if_ne hC hd ht (fun c => kt (Nat.pos_of_ne_zero fun h => c ((nI_eq ha (b := 0) (by omega)).mpr h))) (fun c => kf ((nI_eq ha (b := 0) (by omega)).mp c))
theorem J_if_leN (hC : JC x G R cc w0 own nL) {a : Nat} {off : Int} {tgt : Nat} (hd : decode cc pc = .ok (.ifCond .le off, 3)) (ht : (pc : Int) + off = (tgt : Int)) (ha : a < 2 ^ 31) (kt : a = 0 → J x G ws k n lv st tgt) (kf : 0 < a → J x G ws k n lv st (pc + 3)) : J x G ws k n lv (.int (nI a) :: st) pc :=
  J_if_le hC hd ht (fun c => kt (Nat.le_zero.mp ((nI_leI ha (b := 0) (by omega)).mp c))) (fun c => kf (Nat.pos_of_ne_zero fun h => c ((nI_leI ha (b := 0) (by omega)).mpr (Nat.le_of_eq h))))
theorem J_if_ltN (hC : JC x G R cc w0 own nL) {a : Nat} {off : Int} {tgt : Nat} (hd : decode cc pc = .ok (.ifCond .lt off, 3)) (ht : (pc : Int) + off = (tgt : Int)) (ha : a < 2 ^ 31) (kf : J x G ws k n lv st (pc + 3)) : J x G ws k n lv (.int (nI a) :: st) pc :=
  J_if_lt hC hd ht (fun c => absurd c (nI_pos ha)) (fun _ => kf)
theorem J_if_geN (hC : JC x G R cc w0 own nL) {a : Nat} {off : Int} {tgt : Nat} (hd : decode cc pc = .ok (.ifCond .ge off, 3)) (ht : (pc : Int) + off = (tgt : Int)) (ha : a < 2 ^ 31) (kt : J x G ws k n lv st tgt) : J x G ws k n lv (.int (nI a) :: st) pc :=
  J_if_ge hC hd ht (fun _ => kt) (fun c => absurd (nI_pos' ha) c)
theorem J_if_gtN (hC : JC x G R cc w0 own nL) {a : Nat} {off : Int} {tgt : Nat} (hd : decode cc pc = .ok (.ifCond .gt off, 3)) (ht : (pc : Int) + off = (tgt : Int)) (ha : a < 2 ^ 31) (kt : 0 < a → J x G ws k n lv st tgt) (kf : a = 0 → J x G ws k n lv st (pc + 3)) : J x G ws k n lv (.int (nI a) :: st) pc :=
  J_if_gt hC hd ht (fun c => kt ((nI_ltI (a := 0) (by omega) ha).mp c)) (fun c => kf (Nat.eq_zero_of_not_pos fun h => c ((nI_ltI (a := 0) (by omega) ha).mpr h)))
end JJ
section JM
variable {x : JX} {G : gT} {R : Room} {cc : ByteArray} {w0 : Cond} {own : String} {nL : Nat} {ws : va_W} {k n : Nat} {lv : List (Nat × Value)} {st : List Value} {pc : Nat}
theorem J_eq {ws' : va_W} (h : ws = ws') (kk : J x G ws' k n lv st pc) : J x G ws k n lv st pc := h ▸ kk
theorem J_lv {lv' : List (Nat × Value)} (ks : List Nat) (h : lv_pick lv ks = lv') (kk : J x G ws k n lv' st pc) : J x G ws k n lv st pc :=
  fun H locs ls hP hD hS hL => kk H locs ls hP hD hS (lv_sub hL ks h)
theorem J_wid {k' n' : Nat} (hk : k ≤ k') (hn : n ≤ n') (kk : J x G ws k' n' lv st pc) : J x G ws k n lv st pc :=
  fun H locs ls hP hD hS hL => W.widen hk hn (kk H locs ls hP hD hS hL)
/-- the top of the stack, by an equation -/
theorem J_top {v w : Value} (h : v = w) (kk : J x G ws k n lv (w :: st) pc) : J x G ws k n lv (v :: st) pc := h ▸ kk
theorem J_topi {v w : Int32} (h : v = w) (kk : J x G ws k n lv (.int w :: st) pc) : J x G ws k n lv (.int v :: st) pc := h ▸ kk
/-- getfield -/
theorem J_get (hC : JC x G R cc w0 own nL) {C : String} {T : u_T} {N ci idx a : Nat} {fs : List Value} {v : Value} (hin : ∀ w ∈ u_ws C T N, w ∈ GW) (hc : vwCl[ci]? = some (C, T, N)) (hd : decode cc pc = .ok (.getfield idx, 3)) (q kf : Nat) (hk : kf < N)
    (hlink : Cond.fieldLink own idx (T kf).1 (T kf).2.1 (T kf).2.2.1 ∈ GW) (hq : ws[q]? = some (a, .inr (ci, fs))) (hv : fs[kf]? = some v) (kk : J x G ws k n lv (v :: st) (pc + 3)) : J x G ws k n lv (.ref a :: st) pc :=
  fun H locs ls hP hD hS hL => va_get hC.1 hC.2.1 hC.2.2.2.2.1 (fun w h => List.mem_cons_of_mem _ (hin w h)) hC.2.2.2.1 hC.2.2.2.2.2.1 hP q hq hc kf hk (hC.2.2.2.2.1 _ (List.mem_cons_of_mem _ hlink)) (fun _ h => h) hv hd (kk H locs ls hP hD hS hL)
/-- putfield of an int (or of any value that fits) into a field that isn't final -/
theorem J_put (hC : JC x G R cc w0 own nL) {C : String} {T : u_T} {N ci idx a : Nat} {ty : Nat → FieldType} {fs : List Value} {v : Value} {ws' : va_W} (hin : ∀ w ∈ u_ws C T N, w ∈ GW) (hc : vwCl[ci]? = some (C, T, N)) (hty : ∀ j, j < N → parseFieldDescriptor (T j).2.2.1 = some (ty j)) (hnm : ∀ a, a < N → ∀ b, b < N → a ≠ b → (T a).2.1 ≠ (T b).2.1) (hd : decode cc pc = .ok (.putfield idx, 3)) (q kf : Nat) (hk : kf < N)
    (hlink : Cond.fieldLink own idx (T kf).1 (T kf).2.1 (T kf).2.2.1 ∈ GW) (hfin : (T kf).2.2.2 = false) (hq : ws[q]? = some (a, .inr (ci, fs))) (hl : kf < fs.length) (hn : narrow (ty kf) v = v) (hf : fits (ty kf) v = true) (hw : ws.set q (a, .inr (ci, fs.set kf v)) = ws') (kk : J x G ws' k n lv st (pc + 3)) : J x G ws k n lv (v :: .ref a :: st) pc := by
  subst hw
  exact fun H locs ls hP hD hS hL => va_put hC.1 hC.2.1 hC.2.2.2.2.1 (fun w h => List.mem_cons_of_mem _ (hin w h)) ty hty hnm hC.2.2.2.1 hC.2.2.2.2.2.1 hP hD hS q hq hc kf hk (hC.2.2.2.2.1 _ (List.mem_cons_of_mem _ hlink)) (fun _ h => h) hfin (hty kf hk) hn hf hl hd (fun H1 locs1 hP1 hD1 hS1 => kk H1 locs1 ls hP1 hD1 hS1 hL)
/-- putfield of a final field, in its constructor -/
theorem J_putF (hC : JC x G R cc w0 own nL) {C : String} {T : u_T} {N ci idx a : Nat} {ty : Nat → FieldType} {fs : List Value} {v : Value} {ws' : va_W} (hin : ∀ w ∈ u_ws C T N, w ∈ GW) (hc : vwCl[ci]? = some (C, T, N)) (hty : ∀ j, j < N → parseFieldDescriptor (T j).2.2.1 = some (ty j)) (hnm : ∀ a, a < N → ∀ b, b < N → a ≠ b → (T a).2.1 ≠ (T b).2.1) (hi : (jt x).name = "<init>") (hd : decode cc pc = .ok (.putfield idx, 3)) (q kf : Nat) (hk : kf < N)
    (hlink : Cond.fieldLink own idx (T kf).1 (T kf).2.1 (T kf).2.2.1 ∈ GW) (hfin : (T kf).2.2.2 = true) (hdecl : (T kf).1 = own) (hq : ws[q]? = some (a, .inr (ci, fs))) (hl : kf < fs.length) (hn : narrow (ty kf) v = v) (hf : fits (ty kf) v = true) (hw : ws.set q (a, .inr (ci, fs.set kf v)) = ws') (kk : J x G ws' k n lv st (pc + 3)) : J x G ws k n lv (v :: .ref a :: st) pc := by
  subst hw
  exact fun H locs ls hP hD hS hL => va_putF hC.1 hC.2.1 hC.2.2.2.2.1 (fun w h => List.mem_cons_of_mem _ (hin w h)) ty hty hnm hC.2.2.2.1 hC.2.2.2.2.2.1 hP hD hS q hq hc kf hk (hC.2.2.2.2.1 _ (List.mem_cons_of_mem _ hlink)) (fun _ h => h) hfin hi hdecl (hty kf hk) hn hf hl hd (fun H1 locs1 hP1 hD1 hS1 => kk H1 locs1 ls hP1 hD1 hS1 hL)
/-- loads from arrays: at a known place i -/
theorem J_iald (hC : JC x G R cc w0 own nL) {a m i : Nat} {f : Nat → Int32} {v : Int32} (hd : decode cc pc = .ok (.iaload, 1)) (q : Nat) (hq : ws[q]? = some (a, .inl (gc G 0, m, .inl f))) (hi : i < m) (hm : m < 2 ^ 31) (hv : f i = v) (kk : J x G ws k n lv (.int v :: st) (pc + 1)) : J x G ws k n lv (.int (nI i) :: .ref a :: st) pc := by
  subst hv
  intro H locs ls hP hD hS hL
  refine va_iald hC.1 hC.2.1 hC.2.2.2.2.2.1 hP q 0 hq rfl (vp_in_nI hi hm) hd ?_
  rw [nI_clamp (by omega)]
  exact kk H locs ls hP hD hS hL
theorem J_bald (hC : JC x G R cc w0 own nL) {a m i : Nat} {f : Nat → Int32} {v : Int32} (hd : decode cc pc = .ok (.baload, 1)) (q : Nat) (hq : ws[q]? = some (a, .inl (gc G 1, m, .inl f))) (hi : i < m) (hm : m < 2 ^ 31) (hv : f i = v) (kk : J x G ws k n lv (.int v :: st) (pc + 1)) : J x G ws k n lv (.int (nI i) :: .ref a :: st) pc := by
  subst hv
  intro H locs ls hP hD hS hL
  refine va_bald hC.1 hC.2.1 hC.2.2.2.2.2.1 hP q 1 hq rfl (vp_in_nI hi hm) hd ?_
  rw [nI_clamp (by omega)]
  exact kk H locs ls hP hD hS hL
theorem J_zald (hC : JC x G R cc w0 own nL) {a m i : Nat} {f : Nat → Int32} {v : Int32} (hd : decode cc pc = .ok (.baload, 1)) (q : Nat) (hq : ws[q]? = some (a, .inl (gc G 2, m, .inl f))) (hi : i < m) (hm : m < 2 ^ 31) (hv : f i = v) (kk : J x G ws k n lv (.int v :: st) (pc + 1)) : J x G ws k n lv (.int (nI i) :: .ref a :: st) pc := by
  subst hv
  intro H locs ls hP hD hS hL
  refine va_zald hC.1 hC.2.1 hC.2.2.2.2.2.1 hP q 2 hq rfl (vp_in_nI hi hm) hd ?_
  rw [nI_clamp (by omega)]
  exact kk H locs ls hP hD hS hL
theorem J_iast (hC : JC x G R cc w0 own nL) {a m i : Nat} {f : Nat → Int32} {v : Int32} {ws' : va_W} (hd : decode cc pc = .ok (.iastore, 1)) (q : Nat) (hq : ws[q]? = some (a, .inl (gc G 0, m, .inl f))) (hi : i < m) (hm : m < 2 ^ 31) (hw : ws.set q (a, .inl (gc G 0, m, .inl (upd f i v))) = ws') (kk : J x G ws' k n lv st (pc + 1)) : J x G ws k n lv (.int v :: .int (nI i) :: .ref a :: st) pc := by
  subst hw
  intro H locs ls hP hD hS hL
  refine va_iast hC.1 hC.2.1 hC.2.2.2.2.2.1 hP hD hS q 0 hq rfl (vp_in_nI hi hm) hd (fun H1 locs1 hP1 hD1 hS1 => ?_)
  rw [nI_clamp (by omega)] at hP1 hD1
  exact kk H1 locs1 ls hP1 hD1 hS1 hL
theorem J_bast (hC : JC x G R cc w0 own nL) {a m i : Nat} {f : Nat → Int32} {v : Int32} {ws' : va_W} (hd : decode cc pc = .ok (.bastore, 1)) (q : Nat) (hq : ws[q]? = some (a, .inl (gc G 1, m, .inl f))) (hi : i < m) (hm : m < 2 ^ 31) (hw : ws.set q (a, .inl (gc G 1, m, .inl (upd f i (vp_nar .byte v)))) = ws') (kk : J x G ws' k n lv st (pc + 1)) : J x G ws k n lv (.int v :: .int (nI i) :: .ref a :: st) pc := by
  subst hw
  intro H locs ls hP hD hS hL
  refine va_bast hC.1 hC.2.1 hC.2.2.2.2.2.1 hP hD hS q 1 hq rfl (vp_in_nI hi hm) hd (fun H1 locs1 hP1 hD1 hS1 => ?_)
  rw [nI_clamp (by omega)] at hP1 hD1
  exact kk H1 locs1 ls hP1 hD1 hS1 hL
end JM
-- ENDS
def JRi {S : Type} (x : JX) (G : gT) (ty : FieldType) (post : Int32 → S → Prop) (W1 : S → va_W) (mc ms : Nat) : Prop :=
  (jt x).sig.returnType = some ty ∧ (jt x).locks = false ∧ jQ x = MQ (jb x) (va_Qi post (fun u => gB G (W1 u) (jA x)) (jA x) ) (ja x) (js x) mc ms (jA x)
def JRv {S : Type} (x : JX) (G : gT) (post : S → Prop) (W1 : S → va_W) (mc ms : Nat) : Prop :=
  (jt x).sig.returnType = none ∧ (jt x).locks = false ∧ jQ x = MQ (jb x) (va_Qv post (fun u => gB G (W1 u) (jA x)) (jA x)) (ja x) (js x) mc ms (jA x)
theorem J_iret {S : Type} {x : JX} {G : gT} {R : Room} {cc : ByteArray} {w0 : Cond} {own : String} {nL : Nat} {ws : va_W} {k n mc ms : Nat} {lv : List (Nat × Value)} {pc : Nat} {ty : FieldType} {post : Int32 → S → Prop} {W1 : S → va_W} {v : Int32} (hC : JC x G R cc w0 own nL) (hR : JRi x G ty post W1 mc ms)
    (hd : decode cc pc = .ok (.ireturn, 1)) (hn : narrow ty (.int v) = .int v) (u : S) (hp : post v u) (hw : ws = W1 u) (hk : k ≤ mc) (hs : n ≤ ms) : J x G ws k n lv [.int v] pc := by
  subst hw
  intro H locs ls hP hD hS hL
  obtain ⟨hr, hlk, hQ⟩ := hR
  rw [hQ]
  rw [hC.2.2.2.2.2.2.2.2.1] at hS
  refine W.widen hk hs ?_
  exact W.zret hC.1 hC.2.1 hr hn (fun t ht hW => ⟨⟨v, u, rfl, hp, by rw [ht]; exact hP, va_K.moved hW.alike hC.2.2.2.2.2.1, hD⟩, hS.F ht⟩) hS.2.2 hd hlk
theorem J_vret {S : Type} {x : JX} {G : gT} {R : Room} {cc : ByteArray} {w0 : Cond} {own : String} {nL : Nat} {ws : va_W} {k n mc ms : Nat} {lv : List (Nat × Value)} {pc : Nat} {post : S → Prop} {W1 : S → va_W} (hC : JC x G R cc w0 own nL) (hR : JRv x G post W1 mc ms)
    (hd : decode cc pc = .ok (.return_, 1)) (u : S) (hp : post u) (hw : ws = W1 u) (hk : k ≤ mc) (hs : n ≤ ms) : J x G ws k n lv [] pc := by
  subst hw
  intro H locs ls hP hD hS hL
  obtain ⟨hr, hlk, hQ⟩ := hR
  rw [hQ]
  rw [hC.2.2.2.2.2.2.2.2.1] at hS
  refine W.widen hk hs ?_
  exact W.vret hC.1 hC.2.1 hr (fun t ht hW => ⟨⟨u, rfl, hp, by rw [ht]; exact hP, va_K.moved hW.alike hC.2.2.2.2.2.1, hD⟩, hS.F ht⟩) hS.2.2 hd hlk
-- ENTRY
/-- contracts: a method that answers an int (MI), nothing (MV): from a world W0 to a world W1 -/
abbrev MI {S : Type} (l : Launch) (y : MethodName) (cc : ByteArray) (maxL : Nat) (ret : Option FieldType) (rm : Room) (av : List Value) (G : gT) (W0 : va_W) (post : Int32 → S → Prop) (W1 : S → va_W) : Prop := ∀ sz : Nat, Met l y (Cond.code y cc maxL ret :: GW) rm (va_Pc av (gP G W0 sz)) (va_Qi post (fun u => gB G (W1 u) (va_A W0 sz)) (va_A W0 sz)) rm.cells rm.slots (va_A W0 sz)
abbrev MV {S : Type} (l : Launch) (y : MethodName) (cc : ByteArray) (maxL : Nat) (rm : Room) (av : List Value) (G : gT) (W0 : va_W) (post : S → Prop) (W1 : S → va_W) : Prop := ∀ sz : Nat, Met l y (Cond.code y cc maxL none :: GW) rm (va_Pc av (gP G W0 sz)) (va_Qv post (fun u => gB G (W1 u) (va_A W0 sz)) (va_A W0 sz)) rm.cells rm.slots (va_A W0 sz)
/-- a method that answers an int (or boolean, char, byte): its contract out of its walk -/
theorem jm_i {S : Type} {l : Launch} {y : MethodName} {rm : Room} {cc : ByteArray} {maxL : Nat} {ty : FieldType} {av : List Value} {G : gT} {W0 : va_W} {W1 : S → va_W} {post : Int32 → S → Prop} {own : String} (hy : plainName y.cls = true) (ho : y.cls = own) (hn : (lg_sl av).length ≤ maxL)
    (body : ∀ x : JX, jl x = l → JC x G rm cc (Cond.code y cc maxL (some ty)) own maxL → JRi x G ty post W1 rm.cells rm.slots → (jt x).name = y.name → J x G W0 0 0 (lv_args 0 av) [] 0) :
    MI l y cc maxL (some ty) rm av G W0 post W1 := by
  intro sz
  refine Met.ofW (cc := cc) (maxL := maxL) (ret := some ty) hy rfl ?_
  intro p e s m args below meth c s₁ B hml hv
  subst ho
  obtain ⟨rfl, hsz, hP, hK, hD0, hE⟩ := hv
  have hts := atoms_spec (ws := Cond.code y cc maxL (some ty) :: GW) B.pre
  have hown : s.vm.findClass y.cls = some m.cls := findClass_of_methodNamed B.named
  subst hsz
  have hD := hD0.self (sz := s.heap.size)
  have hA : ∀ q : Nat, s.heap.size ≤ q → va_A W0 s.heap.size q := fun q h => Or.inr h
  have hl := lv_entry av (n := maxL) hn
  rw [lg_entry_eq]
  exact body (p, l, e, (headSpec (Cond.code y cc maxL (some ty) :: GW) rm).room, s, m, av.toArray, below, meth, c, va_A W0 s.heap.size, s.heap, MQ below (va_Qi post (fun u => gB G (W1 u) (va_A W0 s.heap.size)) (va_A W0 s.heap.size)) av.toArray s rm.cells rm.slots (va_A W0 s.heap.size)) rfl
    ⟨B.exec, B.bytes, hml, hown, hts, hK, hA, rfl, rfl, hE⟩ ⟨B.returns, B.notSynchronized, rfl⟩ (name_of_methodNamed B.named B.method).1 s.heap [] _ hP hD va_S.rf (hml ▸ hl)
theorem jm_v {S : Type} {l : Launch} {y : MethodName} {rm : Room} {cc : ByteArray} {maxL : Nat} {av : List Value} {G : gT} {W0 : va_W} {W1 : S → va_W} {post : S → Prop} {own : String} (hy : plainName y.cls = true) (ho : y.cls = own) (hn : (lg_sl av).length ≤ maxL)
    (body : ∀ x : JX, jl x = l → JC x G rm cc (Cond.code y cc maxL none) own maxL → JRv x G post W1 rm.cells rm.slots → (jt x).name = y.name → J x G W0 0 0 (lv_args 0 av) [] 0) :
    MV l y cc maxL rm av G W0 post W1 := by
  intro sz
  refine Met.ofW (cc := cc) (maxL := maxL) (ret := none) hy rfl ?_
  intro p e s m args below meth c s₁ B hml hv
  subst ho
  obtain ⟨rfl, hsz, hP, hK, hD0, hE⟩ := hv
  have hts := atoms_spec (ws := Cond.code y cc maxL none :: GW) B.pre
  have hown : s.vm.findClass y.cls = some m.cls := findClass_of_methodNamed B.named
  subst hsz
  have hD := hD0.self (sz := s.heap.size)
  have hA : ∀ q : Nat, s.heap.size ≤ q → va_A W0 s.heap.size q := fun q h => Or.inr h
  have hl := lv_entry av (n := maxL) hn
  rw [lg_entry_eq]
  exact body (p, l, e, (headSpec (Cond.code y cc maxL none :: GW) rm).room, s, m, av.toArray, below, meth, c, va_A W0 s.heap.size, s.heap, MQ below (va_Qv post (fun u => gB G (W1 u) (va_A W0 s.heap.size)) (va_A W0 s.heap.size)) av.toArray s rm.cells rm.slots (va_A W0 s.heap.size)) rfl
    ⟨B.exec, B.bytes, hml, hown, hts, hK, hA, rfl, rfl, hE⟩ ⟨B.returns, B.notSynchronized, rfl⟩ (name_of_methodNamed B.named B.method).1 s.heap [] _ hP hD va_S.rf (hml ▸ hl)
-- CALLS
/-- the words of a callee by invokevirtual, out of the caller's -/
theorem gwV {w0 : Cond} {own C : String} {idx maxL : Nat} {y : MethodName} {cc : ByteArray} {ret : Option FieldType} (h1 : Cond.methodLink own idx y ∈ GW) (h2 : Cond.instanceMethod y ∈ GW) (h3 : Cond.selects C y y ∈ GW) (h4 : Cond.initialized C ∈ GW) (h5 : Cond.code y cc maxL ret ∈ GW) : GoodIn (w0 :: GW) (wsV own idx C y (Cond.code y cc maxL ret :: GW)) := by
  have K : ∀ w ∈ wsV own idx C y (Cond.code y cc maxL ret :: GW), w ∈ GW := by
    intro w hw
    simp only [wsV, List.mem_append, List.mem_cons, List.not_mem_nil, or_false] at hw
    rcases hw with (rfl | rfl | rfl | rfl) | rfl | hw
    · exact h1
    · exact h2
    · exact h3
    · exact h4
    · exact h5
    · exact hw
  exact fun w hw => ⟨List.mem_cons_of_mem _ (K w hw), gw_good w (K w hw)⟩
theorem gwS {w0 : Cond} {own : String} {idx maxL : Nat} {y : MethodName} {cc : ByteArray} {ret : Option FieldType} (h1 : Cond.methodLink own idx y ∈ GW) (h2 : Cond.static y ∈ GW) (h4 : Cond.initialized own ∈ GW) (h5 : Cond.code y cc maxL ret ∈ GW) : GoodIn (w0 :: GW) (wsS own idx y (Cond.code y cc maxL ret :: GW)) := by
  have K : ∀ w ∈ wsS own idx y (Cond.code y cc maxL ret :: GW), w ∈ GW := by
    intro w hw
    simp only [wsS, List.mem_append, List.mem_cons, List.not_mem_nil, or_false] at hw
    rcases hw with (rfl | rfl | rfl) | rfl | hw
    · exact h1
    · exact h2
    · exact h4
    · exact h5
    · exact hw
  exact fun w hw => ⟨List.mem_cons_of_mem _ (K w hw), gw_good w (K w hw)⟩
/-- what the tables say of a method that is called by invokevirtual (YV) or invokestatic (YS) -/
def YV (y : MethodName) (C : String) (cc : ByteArray) (maxL : Nat) (ret : Option FieldType) (na : Nat) : Prop := Cond.instanceMethod y ∈ GW ∧ Cond.selects C y y ∈ GW ∧ Cond.initialized C ∈ GW ∧ Cond.code y cc maxL ret ∈ GW ∧ (y.cls = C ∧ y.cls ≠ "java/lang/invoke/MethodHandle" ∧ y.cls ≠ "java/lang/invoke/VarHandle" ∧ (parseMethodDescriptor y.desc).map (fun d => d.parameters.length) = some na)
def YS (y : MethodName) (C : String) (cc : ByteArray) (maxL : Nat) (ret : Option FieldType) (na : Nat) : Prop := Cond.static y ∈ GW ∧ Cond.initialized C ∈ GW ∧ Cond.code y cc maxL ret ∈ GW ∧ (y.cls = C ∧ y.cls ≠ "java/lang/invoke/MethodHandle" ∧ y.cls ≠ "java/lang/invoke/VarHandle" ∧ (parseMethodDescriptor y.desc).map (fun d => d.parameters.length) = some na)
theorem va_A_in {A : Nat → Prop} {ws : va_W} {H0 H : Heap} {locs : List Loc} (hD : va_D A ws) (hS : va_S A H0 H locs) (hA : ∀ q : Nat, H0.size ≤ q → A q) : ∀ q, va_A ws H.size q → A q := by
  intro q h
  rcases h with ⟨k, e, h⟩ | h
  · exact hD.2 k (q, e) h
  · exact hA q (Nat.le_trans hS.1 h)
section JCALL
variable {S : Type} {x : JX} {G : gT} {R : Room} {cc : ByteArray} {w0 : Cond} {own : String} {nL : Nat} {ws : va_W} {k n : Nat} {lv : List (Nat × Value)} {st rest : List Value} {pc : Nat}
variable {C : String} {idx maxLY na : Nat} {y : MethodName} {ccY : ByteArray} {ret : Option FieldType} {rmY : Room} {As : List Value} {b : Nat}
theorem J_callVi {post : Int32 → S → Prop} {W1 : S → va_W} {T : u_T} {N : Nat} {fs : List Value} (hC : JC x G R cc w0 own nL) (hd : decode cc pc = .ok (.invokevirtual idx, 3)) (hl : Cond.methodLink own idx y ∈ GW) (hY : YV y C ccY maxLY ret na)
    (hM : MI (jl x) y ccY maxLY ret rmY (.ref b :: As) G ws post W1)
    (hst : st = As.reverse ++ .ref b :: rest) (hna : As.length = na) (q ci : Nat) (hq : ws[q]? = some (b, .inr (ci, fs))) (hc : vwCl[ci]? = some (C, T, N))
    (hR : rmY.frames + 1 ≤ R.frames ∧ 8 + (maxLY + 11) + rmY.locals ≤ R.locals) (hcat : (rest.map fun v => v.category).sum ≤ 8) (hk : k + rmY.cells ≤ R.cells) (hn : n + rmY.slots ≤ R.slots)
    (kk : ∀ (r : Int32) (u : S), post r u → J x G (W1 u) (k + rmY.cells) (n + rmY.slots) lv (.int r :: rest) (pc + 3)) : J x G ws k n lv st pc := by
  intro H locs ls hP hD hS hL
  have hK := hC.2.2.2.2.2.1
  have hRR : jR x = R := hC.2.2.2.2.2.2.2.1
  have hE := hC.2.2.2.2.2.2.2.2.2
  have hF := va_A_in hD hS hC.2.2.2.2.2.2.1
  refine va_calli (va_runV (As := As) (rest := rest) ⟨hC.1, hC.2.1, hC.2.2.1, hC.2.2.2.1, hC.2.2.2.2.1⟩ (hM H.size) (cwV na hC.2.2.2.2.1 (gwV hl hY.1 hY.2.1 hY.2.2.1 hY.2.2.2.1) rfl rfl rfl hY.2.2.2.2 (by rw [hRR]; exact hR)) ⟨gP_blind _ _ _ _, va_recv hK hP hc hq, fun U hU hW => ⟨rfl, by rw [hU], by rw [hU]; exact hP, va_K.moved hW.alike hK, hD.weaken (fun _ _ _ _ => trivial), hE.step hW (by rw [hU]; intro q hq hn; rw [hC.2.2.2.2.2.2.2.2.1] at hS; exact hS.2.1 q hq hn) hF⟩⟩ rfl hna (hL.1.trans hC.2.2.1) hst (lv_room hcat) hd (by rw [hRR]; exact ⟨hk, hn⟩)) hS (fun q _ h => hF q h) hF (fun r u t H1 locs1 ht hvm hw hB hz hk1 hS1 => ?_)
  obtain ⟨hP1, hK1, hD1⟩ := hB
  rw [ht] at hP1
  exact kk r u hw H1 locs1 ls hP1 (hD1.weaken (fun _ _ _ h => hF _ h)) hS1 hL
theorem J_callVv {post : S → Prop} {W1 : S → va_W} {T : u_T} {N : Nat} {fs : List Value} (hC : JC x G R cc w0 own nL) (hd : decode cc pc = .ok (.invokevirtual idx, 3)) (hl : Cond.methodLink own idx y ∈ GW) (hY : YV y C ccY maxLY none na)
    (hM : MV (jl x) y ccY maxLY rmY (.ref b :: As) G ws post W1)
    (hst : st = As.reverse ++ .ref b :: rest) (hna : As.length = na) (q ci : Nat) (hq : ws[q]? = some (b, .inr (ci, fs))) (hc : vwCl[ci]? = some (C, T, N))
    (hR : rmY.frames + 1 ≤ R.frames ∧ 8 + (maxLY + 11) + rmY.locals ≤ R.locals) (hcat : (rest.map fun v => v.category).sum ≤ 8) (hk : k + rmY.cells ≤ R.cells) (hn : n + rmY.slots ≤ R.slots)
    (kk : ∀ (u : S), post u → J x G (W1 u) (k + rmY.cells) (n + rmY.slots) lv rest (pc + 3)) : J x G ws k n lv st pc := by
  intro H locs ls hP hD hS hL
  have hK := hC.2.2.2.2.2.1
  have hRR : jR x = R := hC.2.2.2.2.2.2.2.1
  have hE := hC.2.2.2.2.2.2.2.2.2
  have hF := va_A_in hD hS hC.2.2.2.2.2.2.1
  refine va_callv (va_runV (As := As) (rest := rest) ⟨hC.1, hC.2.1, hC.2.2.1, hC.2.2.2.1, hC.2.2.2.2.1⟩ (hM H.size) (cwV na hC.2.2.2.2.1 (gwV hl hY.1 hY.2.1 hY.2.2.1 hY.2.2.2.1) rfl rfl rfl hY.2.2.2.2 (by rw [hRR]; exact hR)) ⟨gP_blind _ _ _ _, va_recv hK hP hc hq, fun U hU hW => ⟨rfl, by rw [hU], by rw [hU]; exact hP, va_K.moved hW.alike hK, hD.weaken (fun _ _ _ _ => trivial), hE.step hW (by rw [hU]; intro q hq hn; rw [hC.2.2.2.2.2.2.2.2.1] at hS; exact hS.2.1 q hq hn) hF⟩⟩ rfl hna (hL.1.trans hC.2.2.1) hst (lv_room hcat) hd (by rw [hRR]; exact ⟨hk, hn⟩)) hS (fun q _ h => hF q h) hF (fun u t H1 locs1 ht hvm hw hB hz hk1 hS1 => ?_)
  obtain ⟨hP1, hK1, hD1⟩ := hB
  rw [ht] at hP1
  exact kk u hw H1 locs1 ls hP1 (hD1.weaken (fun _ _ _ h => hF _ h)) hS1 hL
theorem J_callSi {post : Int32 → S → Prop} {W1 : S → va_W} (hC : JC x G R cc w0 own nL) (hd : decode cc pc = .ok (.invokestatic idx, 3)) (hl : Cond.methodLink own idx y ∈ GW) (hio : Cond.initialized own ∈ GW) (hY : YS y C ccY maxLY ret na)
    (hM : MI (jl x) y ccY maxLY ret rmY As G ws post W1)
    (hst : st = As.reverse ++ rest) (hna : As.length = na)
    (hR : rmY.frames + 1 ≤ R.frames ∧ 8 + (maxLY + 11) + rmY.locals ≤ R.locals) (hcat : (rest.map fun v => v.category).sum ≤ 8) (hk : k + rmY.cells ≤ R.cells) (hn : n + rmY.slots ≤ R.slots)
    (kk : ∀ (r : Int32) (u : S), post r u → J x G (W1 u) (k + rmY.cells) (n + rmY.slots) lv (.int r :: rest) (pc + 3)) : J x G ws k n lv st pc := by
  intro H locs ls hP hD hS hL
  have hK := hC.2.2.2.2.2.1
  have hRR : jR x = R := hC.2.2.2.2.2.2.2.1
  have hE := hC.2.2.2.2.2.2.2.2.2
  have hF := va_A_in hD hS hC.2.2.2.2.2.2.1
  have ht0 := hC.2.2.2.2.1
  refine va_calli (va_runS (As := As) (rest := rest) ⟨hC.1, hC.2.1, hC.2.2.1, hC.2.2.2.1, hC.2.2.2.2.1⟩ (hM H.size) ⟨callB_of na ht0 (fun w hw => (gwS (w0 := w0) hl hY.1 hio hY.2.2.1) w (by unfold wsS; exact List.mem_append_right _ hw)) rfl rfl rfl (ht0 _ (List.mem_cons_of_mem _ (by rw [hY.2.2.2.1]; exact hY.2.1))) (ht0 _ (List.mem_cons_of_mem _ hl)) hY.2.2.2.2 (by rw [hRR]; exact hR), ht0 _ (List.mem_cons_of_mem _ hY.1)⟩ ⟨gP_blind _ _ _ _, fun U hU hW => ⟨rfl, by rw [hU], by rw [hU]; exact hP, va_K.moved hW.alike hK, hD.weaken (fun _ _ _ _ => trivial), hE.step hW (by rw [hU]; intro q hq hn; rw [hC.2.2.2.2.2.2.2.2.1] at hS; exact hS.2.1 q hq hn) hF⟩⟩ rfl hna (hL.1.trans hC.2.2.1) hst (lv_room hcat) hd (by rw [hRR]; exact ⟨hk, hn⟩)) hS (fun q _ h => hF q h) hF (fun r u t H1 locs1 ht hvm hw hB hz hk1 hS1 => ?_)
  obtain ⟨hP1, hK1, hD1⟩ := hB
  rw [ht] at hP1
  exact kk r u hw H1 locs1 ls hP1 (hD1.weaken (fun _ _ _ h => hF _ h)) hS1 hL
theorem J_callSv {post : S → Prop} {W1 : S → va_W} (hC : JC x G R cc w0 own nL) (hd : decode cc pc = .ok (.invokestatic idx, 3)) (hl : Cond.methodLink own idx y ∈ GW) (hio : Cond.initialized own ∈ GW) (hY : YS y C ccY maxLY none na)
    (hM : MV (jl x) y ccY maxLY rmY As G ws post W1)
    (hst : st = As.reverse ++ rest) (hna : As.length = na)
    (hR : rmY.frames + 1 ≤ R.frames ∧ 8 + (maxLY + 11) + rmY.locals ≤ R.locals) (hcat : (rest.map fun v => v.category).sum ≤ 8) (hk : k + rmY.cells ≤ R.cells) (hn : n + rmY.slots ≤ R.slots)
    (kk : ∀ (u : S), post u → J x G (W1 u) (k + rmY.cells) (n + rmY.slots) lv rest (pc + 3)) : J x G ws k n lv st pc := by
  intro H locs ls hP hD hS hL
  have hK := hC.2.2.2.2.2.1
  have hRR : jR x = R := hC.2.2.2.2.2.2.2.1
  have hE := hC.2.2.2.2.2.2.2.2.2
  have hF := va_A_in hD hS hC.2.2.2.2.2.2.1
  have ht0 := hC.2.2.2.2.1
  refine va_callv (va_runS (As := As) (rest := rest) ⟨hC.1, hC.2.1, hC.2.2.1, hC.2.2.2.1, hC.2.2.2.2.1⟩ (hM H.size) ⟨callB_of na ht0 (fun w hw => (gwS (w0 := w0) hl hY.1 hio hY.2.2.1) w (by unfold wsS; exact List.mem_append_right _ hw)) rfl rfl rfl (ht0 _ (List.mem_cons_of_mem _ (by rw [hY.2.2.2.1]; exact hY.2.1))) (ht0 _ (List.mem_cons_of_mem _ hl)) hY.2.2.2.2 (by rw [hRR]; exact hR), ht0 _ (List.mem_cons_of_mem _ hY.1)⟩ ⟨gP_blind _ _ _ _, fun U hU hW => ⟨rfl, by rw [hU], by rw [hU]; exact hP, va_K.moved hW.alike hK, hD.weaken (fun _ _ _ _ => trivial), hE.step hW (by rw [hU]; intro q hq hn; rw [hC.2.2.2.2.2.2.2.2.1] at hS; exact hS.2.1 q hq hn) hF⟩⟩ rfl hna (hL.1.trans hC.2.2.1) hst (lv_room hcat) hd (by rw [hRR]; exact ⟨hk, hn⟩)) hS (fun q _ h => hF q h) hF (fun u t H1 locs1 ht hvm hw hB hz hk1 hS1 => ?_)
  obtain ⟨hP1, hK1, hD1⟩ := hB
  rw [ht] at hP1
  exact kk u hw H1 locs1 ls hP1 (hD1.weaken (fun _ _ _ h => hF _ h)) hS1 hL
end JCALL
-- THE FRAME RULE OF A CONTRACT
theorem va_P_iff {D : va_G} {cl : List vw_C} {ws : va_W} {H : Heap} : va_P D cl ws H ↔ ∀ q ∈ ws, va_at D cl q H :=
  ⟨fun h q hq => by obtain ⟨k, hk⟩ := List.getElem?_of_mem hq; exact h k q hk, fun h k q hk => h q (List.mem_of_getElem? hk)⟩
theorem va_D_iff {A : Nat → Prop} {ws : va_W} : va_D A ws ↔ (ws.map Prod.fst).Nodup ∧ ∀ q ∈ ws, A q.1 := by
  constructor
  · intro h
    refine ⟨?_, fun q hq => by obtain ⟨k, hk⟩ := List.getElem?_of_mem hq; exact h.2 k q hk⟩
    rw [List.Nodup, List.pairwise_iff_getElem]
    intro i j hi hj hij e
    rw [List.length_map] at hi hj
    rw [List.getElem_map, List.getElem_map] at e
    have := h.1 i j ws[i] ws[j] (List.getElem?_eq_getElem hi) (List.getElem?_eq_getElem hj) e
    omega
  · intro h
    refine ⟨fun i j p q hp hq e => ?_, fun k q hk => h.2 q (List.mem_of_getElem? hk)⟩
    obtain ⟨hi, ei⟩ := List.getElem?_eq_some_iff.mp hp
    obtain ⟨hj, ej⟩ := List.getElem?_eq_some_iff.mp hq
    have hn := h.1
    rw [List.Nodup, List.pairwise_iff_getElem] at hn
    rcases Nat.lt_trichotomy i j with c | c | c
    · exact absurd (by rw [List.getElem_map, List.getElem_map, ei, ej, e]) (hn i j (by rw [List.length_map]; exact hi) (by rw [List.length_map]; exact hj) c)
    · exact c
    · exact absurd (by rw [List.getElem_map, List.getElem_map, ei, ej, e]) (hn j i (by rw [List.length_map]; exact hj) (by rw [List.length_map]; exact hi) c)
theorem va_P_perm {D : va_G} {cl : List vw_C} {w1 w2 : va_W} {H : Heap} (h : w1.Perm w2) (hP : va_P D cl w1 H) : va_P D cl w2 H := va_P_iff.mpr fun q hq => va_P_iff.mp hP q (h.mem_iff.mpr hq)
theorem va_D_perm {A : Nat → Prop} {w1 w2 : va_W} (h : w1.Perm w2) (hD : va_D A w1) : va_D A w2 := by
  have hd := va_D_iff.mp hD
  exact va_D_iff.mpr ⟨((h.map Prod.fst).nodup_iff).mp hd.1, fun q hq => hd.2 q (h.mem_iff.mpr hq)⟩
theorem va_A_iff {ws : va_W} {sz q : Nat} : va_A ws sz q ↔ (∃ e, (q, e) ∈ ws) ∨ sz ≤ q :=
  ⟨fun h => h.elim (fun ⟨k, e, hk⟩ => Or.inl ⟨e, List.mem_of_getElem? hk⟩) Or.inr, fun h => h.elim (fun ⟨e, he⟩ => by obtain ⟨k, hk⟩ := List.getElem?_of_mem he; exact Or.inl ⟨k, e, hk⟩) Or.inr⟩
theorem fr_go {G : gT} {W0 wc wr w1 W1 : va_W} {sz : Nat} {s t : State} (h0 : W0.Perm (wc ++ wr)) (h1 : (w1 ++ wr).Perm W1) (hp : gP G W0 sz s) (hB : gB G w1 (va_A wc sz) t) (hF : va_F (va_A wc sz) s t) : gB G W1 (va_A W0 sz) t ∧ va_F (va_A W0 sz) s t := by
  obtain ⟨hsz, hP, hK, hD, hE⟩ := hp
  obtain ⟨hP1, hK1, hD1⟩ := hB
  have hP2 := va_P_perm h0 hP
  have hD2 := va_D_perm h0 hD
  have mono : ∀ q, va_A wc sz q → va_A W0 sz q := fun q h => va_A_iff.mpr ((va_A_iff.mp h).elim (fun ⟨e, he⟩ => Or.inl ⟨e, h0.mem_iff.mpr (List.mem_append_left _ he)⟩) Or.inr)
  have hdd := va_D_iff.mp hD2
  rw [List.map_append, List.nodup_append] at hdd
  have far : ∀ q ∈ wr, q.1 < s.heap.size ∧ ¬ va_A wc sz q.1 := by
    intro q hq
    have hl := (va_P_iff.mp hP2 q (List.mem_append_right _ hq)).lt
    refine ⟨hl, fun h => ?_⟩
    rcases va_A_iff.mp h with ⟨e, he⟩ | h
    · exact hdd.1.2.2 q.1 (List.mem_map.mpr ⟨_, he, rfl⟩) q.1 (List.mem_map.mpr ⟨_, hq, rfl⟩) rfl
    · omega
  refine ⟨⟨va_P_perm h1 (va_P_iff.mpr fun q hq => ?_), hK1, va_D_perm h1 (va_D_iff.mpr ⟨?_, fun q hq => ?_⟩)⟩, hF.1, fun q h2 h3 => hF.2 q h2 (fun h => h3 (mono q h))⟩
  · rcases List.mem_append.mp hq with h | h
    · exact va_P_iff.mp hP1 q h
    · exact (va_P_iff.mp hP2 q (List.mem_append_right _ h)).kept (hF.2 q.1 (far q h).1 (far q h).2)
  · rw [List.map_append, List.nodup_append]
    refine ⟨(va_D_iff.mp hD1).1, hdd.1.2.1, fun a ha b hb e => ?_⟩
    obtain ⟨p, hp, rfl⟩ := List.mem_map.mp ha
    obtain ⟨r, hr, rfl⟩ := List.mem_map.mp hb
    exact (far r hr).2 (by rw [← e]; exact (va_D_iff.mp hD1).2 p hp)
  · rcases List.mem_append.mp hq with h | h
    · exact mono _ ((va_D_iff.mp hD1).2 q h)
    · exact va_A_iff.mpr (Or.inl ⟨q.2, h0.mem_iff.mpr (List.mem_append_right _ h)⟩)
theorem fr_sub {G : gT} {W0 wc wr : va_W} {sz : Nat} {s : State} (h0 : W0.Perm (wc ++ wr)) (hp : gP G W0 sz s) : gP G wc sz s := by
  obtain ⟨hsz, hP, hK, hD, hE⟩ := hp
  refine ⟨hsz, va_P_iff.mpr fun q hq => va_P_iff.mp hP q (h0.mem_iff.mpr (List.mem_append_left _ hq)), hK, va_D_iff.mpr ⟨?_, fun _ _ => trivial⟩, hE.narrow (fun q h => va_A_iff.mpr ((va_A_iff.mp h).elim (fun ⟨e, he⟩ => Or.inl ⟨e, h0.mem_iff.mpr (List.mem_append_left _ he)⟩) Or.inr))⟩
  have := (va_D_iff.mp (va_D_perm h0 hD)).1
  rw [List.map_append, List.nodup_append] at this
  exact this.1
theorem fr_mono {W0 wc wr : va_W} {sz : Nat} (h0 : W0.Perm (wc ++ wr)) : ∀ q, va_A wc sz q → va_A W0 sz q := fun q h => va_A_iff.mpr ((va_A_iff.mp h).elim (fun ⟨e, he⟩ => Or.inl ⟨e, h0.mem_iff.mpr (List.mem_append_left _ he)⟩) Or.inr)
section FR
variable {S : Type} {l : Launch} {y : MethodName} {ws : List Cond} {rm : Room} {av : List Value} {G : gT} {W0 wc wr : va_W} {w1 W1 : S → va_W} {mc ms : Nat}
theorem fr_i {post : Int32 → S → Prop} (hM : ∀ sz : Nat, Met l y ws rm (va_Pc av (gP G wc sz)) (va_Qi post (fun u => gB G (w1 u) (va_A wc sz)) (va_A wc sz)) mc ms (va_A wc sz)) (h0 : W0.Perm (wc ++ wr)) (h1 : ∀ u, (w1 u ++ wr).Perm (W1 u)) :
    ∀ sz : Nat, Met l y ws rm (va_Pc av (gP G W0 sz)) (va_Qi post (fun u => gB G (W1 u) (va_A W0 sz)) (va_A W0 sz)) mc ms (va_A W0 sz) := by
  intro sz p e ha hc hk s m args below hf happ hP hKt
  obtain ⟨n, o, g1, g2, g3, ⟨⟨r, u, ho, hpost, hB⟩, hF⟩, L, hFE, hL⟩ := hM sz p e ha hc hk s m args below hf happ ⟨hP.1, fr_sub h0 hP.2⟩ trivial
  obtain ⟨hB2, hF2⟩ := fr_go h0 (h1 u) hP.2 hB hF
  exact ⟨n, o, g1, g2, g3, ⟨⟨r, u, ho, hpost, hB2⟩, hF2⟩, L, hFE, fun q hq => fr_mono h0 _ (hL q hq)⟩
theorem fr_v {post : S → Prop} (hM : ∀ sz : Nat, Met l y ws rm (va_Pc av (gP G wc sz)) (va_Qv post (fun u => gB G (w1 u) (va_A wc sz)) (va_A wc sz)) mc ms (va_A wc sz)) (h0 : W0.Perm (wc ++ wr)) (h1 : ∀ u, (w1 u ++ wr).Perm (W1 u)) :
    ∀ sz : Nat, Met l y ws rm (va_Pc av (gP G W0 sz)) (va_Qv post (fun u => gB G (W1 u) (va_A W0 sz)) (va_A W0 sz)) mc ms (va_A W0 sz) := by
  intro sz p e ha hc hk s m args below hf happ hP hKt
  obtain ⟨n, o, g1, g2, g3, ⟨⟨u, ho, hpost, hB⟩, hF⟩, L, hFE, hL⟩ := hM sz p e ha hc hk s m args below hf happ ⟨hP.1, fr_sub h0 hP.2⟩ trivial
  obtain ⟨hB2, hF2⟩ := fr_go h0 (h1 u) hP.2 hB hF
  exact ⟨n, o, g1, g2, g3, ⟨⟨u, ho, hpost, hB2⟩, hF2⟩, L, hFE, fun q hq => fr_mono h0 _ (hL q hq)⟩
end FR
end
