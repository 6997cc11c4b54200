section
-- ===== PART A: goes FIRST, ahead of the names: the tables' words, and 'selects' of the private methods out of them =====
/-- a private method of a class that the tables say can be made, by its rows of tables_1 -/
def lw_okq (q : MethodName × Nat) : Prop := (q.1.cls ≠ "java/lang/invoke/MethodHandle" ∧ q.1.cls ≠ "java/lang/invoke/VarHandle") ∧ Cond.instantiable q.1.cls q.2 ∈ tables_1 ∧ Cond.privateMethod q.1 ∈ tables_1 ∧ Cond.instanceMethod q.1 ∈ tables_1
theorem lw_p0 : lw_okq (⟨"Stripboard$Script", "isFree", "(LStripboard$Scene;)Z"⟩, 5) := ⟨⟨by decide +kernel, by decide +kernel⟩, List.mem_of_getElem? (i := 30) (by decide +kernel), List.mem_of_getElem? (i := 400) (by decide +kernel), List.mem_of_getElem? (i := 401) (by decide +kernel)⟩
theorem lw_p1 : lw_okq (⟨"Stripboard$Filler", "fits", "(II)Z"⟩, 3) := ⟨⟨by decide +kernel, by decide +kernel⟩, List.mem_of_getElem? (i := 330) (by decide +kernel), List.mem_of_getElem? (i := 412) (by decide +kernel), List.mem_of_getElem? (i := 413) (by decide +kernel)⟩
theorem lw_p2 : lw_okq (⟨"Stripboard$Clock", "readRow", "(LStripboard$Day;)V"⟩, 11) := ⟨⟨by decide +kernel, by decide +kernel⟩, List.mem_of_getElem? (i := 216) (by decide +kernel), List.mem_of_getElem? (i := 428) (by decide +kernel), List.mem_of_getElem? (i := 429) (by decide +kernel)⟩
theorem lw_p3 : lw_okq (⟨"Stripboard$Clock", "readPeople", "(LStripboard$Day;)V"⟩, 11) := ⟨⟨by decide +kernel, by decide +kernel⟩, List.mem_of_getElem? (i := 216) (by decide +kernel), List.mem_of_getElem? (i := 444) (by decide +kernel), List.mem_of_getElem? (i := 445) (by decide +kernel)⟩
theorem lw_p4 : lw_okq (⟨"Stripboard$Clock", "readChildren", "()V"⟩, 11) := ⟨⟨by decide +kernel, by decide +kernel⟩, List.mem_of_getElem? (i := 216) (by decide +kernel), List.mem_of_getElem? (i := 449) (by decide +kernel), List.mem_of_getElem? (i := 450) (by decide +kernel)⟩
theorem lw_p5 : lw_okq (⟨"Stripboard$Board", "faultsAt", "(LStripboard$Day;I)I"⟩, 5) := ⟨⟨by decide +kernel, by decide +kernel⟩, List.mem_of_getElem? (i := 195) (by decide +kernel), List.mem_of_getElem? (i := 453) (by decide +kernel), List.mem_of_getElem? (i := 454) (by decide +kernel)⟩
theorem lw_p6 : lw_okq (⟨"Stripboard$Board", "isDark", "(LStripboard$Day;I)Z"⟩, 5) := ⟨⟨by decide +kernel, by decide +kernel⟩, List.mem_of_getElem? (i := 195) (by decide +kernel), List.mem_of_getElem? (i := 462) (by decide +kernel), List.mem_of_getElem? (i := 463) (by decide +kernel)⟩
theorem lw_p7 : lw_okq (⟨"Stripboard$Board", "isTooEarly", "(LStripboard$Scene;[II)Z"⟩, 5) := ⟨⟨by decide +kernel, by decide +kernel⟩, List.mem_of_getElem? (i := 195) (by decide +kernel), List.mem_of_getElem? (i := 466) (by decide +kernel), List.mem_of_getElem? (i := 467) (by decide +kernel)⟩
theorem lw_p8 : lw_okq (⟨"Stripboard$Payroll", "costOfPlaces", "(LStripboard$Day;)I"⟩, 4) := ⟨⟨by decide +kernel, by decide +kernel⟩, List.mem_of_getElem? (i := 347) (by decide +kernel), List.mem_of_getElem? (i := 515) (by decide +kernel), List.mem_of_getElem? (i := 516) (by decide +kernel)⟩
theorem lw_p9 : lw_okq (⟨"Stripboard", "checkScene", "(I)V"⟩, 6) := ⟨⟨by decide +kernel, by decide +kernel⟩, List.mem_of_getElem? (i := 22) (by decide +kernel), List.mem_of_getElem? (i := 530) (by decide +kernel), List.mem_of_getElem? (i := 531) (by decide +kernel)⟩
theorem lw_p10 : lw_okq (⟨"java/lang/Throwable", "fillInStackTrace", "(I)Ljava/lang/Throwable;"⟩, 6) := ⟨⟨by decide +kernel, by decide +kernel⟩, List.mem_of_getElem? (i := 575) (by decide +kernel), List.mem_of_getElem? (i := 573) (by decide +kernel), List.mem_of_getElem? (i := 574) (by decide +kernel)⟩
theorem lw_p11 : lw_okq (⟨"Stripboard", "checkPlace", "(I)V"⟩, 6) := ⟨⟨by decide +kernel, by decide +kernel⟩, List.mem_of_getElem? (i := 22) (by decide +kernel), List.mem_of_getElem? (i := 605) (by decide +kernel), List.mem_of_getElem? (i := 606) (by decide +kernel)⟩
theorem lw_p12 : lw_okq (⟨"Stripboard$Script", "spotBehind", "(I)I"⟩, 5) := ⟨⟨by decide +kernel, by decide +kernel⟩, List.mem_of_getElem? (i := 30) (by decide +kernel), List.mem_of_getElem? (i := 632) (by decide +kernel), List.mem_of_getElem? (i := 633) (by decide +kernel)⟩
theorem lw_p13 : lw_okq (⟨"Stripboard$Script", "spotOf", "(I)I"⟩, 5) := ⟨⟨by decide +kernel, by decide +kernel⟩, List.mem_of_getElem? (i := 30) (by decide +kernel), List.mem_of_getElem? (i := 636) (by decide +kernel), List.mem_of_getElem? (i := 637) (by decide +kernel)⟩
theorem lw_p14 : lw_okq (⟨"Stripboard$Script", "numberAt", "(I)I"⟩, 5) := ⟨⟨by decide +kernel, by decide +kernel⟩, List.mem_of_getElem? (i := 30) (by decide +kernel), List.mem_of_getElem? (i := 640) (by decide +kernel), List.mem_of_getElem? (i := 641) (by decide +kernel)⟩
theorem lw_p15 : lw_okq (⟨"Stripboard$Script", "lowestLetter", "(I)I"⟩, 5) := ⟨⟨by decide +kernel, by decide +kernel⟩, List.mem_of_getElem? (i := 30) (by decide +kernel), List.mem_of_getElem? (i := 644) (by decide +kernel), List.mem_of_getElem? (i := 645) (by decide +kernel)⟩
def lw_privs_1 : List (MethodName × Nat) := [(⟨"Stripboard$Script", "isFree", "(LStripboard$Scene;)Z"⟩, 5), (⟨"Stripboard$Filler", "fits", "(II)Z"⟩, 3), (⟨"Stripboard$Clock", "readRow", "(LStripboard$Day;)V"⟩, 11), (⟨"Stripboard$Clock", "readPeople", "(LStripboard$Day;)V"⟩, 11), (⟨"Stripboard$Clock", "readChildren", "()V"⟩, 11), (⟨"Stripboard$Board", "faultsAt", "(LStripboard$Day;I)I"⟩, 5), (⟨"Stripboard$Board", "isDark", "(LStripboard$Day;I)Z"⟩, 5), (⟨"Stripboard$Board", "isTooEarly", "(LStripboard$Scene;[II)Z"⟩, 5), (⟨"Stripboard$Payroll", "costOfPlaces", "(LStripboard$Day;)I"⟩, 4), (⟨"Stripboard", "checkScene", "(I)V"⟩, 6), (⟨"java/lang/Throwable", "fillInStackTrace", "(I)Ljava/lang/Throwable;"⟩, 6), (⟨"Stripboard", "checkPlace", "(I)V"⟩, 6), (⟨"Stripboard$Script", "spotBehind", "(I)I"⟩, 5), (⟨"Stripboard$Script", "spotOf", "(I)I"⟩, 5), (⟨"Stripboard$Script", "numberAt", "(I)I"⟩, 5), (⟨"Stripboard$Script", "lowestLetter", "(I)I"⟩, 5)]
theorem lw_r1 : ∀ q ∈ lw_privs_1, lw_okq q := List.forall_mem_cons.mpr ⟨lw_p0, List.forall_mem_cons.mpr ⟨lw_p1, List.forall_mem_cons.mpr ⟨lw_p2, List.forall_mem_cons.mpr ⟨lw_p3, List.forall_mem_cons.mpr ⟨lw_p4, List.forall_mem_cons.mpr ⟨lw_p5, List.forall_mem_cons.mpr ⟨lw_p6, List.forall_mem_cons.mpr ⟨lw_p7, List.forall_mem_cons.mpr ⟨lw_p8, List.forall_mem_cons.mpr ⟨lw_p9, List.forall_mem_cons.mpr ⟨lw_p10, List.forall_mem_cons.mpr ⟨lw_p11, List.forall_mem_cons.mpr ⟨lw_p12, List.forall_mem_cons.mpr ⟨lw_p13, List.forall_mem_cons.mpr ⟨lw_p14, List.forall_mem_cons.mpr ⟨lw_p15, fun _ h => absurd h List.not_mem_nil⟩⟩⟩⟩⟩⟩⟩⟩⟩⟩⟩⟩⟩⟩⟩⟩
theorem lw_p16 : lw_okq (⟨"Stripboard$Script", "wantsOther", "(LStripboard$Scene;)Z"⟩, 5) := ⟨⟨by decide +kernel, by decide +kernel⟩, List.mem_of_getElem? (i := 30) (by decide +kernel), List.mem_of_getElem? (i := 733) (by decide +kernel), List.mem_of_getElem? (i := 734) (by decide +kernel)⟩
theorem lw_p17 : lw_okq (⟨"Stripboard$Script", "leaveLooks", "(LStripboard$Scene;)V"⟩, 5) := ⟨⟨by decide +kernel, by decide +kernel⟩, List.mem_of_getElem? (i := 30) (by decide +kernel), List.mem_of_getElem? (i := 737) (by decide +kernel), List.mem_of_getElem? (i := 738) (by decide +kernel)⟩
theorem lw_p18 : lw_okq (⟨"Stripboard", "checkPerson", "(I)V"⟩, 6) := ⟨⟨by decide +kernel, by decide +kernel⟩, List.mem_of_getElem? (i := 22) (by decide +kernel), List.mem_of_getElem? (i := 782) (by decide +kernel), List.mem_of_getElem? (i := 783) (by decide +kernel)⟩
theorem lw_p19 : lw_okq (⟨"StripboardModel", "isScene", "(I)Z"⟩, 41) := ⟨⟨by decide +kernel, by decide +kernel⟩, List.mem_of_getElem? (i := 952) (by decide +kernel), List.mem_of_getElem? (i := 1091) (by decide +kernel), List.mem_of_getElem? (i := 1092) (by decide +kernel)⟩
theorem lw_p20 : lw_okq (⟨"StripboardModel", "isPlace", "(I)Z"⟩, 41) := ⟨⟨by decide +kernel, by decide +kernel⟩, List.mem_of_getElem? (i := 952) (by decide +kernel), List.mem_of_getElem? (i := 1098) (by decide +kernel), List.mem_of_getElem? (i := 1099) (by decide +kernel)⟩
theorem lw_p21 : lw_okq (⟨"StripboardModel", "goesWell", "(I)Z"⟩, 41) := ⟨⟨by decide +kernel, by decide +kernel⟩, List.mem_of_getElem? (i := 952) (by decide +kernel), List.mem_of_getElem? (i := 1102) (by decide +kernel), List.mem_of_getElem? (i := 1103) (by decide +kernel)⟩
theorem lw_p22 : lw_okq (⟨"StripboardModel", "placeIn", "(I)I"⟩, 41) := ⟨⟨by decide +kernel, by decide +kernel⟩, List.mem_of_getElem? (i := 952) (by decide +kernel), List.mem_of_getElem? (i := 1106) (by decide +kernel), List.mem_of_getElem? (i := 1107) (by decide +kernel)⟩
theorem lw_p23 : lw_okq (⟨"StripboardModel", "letter", "(I)V"⟩, 41) := ⟨⟨by decide +kernel, by decide +kernel⟩, List.mem_of_getElem? (i := 952) (by decide +kernel), List.mem_of_getElem? (i := 1110) (by decide +kernel), List.mem_of_getElem? (i := 1111) (by decide +kernel)⟩
theorem lw_p24 : lw_okq (⟨"StripboardModel", "off", "(I)V"⟩, 41) := ⟨⟨by decide +kernel, by decide +kernel⟩, List.mem_of_getElem? (i := 952) (by decide +kernel), List.mem_of_getElem? (i := 1122) (by decide +kernel), List.mem_of_getElem? (i := 1123) (by decide +kernel)⟩
theorem lw_p25 : lw_okq (⟨"StripboardModel", "placeOn", "(II)I"⟩, 41) := ⟨⟨by decide +kernel, by decide +kernel⟩, List.mem_of_getElem? (i := 952) (by decide +kernel), List.mem_of_getElem? (i := 1126) (by decide +kernel), List.mem_of_getElem? (i := 1127) (by decide +kernel)⟩
theorem lw_p26 : lw_okq (⟨"StripboardModel", "clashing", "()I"⟩, 41) := ⟨⟨by decide +kernel, by decide +kernel⟩, List.mem_of_getElem? (i := 952) (by decide +kernel), List.mem_of_getElem? (i := 1145) (by decide +kernel), List.mem_of_getElem? (i := 1146) (by decide +kernel)⟩
theorem lw_p27 : lw_okq (⟨"StripboardModel", "isBound", "(II)Z"⟩, 41) := ⟨⟨by decide +kernel, by decide +kernel⟩, List.mem_of_getElem? (i := 952) (by decide +kernel), List.mem_of_getElem? (i := 1160) (by decide +kernel), List.mem_of_getElem? (i := 1161) (by decide +kernel)⟩
theorem lw_p28 : lw_okq (⟨"StripboardModel", "isPerson", "(I)Z"⟩, 41) := ⟨⟨by decide +kernel, by decide +kernel⟩, List.mem_of_getElem? (i := 952) (by decide +kernel), List.mem_of_getElem? (i := 1172) (by decide +kernel), List.mem_of_getElem? (i := 1173) (by decide +kernel)⟩
theorem lw_p29 : lw_okq (⟨"StripboardModel", "on", "(III)V"⟩, 41) := ⟨⟨by decide +kernel, by decide +kernel⟩, List.mem_of_getElem? (i := 952) (by decide +kernel), List.mem_of_getElem? (i := 1200) (by decide +kernel), List.mem_of_getElem? (i := 1201) (by decide +kernel)⟩
theorem lw_p30 : lw_okq (⟨"StripboardModel", "clock", "(I)V"⟩, 41) := ⟨⟨by decide +kernel, by decide +kernel⟩, List.mem_of_getElem? (i := 952) (by decide +kernel), List.mem_of_getElem? (i := 1204) (by decide +kernel), List.mem_of_getElem? (i := 1205) (by decide +kernel)⟩
theorem lw_p31 : lw_okq (⟨"StripboardModel", "eighth", "()I"⟩, 41) := ⟨⟨by decide +kernel, by decide +kernel⟩, List.mem_of_getElem? (i := 952) (by decide +kernel), List.mem_of_getElem? (i := 1208) (by decide +kernel), List.mem_of_getElem? (i := 1209) (by decide +kernel)⟩
def lw_privs_2 : List (MethodName × Nat) := [(⟨"Stripboard$Script", "wantsOther", "(LStripboard$Scene;)Z"⟩, 5), (⟨"Stripboard$Script", "leaveLooks", "(LStripboard$Scene;)V"⟩, 5), (⟨"Stripboard", "checkPerson", "(I)V"⟩, 6), (⟨"StripboardModel", "isScene", "(I)Z"⟩, 41), (⟨"StripboardModel", "isPlace", "(I)Z"⟩, 41), (⟨"StripboardModel", "goesWell", "(I)Z"⟩, 41), (⟨"StripboardModel", "placeIn", "(I)I"⟩, 41), (⟨"StripboardModel", "letter", "(I)V"⟩, 41), (⟨"StripboardModel", "off", "(I)V"⟩, 41), (⟨"StripboardModel", "placeOn", "(II)I"⟩, 41), (⟨"StripboardModel", "clashing", "()I"⟩, 41), (⟨"StripboardModel", "isBound", "(II)Z"⟩, 41), (⟨"StripboardModel", "isPerson", "(I)Z"⟩, 41), (⟨"StripboardModel", "on", "(III)V"⟩, 41), (⟨"StripboardModel", "clock", "(I)V"⟩, 41), (⟨"StripboardModel", "eighth", "()I"⟩, 41)]
theorem lw_r2 : ∀ q ∈ lw_privs_2, lw_okq q := List.forall_mem_cons.mpr ⟨lw_p16, List.forall_mem_cons.mpr ⟨lw_p17, List.forall_mem_cons.mpr ⟨lw_p18, List.forall_mem_cons.mpr ⟨lw_p19, List.forall_mem_cons.mpr ⟨lw_p20, List.forall_mem_cons.mpr ⟨lw_p21, List.forall_mem_cons.mpr ⟨lw_p22, List.forall_mem_cons.mpr ⟨lw_p23, List.forall_mem_cons.mpr ⟨lw_p24, List.forall_mem_cons.mpr ⟨lw_p25, List.forall_mem_cons.mpr ⟨lw_p26, List.forall_mem_cons.mpr ⟨lw_p27, List.forall_mem_cons.mpr ⟨lw_p28, List.forall_mem_cons.mpr ⟨lw_p29, List.forall_mem_cons.mpr ⟨lw_p30, List.forall_mem_cons.mpr ⟨lw_p31, fun _ h => absurd h List.not_mem_nil⟩⟩⟩⟩⟩⟩⟩⟩⟩⟩⟩⟩⟩⟩⟩⟩
theorem lw_p32 : lw_okq (⟨"StripboardModel", "faultsOf", "(I)I"⟩, 41) := ⟨⟨by decide +kernel, by decide +kernel⟩, List.mem_of_getElem? (i := 952) (by decide +kernel), List.mem_of_getElem? (i := 1212) (by decide +kernel), List.mem_of_getElem? (i := 1213) (by decide +kernel)⟩
theorem lw_p33 : lw_okq (⟨"StripboardModel", "callOf", "(IIZ)I"⟩, 41) := ⟨⟨by decide +kernel, by decide +kernel⟩, List.mem_of_getElem? (i := 952) (by decide +kernel), List.mem_of_getElem? (i := 1216) (by decide +kernel), List.mem_of_getElem? (i := 1217) (by decide +kernel)⟩
theorem lw_p34 : lw_okq (⟨"StripboardModel", "isBehind", "(II)Z"⟩, 41) := ⟨⟨by decide +kernel, by decide +kernel⟩, List.mem_of_getElem? (i := 952) (by decide +kernel), List.mem_of_getElem? (i := 1220) (by decide +kernel), List.mem_of_getElem? (i := 1221) (by decide +kernel)⟩
theorem lw_p35 : lw_okq (⟨"StripboardModel", "canTry", "(I)Z"⟩, 41) := ⟨⟨by decide +kernel, by decide +kernel⟩, List.mem_of_getElem? (i := 952) (by decide +kernel), List.mem_of_getElem? (i := 1232) (by decide +kernel), List.mem_of_getElem? (i := 1233) (by decide +kernel)⟩
theorem lw_p36 : lw_okq (⟨"StripboardModel", "find", "(II)Z"⟩, 41) := ⟨⟨by decide +kernel, by decide +kernel⟩, List.mem_of_getElem? (i := 952) (by decide +kernel), List.mem_of_getElem? (i := 1236) (by decide +kernel), List.mem_of_getElem? (i := 1237) (by decide +kernel)⟩
theorem lw_p37 : lw_okq (⟨"StripboardModel", "faultless", "(I)I"⟩, 41) := ⟨⟨by decide +kernel, by decide +kernel⟩, List.mem_of_getElem? (i := 952) (by decide +kernel), List.mem_of_getElem? (i := 1240) (by decide +kernel), List.mem_of_getElem? (i := 1241) (by decide +kernel)⟩
theorem lw_p38 : lw_okq (⟨"StripboardModel", "stateOf", "(I)I"⟩, 41) := ⟨⟨by decide +kernel, by decide +kernel⟩, List.mem_of_getElem? (i := 952) (by decide +kernel), List.mem_of_getElem? (i := 1256) (by decide +kernel), List.mem_of_getElem? (i := 1257) (by decide +kernel)⟩
theorem lw_p39 : lw_okq (⟨"StripboardModel", "owed", "()I"⟩, 41) := ⟨⟨by decide +kernel, by decide +kernel⟩, List.mem_of_getElem? (i := 952) (by decide +kernel), List.mem_of_getElem? (i := 1272) (by decide +kernel), List.mem_of_getElem? (i := 1273) (by decide +kernel)⟩
theorem lw_p40 : lw_okq (⟨"StripboardModel", "payOf", "(IZ)I"⟩, 41) := ⟨⟨by decide +kernel, by decide +kernel⟩, List.mem_of_getElem? (i := 952) (by decide +kernel), List.mem_of_getElem? (i := 1284) (by decide +kernel), List.mem_of_getElem? (i := 1285) (by decide +kernel)⟩
theorem lw_p41 : lw_okq (⟨"StripboardModel", "days", "(I)I"⟩, 41) := ⟨⟨by decide +kernel, by decide +kernel⟩, List.mem_of_getElem? (i := 952) (by decide +kernel), List.mem_of_getElem? (i := 1288) (by decide +kernel), List.mem_of_getElem? (i := 1289) (by decide +kernel)⟩
theorem lw_p42 : lw_okq (⟨"StripboardModel", "works", "(II)Z"⟩, 41) := ⟨⟨by decide +kernel, by decide +kernel⟩, List.mem_of_getElem? (i := 952) (by decide +kernel), List.mem_of_getElem? (i := 1292) (by decide +kernel), List.mem_of_getElem? (i := 1293) (by decide +kernel)⟩
theorem lw_p43 : lw_okq (⟨"StripboardModel", "besides", "(II)I"⟩, 41) := ⟨⟨by decide +kernel, by decide +kernel⟩, List.mem_of_getElem? (i := 952) (by decide +kernel), List.mem_of_getElem? (i := 1302) (by decide +kernel), List.mem_of_getElem? (i := 1303) (by decide +kernel)⟩
def lw_privs_3 : List (MethodName × Nat) := [(⟨"StripboardModel", "faultsOf", "(I)I"⟩, 41), (⟨"StripboardModel", "callOf", "(IIZ)I"⟩, 41), (⟨"StripboardModel", "isBehind", "(II)Z"⟩, 41), (⟨"StripboardModel", "canTry", "(I)Z"⟩, 41), (⟨"StripboardModel", "find", "(II)Z"⟩, 41), (⟨"StripboardModel", "faultless", "(I)I"⟩, 41), (⟨"StripboardModel", "stateOf", "(I)I"⟩, 41), (⟨"StripboardModel", "owed", "()I"⟩, 41), (⟨"StripboardModel", "payOf", "(IZ)I"⟩, 41), (⟨"StripboardModel", "days", "(I)I"⟩, 41), (⟨"StripboardModel", "works", "(II)Z"⟩, 41), (⟨"StripboardModel", "besides", "(II)I"⟩, 41)]
theorem lw_r3 : ∀ q ∈ lw_privs_3, lw_okq q := List.forall_mem_cons.mpr ⟨lw_p32, List.forall_mem_cons.mpr ⟨lw_p33, List.forall_mem_cons.mpr ⟨lw_p34, List.forall_mem_cons.mpr ⟨lw_p35, List.forall_mem_cons.mpr ⟨lw_p36, List.forall_mem_cons.mpr ⟨lw_p37, List.forall_mem_cons.mpr ⟨lw_p38, List.forall_mem_cons.mpr ⟨lw_p39, List.forall_mem_cons.mpr ⟨lw_p40, List.forall_mem_cons.mpr ⟨lw_p41, List.forall_mem_cons.mpr ⟨lw_p42, List.forall_mem_cons.mpr ⟨lw_p43, fun _ h => absurd h List.not_mem_nil⟩⟩⟩⟩⟩⟩⟩⟩⟩⟩⟩⟩
def lw_privs : List (MethodName × Nat) := lw_privs_1 ++ (lw_privs_2 ++ (lw_privs_3))
def lw_tbl : List Cond := k2_sels lw_privs ++ tables_1
theorem lw_privs_ok : ∀ q ∈ lw_privs, lw_okq q := by
  show ∀ q ∈ lw_privs_1 ++ (lw_privs_2 ++ (lw_privs_3)), lw_okq q
  exact List.forall_mem_append.mpr ⟨lw_r1, List.forall_mem_append.mpr ⟨lw_r2, lw_r3⟩⟩
-- ===== end of PART A; then your names; then what follows =====
end
section
/-! ===== BEGIN words of one list among another's, by their places ===== -/
theorem goodIn_r {big : List Cond} (ws : List Cond) (ps : List Nat) (hp : ws = ps.filterMap (fun i => big[i]?)) (h : ws.all goodWord = true) : GoodIn big ws := by
  intro w hw
  have h1 := List.all_eq_true.mp h w hw
  rw [hp] at hw
  obtain ⟨i, -, hi⟩ := List.mem_filterMap.mp hw
  have hm : w ∈ big := by first | exact List.mem_of_getElem? hi | exact List.getElem?_mem hi
  exact ⟨hm, good_of_word h1⟩
theorem goodIn_app {big a b : List Cond} (ha : GoodIn big a) (hb : GoodIn big b) : GoodIn big (a ++ b) := fun w h => (List.mem_append.mp h).elim (ha w) (hb w)
theorem goodIn_ca {big a b : List Cond} {c : Cond} (ha : GoodIn big (c :: a)) (hb : GoodIn big b) : GoodIn big (c :: (a ++ b)) := fun w h => (List.mem_cons.mp h).elim (fun e => ha w (List.mem_cons.mpr (Or.inl e))) (fun h => (List.mem_append.mp h).elim (fun h => ha w (List.mem_cons.mpr (Or.inr h))) (hb w))
theorem goodIn_sub {big ws : List Cond} (hm : ∀ w ∈ ws, w ∈ big) (h : ws.all goodWord = true) : GoodIn big ws := fun w hw => ⟨hm w hw, good_of_word (List.all_eq_true.mp h w hw)⟩
/-! ===== END ===== -/
/-! ===== BEGIN exceptions that leave a method, and their catching by the caller (launches without stack traces) ===== -/
section VXA
/-! The laws vx_back, vx_callV, vx_callS, vx_callSW, vx_throw0, vx_throwS follow proofs of the library, with one case more: JvmDerived/Free/Laws.lean (Back.of_free), Shelf42/LK1.lean (callV, callS), Shelf/KitTraced.lean (throwNew0V, throwNewS). -/
/-- where a method has thrown q: the class by its name, the cell, what was written, the world -/
def vx_T (XC : String → State → State → Prop) (st : State) (q : Addr) (t : State) (mc ms : Nat) (free : Addr → Prop) : Prop :=
  ∃ (E : String) (ce : Cell) (L : List Loc), XC E st t ∧ t.heap[q]? = some ce ∧ ce.vm = .none ∧ st.vm.findClass E = some ce.cls ∧ st.WarmedH t.vm ∧ st.sameButNew ({ t with vm := st.vm } : State) L mc ms ∧ ∀ z ∈ L, free z.base
def vx_Q (Qc : Array Value → State → Outcome → State → Prop) (XC : String → State → State → Prop) (mc ms : Nat) (free : Addr → Prop) : Array Value → State → Outcome → State → Prop := fun a st o t =>
  (Qc a st o t ∧ ∃ L, FrameEnd st o t L mc ms ∧ ∀ q ∈ L, free q.base) ∨ ∃ q, o = .threw q ∧ vx_T XC st q t mc ms free
/-- a callee that returns or throws -/
def vx_Met (l : Launch) (y : MethodName) (ws : List Cond) (rm : Room) (Pc : Array Value → State → Prop) (Qc : Array Value → State → Outcome → State → Prop) (XC : String → State → State → Prop) (mc ms : Nat) (free : Addr → Prop) : Prop :=
  MetFree l y (headSpec ws rm) Pc (fun _ _ _ _ _ => True) (vx_Q Qc XC mc ms free)
def vx_Post (XC : String → State → State → Prop) (mc ms : Nat) (free : Addr → Prop) : Pt → Array Value → Addr → Pt → Prop := fun A a q B =>
  ∃ (g : JFrame) (mk : MethodId) (t : State) (L : List Loc) (E : String) (ce : Cell), B.U.heap = t.heap ∧ B.U.vm = t.vm ∧ XC E (A.U.calling g mk a) t ∧ t.heap[q]? = some ce ∧ ce.vm = .none ∧ A.U.vm.findClass E = some ce.cls ∧ B.locs = A.locs ++ L ∧ (∀ z ∈ L, free z.base) ∧ B.cells = A.cells + mc ∧ B.slots = A.slots + ms
def vx_Back (l : Launch) (R : Room) (p : Program) (e : Env) (below : List Frame) (s : State) (sargs : Array Value) (y : MethodName) (len W9 : Nat)
    (Pre : Pt → Array Value → Prop) (Post : Pt → Array Value → Option Value → Pt → Prop) (PostX : Pt → Array Value → Addr → Pt → Prop) : Prop :=
  ∀ (m : MethodId) (meth : Method) (c : Code) (A : Pt) (g : JFrame) (ig : Instr) (mk : MethodId) (a : Array Value),
    Stand p l e R s m sargs below meth c A.U A.locs A.cells A.slots → g.method = m → g.locals.size = c.maxLocals → decode c.code g.pc = .ok (ig, len) →
    2 * g.monitorRoom + (g.stack.map fun v => v.category).sum ≤ W9 → A.U.methodNamed? y = some mk → Pre A a →
    (∃ (v : Option Value) (B : Pt), Stand p l e R s m sargs below meth c B.U B.locs B.cells B.slots ∧ Post A a v B ∧
      Steps p.tables e below (doInvoke e (A.U.setTop g) [] mk a).1 (B.U.setTop { g with pc := g.pc + len, stack := v.toList ++ g.stack })) ∨
    (∃ (q : Addr) (B : Pt), Stand p l e R s m sargs below meth c B.U B.locs B.cells B.slots ∧ PostX A a q B ∧
      Steps p.tables e below (doInvoke e (A.U.setTop g) [] mk a).1 ((B.U.setTop g).pushFrame (.throwing q)))
section Payer
variable {l : Launch} {R : Room} {p : Program} {e : Env} {below : List Frame} {s : State} {sargs : Array Value} {y : MethodName} {len W9 : Nat}
theorem vx_back {ws : List Cond} {rm : Room} {Pc : Array Value → State → Prop} {Qc : Array Value → State → Outcome → State → Prop} {XC : String → State → State → Prop} {mc ms : Nat} {free : Addr → Prop} {bytes : ByteArray} {maxL : Nat} {ret : Option FieldType}
    (hM : vx_Met l y ws rm Pc Qc XC mc ms free) (hblind : FrameBlind Pc) (hrc : rm.cells = mc) (hrs : rm.slots = ms)
    (hframes : rm.frames + 1 ≤ R.frames) (hlocals : W9 + (maxL + 11) + rm.locals ≤ R.locals)
    (hws : ∀ w ∈ ws, ∀ a' U, s.WarmedH U.vm → w.before a' U = true) (hcode : Cond.code y bytes maxL ret ∈ ws) (hinit : ∀ a' U, s.WarmedH U.vm → (Cond.initialized y.cls).before a' U = true) :
    vx_Back l R p e below s sargs y len W9 (PreOf R mc ms Pc) (PostOf Qc mc ms free) (vx_Post XC mc ms free) := by
  intro m meth c A g ig mk a X hg hsize hdg hW hn hp
  have h1 : (headSpec ws rm).pre.before a A.U = true := atoms_intro fun w hw => hws w hw _ _ X.warmed
  have h2 : (Cond.code y bytes maxL ret).before a A.U = true := hws _ hcode _ _ X.warmed
  have h3 : (Cond.initialized y.cls).before a A.U = true := hinit _ _ X.warmed
  have h4 : A.cells + (headSpec ws rm).room.cells ≤ R.cells := by rw [show (headSpec ws rm).room.cells = mc from hrc]; exact hp.1
  have h5 : A.slots + (headSpec ws rm).room.slots ≤ R.slots := by rw [show (headSpec ws rm).room.slots = ms from hrs]; exact hp.2.1
  have hPc : Pc a (A.U.calling g mk a) := hblind _ _ _ _ hp.2.2
  obtain ⟨U, Ls, c0, s0⟩ := A
  dsimp only [Pt.U, Pt.locs, Pt.cells, Pt.slots] at h1 h2 h3 h4 h5 X hn hPc ⊢
  obtain ⟨methY, cY, hmY, hcY, -, hlY, -, -, -, -⟩ := Cond.code_spec hn h2
  obtain ⟨kY, hkY, -⟩ := className_of_methodNamed hn
  have hinitY : kY.init = .initialized := Cond.initialized_spec (findClass_of_methodNamed hn) hkY h3
  have h : At U g.method c below := by rw [hg]; exact X.here
  have hlocals9 : W9 + (maxL + 11) + (headSpec ws rm).room.locals ≤ R.locals := hlocals
  have happ : (headSpec ws rm).appliesLoose y e.platform (U.calling g mk a) = true :=
    Spec.appliesLoose_calling (g := g) h hdg hn hkY hinitY
      (X.room_calling (g := g) (R' := (headSpec ws rm).room) hsize hmY hcY hframes (by rw [hlY]; omega) h4 h5) h1
  obtain ⟨mid, hmid⟩ := h.above
  have hfr : (U.setTop g).frames = (.java g :: mid) ++ below := by rw [State.frames_setTop' g h.top, hmid]; rfl
  obtain ⟨o, s₂, hsteps, -, hend, hq⟩ := Steps.callFree hM p X.admits X.cas X.clock (acts := []) hfr happ hPc trivial
  have hq' : vx_Q Qc XC mc ms free a (U.calling g mk a) o s₂ := hq
  rw [State.frames_setTop' g h.top] at hend
  obtain ⟨g₀, hg0⟩ := Option.isSome_iff_exists.mp h.top
  obtain ⟨r, hr⟩ := State.topJava?_eq_some.mp hg0
  have hr' : (({ U with heap := s₂.heap, slotsUsed := s₂.slotsUsed } : State).setVm s₂.vm).frames = .java g₀ :: r := hr
  rcases hq' with ⟨hqc, L, hfe, hL⟩ | ⟨q, rfl, E, ce, L, hx, hce, hcv, hcl, hW₂, hsm, hL⟩
  · obtain ⟨⟨v, rfl⟩, hW₂, e2, q2, q3, q4, q5, q6⟩ := id hfe
    have e3 : s₂ = ({ (U.calling g mk a).setFrames s₂.frames with heap := s₂.heap, slotsUsed := s₂.slotsUsed } : State).setVm s₂.vm := by
      have : s₂ = ({ s₂ with vm := (U.calling g mk a).vm } : State).setVm s₂.vm := rfl
      rw [e2] at this
      exact this
    obtain ⟨c₂, i₂, len₂, hc₂, hd₂, hf₂⟩ := hend
    have hW' : U.WarmedH s₂.vm := hW₂
    have hcc : c₂ = c := by
      have h1 : s₂.code? g.method = U.code? g.method := by
        rw [State.code?_eq, State.code?_eq, hW'.alike.method?]
      exact Option.some.inj (hc₂.symm.trans (h1.trans h.code))
    subst hcc
    have hlen : len₂ = len := by rw [hdg] at hd₂; cases hd₂; rfl
    subst hlen
    have hs₂ : s₂ = (({ U with heap := s₂.heap, slotsUsed := s₂.slotsUsed } : State).setVm s₂.vm).setTop { g with pc := g.pc + len₂, stack := v.toList ++ g.stack } := by
      refine e3.trans ?_
      rw [hf₂, State.calling_eq h.top, State.setFrames_setFrames, State.setTop_of_frames _ hr', hr]
      rfl
    have hsame : U.sameButNew ({ U with heap := s₂.heap, slotsUsed := s₂.slotsUsed } : State) L mc ms := by
      refine ⟨?_, q2, q3, q4, q5, q6⟩
      obtain ⟨t, ht, -⟩ := State.frames_cons hr
      show ({ U with heap := s₂.heap, slotsUsed := s₂.slotsUsed } : State) = { U.setFrames U.frames with heap := s₂.heap, slotsUsed := s₂.slotsUsed }
      rw [State.setFrames_self ht]
    subst hg
    refine Or.inl ⟨v, ⟨(({ U with heap := s₂.heap, slotsUsed := s₂.slotsUsed } : State).setVm s₂.vm), Ls ++ L, c0 + mc, s0 + ms⟩,
      ⟨X.admits, X.cas, X.clock, X.frames, X.room, X.hears, X.method, X.code, (X.here.setHeapUsed s₂.heap s₂.slotsUsed).setVm hW'.alike, X.tail, State.WarmedH.trans X.warmed hW', X.limits, X.bytes, X.same.trans (hsame.setVm s.vm)⟩,
      ⟨g, mk, s₂, L, rfl, rfl, hqc, rfl, hL, rfl, rfl⟩, ?_⟩
    show Steps p.tables e below _ ((({ U with heap := s₂.heap, slotsUsed := s₂.slotsUsed } : State).setVm s₂.vm).setTop { g with pc := g.pc + len₂, stack := v.toList ++ g.stack })
    rw [← hs₂]
    exact hsteps
  · obtain ⟨e2, q2, q3, q4, q5, q6⟩ := id hsm
    have e3 : s₂ = ({ (U.calling g mk a).setFrames s₂.frames with heap := s₂.heap, slotsUsed := s₂.slotsUsed } : State).setVm s₂.vm := by
      have : s₂ = ({ s₂ with vm := (U.calling g mk a).vm } : State).setVm s₂.vm := rfl
      rw [e2] at this
      exact this
    have hf₂ : s₂.frames = .throwing q :: .java g :: U.frames.tail := hend
    have hW' : U.WarmedH s₂.vm := hW₂
    have hs₂ : s₂ = ((({ U with heap := s₂.heap, slotsUsed := s₂.slotsUsed } : State).setVm s₂.vm).setTop g).pushFrame (.throwing q) := by
      refine e3.trans ?_
      rw [hf₂, State.calling_eq h.top, State.setFrames_setFrames, State.pushFrame, State.frames_setTop _ hr', State.setTop_of_frames _ hr', State.setFrames_setFrames, hr]
      rfl
    have hsame : U.sameButNew ({ U with heap := s₂.heap, slotsUsed := s₂.slotsUsed } : State) L mc ms := by
      refine ⟨?_, q2, q3, q4, q5, q6⟩
      obtain ⟨t, ht, -⟩ := State.frames_cons hr
      show ({ U with heap := s₂.heap, slotsUsed := s₂.slotsUsed } : State) = { U.setFrames U.frames with heap := s₂.heap, slotsUsed := s₂.slotsUsed }
      rw [State.setFrames_self ht]
    subst hg
    refine Or.inr ⟨q, ⟨(({ U with heap := s₂.heap, slotsUsed := s₂.slotsUsed } : State).setVm s₂.vm), Ls ++ L, c0 + mc, s0 + ms⟩,
      ⟨X.admits, X.cas, X.clock, X.frames, X.room, X.hears, X.method, X.code, (X.here.setHeapUsed s₂.heap s₂.slotsUsed).setVm hW'.alike, X.tail, State.WarmedH.trans X.warmed hW', X.limits, X.bytes, X.same.trans (hsame.setVm s.vm)⟩,
      ⟨g, mk, s₂, L, E, ce, rfl, rfl, hx, hce, hcv, hcl, rfl, hL, rfl, rfl⟩, ?_⟩
    show Steps p.tables e below _ (((({ U with heap := s₂.heap, slotsUsed := s₂.slotsUsed } : State).setVm s₂.vm).setTop g).pushFrame (.throwing q))
    rw [← hs₂]
    exact hsteps
end Payer
section Calls
variable {p : Program} {l : Launch} {e : Env} {R : Room} {s : State} {m : MethodId} {args : Array Value} {below : List Frame} {meth : Method} {c : Code} {T : State} {locs : List Loc} {cells slots : Nat}
theorem vx_callV (X : Stand p l e R s m args below meth c T locs cells slots) (hexec : p.tables.exec = Jvm.exec) {own C : String} {index : Nat} {y : MethodName} {bytes : ByteArray} {maxL : Nat} {ret : Option FieldType}
    (hown : s.vm.findClass own = some m.cls) (hlink : (Cond.methodLink own index y).before args s = true) (hinst : (Cond.instanceMethod y).before args s = true) (hsel : (Cond.selects C y y).before args s = true)
    (hcode : (Cond.code y bytes maxL ret).before args s = true) (hy : y.cls ≠ "java/lang/invoke/MethodHandle" ∧ y.cls ≠ "java/lang/invoke/VarHandle")
    {W9 : Nat} {Pre : Pt → Array Value → Prop} {Post : Pt → Array Value → Option Value → Pt → Prop} {PostX : Pt → Array Value → Addr → Pt → Prop} (hK : vx_Back l R p e below s args y 3 W9 Pre Post PostX)
    {b : Addr} {cellB : Cell} (hcell : T.heap[b]? = some cellB) (hobj : cellB.vm.isStatics = false) (hcls : s.vm.findClass C = some cellB.cls)
    {g : JFrame} (hg : g.method = m) (hsize : g.locals.size = c.maxLocals) {argsL rest : List Value} (hlen : ∀ sig, parseMethodDescriptor y.desc = some sig → argsL.length = sig.parameters.length)
    (hstack : g.stack = argsL.reverse ++ .ref b :: rest) (hW : 2 * g.monitorRoom + (rest.map fun v => v.category).sum ≤ W9) (hdg : decode c.code g.pc = .ok (.invokevirtual index, 3))
    (hpre : ∀ vm₁, s.WarmedH vm₁ → Pre ⟨T.setVm vm₁, locs, cells, slots⟩ (Value.ref b :: argsL).toArray) :
    (∃ (v : Option Value) (vm₁ : Vm) (B : Pt), s.WarmedH vm₁ ∧ Stand p l e R s m args below meth c B.U B.locs B.cells B.slots ∧ Post ⟨T.setVm vm₁, locs, cells, slots⟩ (Value.ref b :: argsL).toArray v B ∧
      ∀ target, Steps p.tables e below (B.U.setTop { g with pc := g.pc + 3, stack := v.toList ++ rest }) target → Steps p.tables e below (T.setTop g) target) ∨
    (∃ (q : Addr) (vm₁ : Vm) (B : Pt), s.WarmedH vm₁ ∧ Stand p l e R s m args below meth c B.U B.locs B.cells B.slots ∧ PostX ⟨T.setVm vm₁, locs, cells, slots⟩ (Value.ref b :: argsL).toArray q B ∧
      Steps p.tables e below (T.setTop g) ((B.U.setTop { g with stack := rest }).pushFrame (.throwing q))) := by
  obtain ⟨mk, methM, hnamed, hmethM, hstM, habM⟩ := Cond.instanceMethod_spec hinst
  obtain ⟨methM', cM, hmethM', -, -, -, -, -, -, hsigM⟩ := Cond.code_spec hnamed hcode
  cases hmethM.symm.trans hmethM'
  obtain ⟨c2, r2, m2, q1, q2, q3, q4, kP, hkP, hkPi⟩ := Cond.selects_spec hsel
  cases hcls.symm.trans q1
  cases (State.methodFound?_of_named hnamed hy).symm.trans q2
  cases hnamed.symm.trans q3
  have hselP : selectMethod e.platform s.vm cellB.cls mk = .method mk := by rw [Launch.admits_selectMethod X.admits]; exact q4
  obtain ⟨vm₁, X₁, hstep₁⟩ := X.invokevirtual hexec hown hlink hnamed hmethM hstM hkP hkPi hy (a := b) (cell := cellB) hcell
    (fun z h => by rw [h] at hobj; cases hobj) hselP hmethM habM hkP hkPi (g := g) hg (argsL := argsL) (rest := rest) (hlen _ hsigM) hstack hdg
  rcases hK m meth c ⟨T.setVm vm₁, locs, cells, slots⟩ { g with stack := rest } (.invokevirtual index) mk (Value.ref b :: argsL).toArray X₁ hg hsize hdg hW (X₁.named hnamed) (hpre vm₁ X₁.warmed) with ⟨v, B, X', hpost, hsteps⟩ | ⟨q, B, X', hpost, hsteps⟩
  · exact Or.inl ⟨v, vm₁, B, X₁.warmed, X', hpost, fun target h => hstep₁ _ fun acts => by rw [doInvoke_state]; exact hsteps.trans h⟩
  · exact Or.inr ⟨q, vm₁, B, X₁.warmed, X', hpost, hstep₁ _ fun acts => by rw [doInvoke_state]; exact hsteps⟩
theorem vx_callS (X : Stand p l e R s m args below meth c T locs cells slots) (hexec : p.tables.exec = Jvm.exec) {own : String} {index : Nat} {y : MethodName} {bytes : ByteArray} {maxL : Nat} {ret : Option FieldType}
    (hown : s.vm.findClass own = some m.cls) (hlink : (Cond.methodLink own index y).before args s = true) (hstat : (Cond.static y).before args s = true) (hinit : (Cond.initialized y.cls).before args s = true)
    (hcode : (Cond.code y bytes maxL ret).before args s = true) (hy : y.cls ≠ "java/lang/invoke/MethodHandle" ∧ y.cls ≠ "java/lang/invoke/VarHandle")
    {W9 : Nat} {Pre : Pt → Array Value → Prop} {Post : Pt → Array Value → Option Value → Pt → Prop} {PostX : Pt → Array Value → Addr → Pt → Prop} (hK : vx_Back l R p e below s args y 3 W9 Pre Post PostX)
    {g : JFrame} (hg : g.method = m) (hsize : g.locals.size = c.maxLocals) {argsL rest : List Value} (hlen : ∀ sig, parseMethodDescriptor y.desc = some sig → argsL.length = sig.parameters.length)
    (hstack : g.stack = argsL.reverse ++ rest) (hW : 2 * g.monitorRoom + (rest.map fun v => v.category).sum ≤ W9) (hdg : decode c.code g.pc = .ok (.invokestatic index, 3))
    (hpre : ∀ vm₁, s.WarmedH vm₁ → Pre ⟨T.setVm vm₁, locs, cells, slots⟩ argsL.toArray) :
    (∃ (v : Option Value) (vm₁ : Vm) (B : Pt), s.WarmedH vm₁ ∧ Stand p l e R s m args below meth c B.U B.locs B.cells B.slots ∧ Post ⟨T.setVm vm₁, locs, cells, slots⟩ argsL.toArray v B ∧
      ∀ target, Steps p.tables e below (B.U.setTop { g with pc := g.pc + 3, stack := v.toList ++ rest }) target → Steps p.tables e below (T.setTop g) target) ∨
    (∃ (q : Addr) (vm₁ : Vm) (B : Pt), s.WarmedH vm₁ ∧ Stand p l e R s m args below meth c B.U B.locs B.cells B.slots ∧ PostX ⟨T.setVm vm₁, locs, cells, slots⟩ argsL.toArray q B ∧
      Steps p.tables e below (T.setTop g) ((B.U.setTop { g with stack := rest }).pushFrame (.throwing q))) := by
  obtain ⟨mk, hnamed⟩ := Cond.code_named hcode
  obtain ⟨methM, cM, hmethM, -, -, -, -, -, -, hsigM⟩ := Cond.code_spec hnamed hcode
  have hstatic : methM.isStatic = true := Cond.static_spec hnamed hmethM hstat
  obtain ⟨kP, hkP, -⟩ := className_of_methodNamed hnamed
  have hinitP : kP.init = .initialized := Cond.initialized_spec (findClass_of_methodNamed hnamed) hkP hinit
  obtain ⟨vm₁, X₁, hstep₁⟩ := X.invokestatic hexec hown hlink hnamed hmethM hstatic hkP hinitP hy (g := g) hg (argsL := argsL) (rest := rest) (hlen _ hsigM) hstack hdg
  rcases hK m meth c ⟨T.setVm vm₁, locs, cells, slots⟩ { g with stack := rest } (.invokestatic index) mk argsL.toArray X₁ hg hsize hdg hW (X₁.named hnamed) (hpre vm₁ X₁.warmed) with ⟨v, B, X', hpost, hsteps⟩ | ⟨q, B, X', hpost, hsteps⟩
  · exact Or.inl ⟨v, vm₁, B, X₁.warmed, X', hpost, fun target h => hstep₁ _ fun acts => by rw [doInvoke_state]; exact hsteps.trans h⟩
  · exact Or.inr ⟨q, vm₁, B, X₁.warmed, X', hpost, hstep₁ _ fun acts => by rw [doInvoke_state]; exact hsteps⟩
end Calls
theorem vx_cls {s : State} {T : State} {vm₁ : Vm} {E : String} {k : ClassId} (hW : s.WarmedH vm₁) (h : (T.setVm vm₁).vm.findClass E = some k) : s.vm.findClass E = some k := by
  have h1 : vm₁.findClass E = some k := h
  rw [hW.alike.findClass] at h1
  exact h1
/-- the method's frame g, with q thrown over it -/
def vx_W (p : Program) (l : Launch) (e : Env) (R : Room) (s : State) (m : MethodId) (args : Array Value) (below : List Frame) (meth : Method) (c : Code) (H : Heap) (locs : List Loc) (cells slots : Nat) (Q : State → Prop) (g : JFrame) (q : Addr) : Prop :=
  ∀ T : State, T.heap = H → Stand p l e R s m args below meth c T locs cells slots → ∃ t, Steps p.tables e below ((T.setTop g).pushFrame (.throwing q)) t ∧ Q t
def vx_Run (p : Program) (l : Launch) (e : Env) (R : Room) (s : State) (m : MethodId) (args : Array Value) (below : List Frame) (meth : Method) (c : Code) (H : Heap) (locs : List Loc) (cells slots mc ms : Nat) (g : JFrame) (rest : List Value) (Qa : State → Outcome → State → Prop) (XC : String → State → State → Prop) (free : Addr → Prop) : Prop :=
  ∀ T : State, T.heap = H → Stand p l e R s m args below meth c T locs cells slots →
    (∃ (v : Option Value) (st₀ t T' : State) (L : List Loc), st₀.heap = H ∧ Stand p l e R s m args below meth c T' (locs ++ L) (cells + mc) (slots + ms) ∧ (∀ q ∈ L, free q.base) ∧ T'.heap = t.heap ∧ T'.vm = t.vm ∧ Qa st₀ (.returned v) t ∧
      Goes p e below T g T' { g with pc := g.pc + 3, stack := v.toList ++ rest }) ∨
    (∃ (q : Addr) (st₀ t T' : State) (L : List Loc) (E : String) (ce : Cell), st₀.heap = H ∧ Stand p l e R s m args below meth c T' (locs ++ L) (cells + mc) (slots + ms) ∧ (∀ z ∈ L, free z.base) ∧ T'.heap = t.heap ∧ T'.vm = t.vm ∧ XC E st₀ t ∧ t.heap[q]? = some ce ∧ ce.vm = .none ∧ s.vm.findClass E = some ce.cls ∧
      Steps p.tables e below (T.setTop g) ((T'.setTop { g with stack := rest }).pushFrame (.throwing q)))
def vx_X {S : Type} (px : S → Prop) (B : String → S → State → Prop) (A : Nat → Prop) : String → State → State → Prop := fun E st t => ∃ u : S, px u ∧ B E u t ∧ va_F A st t
section Runs
variable {p : Program} {l : Launch} {e : Env} {R : Room} {s : State} {m : MethodId} {args : Array Value} {below : List Frame} {meth : Method} {c : Code} {H : Heap} {locs : List Loc} {cells slots : Nat}
variable {y : MethodName} {bytes cc : ByteArray} {maxL nL mc ms n index : Nat} {ret : Option FieldType} {ws : List Cond} {rm : Room} {Pc : Array Value → State → Prop} {Qc : Array Value → State → Outcome → State → Prop} {XC : String → State → State → Prop} {free : Addr → Prop} {Ts : List Cond} {own C : String} {b : Addr} {As rest : List Value} {g : JFrame}
theorem vx_callBack (cb : CallB R s args own index y bytes maxL ret ws rm mc ms n) (hM : vx_Met l y ws rm Pc Qc XC mc ms free) (hbl : FrameBlind Pc) : vx_Back l R p e below s args y 3 8 (PreOf R mc ms Pc) (PostOf Qc mc ms free) (vx_Post XC mc ms free) := by
  obtain ⟨hrc, hrs, hfr, hlo, hws, hcw, -, hini, -⟩ := cb
  exact vx_back (bytes := bytes) (maxL := maxL) (ret := ret) hM hbl hrc hrs hfr hlo hws hcw (fun a' U hW => word_at hW (Or.inl (by first | rfl | simp [Cond.onTables, Cond.keeps, Cond.steady])) hini)
theorem vx_runV (S : CallFix p m c cc nL s args Ts own) (hM : vx_Met l y ws rm Pc Qc XC mc ms free) (cw : CallW R s args own C index y bytes maxL ret ws rm mc ms n) (hp : PreV s H C b Pc As)
    (hg : g.method = m) (hn : As.length = n) (hsize : g.locals.size = nL) (hstack : g.stack = As.reverse ++ .ref b :: rest) (hW : 2 * g.monitorRoom + (rest.map fun v => v.category).sum ≤ 8) (hdg : decode cc g.pc = .ok (.invokevirtual index, 3)) (hf : cells + mc ≤ R.cells ∧ slots + ms ≤ R.slots) :
    vx_Run p l e R s m args below meth c H locs cells slots mc ms g rest (Qc (Value.ref b :: As).toArray) XC free := by
  have hK : vx_Back l R p e below s args y 3 8 (PreOf R mc ms Pc) (PostOf Qc mc ms free) (vx_Post XC mc ms free) := vx_callBack cw.1 hM hp.1
  obtain ⟨⟨-, -, -, -, -, -, hcode, -, hy, hlen, hl⟩, hin, hse⟩ := cw
  obtain ⟨hx, hb, hml, ho, -⟩ := S
  obtain ⟨-, ⟨cellB, hcB, hoB, hclB⟩, hPc⟩ := hp
  intro T hT X
  rcases vx_callV X hx (C := C) (bytes := bytes) (maxL := maxL) (ret := ret) ho hl hin hse hcode hy hK (by rw [hT]; exact hcB) hoB hclB hg (hsize.trans hml.symm) (argsL := As) (rest := rest) (fun sig h => hn.trans (hlen sig h)) hstack hW (by rw [hb]; exact hdg)
    (fun vm₁ hW₁ => ⟨hf.1, hf.2, hPc (T.setVm vm₁) hT hW₁⟩) with ⟨v, vm₁, ⟨U', l2, c2, s2⟩, hW₁, X', ⟨g', mk, t, L, e1, e2, hq, h1, hL, h2, h3⟩, st⟩ | ⟨q, vm₁, ⟨U', l2, c2, s2⟩, hW₁, X', ⟨g', mk, t, L, E, ce, e1, e2, hq, hce, hcv, hcl, h1, hL, h2, h3⟩, st⟩
  · dsimp only [Pt.U, Pt.locs, Pt.cells, Pt.slots] at X' e1 e2 h1 h2 h3 st
    subst h1; subst h2; subst h3
    exact Or.inl ⟨v, (T.setVm vm₁).calling g' mk (Value.ref b :: As).toArray, t, U', L, hT, X', hL, e1, e2, hq, st⟩
  · dsimp only [Pt.U, Pt.locs, Pt.cells, Pt.slots] at X' e1 e2 h1 h2 h3 st hcl
    subst h1; subst h2; subst h3
    exact Or.inr ⟨q, (T.setVm vm₁).calling g' mk (Value.ref b :: As).toArray, t, U', L, E, ce, hT, X', hL, e1, e2, hq, hce, hcv, vx_cls hW₁ hcl, st⟩
theorem vx_runS (S : CallFix p m c cc nL s args Ts own) (hM : vx_Met l y ws rm Pc Qc XC mc ms free) (cw : CallB R s args own index y bytes maxL ret ws rm mc ms n ∧ (Cond.static y).before args s = true) (hp : PreS s H Pc As)
    (hg : g.method = m) (hn : As.length = n) (hsize : g.locals.size = nL) (hstack : g.stack = As.reverse ++ rest) (hW : 2 * g.monitorRoom + (rest.map fun v => v.category).sum ≤ 8) (hdg : decode cc g.pc = .ok (.invokestatic index, 3)) (hf : cells + mc ≤ R.cells ∧ slots + ms ≤ R.slots) :
    vx_Run p l e R s m args below meth c H locs cells slots mc ms g rest (Qc As.toArray) XC free := by
  have hK : vx_Back l R p e below s args y 3 8 (PreOf R mc ms Pc) (PostOf Qc mc ms free) (vx_Post XC mc ms free) := vx_callBack cw.1 hM hp.1
  obtain ⟨⟨-, -, -, -, -, -, hcode, hini, hy, hlen, hl⟩, hstt⟩ := cw
  obtain ⟨hx, hb, hml, ho, -⟩ := S
  intro T hT X
  rcases vx_callS X hx (bytes := bytes) (maxL := maxL) (ret := ret) ho hl hstt hini hcode hy hK hg (hsize.trans hml.symm) (argsL := As) (rest := rest) (fun sig h => hn.trans (hlen sig h)) hstack hW (by rw [hb]; exact hdg)
    (fun vm₁ hW₁ => ⟨hf.1, hf.2, hp.2 (T.setVm vm₁) hT hW₁⟩) with ⟨v, vm₁, ⟨U', l2, c2, s2⟩, hW₁, X', ⟨g', mk, t, L, e1, e2, hq, h1, hL, h2, h3⟩, st⟩ | ⟨q, vm₁, ⟨U', l2, c2, s2⟩, hW₁, X', ⟨g', mk, t, L, E, ce, e1, e2, hq, hce, hcv, hcl, h1, hL, h2, h3⟩, st⟩
  · dsimp only [Pt.U, Pt.locs, Pt.cells, Pt.slots] at X' e1 e2 h1 h2 h3 st
    subst h1; subst h2; subst h3
    exact Or.inl ⟨v, (T.setVm vm₁).calling g' mk As.toArray, t, U', L, hT, X', hL, e1, e2, hq, st⟩
  · dsimp only [Pt.U, Pt.locs, Pt.cells, Pt.slots] at X' e1 e2 h1 h2 h3 st hcl
    subst h1; subst h2; subst h3
    exact Or.inr ⟨q, (T.setVm vm₁).calling g' mk As.toArray, t, U', L, E, ce, hT, X', hL, e1, e2, hq, hce, hcv, vx_cls hW₁ hcl, st⟩
end Runs
section Rows
variable {p : Program} {l : Launch} {e : Env} {R : Room} {s : State} {m : MethodId} {args : Array Value} {below : List Frame} {meth : Method} {c : Code} {H : Heap} {locs : List Loc} {cells slots : Nat} {Q : State → Prop}
variable {mc ms : Nat} {free : Addr → Prop} {A0 A1 : Nat → Prop} {H0 : Heap} {a : Array Value} {pc : Nat} {ls : Array Slot} {st0 rest : List Value}
theorem vx_keep {st₀ t T' : State} {L : List Loc} (h0 : st₀.heap = H) (e1 : T'.heap = t.heap) (hS : va_S A0 H0 H locs) (hA : ∀ q, q < H.size → A1 q → A0 q) (hf : ∀ q, free q → A0 q) (hL : ∀ q ∈ L, free q.base) (hF : va_F A1 st₀ t) :
    H.size ≤ T'.heap.size ∧ (∀ q : Nat, q < H.size → ¬ A1 q → T'.heap[q]? = H[q]?) ∧ va_S A0 H0 T'.heap (locs ++ L) := by
  obtain ⟨hz, hk⟩ := hF
  rw [h0] at hz hk
  exact ⟨by rw [e1]; exact hz, fun q h1 h2 => by rw [e1]; exact hk q h1 h2,
    ⟨Nat.le_trans hS.1 (by rw [e1]; exact hz), fun q h1 h2 => by rw [e1, hk q (Nat.lt_of_lt_of_le h1 hS.1) (fun z => h2 (hA q (Nat.lt_of_lt_of_le h1 hS.1) z))]; exact hS.2.1 q h1 h2, fun q hq => by
      rcases List.mem_append.mp hq with h | h
      · exact hS.2.2 q h
      · exact hf _ (hL q h)⟩⟩
theorem vx_calli {S SX : Type} {post : Int32 → S → Prop} {px : SX → Prop} {B : S → State → Prop} {BX : String → SX → State → Prop} {AX : Nat → Prop} (hr : vx_Run p l e R s m args below meth c H locs cells slots mc ms (F0 m pc ls st0) rest (va_Qi post B A1 a) (vx_X px BX AX) free) (hS : va_S A0 H0 H locs) (hA : ∀ q, q < H.size → A1 q → A0 q) (hf : ∀ q, free q → A0 q) (hAX : ∀ q, q < H.size → AX q → A0 q)
    (kx : ∀ (E : String) (ce : Cell) (q9 : Addr) (u : SX) (t : State) (H1 : Heap) (locs1 : List Loc), t.heap = H1 → s.vm.Alike t.vm → px u → BX E u t → H.size ≤ H1.size → (∀ q : Nat, q < H.size → ¬ AX q → H1[q]? = H[q]?) → va_S A0 H0 H1 locs1 → H1[q9]? = some ce → ce.vm = .none → s.vm.findClass E = some ce.cls → vx_W p l e R s m args below meth c H1 locs1 (cells + mc) (slots + ms) Q (F0 m pc ls rest) q9)
    (kk : ∀ (r : Int32) (u : S) (t : State) (H1 : Heap) (locs1 : List Loc), t.heap = H1 → s.vm.Alike t.vm → post r u → B u t → H.size ≤ H1.size → (∀ q : Nat, q < H.size → ¬ A1 q → H1[q]? = H[q]?) → va_S A0 H0 H1 locs1 → W p l e R s m args below meth c H1 locs1 (cells + mc) (slots + ms) Q (F0 m (pc + 3) ls (.int r :: rest))) : W p l e R s m args below meth c H locs cells slots Q (F0 m pc ls st0) := by
  intro T hT X
  rcases hr T hT X with ⟨v, st₀, t, T', L, h0, X', hL, e1, e2, ⟨⟨r, u, hv, hp, hb⟩, hF⟩, st⟩ | ⟨q, st₀, t, T', L, E, ce, h0, X', hL, e1, e2, ⟨u, hp, hb, hF⟩, hce, hcv, hcl, st⟩
  · cases hv
    obtain ⟨k1, k2, k3⟩ := vx_keep h0 e1 hS hA hf hL hF
    obtain ⟨t2, a1, b1⟩ := kk r u t T'.heap (locs ++ L) e1.symm (by rw [← e2]; exact X'.warmed.alike) hp hb k1 k2 k3 T' rfl X'
    exact ⟨t2, st t2 a1, b1⟩
  · obtain ⟨k1, k2, k3⟩ := vx_keep h0 e1 hS hAX hf hL hF
    obtain ⟨t2, a1, b1⟩ := kx E ce q u t T'.heap (locs ++ L) e1.symm (by rw [← e2]; exact X'.warmed.alike) hp hb k1 k2 k3 (by rw [e1]; exact hce) hcv hcl T' rfl X'
    exact ⟨t2, st.trans a1, b1⟩
theorem vx_calll {S SX : Type} {post : Int64 → S → Prop} {px : SX → Prop} {B : S → State → Prop} {BX : String → SX → State → Prop} {AX : Nat → Prop} (hr : vx_Run p l e R s m args below meth c H locs cells slots mc ms (F0 m pc ls st0) rest (va_Ql post B A1 a) (vx_X px BX AX) free) (hS : va_S A0 H0 H locs) (hA : ∀ q, q < H.size → A1 q → A0 q) (hf : ∀ q, free q → A0 q) (hAX : ∀ q, q < H.size → AX q → A0 q)
    (kx : ∀ (E : String) (ce : Cell) (q9 : Addr) (u : SX) (t : State) (H1 : Heap) (locs1 : List Loc), t.heap = H1 → s.vm.Alike t.vm → px u → BX E u t → H.size ≤ H1.size → (∀ q : Nat, q < H.size → ¬ AX q → H1[q]? = H[q]?) → va_S A0 H0 H1 locs1 → H1[q9]? = some ce → ce.vm = .none → s.vm.findClass E = some ce.cls → vx_W p l e R s m args below meth c H1 locs1 (cells + mc) (slots + ms) Q (F0 m pc ls rest) q9)
    (kk : ∀ (r : Int64) (u : S) (t : State) (H1 : Heap) (locs1 : List Loc), t.heap = H1 → s.vm.Alike t.vm → post r u → B u t → H.size ≤ H1.size → (∀ q : Nat, q < H.size → ¬ A1 q → H1[q]? = H[q]?) → va_S A0 H0 H1 locs1 → W p l e R s m args below meth c H1 locs1 (cells + mc) (slots + ms) Q (F0 m (pc + 3) ls (.long r :: rest))) : W p l e R s m args below meth c H locs cells slots Q (F0 m pc ls st0) := by
  intro T hT X
  rcases hr T hT X with ⟨v, st₀, t, T', L, h0, X', hL, e1, e2, ⟨⟨r, u, hv, hp, hb⟩, hF⟩, st⟩ | ⟨q, st₀, t, T', L, E, ce, h0, X', hL, e1, e2, ⟨u, hp, hb, hF⟩, hce, hcv, hcl, st⟩
  · cases hv
    obtain ⟨k1, k2, k3⟩ := vx_keep h0 e1 hS hA hf hL hF
    obtain ⟨t2, a1, b1⟩ := kk r u t T'.heap (locs ++ L) e1.symm (by rw [← e2]; exact X'.warmed.alike) hp hb k1 k2 k3 T' rfl X'
    exact ⟨t2, st t2 a1, b1⟩
  · obtain ⟨k1, k2, k3⟩ := vx_keep h0 e1 hS hAX hf hL hF
    obtain ⟨t2, a1, b1⟩ := kx E ce q u t T'.heap (locs ++ L) e1.symm (by rw [← e2]; exact X'.warmed.alike) hp hb k1 k2 k3 (by rw [e1]; exact hce) hcv hcl T' rfl X'
    exact ⟨t2, st.trans a1, b1⟩
theorem vx_callf {S SX : Type} {post : UInt32 → S → Prop} {px : SX → Prop} {B : S → State → Prop} {BX : String → SX → State → Prop} {AX : Nat → Prop} (hr : vx_Run p l e R s m args below meth c H locs cells slots mc ms (F0 m pc ls st0) rest (va_Qf post B A1 a) (vx_X px BX AX) free) (hS : va_S A0 H0 H locs) (hA : ∀ q, q < H.size → A1 q → A0 q) (hf : ∀ q, free q → A0 q) (hAX : ∀ q, q < H.size → AX q → A0 q)
    (kx : ∀ (E : String) (ce : Cell) (q9 : Addr) (u : SX) (t : State) (H1 : Heap) (locs1 : List Loc), t.heap = H1 → s.vm.Alike t.vm → px u → BX E u t → H.size ≤ H1.size → (∀ q : Nat, q < H.size → ¬ AX q → H1[q]? = H[q]?) → va_S A0 H0 H1 locs1 → H1[q9]? = some ce → ce.vm = .none → s.vm.findClass E = some ce.cls → vx_W p l e R s m args below meth c H1 locs1 (cells + mc) (slots + ms) Q (F0 m pc ls rest) q9)
    (kk : ∀ (r : UInt32) (u : S) (t : State) (H1 : Heap) (locs1 : List Loc), t.heap = H1 → s.vm.Alike t.vm → post r u → B u t → H.size ≤ H1.size → (∀ q : Nat, q < H.size → ¬ A1 q → H1[q]? = H[q]?) → va_S A0 H0 H1 locs1 → W p l e R s m args below meth c H1 locs1 (cells + mc) (slots + ms) Q (F0 m (pc + 3) ls (.float r :: rest))) : W p l e R s m args below meth c H locs cells slots Q (F0 m pc ls st0) := by
  intro T hT X
  rcases hr T hT X with ⟨v, st₀, t, T', L, h0, X', hL, e1, e2, ⟨⟨r, u, hv, hp, hb⟩, hF⟩, st⟩ | ⟨q, st₀, t, T', L, E, ce, h0, X', hL, e1, e2, ⟨u, hp, hb, hF⟩, hce, hcv, hcl, st⟩
  · cases hv
    obtain ⟨k1, k2, k3⟩ := vx_keep h0 e1 hS hA hf hL hF
    obtain ⟨t2, a1, b1⟩ := kk r u t T'.heap (locs ++ L) e1.symm (by rw [← e2]; exact X'.warmed.alike) hp hb k1 k2 k3 T' rfl X'
    exact ⟨t2, st t2 a1, b1⟩
  · obtain ⟨k1, k2, k3⟩ := vx_keep h0 e1 hS hAX hf hL hF
    obtain ⟨t2, a1, b1⟩ := kx E ce q u t T'.heap (locs ++ L) e1.symm (by rw [← e2]; exact X'.warmed.alike) hp hb k1 k2 k3 (by rw [e1]; exact hce) hcv hcl T' rfl X'
    exact ⟨t2, st.trans a1, b1⟩
theorem vx_calld {S SX : Type} {post : UInt64 → S → Prop} {px : SX → Prop} {B : S → State → Prop} {BX : String → SX → State → Prop} {AX : Nat → Prop} (hr : vx_Run p l e R s m args below meth c H locs cells slots mc ms (F0 m pc ls st0) rest (va_Qd post B A1 a) (vx_X px BX AX) free) (hS : va_S A0 H0 H locs) (hA : ∀ q, q < H.size → A1 q → A0 q) (hf : ∀ q, free q → A0 q) (hAX : ∀ q, q < H.size → AX q → A0 q)
    (kx : ∀ (E : String) (ce : Cell) (q9 : Addr) (u : SX) (t : State) (H1 : Heap) (locs1 : List Loc), t.heap = H1 → s.vm.Alike t.vm → px u → BX E u t → H.size ≤ H1.size → (∀ q : Nat, q < H.size → ¬ AX q → H1[q]? = H[q]?) → va_S A0 H0 H1 locs1 → H1[q9]? = some ce → ce.vm = .none → s.vm.findClass E = some ce.cls → vx_W p l e R s m args below meth c H1 locs1 (cells + mc) (slots + ms) Q (F0 m pc ls rest) q9)
    (kk : ∀ (r : UInt64) (u : S) (t : State) (H1 : Heap) (locs1 : List Loc), t.heap = H1 → s.vm.Alike t.vm → post r u → B u t → H.size ≤ H1.size → (∀ q : Nat, q < H.size → ¬ A1 q → H1[q]? = H[q]?) → va_S A0 H0 H1 locs1 → W p l e R s m args below meth c H1 locs1 (cells + mc) (slots + ms) Q (F0 m (pc + 3) ls (.double r :: rest))) : W p l e R s m args below meth c H locs cells slots Q (F0 m pc ls st0) := by
  intro T hT X
  rcases hr T hT X with ⟨v, st₀, t, T', L, h0, X', hL, e1, e2, ⟨⟨r, u, hv, hp, hb⟩, hF⟩, st⟩ | ⟨q, st₀, t, T', L, E, ce, h0, X', hL, e1, e2, ⟨u, hp, hb, hF⟩, hce, hcv, hcl, st⟩
  · cases hv
    obtain ⟨k1, k2, k3⟩ := vx_keep h0 e1 hS hA hf hL hF
    obtain ⟨t2, a1, b1⟩ := kk r u t T'.heap (locs ++ L) e1.symm (by rw [← e2]; exact X'.warmed.alike) hp hb k1 k2 k3 T' rfl X'
    exact ⟨t2, st t2 a1, b1⟩
  · obtain ⟨k1, k2, k3⟩ := vx_keep h0 e1 hS hAX hf hL hF
    obtain ⟨t2, a1, b1⟩ := kx E ce q u t T'.heap (locs ++ L) e1.symm (by rw [← e2]; exact X'.warmed.alike) hp hb k1 k2 k3 (by rw [e1]; exact hce) hcv hcl T' rfl X'
    exact ⟨t2, st.trans a1, b1⟩
theorem vx_callv {S SX : Type} {post : S → Prop} {px : SX → Prop} {B : S → State → Prop} {BX : String → SX → State → Prop} {AX : Nat → Prop} (hr : vx_Run p l e R s m args below meth c H locs cells slots mc ms (F0 m pc ls st0) rest (va_Qv post B A1 a) (vx_X px BX AX) free) (hS : va_S A0 H0 H locs) (hA : ∀ q, q < H.size → A1 q → A0 q) (hf : ∀ q, free q → A0 q) (hAX : ∀ q, q < H.size → AX q → A0 q)
    (kx : ∀ (E : String) (ce : Cell) (q9 : Addr) (u : SX) (t : State) (H1 : Heap) (locs1 : List Loc), t.heap = H1 → s.vm.Alike t.vm → px u → BX E u t → H.size ≤ H1.size → (∀ q : Nat, q < H.size → ¬ AX q → H1[q]? = H[q]?) → va_S A0 H0 H1 locs1 → H1[q9]? = some ce → ce.vm = .none → s.vm.findClass E = some ce.cls → vx_W p l e R s m args below meth c H1 locs1 (cells + mc) (slots + ms) Q (F0 m pc ls rest) q9)
    (kk : ∀ (u : S) (t : State) (H1 : Heap) (locs1 : List Loc), t.heap = H1 → s.vm.Alike t.vm → post u → B u t → H.size ≤ H1.size → (∀ q : Nat, q < H.size → ¬ A1 q → H1[q]? = H[q]?) → va_S A0 H0 H1 locs1 → W p l e R s m args below meth c H1 locs1 (cells + mc) (slots + ms) Q (F0 m (pc + 3) ls (rest))) : W p l e R s m args below meth c H locs cells slots Q (F0 m pc ls st0) := by
  intro T hT X
  rcases hr T hT X with ⟨v, st₀, t, T', L, h0, X', hL, e1, e2, ⟨⟨u, hv, hp, hb⟩, hF⟩, st⟩ | ⟨q, st₀, t, T', L, E, ce, h0, X', hL, e1, e2, ⟨u, hp, hb, hF⟩, hce, hcv, hcl, st⟩
  · cases hv
    obtain ⟨k1, k2, k3⟩ := vx_keep h0 e1 hS hA hf hL hF
    obtain ⟨t2, a1, b1⟩ := kk u t T'.heap (locs ++ L) e1.symm (by rw [← e2]; exact X'.warmed.alike) hp hb k1 k2 k3 T' rfl X'
    exact ⟨t2, st t2 a1, b1⟩
  · obtain ⟨k1, k2, k3⟩ := vx_keep h0 e1 hS hAX hf hL hF
    obtain ⟨t2, a1, b1⟩ := kx E ce q u t T'.heap (locs ++ L) e1.symm (by rw [← e2]; exact X'.warmed.alike) hp hb k1 k2 k3 (by rw [e1]; exact hce) hcv hcl T' rfl X'
    exact ⟨t2, st.trans a1, b1⟩
/-- caught by the row x of this method's table; the rows ahead don't take it -/
theorem vx_catch {own name : String} {E : String} {ce : Cell} {q : Addr} (hown : s.vm.findClass own = some m.cls) (pre : List ExceptionTableEntry) (x : ExceptionTableEntry) (suf : List ExceptionTableEntry) (hsplit : c.exceptionTable.toList = pre ++ x :: suf)
    (hpass : ∀ z ∈ pre, covers z pc = false ∨ (z.catchType ≠ 0 ∧ ∃ nm : String, (Cond.classLink own z.catchType nm).before args s = true ∧ va_Nc E nm s)) (hx : covers x pc = true) (h0 : x.catchType ≠ 0)
    (hlink : (Cond.classLink own x.catchType name).before args s = true) (hcast : (Cond.castable E name).before args s = true) (hcell : H[q]? = some ce) (hv : ce.vm = .none) (hcl : s.vm.findClass E = some ce.cls)
    (kk : W p l e R s m args below meth c H locs cells slots Q (F0 m x.handlerPc ls [.ref q])) : vx_W p l e R s m args below meth c H locs cells slots Q (F0 m pc ls rest) q := by
  intro T hT X
  have hpl : e.platform.magicAccessors = ({} : Platform).magicAccessors := by rw [X.admits.platform]
  obtain ⟨c3, c4, hc3, hc4, hasg⟩ := Cond.castable_spec hcast
  cases Option.some.inj (hc3.symm.trans hcl)
  obtain ⟨c5, hc5, hcl5⟩ := Cond.classLink_spec hown hlink e.platform hpl
  cases Option.some.inj (hc4.symm.trans hc5)
  obtain ⟨vm', X', st⟩ := X.thenCaughtThrough q (g := F0 m pc ls rest) rfl (Steps.refl _) (by rw [hT]; exact hcell) (by rw [hv]; rfl) (by obtain ⟨k9, h9, -⟩ := Vm.findClass_spec hcl; exact ⟨k9, h9⟩) pre x suf hsplit
    (fun z hz => by
      rcases hpass z hz with h | ⟨hz0, nm, hl1, hn1⟩
      · exact Or.inl h
      · obtain ⟨c6, hc6, hcl6⟩ := Cond.classLink_spec hown hl1 e.platform hpl
        obtain ⟨a8, b8, h1, h2, h3⟩ := hn1
        cases Option.some.inj (h1.symm.trans hcl)
        cases Option.some.inj (h2.symm.trans hc6)
        exact Or.inr ⟨hz0, _, hcl6, h3⟩) hx (Or.inr ⟨h0, c4, hcl5, hasg⟩)
  obtain ⟨t, a1, b1⟩ := kk (T.setVm vm') hT X'
  exact ⟨t, st.trans a1, b1⟩
end Rows
section Ends
variable {p : Program} {l : Launch} {e : Env} {R : Room} {s : State} {m : MethodId} {args : Array Value} {below : List Frame} {meth : Method} {c : Code} {H : Heap} {locs : List Loc} {cells slots : Nat} {Q : State → Prop}
variable {mc ms : Nat} {free : Addr → Prop} {A0 A1 : Nat → Prop} {H0 : Heap} {a : Array Value} {ls : Array Slot} {st0 rest : List Value}
variable {Qc : Array Value → State → Outcome → State → Prop} {XC : String → State → State → Prop}
/-- what a body that may throw owes at its end -/
def vx_MQ (below : List Frame) (Qc : Array Value → State → Outcome → State → Prop) (XC : String → State → State → Prop) (a : Array Value) (s : State) (mc ms : Nat) (free : Addr → Prop) : State → Prop := fun t =>
  ∃ o, t.status = .running ∧ Ended t below o ∧ vx_Q Qc XC mc ms free a s o t
theorem vx_ret {g : JFrame} {mc ms : Nat} (k : W p l e R s m args below meth c H locs cells slots (MQ below Qc args s mc ms free) g) : W p l e R s m args below meth c H locs cells slots (vx_MQ below Qc XC args s mc ms free) g := by
  intro T hT X
  obtain ⟨t, a1, o, b1, b2, b3, b4⟩ := k T hT X
  exact ⟨t, a1, o, b1, b2, Or.inl ⟨b3, b4⟩⟩
/-- not caught here: it goes on to the caller -/
theorem vx_widen {g : JFrame} {q : Addr} {k n : Nat} (h1 : cells ≤ k) (h2 : slots ≤ n) (kk : vx_W p l e R s m args below meth c H locs k n Q g q) : vx_W p l e R s m args below meth c H locs cells slots Q g q := fun T hT X => kk T hT (stand_widen X h1 h2)
theorem vx_out {pc : Nat} {E : String} {ce : Cell} {q : Addr} {mc ms : Nat} (hout : ∀ x ∈ c.exceptionTable.toList, covers x pc = false) (hlocks : meth.locks = false) (hcell : H[q]? = some ce) (hv : ce.vm = .none) (hcl : s.vm.findClass E = some ce.cls)
    (hx : ∀ t : State, t.heap = H → s.vm.Alike t.vm → XC E s t) (hf : ∀ z ∈ locs, free z.base) (hc : cells ≤ mc) (hs : slots ≤ ms) :
    vx_W p l e R s m args below meth c H locs cells slots (vx_MQ below Qc XC args s mc ms free) (F0 m pc ls rest) q := by
  intro T hT X
  obtain ⟨st1, hrun, hend, hW, hsm⟩ := X.leaveThrown q (g := F0 m pc ls rest) rfl rfl rfl hout hlocks
  have hcell9 : (T.setFrames (.throwing q :: below)).heap[q]? = some ce := by
    show T.heap[q]? = some ce
    rw [hT]; exact hcell
  exact ⟨_, st1, .threw q, hrun, hend, Or.inr ⟨q, rfl, E, ce, locs, hx _ hT hW.alike, hcell9, hv, hcl, hW, hsm.mono hc hs, hf⟩⟩
theorem vx_frame {U : State} {k n : Nat} (h : s.sameButNew ({ U with vm := s.vm } : State) locs k n) : s.heap.size ≤ U.heap.size ∧ ∀ q : Nat, q < s.heap.size → (∀ z ∈ locs, z.base ≠ q) → U.heap[q]? = s.heap[q]? := by
  obtain ⟨-, h2, -, -, -, h6⟩ := h
  refine ⟨h2, fun q hq hz => ?_⟩
  obtain ⟨c9, e1, e2, e3, e4⟩ := h6 q _ (Array.getElem?_eq_getElem hq)
  have hs : c9.slots = (s.heap[q]).slots := Array.ext_getElem? fun i => e4 i fun hm => hz _ hm rfl
  have h9 : c9 = s.heap[q] := by
    rw [hs] at e2
    exact e2
  have e5 : U.heap[q]? = some c9 := e1
  rw [e5, h9, Array.getElem?_eq_getElem hq]
/-- the words of a throw but the four that speak of the heap -/
def vx_no (w : Cond) : Bool := decide (w ≠ .isRef (.static Bundle.tN "UNASSIGNED_STACK" Bundle.steD)) && decide (w ≠ .isRef (.static Bundle.tN "SUPPRESSED_SENTINEL" Bundle.listD)) && decide (w ≠ .laysStatic Bundle.tN "UNASSIGNED_STACK" Bundle.steD) && decide (w ≠ .laysStatic Bundle.tN "SUPPRESSED_SENTINEL" Bundle.listD)
def vx_at0 (own : String) (ic : Nat) (X : String) (names : List String) : List Cond := (Bundle.ownAtoms0 own ic X names).filter vx_no
def vx_atS (own : String) (ic : Nat) (X : String) (names : List String) : List Cond := (Bundle.ownAtoms own ic X names).filter vx_no
/-- a word that the tables alone decide, or a good one -/
def vx_ot (w : Cond) : Bool := w.onTables || goodWord w
theorem vx_ot_at {args a' : Array Value} {s U : State} {w : Cond} (hW : s.WarmedH U.vm) (hvm : s.vm = U.vm) (hg : vx_ot w = true) (h : w.before args s = true) : w.before a' U = true := by
  simp only [vx_ot, Bool.or_eq_true] at hg
  rcases hg with hg | hg
  · exact va_tabs hg hvm h
  · exact word_at hW (good_of_word hg) h
/-- a list's words: the good ones out of the method's own list, the others by premises of their own -/
theorem vx_hat {args : Array Value} {s : State} {L B : List Cond} (h1 : ∀ w ∈ L.filter goodWord, w.before args s = true) (h2 : ∀ w ∈ L.filter (fun w => !goodWord w), w ∈ B) (h3 : ∀ w ∈ B, w.before args s = true) : ∀ w ∈ L, w.before args s = true := by
  intro w hw
  by_cases g : goodWord w = true
  · exact h1 w (List.mem_filter.mpr ⟨hw, g⟩)
  · refine h3 w (h2 w (List.mem_filter.mpr ⟨hw, ?_⟩))
    show (!goodWord w) = true
    cases hgw : goodWord w
    · rfl
    · exact absurd hgw g
theorem vx_c {args : Array Value} {s : State} {w : Cond} {B : List Cond} (h : w.before args s = true) (t : ∀ w ∈ B, w.before args s = true) : ∀ w' ∈ w :: B, w'.before args s = true := fun w' h' => (List.mem_cons.mp h').elim (fun e => by rw [e]; exact h) (t w')
theorem vx_n {args : Array Value} {s : State} : ∀ w ∈ ([] : List Cond), w.before args s = true := fun _ h => nomatch h
theorem vx_own {args : Array Value} {s : State} {L : List Cond} (h1 : ∀ w ∈ L.filter vx_no, w.before args s = true)
    (hU : (Cond.isRef (.static Bundle.tN "UNASSIGNED_STACK" Bundle.steD)).before args s = true) (hN : (Cond.isRef (.static Bundle.tN "SUPPRESSED_SENTINEL" Bundle.listD)).before args s = true)
    (lU : (Cond.laysStatic Bundle.tN "UNASSIGNED_STACK" Bundle.steD).before args s = true) (lN : (Cond.laysStatic Bundle.tN "SUPPRESSED_SENTINEL" Bundle.listD).before args s = true) : ∀ w ∈ L, w.before args s = true := by
  intro w hw
  by_cases e1 : w = .isRef (.static Bundle.tN "UNASSIGNED_STACK" Bundle.steD)
  · rw [e1]; exact hU
  · by_cases e2 : w = .isRef (.static Bundle.tN "SUPPRESSED_SENTINEL" Bundle.listD)
    · rw [e2]; exact hN
    · by_cases e3 : w = .laysStatic Bundle.tN "UNASSIGNED_STACK" Bundle.steD
      · rw [e3]; exact lU
      · by_cases e4 : w = .laysStatic Bundle.tN "SUPPRESSED_SENTINEL" Bundle.listD
        · rw [e4]; exact lN
        · exact h1 w (List.mem_filter.mpr ⟨hw, by unfold vx_no; rw [decide_eq_true e1, decide_eq_true e2, decide_eq_true e3, decide_eq_true e4]; rfl⟩)
/-- where a static field lies, its class's statics cell in H -/
def vx_L (C n d : String) (A : Nat → Prop) (U : State) (H : Heap) : Prop := ∃ (c : ClassId) (k : Class) (i : Nat) (f : Field) (a : Nat) (cell : Cell), U.vm.findClass C = some c ∧ U.fieldFound? C n d = some (c, k, i, f) ∧ f.isStatic = true ∧ k.statics = some a ∧ H[a]? = some cell ∧ cell.vm.isStatics = true ∧ cell.cls = c ∧ f.slot < cell.slots.size ∧ k.staticTypes[f.slot]? = some f.type ∧ ¬ A a
theorem vx_L.moved {C n d : String} {A : Nat → Prop} {u U : State} {H : Heap} (hvm : u.vm.Alike U.vm) (h : vx_L C n d A u H) : vx_L C n d A U H := by
  obtain ⟨c, k, i, f, a, cell, h1, h2, h3, h4, h5, h6, h7, h8, h9, h10⟩ := h
  obtain ⟨k', hi', he⟩ := State.fieldFound?_setVm hvm h2
  exact ⟨c, k', i, f, a, cell, by rw [hvm.findClass]; exact h1, hi', h3, by rw [he]; exact h4, h5, h6, h7, h8, by rw [he]; exact h9, h10⟩
theorem vx_L.kept {C n d : String} {A : Nat → Prop} {U : State} {H H1 : Heap} (h : vx_L C n d A U H) (hq : ∀ a : Nat, a < H.size → ¬ A a → H1[a]? = H[a]?) : vx_L C n d A U H1 := by
  obtain ⟨c, k, i, f, a, cell, h1, h2, h3, h4, h5, h6, h7, h8, h9, h10⟩ := h
  exact ⟨c, k, i, f, a, cell, h1, h2, h3, h4, by rw [hq a (Array.getElem?_eq_some_iff.mp h5).1 h10]; exact h5, h6, h7, h8, h9, h10⟩
theorem vx_L.narrow {C n d : String} {A B : Nat → Prop} {U : State} {H : Heap} (h : vx_L C n d A U H) (hAB : ∀ q, B q → A q) : vx_L C n d B U H := by
  obtain ⟨c, k, i, f, a, cell, h1, h2, h3, h4, h5, h6, h7, h8, h9, h10⟩ := h
  exact ⟨c, k, i, f, a, cell, h1, h2, h3, h4, h5, h6, h7, h8, h9, fun z => h10 (hAB _ z)⟩
theorem vx_L.word {C n d : String} {A : Nat → Prop} {s : State} {args : Array Value} (h : vx_L C n d A s s.heap) : (Cond.laysStatic C n d).before args s = true := by
  obtain ⟨c, k, i, f, a, cell, h1, h2, h3, h4, h5, h6, h7, h8, h9, -⟩ := h
  show (Cond.laysStatic C n d).holds args s none s [] = true
  exact Cond.laysStatic_of h1 h2 h3 h4 h5 h6 h7 h8 h9
/-- .. and what it holds: null or some reference -/
def vx_Zq (C n d : String) (A : Nat → Prop) (U : State) (H : Heap) : Prop := va_Zq C n d A U H ∧ vx_L C n d A U H
theorem vx_Zq.moved {C n d : String} {A : Nat → Prop} {u U : State} {H : Heap} (hvm : u.vm.Alike U.vm) (h : vx_Zq C n d A u H) : vx_Zq C n d A U H := ⟨va_Zq.moved hvm h.1, vx_L.moved hvm h.2⟩
theorem vx_Zq.kept {C n d : String} {A : Nat → Prop} {U : State} {H H1 : Heap} (h : vx_Zq C n d A U H) (hq : ∀ a : Nat, a < H.size → ¬ A a → H1[a]? = H[a]?) : vx_Zq C n d A U H1 := ⟨va_Zq.kept h.1 hq, vx_L.kept h.2 hq⟩
theorem vx_Zq.narrow {C n d : String} {A B : Nat → Prop} {U : State} {H : Heap} (h : vx_Zq C n d A U H) (hAB : ∀ q, B q → A q) : vx_Zq C n d B U H := ⟨va_Zq.narrow h.1 hAB, vx_L.narrow h.2 hAB⟩
theorem vx_Zqof {args : Array Value} {s : State} {C n d : String} {A : Nat → Prop} (hl : (Cond.laysStatic C n d).before args s = true) (hini : (Cond.initialized C).before args s = true) (h : (Cond.isRef (.static C n d)).before args s = true) (hA : ∀ a : Nat, a < s.heap.size → ¬ A a) : vx_Zq C n d A s s.heap := by
  refine ⟨va_Zqof hl hini h hA, ?_⟩
  obtain ⟨c, k, i, f, a, cell, h1, h2, h3, h4, h5, h6, h7, h8, h9⟩ := Cond.laysStatic_spec hl
  exact ⟨c, k, i, f, a, cell, h1, h2, h3, h4, h5, h6, h7, h8, h9, hA a (Array.getElem?_eq_some_iff.mp h5).1⟩
theorem vx_isRef {C n d : String} {v : Value} {A : Nat → Prop} {s : State} {args : Array Value} (h : va_Z C n d v A s s.heap) (hv : v.isRef = true) : (Cond.isRef (.static C n d)).before args s = true := by
  obtain ⟨cf, kf, fi, f, a, cell, h1, h2, h3, h4, h5, h6, h7, -⟩ := h
  have he : (Term.static C n d).eval args s none [] s = some v := by
    simp [Term.eval, State.fieldNamed?, h1, h2, h4, h5, h6, h7]
  simp only [Cond.before, Cond.holds, Cond.value, he]
  cases v <;> simp_all [Value.isRef]
theorem vx_isRefq {C n d : String} {A : Nat → Prop} {s : State} {args : Array Value} (h : va_Zq C n d A s s.heap) : (Cond.isRef (.static C n d)).before args s = true := by
  rcases h with h | ⟨t, h⟩
  · exact vx_isRef h rfl
  · exact vx_isRef h rfl
/-- the same frame, seen from here: as if the method were called anew in this heap -/
theorem vx_rebase {T : State} (X : Stand p l e R s m args below meth c T locs cells slots) {R' : Room} (hf : R'.frames ≤ R.frames) (hl : R'.locals ≤ R.locals) (hc : cells + R'.cells ≤ R.cells) (hs : slots + R'.slots ≤ R.slots) :
    Stand p l e R' ((T.setVm s.vm).setFrames (.invoking m args :: below)) m args below meth c T [] 0 0 := by
  have htop : (T.setVm s.vm).topJava?.isSome := X.here.top
  have hF : ((T.setVm s.vm).setFrames (.invoking m args :: below)).frames = .invoking m args :: below := State.frames_setFrames _ (State.cur_lt_of_top htop)
  obtain ⟨g₀, hg0⟩ := Option.isSome_iff_exists.mp htop
  obtain ⟨r, hr⟩ := State.topJava?_eq_some.mp hg0
  have hl9 : e.platform.stackLimits (T.setVm s.vm).me = e.platform.stackLimits s.me := X.limits
  have hb9 : (T.setVm s.vm).me.stackBytes = s.me.stackBytes := X.bytes
  refine ⟨X.admits, X.cas, X.clock, hF, ?_, X.hears, X.method, X.code, X.here, X.tail, X.warmed, ?_, ?_, ?_⟩
  · have h := X.room
    have hU : ((T.setVm s.vm).setFrames (.invoking m args :: below)).localsInUse = s.localsInUse := by
      rw [State.localsInUse_invoking hF (meth := meth) (c := c) X.method X.code, State.localsInUse_invoking X.frames X.method X.code]
    simp only [State.hasRoom, Bool.and_eq_true, decide_eq_true_eq] at h ⊢
    obtain ⟨⟨⟨⟨h1, h2, h3, h4, h5, h6⟩, h7⟩, h8⟩, h9⟩ := h
    rw [X.frames, List.length_cons] at h2 h3
    have q1 := X.heapSize
    have q2 := X.used
    simp only [hF, hU, List.length_cons, State.stackLimits_setFrames, State.stackBytes_setFrames, hl9, hb9]
    refine ⟨⟨⟨⟨by omega, by omega, by omega, by omega, by omega, h6⟩, ?_⟩, ?_⟩, X.book⟩
    · show T.heap.size + R'.cells ≤ e.platform.maxCells
      omega
    · show T.slotsUsed + R'.slots ≤ e.platform.maxSlots
      omega
  · rw [State.stackLimits_setFrames]; rfl
  · rw [State.stackBytes_setFrames]; rfl
  · refine ⟨?_, Nat.le_refl _, Nat.le_refl _, ?_, ?_, fun a c9 h9 => ⟨c9, h9, rfl, rfl, fun _ _ => rfl⟩⟩
    · obtain ⟨t, ht, -⟩ := State.frames_cons hr
      show T.setVm s.vm = { ((T.setVm s.vm).setFrames (.invoking m args :: below)).setFrames (T.setVm s.vm).frames with heap := T.heap, slotsUsed := T.slotsUsed }
      rw [State.setFrames_setFrames, State.setFrames_self ht]
      rfl
    · show T.slotsUsed = T.slotsUsed + ((T.heap.toList.drop T.heap.size).map (·.slots.size)).sum
      rw [List.drop_eq_nil_of_le (Nat.le_of_eq Array.length_toList)]
      rfl
    · show ((T.heap.toList.drop T.heap.size).map (·.slots.size)).sum ≤ 0
      rw [List.drop_eq_nil_of_le (Nat.le_of_eq Array.length_toList)]
      exact Nat.le_refl _
/-- 'throw new E()': new; dup; invokespecial; athrow -/
theorem vx_throw0 {cc : ByteArray} {pc : Nat} (hexec : p.tables.exec = Jvm.exec) (hb : c.code = cc) (hl : l.stackTraces = false) {own cls : String} {names : List String} {ik ic mc ms : Nat} {A : Nat → Prop}
    (hown : s.vm.findClass own = some m.cls) (hcls : Bundle.fit cls = true) (hnames : ∀ n ∈ names, Bundle.fit n = true)
    (hk : (Cond.classLink own ik cls).before args s = true) (hini : (Cond.initialized cls).before args s = true) (hat : ∀ w ∈ vx_at0 own ic cls names, w.before args s = true)
    (hgood : ∀ w ∈ Cond.classLink own ik cls :: Cond.initialized cls :: vx_at0 own ic cls names, vx_ot w = true)
    (hU : vx_Zq Bundle.tN "UNASSIGNED_STACK" Bundle.steD A s s.heap) (hN : vx_Zq Bundle.tN "SUPPRESSED_SENTINEL" Bundle.listD A s s.heap) (hS : va_S A s.heap H locs) (hsize : ls.size = c.maxLocals)
    (d0 : decode cc pc = .ok (.new ik, 3)) (d3 : decode cc (pc + 3) = .ok (.dup, 1)) (d4 : decode cc (pc + 4) = .ok (.invokespecial ic, 3)) (d7 : decode cc (pc + 7) = .ok (.athrow, 1))
    (hout : ∀ x ∈ c.exceptionTable.toList, covers x (pc + 7) = false)
    (hRframes : names.length + 3 < R.frames) (hRlocals : (rest.map fun v => v.category).sum + (13 * (names.length + 1) + 42) ≤ R.locals) (hRcells : cells + 1 ≤ R.cells) (hRslots : slots + 6 ≤ R.slots) (hlocks : meth.locks = false)
    (hx : ∀ t : State, s.vm.Alike t.vm → H.size ≤ t.heap.size → (∀ q : Nat, q < H.size → t.heap[q]? = H[q]?) → XC cls s t)
    (hf : ∀ z ∈ locs, free z.base) (hc : cells + 1 ≤ mc) (hs : slots + 6 ≤ ms) :
    W p l e R s m args below meth c H locs cells slots (vx_MQ below Qc XC args s mc ms free) (F0 m pc ls rest) := by
  intro T hT X
  have htr : e.platform.stackTraces = false := (show e.platform.stackTraces = l.stackTraces by rw [X.admits.platform]).trans hl
  have Y := vx_rebase X (R' := { frames := R.frames, locals := R.locals, cells := 1, slots := 6 }) (Nat.le_refl _) (Nat.le_refl _) hRcells hRslots
  obtain ⟨s', hA⟩ : ∃ z, z = (T.setVm s.vm).setFrames (.invoking m args :: below) := ⟨_, rfl⟩
  rw [← hA] at Y
  have hvm : s'.vm = s.vm := by rw [hA]; rfl
  have hhp : s'.heap = H := by rw [hA]; exact hT
  have hW0 : s.WarmedH s'.vm := by rw [hvm]; exact State.WarmedH.refl s
  have hat' : ∀ w ∈ vx_at0 own ic cls names, w.before args s' = true := fun w hw => vx_ot_at hW0 hvm.symm (hgood w (List.mem_cons_of_mem _ (List.mem_cons_of_mem _ hw))) (hat w hw)
  have hk' : (Cond.classLink own ik cls).before args s' = true := vx_ot_at hW0 hvm.symm (hgood _ List.mem_cons_self) hk
  have hini' : (Cond.initialized cls).before args s' = true := vx_ot_at hW0 hvm.symm (hgood _ (List.mem_cons_of_mem _ List.mem_cons_self)) hini
  have hU' : vx_Zq Bundle.tN "UNASSIGNED_STACK" Bundle.steD A s' s'.heap := by rw [hhp]; exact vx_Zq.moved hW0.alike (hU.kept hS.2.1)
  have hN' : vx_Zq Bundle.tN "SUPPRESSED_SENTINEL" Bundle.listD A s' s'.heap := by rw [hhp]; exact vx_Zq.moved hW0.alike (hN.kept hS.2.1)
  have h : ∀ w ∈ Bundle.ownAtoms0 own ic cls names, w.before args s' = true := vx_own hat' (vx_isRefq hU'.1) (vx_isRefq hN'.1) hU'.2.word hN'.2.word
  have hown' : s'.vm.findClass own = some m.cls := by rw [hvm]; exact hown
  have hins : (Cond.instantiable cls 6).before args s' = true := h _ (by simp [Bundle.ownAtoms0])
  obtain ⟨vm₁, cX, kX, hfX, hkX, -, -, X₁, st1⟩ := Y.newCold hexec (own := own) (C := cls) (index := ik) (n := 6) hown' hk' hins hini'
    (g := F0 m pc ls rest) rfl (by rw [hb]; exact d0) (Nat.le_refl _) (Nat.le_refl _)
  generalize hT1 : (T.setVm vm₁).pushCell { cls := cX, slots := kX.instanceTypes.map defaultValue, vm := .none } = T1 at X₁ st1
  have hcat : (Value.ref T.heap.size).category = 1 := rfl
  have hcellA : T1.heap[T.heap.size]? = some (freshCell cX kX) := by rw [← hT1]; exact State.heap_pushCell_size _ _
  have d3' : decode c.code (pc + 3) = .ok (.dup, 1) := by rw [hb]; exact d3
  obtain ⟨U, hsteps, hrun, hend, hW, hsame, ce, hce, hO⟩ := X₁.ctorThrow0 hexec htr (own := own) (cls := cls) (names := names) (ic := ic) hown' hcls hnames h (fun x hx => nomatch hx) hfX hkX hcellA (by rw [hhp, hT]; exact Nat.le_refl _)
    (g := { method := m, pc := pc + 4, locals := ls, stack := .ref T.heap.size :: .ref T.heap.size :: rest, locked := none }) rfl hsize rfl rfl (rest := rest) rfl
    (by rw [hb]; exact d4) (by rw [hb]; exact d7) hout hRframes (by simp only [List.map_cons, List.sum_cons, hcat]; omega) hlocks
  obtain ⟨f1, f2⟩ := vx_frame hsame
  rw [hhp] at f1 f2
  have hWs : s.WarmedH U.vm := State.WarmedH.trans hW0 hW
  have hcl : s.vm.findClass cls = some ce.cls := by
    have h9 := hO.cls
    rw [hvm] at h9
    exact h9
  have hall : s.sameButNew ({ U with vm := s.vm } : State) locs mc ms := by
    subst hA
    obtain ⟨e1, e2⟩ := hsame
    rw [State.setFrames_setFrames] at e1
    have h2 : (T.setVm s.vm).sameButNew ({ U with vm := s.vm } : State) [] (0 + 1) (0 + 6) := ⟨e1, e2⟩
    have h3 := X.same.trans h2
    rw [List.append_nil] at h3
    exact h3.mono hc hs
  refine ⟨U, ?_, .threw T.heap.size, hrun, hend, Or.inr ⟨T.heap.size, rfl, cls, ce, locs, hx U hWs.alike f1 (fun q hq => f2 q hq (fun z hz => nomatch hz)), hce, hO.vm, hcl, hWs, hall, hf⟩⟩
  refine st1 _ ?_
  show Steps p.tables e below (T1.setTop { method := m, pc := pc + 3, locals := ls, stack := .ref T.heap.size :: rest, locked := none }) _
  jvm_step X₁.here [X₁.here.top, hexec, d3', Value.category]
  exact hsteps
/-- 'throw new E("text")': new; dup; ldc; invokespecial; athrow -/
theorem vx_throwS {cc : ByteArray} {pc : Nat} (hexec : p.tables.exec = Jvm.exec) (hb : c.code = cc) (hl : l.stackTraces = false) {own cls text : String} {names : List String} {ik is ic mc ms sa : Nat} {A : Nat → Prop}
    (hown : s.vm.findClass own = some m.cls) (hcls : Bundle.fit cls = true) (hnames : ∀ n ∈ names, Bundle.fit n = true)
    (hk : (Cond.classLink own ik cls).before args s = true) (hini : (Cond.initialized cls).before args s = true) (hstr : vk_R own is text sa s) (hat : ∀ w ∈ vx_atS own ic cls names, w.before args s = true)
    (hgood : ∀ w ∈ Cond.classLink own ik cls :: Cond.initialized cls :: vx_atS own ic cls names, vx_ot w = true)
    (hU : vx_Zq Bundle.tN "UNASSIGNED_STACK" Bundle.steD A s s.heap) (hN : vx_Zq Bundle.tN "SUPPRESSED_SENTINEL" Bundle.listD A s s.heap) (hS : va_S A s.heap H locs) (hsize : ls.size = c.maxLocals)
    (d0 : decode cc pc = .ok (.new ik, 3)) (d3 : decode cc (pc + 3) = .ok (.dup, 1)) (d4 : decode cc (pc + 4) = .ok (.ldc is, 2)) (d6 : decode cc (pc + 6) = .ok (.invokespecial ic, 3)) (d9 : decode cc (pc + 9) = .ok (.athrow, 1))
    (hout : ∀ x ∈ c.exceptionTable.toList, covers x (pc + 9) = false)
    (hRframes : names.length + 3 < R.frames) (hRlocals : (rest.map fun v => v.category).sum + (13 * (names.length + 1) + 43) ≤ R.locals) (hRcells : cells + 1 ≤ R.cells) (hRslots : slots + 6 ≤ R.slots) (hlocks : meth.locks = false)
    (hx : ∀ t : State, s.vm.Alike t.vm → H.size ≤ t.heap.size → (∀ q : Nat, q < H.size → t.heap[q]? = H[q]?) → XC cls s t)
    (hf : ∀ z ∈ locs, free z.base) (hc : cells + 1 ≤ mc) (hs : slots + 6 ≤ ms) :
    W p l e R s m args below meth c H locs cells slots (vx_MQ below Qc XC args s mc ms free) (F0 m pc ls rest) := by
  intro T hT X
  have htr : e.platform.stackTraces = false := (show e.platform.stackTraces = l.stackTraces by rw [X.admits.platform]).trans hl
  have Y := vx_rebase X (R' := { frames := R.frames, locals := R.locals, cells := 1, slots := 6 }) (Nat.le_refl _) (Nat.le_refl _) hRcells hRslots
  obtain ⟨s', hA⟩ : ∃ z, z = (T.setVm s.vm).setFrames (.invoking m args :: below) := ⟨_, rfl⟩
  rw [← hA] at Y
  have hvm : s'.vm = s.vm := by rw [hA]; rfl
  have hhp : s'.heap = H := by rw [hA]; exact hT
  have hW0 : s.WarmedH s'.vm := by rw [hvm]; exact State.WarmedH.refl s
  have hat' : ∀ w ∈ vx_atS own ic cls names, w.before args s' = true := fun w hw => vx_ot_at hW0 hvm.symm (hgood w (List.mem_cons_of_mem _ (List.mem_cons_of_mem _ hw))) (hat w hw)
  have hk' : (Cond.classLink own ik cls).before args s' = true := vx_ot_at hW0 hvm.symm (hgood _ List.mem_cons_self) hk
  have hini' : (Cond.initialized cls).before args s' = true := vx_ot_at hW0 hvm.symm (hgood _ (List.mem_cons_of_mem _ List.mem_cons_self)) hini
  have hU' : vx_Zq Bundle.tN "UNASSIGNED_STACK" Bundle.steD A s' s'.heap := by rw [hhp]; exact vx_Zq.moved hW0.alike (hU.kept hS.2.1)
  have hN' : vx_Zq Bundle.tN "SUPPRESSED_SENTINEL" Bundle.listD A s' s'.heap := by rw [hhp]; exact vx_Zq.moved hW0.alike (hN.kept hS.2.1)
  have h : ∀ w ∈ Bundle.ownAtoms own ic cls names, w.before args s' = true := vx_own hat' (vx_isRefq hU'.1) (vx_isRefq hN'.1) hU'.2.word hN'.2.word
  have hown' : s'.vm.findClass own = some m.cls := by rw [hvm]; exact hown
  have hins : (Cond.instantiable cls 6).before args s' = true := h _ (by simp [Bundle.ownAtoms])
  obtain ⟨vm₁, cX, kX, hfX, hkX, -, -, X₁, st1⟩ := Y.newCold hexec (own := own) (C := cls) (index := ik) (n := 6) hown' hk' hins hini'
    (g := F0 m pc ls rest) rfl (by rw [hb]; exact d0) (Nat.le_refl _) (Nat.le_refl _)
  generalize hT1 : (T.setVm vm₁).pushCell { cls := cX, slots := kX.instanceTypes.map defaultValue, vm := .none } = T1 at X₁ st1
  have hcat : (Value.ref T.heap.size).category = 1 := rfl
  have hcellA : T1.heap[T.heap.size]? = some (freshCell cX kX) := by rw [← hT1]; exact State.heap_pushCell_size _ _
  have d3' : decode c.code (pc + 3) = .ok (.dup, 1) := by rw [hb]; exact d3
  have d4' : decode c.code (pc + 4) = .ok (.ldc is, 2) := by rw [hb]; exact d4
  have hstr' : vk_R own is text sa s' := vk_R.warm hW0 hstr
  obtain ⟨U, hsteps, hrun, hend, hW, hsame, ce, hce, hO⟩ := X₁.ctorThrowS hexec htr (own := own) (cls := cls) (names := names) (ic := ic) hown' hcls hnames h (fun x hx => nomatch hx) hfX hkX hcellA (by rw [hhp, hT]; exact Nat.le_refl _) (msg := .ref sa) rfl
    (g := { method := m, pc := pc + 6, locals := ls, stack := .ref sa :: .ref T.heap.size :: .ref T.heap.size :: rest, locked := none }) rfl hsize rfl rfl (rest := rest) rfl
    (by rw [hb]; exact d6) (by rw [hb]; exact d9) hout hRframes (by simp only [List.map_cons, List.sum_cons, hcat]; omega) hlocks
  obtain ⟨f1, f2⟩ := vx_frame hsame
  rw [hhp] at f1 f2
  have hWs : s.WarmedH U.vm := State.WarmedH.trans hW0 hW
  have hcl : s.vm.findClass cls = some ce.cls := by
    have h9 := hO.cls
    rw [hvm] at h9
    exact h9
  have hall : s.sameButNew ({ U with vm := s.vm } : State) locs mc ms := by
    subst hA
    obtain ⟨e1, e2⟩ := hsame
    rw [State.setFrames_setFrames] at e1
    have h2 : (T.setVm s.vm).sameButNew ({ U with vm := s.vm } : State) [] (0 + 1) (0 + 6) := ⟨e1, e2⟩
    have h3 := X.same.trans h2
    rw [List.append_nil] at h3
    exact h3.mono hc hs
  refine ⟨U, ?_, .threw T.heap.size, hrun, hend, Or.inr ⟨T.heap.size, rfl, cls, ce, locs, hx U hWs.alike f1 (fun q hq => f2 q hq (fun z hz => nomatch hz)), hce, hO.vm, hcl, hWs, hall, hf⟩⟩
  refine st1 _ ?_
  show Steps p.tables e below (T1.setTop { method := m, pc := pc + 3, locals := ls, stack := .ref T.heap.size :: rest, locked := none }) _
  jvm_step X₁.here [X₁.here.top, hexec, d3', Value.category]
  exact X₁.ldcString hexec (own := own) (text := text) (index := is) (a := sa) hown' hstr'.1 hstr'.2
    (g := { method := m, pc := pc + 4, locals := ls, stack := .ref T.heap.size :: .ref T.heap.size :: rest, locked := none }) rfl d4' _ hsteps
/-- 'throw new E("text")', the text by a wide index -/
theorem vx_throwSW {cc : ByteArray} {pc : Nat} (hexec : p.tables.exec = Jvm.exec) (hb : c.code = cc) (hl : l.stackTraces = false) {own cls text : String} {names : List String} {ik is ic mc ms sa : Nat} {A : Nat → Prop}
    (hown : s.vm.findClass own = some m.cls) (hcls : Bundle.fit cls = true) (hnames : ∀ n ∈ names, Bundle.fit n = true)
    (hk : (Cond.classLink own ik cls).before args s = true) (hini : (Cond.initialized cls).before args s = true) (hstr : vk_R own is text sa s) (hat : ∀ w ∈ vx_atS own ic cls names, w.before args s = true)
    (hgood : ∀ w ∈ Cond.classLink own ik cls :: Cond.initialized cls :: vx_atS own ic cls names, vx_ot w = true)
    (hU : vx_Zq Bundle.tN "UNASSIGNED_STACK" Bundle.steD A s s.heap) (hN : vx_Zq Bundle.tN "SUPPRESSED_SENTINEL" Bundle.listD A s s.heap) (hS : va_S A s.heap H locs) (hsize : ls.size = c.maxLocals)
    (d0 : decode cc pc = .ok (.new ik, 3)) (d3 : decode cc (pc + 3) = .ok (.dup, 1)) (d4 : decode cc (pc + 4) = .ok (.ldc_w is, 3)) (d7 : decode cc (pc + 7) = .ok (.invokespecial ic, 3)) (d10 : decode cc (pc + 10) = .ok (.athrow, 1))
    (hout : ∀ x ∈ c.exceptionTable.toList, covers x (pc + 10) = false)
    (hRframes : names.length + 3 < R.frames) (hRlocals : (rest.map fun v => v.category).sum + (13 * (names.length + 1) + 43) ≤ R.locals) (hRcells : cells + 1 ≤ R.cells) (hRslots : slots + 6 ≤ R.slots) (hlocks : meth.locks = false)
    (hx : ∀ t : State, s.vm.Alike t.vm → H.size ≤ t.heap.size → (∀ q : Nat, q < H.size → t.heap[q]? = H[q]?) → XC cls s t)
    (hf : ∀ z ∈ locs, free z.base) (hc : cells + 1 ≤ mc) (hs : slots + 6 ≤ ms) :
    W p l e R s m args below meth c H locs cells slots (vx_MQ below Qc XC args s mc ms free) (F0 m pc ls rest) := by
  intro T hT X
  have htr : e.platform.stackTraces = false := (show e.platform.stackTraces = l.stackTraces by rw [X.admits.platform]).trans hl
  have Y := vx_rebase X (R' := { frames := R.frames, locals := R.locals, cells := 1, slots := 6 }) (Nat.le_refl _) (Nat.le_refl _) hRcells hRslots
  obtain ⟨s', hA⟩ : ∃ z, z = (T.setVm s.vm).setFrames (.invoking m args :: below) := ⟨_, rfl⟩
  rw [← hA] at Y
  have hvm : s'.vm = s.vm := by rw [hA]; rfl
  have hhp : s'.heap = H := by rw [hA]; exact hT
  have hW0 : s.WarmedH s'.vm := by rw [hvm]; exact State.WarmedH.refl s
  have hat' : ∀ w ∈ vx_atS own ic cls names, w.before args s' = true := fun w hw => vx_ot_at hW0 hvm.symm (hgood w (List.mem_cons_of_mem _ (List.mem_cons_of_mem _ hw))) (hat w hw)
  have hk' : (Cond.classLink own ik cls).before args s' = true := vx_ot_at hW0 hvm.symm (hgood _ List.mem_cons_self) hk
  have hini' : (Cond.initialized cls).before args s' = true := vx_ot_at hW0 hvm.symm (hgood _ (List.mem_cons_of_mem _ List.mem_cons_self)) hini
  have hU' : vx_Zq Bundle.tN "UNASSIGNED_STACK" Bundle.steD A s' s'.heap := by rw [hhp]; exact vx_Zq.moved hW0.alike (hU.kept hS.2.1)
  have hN' : vx_Zq Bundle.tN "SUPPRESSED_SENTINEL" Bundle.listD A s' s'.heap := by rw [hhp]; exact vx_Zq.moved hW0.alike (hN.kept hS.2.1)
  have h : ∀ w ∈ Bundle.ownAtoms own ic cls names, w.before args s' = true := vx_own hat' (vx_isRefq hU'.1) (vx_isRefq hN'.1) hU'.2.word hN'.2.word
  have hown' : s'.vm.findClass own = some m.cls := by rw [hvm]; exact hown
  have hins : (Cond.instantiable cls 6).before args s' = true := h _ (by simp [Bundle.ownAtoms])
  obtain ⟨vm₁, cX, kX, hfX, hkX, -, -, X₁, st1⟩ := Y.newCold hexec (own := own) (C := cls) (index := ik) (n := 6) hown' hk' hins hini'
    (g := F0 m pc ls rest) rfl (by rw [hb]; exact d0) (Nat.le_refl _) (Nat.le_refl _)
  generalize hT1 : (T.setVm vm₁).pushCell { cls := cX, slots := kX.instanceTypes.map defaultValue, vm := .none } = T1 at X₁ st1
  have hcat : (Value.ref T.heap.size).category = 1 := rfl
  have hcellA : T1.heap[T.heap.size]? = some (freshCell cX kX) := by rw [← hT1]; exact State.heap_pushCell_size _ _
  have d3' : decode c.code (pc + 3) = .ok (.dup, 1) := by rw [hb]; exact d3
  have d4' : decode c.code (pc + 4) = .ok (.ldc_w is, 3) := by rw [hb]; exact d4
  have hstr' : vk_R own is text sa s' := vk_R.warm hW0 hstr
  obtain ⟨U, hsteps, hrun, hend, hW, hsame, ce, hce, hO⟩ := X₁.ctorThrowS hexec htr (own := own) (cls := cls) (names := names) (ic := ic) hown' hcls hnames h (fun x hx => nomatch hx) hfX hkX hcellA (by rw [hhp, hT]; exact Nat.le_refl _) (msg := .ref sa) rfl
    (g := { method := m, pc := pc + 7, locals := ls, stack := .ref sa :: .ref T.heap.size :: .ref T.heap.size :: rest, locked := none }) rfl hsize rfl rfl (rest := rest) rfl
    (by rw [hb]; exact d7) (by rw [hb]; exact d10) hout hRframes (by simp only [List.map_cons, List.sum_cons, hcat]; omega) hlocks
  obtain ⟨f1, f2⟩ := vx_frame hsame
  rw [hhp] at f1 f2
  have hWs : s.WarmedH U.vm := State.WarmedH.trans hW0 hW
  have hcl : s.vm.findClass cls = some ce.cls := by
    have h9 := hO.cls
    rw [hvm] at h9
    exact h9
  have hall : s.sameButNew ({ U with vm := s.vm } : State) locs mc ms := by
    subst hA
    obtain ⟨e1, e2⟩ := hsame
    rw [State.setFrames_setFrames] at e1
    have h2 : (T.setVm s.vm).sameButNew ({ U with vm := s.vm } : State) [] (0 + 1) (0 + 6) := ⟨e1, e2⟩
    have h3 := X.same.trans h2
    rw [List.append_nil] at h3
    exact h3.mono hc hs
  refine ⟨U, ?_, .threw T.heap.size, hrun, hend, Or.inr ⟨T.heap.size, rfl, cls, ce, locs, hx U hWs.alike f1 (fun q hq => f2 q hq (fun z hz => nomatch hz)), hce, hO.vm, hcl, hWs, hall, hf⟩⟩
  refine st1 _ ?_
  show Steps p.tables e below (T1.setTop { method := m, pc := pc + 3, locals := ls, stack := .ref T.heap.size :: rest, locked := none }) _
  jvm_step X₁.here [X₁.here.top, hexec, d3', Value.category]
  exact X₁.ldcStringW hexec (own := own) (text := text) (index := is) (a := sa) hown' hstr'.1 hstr'.2
    (g := { method := m, pc := pc + 4, locals := ls, stack := .ref T.heap.size :: .ref T.heap.size :: rest, locked := none }) rfl d4' _ hsteps
end Ends
section Bodies
variable {l : Launch}
theorem vx_ofW {y : MethodName} {ws ws' : List Cond} {rm : Room} {Pc : Array Value → State → Prop} {Qc : Array Value → State → Outcome → State → Prop} {XC : String → State → State → Prop} {mc ms : Nat} {free : Addr → Prop} {cc : ByteArray} {maxL : Nat} {ret : Option FieldType}
    (hy : plainName y.cls = true) (hw : ws = Cond.code y cc maxL ret :: ws')
    (body : ∀ p e s m args below meth c s₁, BodyLoose p l y (headSpec ws rm) cc maxL ret e s m args below meth c s₁ → c.maxLocals = maxL → (∀ x ∈ c.exceptionTable.toList, False) → Pc args s →
      W p l e (headSpec ws rm).room s m args below meth c s.heap [] 0 0 (vx_MQ below Qc XC args s mc ms free) (entryFrame m args maxL)) : vx_Met l y ws rm Pc Qc XC mc ms free := by
  refine MetFree.of_bodyS (code := cc) (maxLocals := maxL) (ret := ret) hy ?_ ?_
  · intro args s m h hn
    obtain ⟨meth, c, h1, h2, h3, h4, h5, h6, -, -⟩ := Cond.code_spec hn (atoms_spec (ws := ws) h _ (by rw [hw]; exact List.mem_cons_self))
    exact ⟨meth, c, h1, h2, h3, h4, h5, h6⟩
  · intro p e s m args below meth c s₁ B hml hP _
    have hh0 : s₁.heap = s.heap := by rw [B.state]; rfl
    have ht : ∀ x ∈ c.exceptionTable.toList, False := by
      obtain ⟨meth9, c9, h1, h2, -, -, -, -, h7, -⟩ := Cond.code_spec B.named (atoms_spec (ws := ws) B.pre _ (by rw [hw]; exact List.mem_cons_self))
      cases Option.some.inj (h1.symm.trans B.method)
      cases Option.some.inj (h2.symm.trans (Stand.of_body B).code)
      intro x hx
      rw [Array.isEmpty_iff.mp h7] at hx
      cases hx
    obtain ⟨t, a1, o, b1, b2, b3⟩ := body p e s m args below meth c s₁ B hml ht hP s₁ hh0 (Stand.of_body B)
    exact ⟨t, o, a1, b1, b2, b3⟩
/-- the table of a body with handlers -/
theorem vx_table {p : Program} {x y : MethodName} {S : Spec} {cc bytes : ByteArray} {maxL maxL' : Nat} {ret ret' : Option FieldType} {e : Env} {s s₁ : State} {m : MethodId} {args : Array Value} {below : List Frame} {meth : Method} {c : Code} {hh : List (Nat × Nat × Nat × Nat)}
    (B : BodyLoose p l y S cc maxL ret e s m args below meth c s₁) (h : (Cond.codeWith y bytes maxL' ret' hh).before args s = true) : c.exceptionTable.toList = tableOf hh := by
  obtain ⟨m9, meth9, c9, hn9, h1, h2, -, -, h6, -⟩ := Cond.codeWith_spec h
  cases Option.some.inj (hn9.symm.trans B.named)
  cases Option.some.inj (h1.symm.trans B.method)
  cases Option.some.inj (h2.symm.trans (Stand.of_body B).code)
  rw [← h6, table_eq]
end Bodies
end VXA
/-! ===== END ===== -/
/-! ===== BEGIN a static call of a method with an exception table ===== -/
section VXS
variable {p : Program} {l : Launch} {e : Env} {R : Room} {s : State} {m : MethodId} {args : Array Value} {below : List Frame} {meth : Method} {c : Code} {T : State} {H : Heap} {locs : List Loc} {cells slots : Nat}
abbrev vx_CSW (R : Room) (s : State) (args : Array Value) (own : String) (index : Nat) (y : MethodName) (bytes : ByteArray) (maxL : Nat) (ret : Option FieldType) (hh : List (Nat × Nat × Nat × Nat)) (ws : List Cond) (rm : Room) (mc ms n : Nat) : Prop :=
  (rm.cells = mc ∧ rm.slots = ms ∧ rm.frames + 1 ≤ R.frames ∧ 8 + (maxL + 11) + rm.locals ≤ R.locals ∧ (∀ w ∈ ws, ∀ (a' : Array Value) (U : State), s.WarmedH U.vm → w.before a' U = true) ∧ Cond.codeWith y bytes maxL ret hh ∈ ws) ∧
  (Cond.codeWith y bytes maxL ret hh).before args s = true ∧ (Cond.initialized y.cls).before args s = true ∧ (y.cls ≠ "java/lang/invoke/MethodHandle" ∧ y.cls ≠ "java/lang/invoke/VarHandle") ∧
  (∀ sig, parseMethodDescriptor y.desc = some sig → n = sig.parameters.length) ∧ (Cond.methodLink own index y).before args s = true ∧ (Cond.static y).before args s = true
theorem vx_cwSW {own : String} {index maxL mc ms : Nat} {y : MethodName} {bytes : ByteArray} {ret : Option FieldType} {hh : List (Nat × Nat × Nat × Nat)} {Ts ws ws' : List Cond} {rm : Room} (n : Nat) (ht : ∀ w ∈ Ts, w.before args s = true) (hT : GoodIn Ts (va_wsS own index y ws)) (hw : ws = Cond.codeWith y bytes maxL ret hh :: ws') (hrc : rm.cells = mc) (hrs : rm.slots = ms)
    (hd : y.cls ≠ "java/lang/invoke/MethodHandle" ∧ y.cls ≠ "java/lang/invoke/VarHandle" ∧ (parseMethodDescriptor y.desc).map (fun d => d.parameters.length) = some n) (hR : rm.frames + 1 ≤ R.frames ∧ 8 + (maxL + 11) + rm.locals ≤ R.locals) :
    vx_CSW R s args own index y bytes maxL ret hh ws rm mc ms n := by
  have ok : ∀ w ∈ va_wsS own index y ws, w.before args s = true := fun w h => ht w (hT w h).1
  have hG : GoodIn Ts ws := fun w h => hT w (by unfold va_wsS; exact List.mem_append_right _ h)
  have hc : Cond.codeWith y bytes maxL ret hh ∈ ws := by rw [hw]; exact List.mem_cons_self
  refine ⟨⟨hrc, hrs, hR.1, hR.2, pay_in ht hG, hc⟩, ht _ (hG _ hc).1, ok _ (by simp [va_wsS]), ⟨hd.1, hd.2.1⟩, fun sig h => ?_, ok _ (by simp [va_wsS]), ok _ (by simp [va_wsS])⟩
  have h2 := hd.2.2
  rw [h] at h2
  exact (Option.some.inj h2).symm
theorem vx_callSW (X : Stand p l e R s m args below meth c T locs cells slots) (hexec : p.tables.exec = Jvm.exec) {own : String} {index : Nat} {y : MethodName} {bytes : ByteArray} {maxL : Nat} {ret : Option FieldType} {hh : List (Nat × Nat × Nat × Nat)}
    (hown : s.vm.findClass own = some m.cls) (hlink : (Cond.methodLink own index y).before args s = true) (hstat : (Cond.static y).before args s = true) (hinit : (Cond.initialized y.cls).before args s = true)
    (hcode : (Cond.codeWith y bytes maxL ret hh).before args s = true) (hy : y.cls ≠ "java/lang/invoke/MethodHandle" ∧ y.cls ≠ "java/lang/invoke/VarHandle")
    {W9 : Nat} {Pre : Pt → Array Value → Prop} {Post : Pt → Array Value → Option Value → Pt → Prop} (hK : Back l R p e below s args y 3 W9 Pre Post)
    {g : JFrame} (hg : g.method = m) (hsize : g.locals.size = c.maxLocals) {argsL rest : List Value} (hlen : ∀ sig, parseMethodDescriptor y.desc = some sig → argsL.length = sig.parameters.length)
    (hstack : g.stack = argsL.reverse ++ rest) (hW : 2 * g.monitorRoom + (rest.map fun v => v.category).sum ≤ W9) (hdg : decode c.code g.pc = .ok (.invokestatic index, 3))
    (hpre : ∀ vm₁, s.WarmedH vm₁ → Pre ⟨T.setVm vm₁, locs, cells, slots⟩ argsL.toArray) :
    ∃ (v : Option Value) (vm₁ : Vm) (B : Pt), s.WarmedH vm₁ ∧ Stand p l e R s m args below meth c B.U B.locs B.cells B.slots ∧ Post ⟨T.setVm vm₁, locs, cells, slots⟩ argsL.toArray v B ∧
      ∀ target, Steps p.tables e below (B.U.setTop { g with pc := g.pc + 3, stack := v.toList ++ rest }) target → Steps p.tables e below (T.setTop g) target := by
  obtain ⟨mk, methM, cM, hnamed, hmethM, -, -, -, -, -, -, hsigM⟩ := Cond.codeWith_spec hcode
  have hstatic : methM.isStatic = true := Cond.static_spec hnamed hmethM hstat
  obtain ⟨kP, hkP, -⟩ := className_of_methodNamed hnamed
  have hinitP : kP.init = .initialized := Cond.initialized_spec (findClass_of_methodNamed hnamed) hkP hinit
  obtain ⟨vm₁, X₁, hstep₁⟩ := X.invokestatic hexec hown hlink hnamed hmethM hstatic hkP hinitP hy (g := g) hg (argsL := argsL) (rest := rest) (hlen _ hsigM) hstack hdg
  obtain ⟨v, B, X', hpost, hsteps⟩ := hK m meth c ⟨T.setVm vm₁, locs, cells, slots⟩ { g with stack := rest } (.invokestatic index) mk argsL.toArray X₁ hg hsize hdg hW (X₁.named hnamed) (hpre vm₁ X₁.warmed)
  exact ⟨v, vm₁, B, X₁.warmed, X', hpost, fun target h => hstep₁ _ fun acts => by rw [doInvoke_state]; exact hsteps.trans h⟩
theorem vx_runSW {y : MethodName} {bytes cc : ByteArray} {maxL nL mc ms n index : Nat} {ret : Option FieldType} {hh : List (Nat × Nat × Nat × Nat)} {ws : List Cond} {rm : Room} {Pc : Array Value → State → Prop} {Qc : Array Value → State → Outcome → State → Prop} {free : Addr → Prop} {Ts : List Cond} {own : String} {As rest : List Value} {g : JFrame}
    (S : CallFix p m c cc nL s args Ts own) (hM : Met l y ws rm Pc Qc mc ms free) (cw : vx_CSW R s args own index y bytes maxL ret hh ws rm mc ms n) (hp : PreS s H Pc As)
    (hg : g.method = m) (hn : As.length = n) (hsize : g.locals.size = nL) (hstack : g.stack = As.reverse ++ rest) (hW : 2 * g.monitorRoom + (rest.map fun v => v.category).sum ≤ 8) (hdg : decode cc g.pc = .ok (.invokestatic index, 3)) (hf : cells + mc ≤ R.cells ∧ slots + ms ≤ R.slots) :
    va_Run p l e R s m args below meth c H locs cells slots mc ms g rest (Qc As.toArray) (free) := by
  obtain ⟨⟨hrc, hrs, hfr, hlo, hws, hcw⟩, hcode, hini, hy, hlen, hl, hstt⟩ := cw
  have hK : Back l R p e below s args y 3 8 (PreOf R mc ms Pc) (PostOf Qc mc ms free) := va_backW (hh := hh) (bytes := bytes) (maxL := maxL) (ret := ret) hM hp.1 hrc hrs hfr hlo hws hcw (fun a' U hW => word_at hW (Or.inl (by first | rfl | simp [Cond.onTables, Cond.keeps, Cond.steady])) hini)
  obtain ⟨hx, hb, hml, ho, -⟩ := S
  intro T hT X
  obtain ⟨v, vm₁, ⟨U', l2, c2, s2⟩, hW₁, X', ⟨g', mk, t, L, e1, e2, hq, h1, hL, h2, h3⟩, st⟩ := vx_callSW X hx (hh := hh) (bytes := bytes) (maxL := maxL) (ret := ret) ho hl hstt hini hcode hy hK hg (hsize.trans hml.symm) (argsL := As) (rest := rest) (fun sig h => hn.trans (hlen sig h)) hstack hW (by rw [hb]; exact hdg)
    (fun vm₁ hW₁ => ⟨hf.1, hf.2, hp.2 (T.setVm vm₁) hT hW₁⟩)
  dsimp only [Pt.U, Pt.locs, Pt.cells, Pt.slots] at X' e1 e2 h1 h2 h3 st
  subst h1; subst h2; subst h3
  exact ⟨v, (T.setVm vm₁).calling g' mk As.toArray, t, U', L, hT, X', hL, e1, e2, hq, st⟩
/-- not caught here, past rows that name other classes: it goes on to the caller -/
theorem vx_outP {p : Program} {l : Launch} {e : Env} {R : Room} {s : State} {m : MethodId} {args : Array Value} {below : List Frame} {meth : Method} {c : Code} {H : Heap} {locs : List Loc} {cells slots : Nat} {free : Addr → Prop} {ls : Array Slot} {rest : List Value} {Qc : Array Value → State → Outcome → State → Prop} {XC : String → State → State → Prop}
    {pc : Nat} {own E : String} {ce : Cell} {q : Addr} {mc ms : Nat} (hown : s.vm.findClass own = some m.cls) (hlocks : meth.locks = false)
    (hpass : ∀ z ∈ c.exceptionTable.toList, covers z pc = false ∨ (z.catchType ≠ 0 ∧ ∃ nm : String, (Cond.classLink own z.catchType nm).before args s = true ∧ va_Nc E nm s)) (hcell : H[q]? = some ce) (hv : ce.vm = .none) (hcl : s.vm.findClass E = some ce.cls)
    (hx : ∀ t : State, t.heap = H → s.vm.Alike t.vm → XC E s t) (hf : ∀ z ∈ locs, free z.base) (hc : cells ≤ mc) (hs : slots ≤ ms) :
    vx_W p l e R s m args below meth c H locs cells slots (vx_MQ below Qc XC args s mc ms free) (F0 m pc ls rest) q := by
  intro T hT X
  have hpl : e.platform.magicAccessors = ({} : Platform).magicAccessors := by rw [X.admits.platform]
  obtain ⟨vm', hW', X', st⟩ := X.outThrough hlocks q (g := F0 m pc ls rest) rfl rfl rfl (cell := ce) (by rw [hT]; exact hcell) (by rw [hv]; rfl)
    (by obtain ⟨k9, h9, -⟩ := Vm.findClass_spec hcl; exact ⟨k9, h9⟩) (fun z hz => by
      rcases hpass z hz with h | ⟨hz0, nm, hl1, hn1⟩
      · exact Or.inl h
      · obtain ⟨c6, hc6, hcl6⟩ := Cond.classLink_spec hown hl1 e.platform hpl
        obtain ⟨a8, b8, h1, h2, h3⟩ := hn1
        cases Option.some.inj (h1.symm.trans hcl)
        cases Option.some.inj (h2.symm.trans hc6)
        exact Or.inr ⟨hz0, _, hcl6, h3⟩)
  obtain ⟨g₀, hfr⟩ := X'.frames_eq
  have hcell9 : ((T.setVm vm').setFrames (.throwing q :: below)).heap[q]? = some ce := by
    show T.heap[q]? = some ce
    rw [hT]; exact hcell
  have hend : Ended ((T.setVm vm').setFrames (.throwing q :: below)) below (.threw q) := State.frames_setFrames _ (State.cur_lt_of_frames hfr)
  refine ⟨(T.setVm vm').setFrames (.throwing q :: below), ?_, .threw q, X'.here.running, hend, Or.inr ⟨q, rfl, E, ce, locs, hx _ hT (X'.ends _).1.alike, hcell9, hv, hcl, (X'.ends _).1, (X'.ends _).2.mono hc hs, hf⟩⟩
  rw [X.pushThrowing_eq]
  exact st
/-- a thing of a world lies in the heap -/
theorem vx_lt {D : va_G} {cl : List vw_C} {ws : va_W} {H1 : Heap} (h : va_P D cl ws H1) {k : Nat} {q : Nat × va_E} (hk : ws[k]? = some q) : q.1 < H1.size := (h k q hk).lt
end VXS
/-! ===== END ===== -/
/-! ===== BEGIN methods with a table of their own: called by a name, returning or throwing ===== -/
section VXH
/-! vx_backW, vx_callVX, vx_callSX, vx_callVW, vx_runVW, vx_runVX, vx_runSX, vx_ofWH follow the same proofs as their sisters above (Free/Laws.lean, Shelf42/LK1.lean); vx_outP calls Shelf42/NT130.lean (outThrough). -/
section
variable {l : Launch} {R : Room} {p : Program} {e : Env} {below : List Frame} {s : State} {sargs : Array Value} {y : MethodName} {len W9 : Nat}
theorem vx_backW {ws : List Cond} {rm : Room} {Pc : Array Value → State → Prop} {Qc : Array Value → State → Outcome → State → Prop} {XC : String → State → State → Prop} {mc ms : Nat} {free : Addr → Prop} {bytes : ByteArray} {maxL : Nat} {ret : Option FieldType} {hh : List (Nat × Nat × Nat × Nat)}
    (hM : vx_Met l y ws rm Pc Qc XC mc ms free) (hblind : FrameBlind Pc) (hrc : rm.cells = mc) (hrs : rm.slots = ms)
    (hframes : rm.frames + 1 ≤ R.frames) (hlocals : W9 + (maxL + 11) + rm.locals ≤ R.locals)
    (hws : ∀ w ∈ ws, ∀ a' U, s.WarmedH U.vm → w.before a' U = true) (hcode : Cond.codeWith y bytes maxL ret hh ∈ ws) (hinit : ∀ a' U, s.WarmedH U.vm → (Cond.initialized y.cls).before a' U = true) :
    vx_Back l R p e below s sargs y len W9 (PreOf R mc ms Pc) (PostOf Qc mc ms free) (vx_Post XC mc ms free) := by
  intro m meth c A g ig mk a X hg hsize hdg hW hn hp
  have h1 : (headSpec ws rm).pre.before a A.U = true := atoms_intro fun w hw => hws w hw _ _ X.warmed
  have h2 : (Cond.codeWith y bytes maxL ret hh).before a A.U = true := hws _ hcode _ _ X.warmed
  have h3 : (Cond.initialized y.cls).before a A.U = true := hinit _ _ X.warmed
  have h4 : A.cells + (headSpec ws rm).room.cells ≤ R.cells := by rw [show (headSpec ws rm).room.cells = mc from hrc]; exact hp.1
  have h5 : A.slots + (headSpec ws rm).room.slots ≤ R.slots := by rw [show (headSpec ws rm).room.slots = ms from hrs]; exact hp.2.1
  have hPc : Pc a (A.U.calling g mk a) := hblind _ _ _ _ hp.2.2
  obtain ⟨U, Ls, c0, s0⟩ := A
  dsimp only [Pt.U, Pt.locs, Pt.cells, Pt.slots] at h1 h2 h3 h4 h5 X hn hPc ⊢
  obtain ⟨m9, methY, cY, hn9, hmY, hcY, -, hlY, -⟩ := Cond.codeWith_spec h2
  cases Option.some.inj (hn9.symm.trans hn)
  obtain ⟨kY, hkY, -⟩ := className_of_methodNamed hn
  have hinitY : kY.init = .initialized := Cond.initialized_spec (findClass_of_methodNamed hn) hkY h3
  have h : At U g.method c below := by rw [hg]; exact X.here
  have hlocals9 : W9 + (maxL + 11) + (headSpec ws rm).room.locals ≤ R.locals := hlocals
  have happ : (headSpec ws rm).appliesLoose y e.platform (U.calling g mk a) = true :=
    Spec.appliesLoose_calling (g := g) h hdg hn hkY hinitY
      (X.room_calling (g := g) (R' := (headSpec ws rm).room) hsize hmY hcY hframes (by rw [hlY]; omega) h4 h5) h1
  obtain ⟨mid, hmid⟩ := h.above
  have hfr : (U.setTop g).frames = (.java g :: mid) ++ below := by rw [State.frames_setTop' g h.top, hmid]; rfl
  obtain ⟨o, s₂, hsteps, -, hend, hq⟩ := Steps.callFree hM p X.admits X.cas X.clock (acts := []) hfr happ hPc trivial
  have hq' : vx_Q Qc XC mc ms free a (U.calling g mk a) o s₂ := hq
  rw [State.frames_setTop' g h.top] at hend
  obtain ⟨g₀, hg0⟩ := Option.isSome_iff_exists.mp h.top
  obtain ⟨r, hr⟩ := State.topJava?_eq_some.mp hg0
  have hr' : (({ U with heap := s₂.heap, slotsUsed := s₂.slotsUsed } : State).setVm s₂.vm).frames = .java g₀ :: r := hr
  rcases hq' with ⟨hqc, L, hfe, hL⟩ | ⟨q, rfl, E, ce, L, hx, hce, hcv, hcl, hW₂, hsm, hL⟩
  · obtain ⟨⟨v, rfl⟩, hW₂, e2, q2, q3, q4, q5, q6⟩ := id hfe
    have e3 : s₂ = ({ (U.calling g mk a).setFrames s₂.frames with heap := s₂.heap, slotsUsed := s₂.slotsUsed } : State).setVm s₂.vm := by
      have : s₂ = ({ s₂ with vm := (U.calling g mk a).vm } : State).setVm s₂.vm := rfl
      rw [e2] at this
      exact this
    obtain ⟨c₂, i₂, len₂, hc₂, hd₂, hf₂⟩ := hend
    have hW' : U.WarmedH s₂.vm := hW₂
    have hcc : c₂ = c := by
      have h1 : s₂.code? g.method = U.code? g.method := by
        rw [State.code?_eq, State.code?_eq, hW'.alike.method?]
      exact Option.some.inj (hc₂.symm.trans (h1.trans h.code))
    subst hcc
    have hlen : len₂ = len := by rw [hdg] at hd₂; cases hd₂; rfl
    subst hlen
    have hs₂ : s₂ = (({ U with heap := s₂.heap, slotsUsed := s₂.slotsUsed } : State).setVm s₂.vm).setTop { g with pc := g.pc + len₂, stack := v.toList ++ g.stack } := by
      refine e3.trans ?_
      rw [hf₂, State.calling_eq h.top, State.setFrames_setFrames, State.setTop_of_frames _ hr', hr]
      rfl
    have hsame : U.sameButNew ({ U with heap := s₂.heap, slotsUsed := s₂.slotsUsed } : State) L mc ms := by
      refine ⟨?_, q2, q3, q4, q5, q6⟩
      obtain ⟨t, ht, -⟩ := State.frames_cons hr
      show ({ U with heap := s₂.heap, slotsUsed := s₂.slotsUsed } : State) = { U.setFrames U.frames with heap := s₂.heap, slotsUsed := s₂.slotsUsed }
      rw [State.setFrames_self ht]
    subst hg
    refine Or.inl ⟨v, ⟨(({ U with heap := s₂.heap, slotsUsed := s₂.slotsUsed } : State).setVm s₂.vm), Ls ++ L, c0 + mc, s0 + ms⟩,
      ⟨X.admits, X.cas, X.clock, X.frames, X.room, X.hears, X.method, X.code, (X.here.setHeapUsed s₂.heap s₂.slotsUsed).setVm hW'.alike, X.tail, State.WarmedH.trans X.warmed hW', X.limits, X.bytes, X.same.trans (hsame.setVm s.vm)⟩,
      ⟨g, mk, s₂, L, rfl, rfl, hqc, rfl, hL, rfl, rfl⟩, ?_⟩
    show Steps p.tables e below _ ((({ U with heap := s₂.heap, slotsUsed := s₂.slotsUsed } : State).setVm s₂.vm).setTop { g with pc := g.pc + len₂, stack := v.toList ++ g.stack })
    rw [← hs₂]
    exact hsteps
  · obtain ⟨e2, q2, q3, q4, q5, q6⟩ := id hsm
    have e3 : s₂ = ({ (U.calling g mk a).setFrames s₂.frames with heap := s₂.heap, slotsUsed := s₂.slotsUsed } : State).setVm s₂.vm := by
      have : s₂ = ({ s₂ with vm := (U.calling g mk a).vm } : State).setVm s₂.vm := rfl
      rw [e2] at this
      exact this
    have hf₂ : s₂.frames = .throwing q :: .java g :: U.frames.tail := hend
    have hW' : U.WarmedH s₂.vm := hW₂
    have hs₂ : s₂ = ((({ U with heap := s₂.heap, slotsUsed := s₂.slotsUsed } : State).setVm s₂.vm).setTop g).pushFrame (.throwing q) := by
      refine e3.trans ?_
      rw [hf₂, State.calling_eq h.top, State.setFrames_setFrames, State.pushFrame, State.frames_setTop _ hr', State.setTop_of_frames _ hr', State.setFrames_setFrames, hr]
      rfl
    have hsame : U.sameButNew ({ U with heap := s₂.heap, slotsUsed := s₂.slotsUsed } : State) L mc ms := by
      refine ⟨?_, q2, q3, q4, q5, q6⟩
      obtain ⟨t, ht, -⟩ := State.frames_cons hr
      show ({ U with heap := s₂.heap, slotsUsed := s₂.slotsUsed } : State) = { U.setFrames U.frames with heap := s₂.heap, slotsUsed := s₂.slotsUsed }
      rw [State.setFrames_self ht]
    subst hg
    refine Or.inr ⟨q, ⟨(({ U with heap := s₂.heap, slotsUsed := s₂.slotsUsed } : State).setVm s₂.vm), Ls ++ L, c0 + mc, s0 + ms⟩,
      ⟨X.admits, X.cas, X.clock, X.frames, X.room, X.hears, X.method, X.code, (X.here.setHeapUsed s₂.heap s₂.slotsUsed).setVm hW'.alike, X.tail, State.WarmedH.trans X.warmed hW', X.limits, X.bytes, X.same.trans (hsame.setVm s.vm)⟩,
      ⟨g, mk, s₂, L, E, ce, rfl, rfl, hx, hce, hcv, hcl, rfl, hL, rfl, rfl⟩, ?_⟩
    show Steps p.tables e below _ (((({ U with heap := s₂.heap, slotsUsed := s₂.slotsUsed } : State).setVm s₂.vm).setTop g).pushFrame (.throwing q))
    rw [← hs₂]
    exact hsteps
end
variable {p : Program} {l : Launch} {e : Env} {R : Room} {s : State} {m : MethodId} {args : Array Value} {below : List Frame} {meth : Method} {c : Code} {T : State} {H : Heap} {locs : List Loc} {cells slots : Nat}
theorem vx_callVX (X : Stand p l e R s m args below meth c T locs cells slots) (hexec : p.tables.exec = Jvm.exec) {own C : String} {index : Nat} {y : MethodName} {bytes : ByteArray} {maxL : Nat} {ret : Option FieldType} {hh : List (Nat × Nat × Nat × Nat)}
    (hown : s.vm.findClass own = some m.cls) (hlink : (Cond.methodLink own index y).before args s = true) (hinst : (Cond.instanceMethod y).before args s = true) (hsel : (Cond.selects C y y).before args s = true)
    (hcode : (Cond.codeWith y bytes maxL ret hh).before args s = true) (hy : y.cls ≠ "java/lang/invoke/MethodHandle" ∧ y.cls ≠ "java/lang/invoke/VarHandle")
    {W9 : Nat} {Pre : Pt → Array Value → Prop} {Post : Pt → Array Value → Option Value → Pt → Prop} {PostX : Pt → Array Value → Addr → Pt → Prop} (hK : vx_Back l R p e below s args y 3 W9 Pre Post PostX)
    {b : Addr} {cellB : Cell} (hcell : T.heap[b]? = some cellB) (hobj : cellB.vm.isStatics = false) (hcls : s.vm.findClass C = some cellB.cls)
    {g : JFrame} (hg : g.method = m) (hsize : g.locals.size = c.maxLocals) {argsL rest : List Value} (hlen : ∀ sig, parseMethodDescriptor y.desc = some sig → argsL.length = sig.parameters.length)
    (hstack : g.stack = argsL.reverse ++ .ref b :: rest) (hW : 2 * g.monitorRoom + (rest.map fun v => v.category).sum ≤ W9) (hdg : decode c.code g.pc = .ok (.invokevirtual index, 3))
    (hpre : ∀ vm₁, s.WarmedH vm₁ → Pre ⟨T.setVm vm₁, locs, cells, slots⟩ (Value.ref b :: argsL).toArray) :
    (∃ (v : Option Value) (vm₁ : Vm) (B : Pt), s.WarmedH vm₁ ∧ Stand p l e R s m args below meth c B.U B.locs B.cells B.slots ∧ Post ⟨T.setVm vm₁, locs, cells, slots⟩ (Value.ref b :: argsL).toArray v B ∧
      ∀ target, Steps p.tables e below (B.U.setTop { g with pc := g.pc + 3, stack := v.toList ++ rest }) target → Steps p.tables e below (T.setTop g) target) ∨
    (∃ (q : Addr) (vm₁ : Vm) (B : Pt), s.WarmedH vm₁ ∧ Stand p l e R s m args below meth c B.U B.locs B.cells B.slots ∧ PostX ⟨T.setVm vm₁, locs, cells, slots⟩ (Value.ref b :: argsL).toArray q B ∧
      Steps p.tables e below (T.setTop g) ((B.U.setTop { g with stack := rest }).pushFrame (.throwing q))) := by
  obtain ⟨mk, methM, hnamed, hmethM, hstM, habM⟩ := Cond.instanceMethod_spec hinst
  obtain ⟨m8, methM', cM, hn8, hmethM', -, -, -, -, -, -, hsigM⟩ := Cond.codeWith_spec hcode
  cases Option.some.inj (hn8.symm.trans hnamed)
  cases hmethM.symm.trans hmethM'
  obtain ⟨c2, r2, m2, q1, q2, q3, q4, kP, hkP, hkPi⟩ := Cond.selects_spec hsel
  cases hcls.symm.trans q1
  cases (State.methodFound?_of_named hnamed hy).symm.trans q2
  cases hnamed.symm.trans q3
  have hselP : selectMethod e.platform s.vm cellB.cls mk = .method mk := by rw [Launch.admits_selectMethod X.admits]; exact q4
  obtain ⟨vm₁, X₁, hstep₁⟩ := X.invokevirtual hexec hown hlink hnamed hmethM hstM hkP hkPi hy (a := b) (cell := cellB) hcell
    (fun z h => by rw [h] at hobj; cases hobj) hselP hmethM habM hkP hkPi (g := g) hg (argsL := argsL) (rest := rest) (hlen _ hsigM) hstack hdg
  rcases hK m meth c ⟨T.setVm vm₁, locs, cells, slots⟩ { g with stack := rest } (.invokevirtual index) mk (Value.ref b :: argsL).toArray X₁ hg hsize hdg hW (X₁.named hnamed) (hpre vm₁ X₁.warmed) with ⟨v, B, X', hpost, hsteps⟩ | ⟨q, B, X', hpost, hsteps⟩
  · exact Or.inl ⟨v, vm₁, B, X₁.warmed, X', hpost, fun target h => hstep₁ _ fun acts => by rw [doInvoke_state]; exact hsteps.trans h⟩
  · exact Or.inr ⟨q, vm₁, B, X₁.warmed, X', hpost, hstep₁ _ fun acts => by rw [doInvoke_state]; exact hsteps⟩
theorem vx_callSX (X : Stand p l e R s m args below meth c T locs cells slots) (hexec : p.tables.exec = Jvm.exec) {own : String} {index : Nat} {y : MethodName} {bytes : ByteArray} {maxL : Nat} {ret : Option FieldType} {hh : List (Nat × Nat × Nat × Nat)}
    (hown : s.vm.findClass own = some m.cls) (hlink : (Cond.methodLink own index y).before args s = true) (hstat : (Cond.static y).before args s = true) (hinit : (Cond.initialized y.cls).before args s = true)
    (hcode : (Cond.codeWith y bytes maxL ret hh).before args s = true) (hy : y.cls ≠ "java/lang/invoke/MethodHandle" ∧ y.cls ≠ "java/lang/invoke/VarHandle")
    {W9 : Nat} {Pre : Pt → Array Value → Prop} {Post : Pt → Array Value → Option Value → Pt → Prop} {PostX : Pt → Array Value → Addr → Pt → Prop} (hK : vx_Back l R p e below s args y 3 W9 Pre Post PostX)
    {g : JFrame} (hg : g.method = m) (hsize : g.locals.size = c.maxLocals) {argsL rest : List Value} (hlen : ∀ sig, parseMethodDescriptor y.desc = some sig → argsL.length = sig.parameters.length)
    (hstack : g.stack = argsL.reverse ++ rest) (hW : 2 * g.monitorRoom + (rest.map fun v => v.category).sum ≤ W9) (hdg : decode c.code g.pc = .ok (.invokestatic index, 3))
    (hpre : ∀ vm₁, s.WarmedH vm₁ → Pre ⟨T.setVm vm₁, locs, cells, slots⟩ argsL.toArray) :
    (∃ (v : Option Value) (vm₁ : Vm) (B : Pt), s.WarmedH vm₁ ∧ Stand p l e R s m args below meth c B.U B.locs B.cells B.slots ∧ Post ⟨T.setVm vm₁, locs, cells, slots⟩ argsL.toArray v B ∧
      ∀ target, Steps p.tables e below (B.U.setTop { g with pc := g.pc + 3, stack := v.toList ++ rest }) target → Steps p.tables e below (T.setTop g) target) ∨
    (∃ (q : Addr) (vm₁ : Vm) (B : Pt), s.WarmedH vm₁ ∧ Stand p l e R s m args below meth c B.U B.locs B.cells B.slots ∧ PostX ⟨T.setVm vm₁, locs, cells, slots⟩ argsL.toArray q B ∧
      Steps p.tables e below (T.setTop g) ((B.U.setTop { g with stack := rest }).pushFrame (.throwing q))) := by
  obtain ⟨mk, methM, cM, hnamed, hmethM, -, -, -, -, -, -, hsigM⟩ := Cond.codeWith_spec hcode
  have hstatic : methM.isStatic = true := Cond.static_spec hnamed hmethM hstat
  obtain ⟨kP, hkP, -⟩ := className_of_methodNamed hnamed
  have hinitP : kP.init = .initialized := Cond.initialized_spec (findClass_of_methodNamed hnamed) hkP hinit
  obtain ⟨vm₁, X₁, hstep₁⟩ := X.invokestatic hexec hown hlink hnamed hmethM hstatic hkP hinitP hy (g := g) hg (argsL := argsL) (rest := rest) (hlen _ hsigM) hstack hdg
  rcases hK m meth c ⟨T.setVm vm₁, locs, cells, slots⟩ { g with stack := rest } (.invokestatic index) mk argsL.toArray X₁ hg hsize hdg hW (X₁.named hnamed) (hpre vm₁ X₁.warmed) with ⟨v, B, X', hpost, hsteps⟩ | ⟨q, B, X', hpost, hsteps⟩
  · exact Or.inl ⟨v, vm₁, B, X₁.warmed, X', hpost, fun target h => hstep₁ _ fun acts => by rw [doInvoke_state]; exact hsteps.trans h⟩
  · exact Or.inr ⟨q, vm₁, B, X₁.warmed, X', hpost, hstep₁ _ fun acts => by rw [doInvoke_state]; exact hsteps⟩
theorem vx_callVW (X : Stand p l e R s m args below meth c T locs cells slots) (hexec : p.tables.exec = Jvm.exec) {own C : String} {index : Nat} {y : MethodName} {bytes : ByteArray} {maxL : Nat} {ret : Option FieldType} {hh : List (Nat × Nat × Nat × Nat)}
    (hown : s.vm.findClass own = some m.cls) (hlink : (Cond.methodLink own index y).before args s = true) (hinst : (Cond.instanceMethod y).before args s = true) (hsel : (Cond.selects C y y).before args s = true)
    (hcode : (Cond.codeWith y bytes maxL ret hh).before args s = true) (hy : y.cls ≠ "java/lang/invoke/MethodHandle" ∧ y.cls ≠ "java/lang/invoke/VarHandle")
    {W9 : Nat} {Pre : Pt → Array Value → Prop} {Post : Pt → Array Value → Option Value → Pt → Prop} (hK : Back l R p e below s args y 3 W9 Pre Post)
    {b : Addr} {cellB : Cell} (hcell : T.heap[b]? = some cellB) (hobj : cellB.vm.isStatics = false) (hcls : s.vm.findClass C = some cellB.cls)
    {g : JFrame} (hg : g.method = m) (hsize : g.locals.size = c.maxLocals) {argsL rest : List Value} (hlen : ∀ sig, parseMethodDescriptor y.desc = some sig → argsL.length = sig.parameters.length)
    (hstack : g.stack = argsL.reverse ++ .ref b :: rest) (hW : 2 * g.monitorRoom + (rest.map fun v => v.category).sum ≤ W9) (hdg : decode c.code g.pc = .ok (.invokevirtual index, 3))
    (hpre : ∀ vm₁, s.WarmedH vm₁ → Pre ⟨T.setVm vm₁, locs, cells, slots⟩ (Value.ref b :: argsL).toArray) :
    ∃ (v : Option Value) (vm₁ : Vm) (B : Pt), s.WarmedH vm₁ ∧ Stand p l e R s m args below meth c B.U B.locs B.cells B.slots ∧ Post ⟨T.setVm vm₁, locs, cells, slots⟩ (Value.ref b :: argsL).toArray v B ∧
      ∀ target, Steps p.tables e below (B.U.setTop { g with pc := g.pc + 3, stack := v.toList ++ rest }) target → Steps p.tables e below (T.setTop g) target := by
  obtain ⟨mk, methM, hnamed, hmethM, hstM, habM⟩ := Cond.instanceMethod_spec hinst
  obtain ⟨m8, methM', cM, hn8, hmethM', -, -, -, -, -, -, hsigM⟩ := Cond.codeWith_spec hcode
  cases Option.some.inj (hn8.symm.trans hnamed)
  cases hmethM.symm.trans hmethM'
  obtain ⟨c2, r2, m2, q1, q2, q3, q4, kP, hkP, hkPi⟩ := Cond.selects_spec hsel
  cases hcls.symm.trans q1
  cases (State.methodFound?_of_named hnamed hy).symm.trans q2
  cases hnamed.symm.trans q3
  have hselP : selectMethod e.platform s.vm cellB.cls mk = .method mk := by rw [Launch.admits_selectMethod X.admits]; exact q4
  obtain ⟨vm₁, X₁, hstep₁⟩ := X.invokevirtual hexec hown hlink hnamed hmethM hstM hkP hkPi hy (a := b) (cell := cellB) hcell
    (fun z h => by rw [h] at hobj; cases hobj) hselP hmethM habM hkP hkPi (g := g) hg (argsL := argsL) (rest := rest) (hlen _ hsigM) hstack hdg
  obtain ⟨v, B, X', hpost, hsteps⟩ := hK m meth c ⟨T.setVm vm₁, locs, cells, slots⟩ { g with stack := rest } (.invokevirtual index) mk (Value.ref b :: argsL).toArray X₁ hg hsize hdg hW (X₁.named hnamed) (hpre vm₁ X₁.warmed)
  exact ⟨v, vm₁, B, X₁.warmed, X', hpost, fun target h => hstep₁ _ fun acts => by rw [doInvoke_state]; exact hsteps.trans h⟩
abbrev vx_CVW (R : Room) (s : State) (args : Array Value) (own C : String) (index : Nat) (y : MethodName) (bytes : ByteArray) (maxL : Nat) (ret : Option FieldType) (hh : List (Nat × Nat × Nat × Nat)) (ws : List Cond) (rm : Room) (mc ms n : Nat) : Prop :=
  (rm.cells = mc ∧ rm.slots = ms ∧ rm.frames + 1 ≤ R.frames ∧ 8 + (maxL + 11) + rm.locals ≤ R.locals ∧ (∀ w ∈ ws, ∀ (a' : Array Value) (U : State), s.WarmedH U.vm → w.before a' U = true) ∧ Cond.codeWith y bytes maxL ret hh ∈ ws) ∧
  (Cond.codeWith y bytes maxL ret hh).before args s = true ∧ (Cond.initialized y.cls).before args s = true ∧ (y.cls ≠ "java/lang/invoke/MethodHandle" ∧ y.cls ≠ "java/lang/invoke/VarHandle") ∧
  (∀ sig, parseMethodDescriptor y.desc = some sig → n = sig.parameters.length) ∧ (Cond.methodLink own index y).before args s = true ∧ (Cond.instanceMethod y).before args s = true ∧ (Cond.selects C y y).before args s = true
theorem vx_cwVW {own C : String} {index maxL mc ms : Nat} {y : MethodName} {bytes : ByteArray} {ret : Option FieldType} {hh : List (Nat × Nat × Nat × Nat)} {Ts ws ws' : List Cond} {rm : Room} (n : Nat) (ht : ∀ w ∈ Ts, w.before args s = true) (hT : GoodIn Ts (wsV own index C y ws)) (hw : ws = Cond.codeWith y bytes maxL ret hh :: ws') (hrc : rm.cells = mc) (hrs : rm.slots = ms)
    (hd : y.cls = C ∧ y.cls ≠ "java/lang/invoke/MethodHandle" ∧ y.cls ≠ "java/lang/invoke/VarHandle" ∧ (parseMethodDescriptor y.desc).map (fun d => d.parameters.length) = some n) (hR : rm.frames + 1 ≤ R.frames ∧ 8 + (maxL + 11) + rm.locals ≤ R.locals) :
    vx_CVW R s args own C index y bytes maxL ret hh ws rm mc ms n := by
  obtain ⟨hC, hd⟩ := hd
  subst hC
  have ok : ∀ w ∈ wsV own index y.cls y ws, w.before args s = true := fun w h => ht w (hT w h).1
  have hG : GoodIn Ts ws := fun w h => hT w (by unfold wsV; exact List.mem_append_right _ h)
  have hc : Cond.codeWith y bytes maxL ret hh ∈ ws := by rw [hw]; exact List.mem_cons_self
  refine ⟨⟨hrc, hrs, hR.1, hR.2, pay_in ht hG, hc⟩, ht _ (hG _ hc).1, ok _ (by simp [wsV]), ⟨hd.1, hd.2.1⟩, fun sig h => ?_, ok _ (by simp [wsV]), ok _ (by simp [wsV]), ok _ (by simp [wsV])⟩
  have h2 := hd.2.2
  rw [h] at h2
  exact (Option.some.inj h2).symm
theorem vx_runVW {y : MethodName} {bytes cc : ByteArray} {maxL nL mc ms n index : Nat} {ret : Option FieldType} {hh : List (Nat × Nat × Nat × Nat)} {ws : List Cond} {rm : Room} {Pc : Array Value → State → Prop} {Qc : Array Value → State → Outcome → State → Prop} {free : Addr → Prop} {Ts : List Cond} {own C : String} {b : Addr} {As rest : List Value} {g : JFrame}
    (S : CallFix p m c cc nL s args Ts own) (hM : Met l y ws rm Pc Qc mc ms free) (cw : vx_CVW R s args own C index y bytes maxL ret hh ws rm mc ms n) (hp : PreV s H C b Pc As)
    (hg : g.method = m) (hn : As.length = n) (hsize : g.locals.size = nL) (hstack : g.stack = As.reverse ++ .ref b :: rest) (hW : 2 * g.monitorRoom + (rest.map fun v => v.category).sum ≤ 8) (hdg : decode cc g.pc = .ok (.invokevirtual index, 3)) (hf : cells + mc ≤ R.cells ∧ slots + ms ≤ R.slots) :
    va_Run p l e R s m args below meth c H locs cells slots mc ms g rest (Qc (Value.ref b :: As).toArray) free := by
  obtain ⟨⟨hrc, hrs, hfr, hlo, hws, hcw⟩, hcode, hini, hy, hlen, hl, hin, hse⟩ := cw
  have hK : Back l R p e below s args y 3 8 (PreOf R mc ms Pc) (PostOf Qc mc ms free) := va_backW (hh := hh) (bytes := bytes) (maxL := maxL) (ret := ret) hM hp.1 hrc hrs hfr hlo hws hcw (fun a' U hW => word_at hW (Or.inl (by first | rfl | simp [Cond.onTables, Cond.keeps, Cond.steady])) hini)
  obtain ⟨hx, hb, hml, ho, -⟩ := S
  obtain ⟨-, ⟨cellB, hcB, hoB, hclB⟩, hPc⟩ := hp
  intro T hT X
  obtain ⟨v, vm₁, ⟨U', l2, c2, s2⟩, hW₁, X', ⟨g', mk, t, L, e1, e2, hq, h1, hL, h2, h3⟩, st⟩ := vx_callVW X hx (C := C) (hh := hh) (bytes := bytes) (maxL := maxL) (ret := ret) ho hl hin hse hcode hy hK (by rw [hT]; exact hcB) hoB hclB hg (hsize.trans hml.symm) (argsL := As) (rest := rest) (fun sig h => hn.trans (hlen sig h)) hstack hW (by rw [hb]; exact hdg)
    (fun vm₁ hW₁ => ⟨hf.1, hf.2, hPc (T.setVm vm₁) hT hW₁⟩)
  dsimp only [Pt.U, Pt.locs, Pt.cells, Pt.slots] at X' e1 e2 h1 h2 h3 st
  subst h1; subst h2; subst h3
  exact ⟨v, (T.setVm vm₁).calling g' mk (Value.ref b :: As).toArray, t, U', L, hT, X', hL, e1, e2, hq, st⟩
section
variable {y : MethodName} {bytes cc : ByteArray} {maxL nL mc ms n index : Nat} {ret : Option FieldType} {ws : List Cond} {rm : Room} {Pc : Array Value → State → Prop} {Qc : Array Value → State → Outcome → State → Prop} {XC : String → State → State → Prop} {free : Addr → Prop} {Ts : List Cond} {own C : String} {b : Addr} {As rest : List Value} {g : JFrame}
theorem vx_runVX {hh : List (Nat × Nat × Nat × Nat)} (S : CallFix p m c cc nL s args Ts own) (hM : vx_Met l y ws rm Pc Qc XC mc ms free) (cw : vx_CVW R s args own C index y bytes maxL ret hh ws rm mc ms n) (hp : PreV s H C b Pc As)
    (hg : g.method = m) (hn : As.length = n) (hsize : g.locals.size = nL) (hstack : g.stack = As.reverse ++ .ref b :: rest) (hW : 2 * g.monitorRoom + (rest.map fun v => v.category).sum ≤ 8) (hdg : decode cc g.pc = .ok (.invokevirtual index, 3)) (hf : cells + mc ≤ R.cells ∧ slots + ms ≤ R.slots) :
    vx_Run p l e R s m args below meth c H locs cells slots mc ms g rest (Qc (Value.ref b :: As).toArray) XC free := by
  obtain ⟨⟨hrc, hrs, hfr, hlo, hws, hcw⟩, hcode, hini, hy, hlen, hl, hin, hse⟩ := cw
  have hK : vx_Back l R p e below s args y 3 8 (PreOf R mc ms Pc) (PostOf Qc mc ms free) (vx_Post XC mc ms free) := vx_backW (hh := hh) (bytes := bytes) (maxL := maxL) (ret := ret) hM hp.1 hrc hrs hfr hlo hws hcw (fun a' U hW => word_at hW (Or.inl (by first | rfl | simp [Cond.onTables, Cond.keeps, Cond.steady])) hini)
  obtain ⟨hx, hb, hml, ho, -⟩ := S
  obtain ⟨-, ⟨cellB, hcB, hoB, hclB⟩, hPc⟩ := hp
  intro T hT X
  rcases vx_callVX X hx (C := C) (hh := hh) (bytes := bytes) (maxL := maxL) (ret := ret) ho hl hin hse hcode hy hK (by rw [hT]; exact hcB) hoB hclB hg (hsize.trans hml.symm) (argsL := As) (rest := rest) (fun sig h => hn.trans (hlen sig h)) hstack hW (by rw [hb]; exact hdg)
    (fun vm₁ hW₁ => ⟨hf.1, hf.2, hPc (T.setVm vm₁) hT hW₁⟩) with ⟨v, vm₁, ⟨U', l2, c2, s2⟩, hW₁, X', ⟨g', mk, t, L, e1, e2, hq, h1, hL, h2, h3⟩, st⟩ | ⟨q, vm₁, ⟨U', l2, c2, s2⟩, hW₁, X', ⟨g', mk, t, L, E, ce, e1, e2, hq, hce, hcv, hcl, h1, hL, h2, h3⟩, st⟩
  · dsimp only [Pt.U, Pt.locs, Pt.cells, Pt.slots] at X' e1 e2 h1 h2 h3 st
    subst h1; subst h2; subst h3
    exact Or.inl ⟨v, (T.setVm vm₁).calling g' mk (Value.ref b :: As).toArray, t, U', L, hT, X', hL, e1, e2, hq, st⟩
  · dsimp only [Pt.U, Pt.locs, Pt.cells, Pt.slots] at X' e1 e2 h1 h2 h3 st hcl
    subst h1; subst h2; subst h3
    exact Or.inr ⟨q, (T.setVm vm₁).calling g' mk (Value.ref b :: As).toArray, t, U', L, E, ce, hT, X', hL, e1, e2, hq, hce, hcv, vx_cls hW₁ hcl, st⟩
theorem vx_runSX {hh : List (Nat × Nat × Nat × Nat)} (S : CallFix p m c cc nL s args Ts own) (hM : vx_Met l y ws rm Pc Qc XC mc ms free) (cw : vx_CSW R s args own index y bytes maxL ret hh ws rm mc ms n) (hp : PreS s H Pc As)
    (hg : g.method = m) (hn : As.length = n) (hsize : g.locals.size = nL) (hstack : g.stack = As.reverse ++ rest) (hW : 2 * g.monitorRoom + (rest.map fun v => v.category).sum ≤ 8) (hdg : decode cc g.pc = .ok (.invokestatic index, 3)) (hf : cells + mc ≤ R.cells ∧ slots + ms ≤ R.slots) :
    vx_Run p l e R s m args below meth c H locs cells slots mc ms g rest (Qc As.toArray) XC free := by
  obtain ⟨⟨hrc, hrs, hfr, hlo, hws, hcw⟩, hcode, hini, hy, hlen, hl, hstt⟩ := cw
  have hK : vx_Back l R p e below s args y 3 8 (PreOf R mc ms Pc) (PostOf Qc mc ms free) (vx_Post XC mc ms free) := vx_backW (hh := hh) (bytes := bytes) (maxL := maxL) (ret := ret) hM hp.1 hrc hrs hfr hlo hws hcw (fun a' U hW => word_at hW (Or.inl (by first | rfl | simp [Cond.onTables, Cond.keeps, Cond.steady])) hini)
  obtain ⟨hx, hb, hml, ho, -⟩ := S
  intro T hT X
  rcases vx_callSX X hx (hh := hh) (bytes := bytes) (maxL := maxL) (ret := ret) ho hl hstt hini hcode hy hK hg (hsize.trans hml.symm) (argsL := As) (rest := rest) (fun sig h => hn.trans (hlen sig h)) hstack hW (by rw [hb]; exact hdg)
    (fun vm₁ hW₁ => ⟨hf.1, hf.2, hp.2 (T.setVm vm₁) hT hW₁⟩) with ⟨v, vm₁, ⟨U', l2, c2, s2⟩, hW₁, X', ⟨g', mk, t, L, e1, e2, hq, h1, hL, h2, h3⟩, st⟩ | ⟨q, vm₁, ⟨U', l2, c2, s2⟩, hW₁, X', ⟨g', mk, t, L, E, ce, e1, e2, hq, hce, hcv, hcl, h1, hL, h2, h3⟩, st⟩
  · dsimp only [Pt.U, Pt.locs, Pt.cells, Pt.slots] at X' e1 e2 h1 h2 h3 st
    subst h1; subst h2; subst h3
    exact Or.inl ⟨v, (T.setVm vm₁).calling g' mk As.toArray, t, U', L, hT, X', hL, e1, e2, hq, st⟩
  · dsimp only [Pt.U, Pt.locs, Pt.cells, Pt.slots] at X' e1 e2 h1 h2 h3 st hcl
    subst h1; subst h2; subst h3
    exact Or.inr ⟨q, (T.setVm vm₁).calling g' mk As.toArray, t, U', L, E, ce, hT, X', hL, e1, e2, hq, hce, hcv, vx_cls hW₁ hcl, st⟩
end
end VXH
theorem vx_ofWH {l : Launch} {y : MethodName} {ws ws' : List Cond} {rm : Room} {Pc : Array Value → State → Prop} {Qc : Array Value → State → Outcome → State → Prop} {XC : String → State → State → Prop} {mc ms : Nat} {free : Addr → Prop} {cc : ByteArray} {maxL : Nat} {ret : Option FieldType} {hh : List (Nat × Nat × Nat × Nat)}
    (hy : plainName y.cls = true) (hw : ws = Cond.codeWith y cc maxL ret hh :: ws')
    (body : ∀ p e s m args below meth c s₁, BodyLoose p l y (headSpec ws rm) cc maxL ret e s m args below meth c s₁ → c.maxLocals = maxL → Pc args s →
      W p l e (headSpec ws rm).room s m args below meth c s.heap [] 0 0 (vx_MQ below Qc XC args s mc ms free) (entryFrame m args maxL)) : vx_Met l y ws rm Pc Qc XC mc ms free := by
  refine MetFree.of_bodyS (code := cc) (maxLocals := maxL) (ret := ret) hy ?_ ?_
  · intro args s m h hn
    obtain ⟨m9, meth, c, hn9, h1, h2, h3, h4, -, h5, h6, -⟩ := Cond.codeWith_spec (atoms_spec (ws := ws) h _ (by rw [hw]; exact List.mem_cons_self))
    cases hn.symm.trans hn9
    exact ⟨meth, c, h1, h2, h3, h4, h5, h6⟩
  · intro p e s m args below meth c s₁ B hml hP _
    have hh0 : s₁.heap = s.heap := by rw [B.state]; rfl
    obtain ⟨t, a1, o, b1, b2, b3⟩ := body p e s m args below meth c s₁ B hml hP s₁ hh0 (Stand.of_body B)
    exact ⟨t, o, a1, b1, b2, b3⟩
/-! ===== END ===== -/
/-! ===== BEGIN what the machine throws by itself, no traces kept ===== -/
section VXM
set_option maxHeartbeats 1000000 in
/-- the machine throws cls with the message text, no traces kept: from its note over the frame g to 'throwing' over the same frame (follows the proofs of Stand.vmThrowsMessage, Shelf/KitTracedVmS.lean, and Stand.throwsMessageColdBareV, StandMessageColdV.lean, without the step out of the frame) -/
theorem vx_vmAt {p : Program} {l : Launch} {e : Env} {R : Room} {s : State} {m₀ : MethodId} {args : Array Value} {below : List Frame} {meth : Method} {c : Code} {W : State} {locs : List Loc} {cells slots : Nat}
    (X : Stand p l e R s m₀ args below meth c W locs cells slots) (hexec : p.tables.exec = Jvm.exec) (htr : e.platform.stackTraces = false) {cls : String} {names : List String} {text : String}
    (hcls : Bundle.fit cls = true) (hnames : ∀ n ∈ names, Bundle.fit n = true) (hsoe : (cls == "java/lang/StackOverflowError") = false) (hoom : (cls == "java/lang/OutOfMemoryError") = false)
    (h : ∀ a ∈ Bundle.messageArmAtoms cls names, a.before args s = true)
    (hlocs : ∀ x ∈ locs, ∀ cell, s.heap[x.base]? = some cell → cell.vm.isStatics = false)
    (htext : (text == notModelled) = false) (hlimit : ¬ (stringBytes (stringToUtf16 text)).size > e.platform.arrayLengthLimit) (hheap : ¬ (stringBytes (stringToUtf16 text)).size * componentBytes .byte > e.platform.maxHeapBytes)
    {g : JFrame} (hg : g.method = m₀) (hsize : g.locals.size = c.maxLocals)
    (hRframes : names.length + 4 < R.frames) (hRlocals : 2 * g.monitorRoom + (g.stack.map fun v => v.category).sum + 10240 ≤ R.locals) (hshort : 13 * names.length + 55 ≤ 10240)
    (hRcells : cells + 3 ≤ R.cells) (hRslots : slots + ((stringBytes (stringToUtf16 text)).size + 4 + 6) ≤ R.slots) (hlocks : meth.locks = false) :
    ∃ (S : State) (q : Addr) (ce : Cell), (∀ target, Steps p.tables e below ((S.setTop g).pushFrame (.throwing q)) target → Steps p.tables e below ((W.setTop g).pushFrame (.throwNew cls (some text) none)) target) ∧
      Stand p l e R s m₀ args below meth c S locs (cells + 3) (slots + ((stringBytes (stringToUtf16 text)).size + 4 + 6)) ∧ S.heap[q]? = some ce ∧ s.vm.findClass cls = some ce.cls ∧ ce.vm = .none := by
  have howns : e.platform.frameOwnsMonitors = true := by rw [X.admits.platform]
  have hfin : e.platform.finalization = false := by rw [X.admits.platform]
  have hpl : e.platform.magicAccessors = ({} : Platform).magicAccessors := by rw [X.admits.platform]
  have a : ∀ x, x ∈ Bundle.messageArmAtoms cls names → x.holds args s none s [] = true := fun x hx => h x hx
  obtain ⟨T, Z0, L, -, Y⟩ := ThrowableC.of_atoms (args := args) howns hfin hpl (fun x hx => h x (by simp [Bundle.messageArmAtoms, hx]))
  obtain ⟨Z, M, LZ, LM, hnZ⟩ := Init0T.ofS_atoms (args := args) hpl L Y (fun x hx => h x (by simp [Bundle.messageArmAtoms, hx]))
  obtain ⟨P1, Ps, hlen, L1, hL, hP1m, hlink1, hlink⟩ := Bundle.chainS (args := args) hpl hnZ names cls hcls hnames (fun x hx => h x (by simp [Bundle.messageArmAtoms, hx]))
  obtain ⟨Zs, LZs, hn4, hfitv, hfitc⟩ := StringT.of_atoms (args := args) (fun x hx => h x (by simp [Bundle.messageArmAtoms, hx]))
  have hfound : s.vm.findClass cls = some P1.m.cls := findClass_of_methodNamed hP1m
  obtain ⟨c1, kX, hc1, hk, hord, -, -, hn6⟩ := Cond.instantiable_spec (a (.instantiable cls 6) (by simp [Bundle.messageArmAtoms]))
  cases Option.some.inj (hc1.symm.trans hfound)
  have hinit := Cond.initialized_spec hfound hk (a (.initialized cls) (by simp [Bundle.messageArmAtoms]))
  have hctor : kX.findMethod "<init>" "(Ljava/lang/String;)V" = some P1.m.idx := findMethod_of_methodNamed hP1m hk
  have hsel0 : selectMethod e.platform s.vm P1.m.cls T.fill0 = .method T.fill0 := by
    obtain ⟨c2, r2, m2, q1, q2, q3, q4, -⟩ := Cond.selects_spec (a (.selects cls Bundle.tFill0 Bundle.tFill0) (by simp [Bundle.messageArmAtoms]))
    cases Option.some.inj (q1.symm.trans hfound)
    cases Option.some.inj (q2.symm.trans (State.methodFound?_of_named Y.fill0 (by decide)))
    cases Option.some.inj (q3.symm.trans Y.fill0)
    rw [Launch.admits_selectMethod X.admits]; exact q4
  have hselF : selectMethod e.platform s.vm P1.m.cls T.fill = .method T.fill := by
    obtain ⟨c2, r2, m2, q1, q2, q3, q4, -⟩ := Cond.selects_spec (a (.selects cls Bundle.tFill Bundle.tFill) (by simp [Bundle.messageArmAtoms]))
    cases Option.some.inj (q1.symm.trans hfound)
    cases Option.some.inj (q2.symm.trans (State.methodFound?_of_named Y.fill (by decide)))
    cases Option.some.inj (q3.symm.trans Y.fill)
    rw [Launch.admits_selectMethod X.admits]; exact q4
  obtain ⟨cellS0, hcS0, hiss⟩ := Y.statics
  obtain ⟨u0, hu0⟩ := Cond.staticRefV Y.unassigned L.unassignedStatic L.statics hcS0 hiss (a (.isRef (.static Bundle.tN "UNASSIGNED_STACK" Bundle.steD)) (by simp [Bundle.messageArmAtoms]))
  obtain ⟨sen, hsen⟩ := Cond.staticRefV Y.sentinel L.sentinelStatic L.statics hcS0 hiss (a (.isRef (.static Bundle.tN "SUPPRESSED_SENTINEL" Bundle.listD)) (by simp [Bundle.messageArmAtoms]))
  obtain ⟨ci198, i198, fB, hk198, hg198, ha198, hsB, -, hnB, htB, hffB⟩ := Cond.ownField (t := .object "java/lang/Object") Y.found L.cls (by decide +kernel) (a (.fieldLink Bundle.tN 198 Bundle.tN "backtrace" "Ljava/lang/Object;") (by simp [Bundle.messageArmAtoms])) (a (.lays Bundle.tN Bundle.tN "backtrace" "Ljava/lang/Object;") (by simp [Bundle.messageArmAtoms])) e.platform hpl
  obtain ⟨cellS, hcS', heS, -, hkeep⟩ := X.same.2.2.2.2.2 T.aS cellS0 hcS0
  have hcellS : W.heap[T.aS]? = some cellS := hcS'
  have hout' : ∀ i, (⟨T.aS, i⟩ : Loc) ∉ locs := fun i hmem => by
    have := hlocs _ hmem cellS0 hcS0
    rw [hiss] at this; cases this
  have hknownS : cellS.vm ≠ .unknown := by
    rw [heS]; intro hu
    rw [show cellS0.vm = .unknown from hu] at hiss
    cases hiss
  have hvU : cellS.slots[T.fUnassigned.slot]? = some u0.v := by rw [hkeep _ (hout' _)]; exact hu0
  have hvSen : cellS.slots[T.fSentinel.slot]? = some sen.v := by rw [hkeep _ (hout' _)]; exact hsen
  obtain ⟨iM, hffM⟩ := Y.msg
  obtain ⟨tyC, dC, hdC, hdnC⟩ := Cond.laysAt hfound hk Y.cause (a (.lays cls Bundle.tN "cause" "Ljava/lang/Throwable;") (by simp [Bundle.messageArmAtoms]))
  obtain ⟨tyS, dS, hdS, hdnS⟩ := Cond.laysAt hfound hk Y.stack (a (.lays cls Bundle.tN "stackTrace" Bundle.steD) (by simp [Bundle.messageArmAtoms]))
  obtain ⟨tyP, dP, hdP, hdnP⟩ := Cond.laysAt hfound hk Y.supp (a (.lays cls Bundle.tN "suppressedExceptions" Bundle.listD) (by simp [Bundle.messageArmAtoms]))
  obtain ⟨tyM, dM, hdM, hdnM⟩ := Cond.laysAt hfound hk hffM (a (.lays cls Bundle.tN "detailMessage" "Ljava/lang/String;") (by simp [Bundle.messageArmAtoms]))
  obtain ⟨tyB, dB, hdB, hdnB⟩ := Cond.laysAt hfound hk hffB (a (.lays cls Bundle.tN "backtrace" "Ljava/lang/Object;") (by simp [Bundle.messageArmAtoms]))
  have bC := Cond.laysApart hdB hdC hdnB hdnC (by rw [hnB, Y.causeName]; decide)
  have bS := Cond.laysApart hdB hdS hdnB hdnS (by rw [hnB, Y.stackName]; decide)
  have bP := Cond.laysApart hdB hdP hdnB hdnP (by rw [hnB, Y.suppName]; decide)
  have hbk : ((preparedCellV T.toThrowableT (freshCell P1.m.cls kX) (W.heap.size + 2) u0 sen).withEntry W.cur).slots[fB.slot]? = some .null := by
    have := fresh_default (c := P1.m.cls) tyB
    rw [htB] at this
    simpa [preparedCellV, Cell.setSlot, Cell.withEntry, Array.getElem?_setIfInBounds, bC, bS, bP, bC.symm, bS.symm, bP.symm, defaultValue] using this
  have tkC := Takes.of_laid (v := .ref (W.heap.size + 2)) hk hord tyC (by rw [Y.causeType]; rfl)
  have tkS := Takes.of_laid (v := u0.v) hk hord tyS (by rw [Y.stackType]; exact fits_refV_array _ u0)
  have tkP := Takes.of_laid (v := sen.v) hk hord tyP (by rw [Y.suppType]; exact fits_refV_object _ sen)
  have tkM := Takes.of_laid (v := .ref (W.heap.size + 1)) hk hord tyM (by rw [Y.msgType]; rfl)
  have hskip : SkipFacts T e.platform s (fun u => u) u0 ((preparedCellV T.toThrowableT (freshCell P1.m.cls kX) (W.heap.size + 2) u0 sen).withEntry W.cur) := ⟨{ ci198 := ci198, i198 := i198, fBack := fB }, ⟨hk198, hg198, ha198, hsB⟩, hbk, fun _ _ => rfl⟩
  have h0 : At W g.method c below := by rw [hg]; exact X.here
  obtain ⟨hbeyond, hfreeW⟩ := X.vmMayThrow hsize (.throwNew cls (some text) none) (fun f hf => by cases hf) rfl hRlocals
  have hfr' : W.frames.length + Ps.length + 4 < (e.platform.stackLimits W.me).1 := by have := X.framesAbove hRframes; omega
  have hwd' : (stackUse (.java g :: W.frames.tail)).2 + 13 * Ps.length + 55 ≤ (e.platform.stackLimits W.me).2 := by have := X.stackAbove hsize (K := 13 * Ps.length + 55) (by omega); omega
  have hslots : W.slotsUsed + (stringBytes (stringToUtf16 text)).size + Zs.kS.instanceTypes.size + kX.instanceTypes.size ≤ e.platform.maxSlots := by
    have := X.slotsAbove hRslots
    rw [hn4, hn6]
    omega
  obtain ⟨vm', hW', st⟩ := Steps.vmThrowsMessageColdByV p (s₀ := s) (S := W) (g := g) h0 hexec T L Z LZ M LM X.warmed (t := W.cur) rfl Zs LZs P1 L1 Ps hL hlink1 hlink hsoe hoom hfound hk hinit hord hctor
    (Launch.admits_hotImplicitExceptions X.admits) hbeyond hfreeW htext hlimit hheap (X.cellsAbove hRcells) hslots (hfitv _) (hfitc _)
    (Nn := fun u => u) heapOnly_id (fun _ _ => rfl) (fun _ => rfl) (fun u x y => setCell_twice _ _ _ _) (fun _ => Nat.le_refl _) (cN := ((preparedCellV T.toThrowableT (freshCell P1.m.cls kX) (W.heap.size + 2) u0 sen).withEntry W.cur))
    hsel0 hcellS hknownS hvU tkS (fun _ hu => hu) (fun _ hu => hu) rfl rfl rfl (by simp [preparedCellV, Cell.setSlot, Cell.withEntry]) hskip (fun _ _ hA hW _ hroom _ hrest => L.nativeOff p htr hA hW hroom hrest) hselF hvSen tkC tkP tkM Y.objLocals rfl hfr' hwd'
  rw [plainBareV_eq T.toThrowableT (W.heap.size + 2) u0 sen (.ref (W.heap.size + 1)) W.cur rfl rfl] at st
  obtain ⟨-, -, w3, w4, -, -, -⟩ := withThrown_facts e.platform W Zs text P1.m.cls kX
  have X3 := ((X.pushed (bytesOf Zs.cB (stringToUtf16 text))).pushed (stringAt Zs.cS Zs.kS Zs.fv Zs.fc (stringToUtf16 text) W.heap.size)).pushed (freshCell P1.m.cls kX)
  rw [← withString_eq] at X3
  have X4 := X3.noted hW'
  have ha : (W.heap.size + 2) < ((withThrown W Zs text P1.m.cls kX).setVm vm').heap.size := by show _ < (withThrown W Zs text P1.m.cls kX).heap.size; rw [w3]; omega
  have hcell : ((withThrown W Zs text P1.m.cls kX).setVm vm').heap[(W.heap.size + 2)]? = some (freshCell P1.m.cls kX) := w4
  have X5 := ((((X4.stored hcell T.fCause.slot (.ref (W.heap.size + 2))).storedAgain ha T.fStack.slot u0.v).storedAgain ha T.fSupp.slot sen.v).storedAgain ha T.fStack.slot u0.v).storedAgain ha T.fMsg.slot (.ref (W.heap.size + 1))
  obtain ⟨g₁, hfrM⟩ := X5.frames_eq
  have hU : ((((withThrown W Zs text P1.m.cls kX).setVm vm').setCell (W.heap.size + 2) (plainBareV T.toThrowableT (freshCell P1.m.cls kX) (W.heap.size + 2) u0 sen (.ref (W.heap.size + 1)))).setTop g).pushFrame (.throwing (W.heap.size + 2)) = (((withThrown W Zs text P1.m.cls kX).setVm vm').setCell (W.heap.size + 2) (plainBareV T.toThrowableT (freshCell P1.m.cls kX) (W.heap.size + 2) u0 sen (.ref (W.heap.size + 1)))).setFrames (.throwing (W.heap.size + 2) :: .java g :: below) := by
    rw [State.pushFrame, State.frames_setTop _ hfrM, State.setTop_of_frames _ hfrM, State.setFrames_setFrames]
  have b1 : (bytesOf Zs.cB (stringToUtf16 text)).slots.size = (stringBytes (stringToUtf16 text)).size := by
    rw [(Cell.writeAll_facts _ _).2.2]; simp [bytes0]
  have b2 : (stringAt Zs.cS Zs.kS Zs.fv Zs.fc (stringToUtf16 text) W.heap.size).slots.size = 4 := by simp [string0, Cell.setSlot, hn4]
  have b3 : (freshCell P1.m.cls kX).slots.size = 6 := by simp [hn6]
  rw [b1, b2, b3] at X5
  have e9 : slots + (stringBytes (stringToUtf16 text)).size + 4 + 6 = slots + ((stringBytes (stringToUtf16 text)).size + 4 + 6) := by omega
  rw [e9] at X5
  simp only [List.append_assoc, List.cons_append, List.nil_append] at X5
  refine ⟨((withThrown W Zs text P1.m.cls kX).setVm vm').setCell (W.heap.size + 2) (plainBareV T.toThrowableT (freshCell P1.m.cls kX) (W.heap.size + 2) u0 sen (.ref (W.heap.size + 1))), W.heap.size + 2, _, fun target ht => st _ (by rw [X.tail, ← hU]; exact ht),
    X5.forget (fun y hy => ?_), heapAt_setCell_self _ ha, hfound, rfl⟩
  simp only [List.mem_cons, List.not_mem_nil, or_false] at hy
  have hge : s.heap.size ≤ W.heap.size := X.same.2.1
  rcases hy with rfl | rfl | rfl | rfl | rfl <;> exact Nat.le_trans hge (Nat.le_add_right _ 2)
set_option maxHeartbeats 1000000 in
/-- the machine throws NullPointerException, no traces kept: from its note over the frame g to 'throwing' over the same frame (follows the proof of Stand.vmThrowsNpe, Shelf42/KT2.lean; throwsNpeColdBareVAt, Shelf42/NT91.lean, called) -/
theorem vx_npeAt {p : Program} {l : Launch} {e : Env} {R : Room} {s : State} {m₀ : MethodId} {args : Array Value} {below : List Frame} {meth : Method} {c : Code} {W : State} {locs : List Loc} {cells slots : Nat}
    (X : Stand p l e R s m₀ args below meth c W locs cells slots) (hexec : p.tables.exec = Jvm.exec) (htr : e.platform.stackTraces = false) {n : Nat}
    (h : ∀ a ∈ Bundle.npeArmAtoms n, a.before args s = true)
    (hlocs : ∀ x ∈ locs, ∀ cell, s.heap[x.base]? = some cell → cell.vm.isStatics = false)
    {g : JFrame} (hg : g.method = m₀) (hsize : g.locals.size = c.maxLocals)
    (hRframes : 7 < R.frames) (hRlocals : 2 * g.monitorRoom + (g.stack.map fun v => v.category).sum + 10240 ≤ R.locals)
    (hRcells : cells + 1 ≤ R.cells) (hRslots : slots + n ≤ R.slots) (hlocks : meth.locks = false) :
    ∃ (S : State) (q : Addr) (ce : Cell), (∀ target, Steps p.tables e below ((S.setTop g).pushFrame (.throwing q)) target → Steps p.tables e below ((W.setTop g).pushFrame (.throwNew "java/lang/NullPointerException" none none)) target) ∧
      Stand p l e R s m₀ args below meth c S locs (cells + 1) (slots + n) ∧ S.heap[q]? = some ce ∧ s.vm.findClass "java/lang/NullPointerException" = some ce.cls ∧ ce.vm = .none := by
  have howns : e.platform.frameOwnsMonitors = true := by rw [X.admits.platform]
  have hfin : e.platform.finalization = false := by rw [X.admits.platform]
  have hpl : e.platform.magicAccessors = ({} : Platform).magicAccessors := by rw [X.admits.platform]
  have hpl2 : e.platform.arrayCloneIsPublic = true := by rw [X.admits.platform]
  have a' : ∀ x, x ∈ Bundle.npeArmAtoms n → x.holds args s none s [] = true := fun x hx => h x hx
  obtain ⟨T, Z, L, LZ, Y⟩ := ThrowableC.of_atoms (args := args) howns hfin hpl (fun x hx => h x (by simp [Bundle.npeArmAtoms, hx]))
  obtain ⟨N, LN, hcN, hnNF, hordN, hffS⟩ := NpeC.of_atoms (args := args) hpl hpl2 L Y (fun x hx => h x (by simp [Bundle.npeArmAtoms, hx]))
  obtain ⟨P1, L1, hP1m, hP1s⟩ := PassC.of_atoms (args := args) (s := s) hpl (X := Bundle.nN) (Y := Bundle.rN) (by decide) (by decide) LibCode.NullPointerException.Init0.at_0 LibCode.NullPointerException.Init0.at_1 LibCode.NullPointerException.Init0.at_4 (fun x hx => h x (by simp [Bundle.npeArmAtoms, hx]))
  obtain ⟨PR, LR, hPRm, hPRs⟩ := PassC.of_atoms (args := args) (s := s) hpl (X := Bundle.rN) (Y := Bundle.eN) (by decide) (by decide) LibCode.RuntimeException.Init0.at_0 LibCode.RuntimeException.Init0.at_1 LibCode.RuntimeException.Init0.at_4 (fun x hx => h x (by simp [Bundle.npeArmAtoms, hx]))
  obtain ⟨PE, LEx, hPEm, hPEs⟩ := PassC.of_atoms (args := args) (s := s) hpl (X := Bundle.eN) (Y := Bundle.tN) (by decide) (by decide) LibCode.Exception.Init0.at_0 LibCode.Exception.Init0.at_1 LibCode.Exception.Init0.at_4 (fun x hx => h x (by simp [Bundle.npeArmAtoms, hx]))
  have hfound : s.vm.findClass Bundle.nN = some P1.m.cls := findClass_of_methodNamed hP1m
  have ecls : N.cN = P1.m.cls := Option.some.inj (hcN.symm.trans hfound)
  have hk : s.vm.classes[P1.m.cls]? = some N.kN := by rw [← ecls]; exact LN.cls
  have hinit := Cond.initialized_spec hfound hk (a' (.initialized Bundle.nN) (by simp [Bundle.npeArmAtoms]))
  have hctor : N.kN.findMethod "<init>" "()V" = some P1.m.idx := findMethod_of_methodNamed hP1m hk
  obtain ⟨c1, k1, hc1, hk1, -, -, -, hn⟩ := Cond.instantiable_spec (a' (.instantiable Bundle.nN n) (by simp [Bundle.npeArmAtoms]))
  cases Option.some.inj (hc1.symm.trans hfound)
  cases Option.some.inj (hk1.symm.trans hk)
  have hfsz : (freshCell P1.m.cls N.kN).slots.size = n := by simp [hn]
  have hlink1 : P1.sup = PR.m := Option.some.inj (hP1s.symm.trans hPRm)
  have hlinkR : PR.sup = PE.m := Option.some.inj (hPRs.symm.trans hPEm)
  have hlinkE : PE.sup = Z.m T.toThrowableT := Option.some.inj (hPEs.symm.trans Y.init0)
  have hLs : ∀ P, P ∈ [PR, PE] → P.Links0 e.platform s := fun P hP => by
    simp only [List.mem_cons, List.not_mem_nil, or_false] at hP
    rcases hP with rfl | rfl
    · exact LR
    · exact LEx
  have hsel0 : selectMethod e.platform s.vm P1.m.cls T.fill0 = .method T.fill0 := by
    obtain ⟨c2, r2, m2, q1, q2, q3, q4, -⟩ := Cond.selects_spec (a' (.selects Bundle.nN Bundle.tFill0 Bundle.tFill0) (by simp [Bundle.npeArmAtoms]))
    cases Option.some.inj (q1.symm.trans hfound)
    cases Option.some.inj (q2.symm.trans (State.methodFound?_of_named Y.fill0 (by decide)))
    cases Option.some.inj (q3.symm.trans Y.fill0)
    rw [Launch.admits_selectMethod X.admits]; exact q4
  have hselF : selectMethod e.platform s.vm P1.m.cls T.fill = .method N.fill := by
    obtain ⟨c2, r2, m2, q1, q2, q3, q4, -⟩ := Cond.selects_spec (a' (.selects Bundle.nN Bundle.tFill Bundle.nFill) (by simp [Bundle.npeArmAtoms]))
    cases Option.some.inj (q1.symm.trans hfound)
    cases Option.some.inj (q2.symm.trans (State.methodFound?_of_named Y.fill (by decide)))
    cases Option.some.inj (q3.symm.trans hnNF)
    rw [Launch.admits_selectMethod X.admits]; exact q4
  obtain ⟨cellS0, hcS0, hiss⟩ := Y.statics
  obtain ⟨u0, hu0⟩ := Cond.staticRefV Y.unassigned L.unassignedStatic L.statics hcS0 hiss (a' (.isRef (.static Bundle.tN "UNASSIGNED_STACK" Bundle.steD)) (by simp [Bundle.npeArmAtoms]))
  obtain ⟨sen, hsen⟩ := Cond.staticRefV Y.sentinel L.sentinelStatic L.statics hcS0 hiss (a' (.isRef (.static Bundle.tN "SUPPRESSED_SENTINEL" Bundle.listD)) (by simp [Bundle.npeArmAtoms]))
  obtain ⟨ci198, i198, fB, hk198, hg198, ha198, hsB, -, hnB, htB, hffB⟩ := Cond.ownField (t := .object "java/lang/Object") Y.found L.cls (by decide +kernel) (a' (.fieldLink Bundle.tN 198 Bundle.tN "backtrace" Bundle.objD) (by simp [Bundle.npeArmAtoms])) (a' (.lays Bundle.tN Bundle.tN "backtrace" Bundle.objD) (by simp [Bundle.npeArmAtoms])) e.platform hpl
  obtain ⟨cellS, hcS', heS, -, hkeep⟩ := X.same.2.2.2.2.2 T.aS cellS0 hcS0
  have hcellS : W.heap[T.aS]? = some cellS := hcS'
  have hout' : ∀ i, (⟨T.aS, i⟩ : Loc) ∉ locs := fun i hmem => by
    have := hlocs _ hmem cellS0 hcS0
    rw [hiss] at this; cases this
  have hknownS : cellS.vm ≠ .unknown := by
    rw [heS]; intro hu
    rw [show cellS0.vm = .unknown from hu] at hiss
    cases hiss
  have hvU : cellS.slots[T.fUnassigned.slot]? = some u0.v := by rw [hkeep _ (hout' _)]; exact hu0
  have hvSen : cellS.slots[T.fSentinel.slot]? = some sen.v := by rw [hkeep _ (hout' _)]; exact hsen
  obtain ⟨tyC, dC, hdC, hdnC⟩ := Cond.laysAt hfound hk Y.cause (a' (.lays Bundle.nN Bundle.tN "cause" "Ljava/lang/Throwable;") (by simp [Bundle.npeArmAtoms]))
  obtain ⟨tyS, dS, hdS, hdnS⟩ := Cond.laysAt hfound hk Y.stack (a' (.lays Bundle.nN Bundle.tN "stackTrace" Bundle.steD) (by simp [Bundle.npeArmAtoms]))
  obtain ⟨tyP, dP, hdP, hdnP⟩ := Cond.laysAt hfound hk Y.supp (a' (.lays Bundle.nN Bundle.tN "suppressedExceptions" Bundle.listD) (by simp [Bundle.npeArmAtoms]))
  obtain ⟨tyX, dX, hdX, hdnX⟩ := Cond.laysAt hfound hk hffS (a' (.lays Bundle.nN Bundle.nN "extendedMessageState" "I") (by simp [Bundle.npeArmAtoms, Bundle.npeAtoms]))
  obtain ⟨hnX, htX⟩ := State.fieldFound?_type hffS (t := .int) (by decide +kernel)
  have xC := Cond.laysApart hdC hdX hdnC hdnX (by rw [hnX, Y.causeName]; decide)
  have xS := Cond.laysApart hdS hdX hdnS hdnX (by rw [hnX, Y.stackName]; decide)
  have xP := Cond.laysApart hdP hdX hdnP hdnX (by rw [hnX, Y.suppName]; decide)
  have hv0 : (freshCell P1.m.cls N.kN).slots[N.fState.slot]? = some (.int 0) := by
    have := fresh_default (c := P1.m.cls) tyX
    rw [htX] at this; exact this
  obtain ⟨tyB, dB, hdB, hdnB⟩ := Cond.laysAt hfound hk hffB (a' (.lays Bundle.nN Bundle.tN "backtrace" Bundle.objD) (by simp [Bundle.npeArmAtoms]))
  have bC := Cond.laysApart hdB hdC hdnB hdnC (by rw [hnB, Y.causeName]; decide)
  have bS := Cond.laysApart hdB hdS hdnB hdnS (by rw [hnB, Y.stackName]; decide)
  have bP := Cond.laysApart hdB hdP hdnB hdnP (by rw [hnB, Y.suppName]; decide)
  have bX := Cond.laysApart hdB hdX hdnB hdnX (by rw [hnB, hnX]; decide)
  have hbk : ((npeCell N.toNpeT (preparedCellV T.toThrowableT (freshCell P1.m.cls N.kN) W.heap.size u0 sen) W.cur).withEntry W.cur).slots[fB.slot]? = some .null := by
    have := fresh_default (c := P1.m.cls) tyB
    rw [htB] at this
    simpa [npeCell, preparedCellV, Cell.setSlot, Cell.withEntry, Array.getElem?_setIfInBounds, bC, bS, bP, bX, bC.symm, bS.symm, bP.symm, bX.symm, defaultValue] using this
  have tkC := Takes.of_laid (v := .ref W.heap.size) hk hordN tyC (by rw [Y.causeType]; rfl)
  have tkS := Takes.of_laid (v := u0.v) hk hordN tyS (by rw [Y.stackType]; exact fits_refV_array _ u0)
  have tkP := Takes.of_laid (v := sen.v) hk hordN tyP (by rw [Y.suppType]; exact fits_refV_object _ sen)
  have tkX := Takes.of_laid (v := .int 1) hk hordN tyX (by rw [htX]; rfl)
  have hskip : SkipFacts T e.platform s (fun u => u) u0 ((npeCell N.toNpeT (preparedCellV T.toThrowableT (freshCell P1.m.cls N.kN) W.heap.size u0 sen) W.cur).withEntry W.cur) := ⟨{ ci198 := ci198, i198 := i198, fBack := fB }, ⟨hk198, hg198, ha198, hsB⟩, hbk, fun _ _ => rfl⟩
  obtain ⟨vm', X3, st, -⟩ := X.throwsNpeColdBareVAt hexec hg hsize T L Z LZ N LN P1 L1 [PR, PE] hLs hlink1 ⟨hlinkR, hlinkE, trivial⟩ hfound hk hinit hordN hctor hsel0 hselF hcellS hknownS hvU hvSen
    hv0 xC xS xP tkC tkS tkP tkX Y.objLocals hskip (fun _ _ hA hW _ hroom _ hrest => L.nativeOff p htr hA hW hroom hrest) (by simpa using hRframes) hRlocals (by simp) hRcells (by rw [hn]; exact hRslots)
  have hlt : W.heap.size < ((W.pushCell (freshCell P1.m.cls N.kN)).setVm vm').heap.size := by
    show W.heap.size < (W.pushCell (freshCell P1.m.cls N.kN)).heap.size
    rw [State.heap_size_pushCell]; omega
  rw [hfsz] at X3
  obtain ⟨g₁, hfrM⟩ := X3.frames_eq
  have hU : ((((W.pushCell (freshCell P1.m.cls N.kN)).setVm vm').setCell W.heap.size (npeBareV T.toThrowableT N.toNpeT (freshCell P1.m.cls N.kN) W.heap.size u0 sen)).setTop g).pushFrame (.throwing W.heap.size) = (((W.pushCell (freshCell P1.m.cls N.kN)).setVm vm').setCell W.heap.size (npeBareV T.toThrowableT N.toNpeT (freshCell P1.m.cls N.kN) W.heap.size u0 sen)).setFrames (.throwing W.heap.size :: .java g :: below) := by
    rw [State.pushFrame, State.frames_setTop _ hfrM, State.setTop_of_frames _ hfrM, State.setFrames_setFrames]
  refine ⟨_, W.heap.size, _, fun target ht => st.trans (by rw [← hU]; exact ht), X3.forget (fun y hy => ?_), heapAt_setCell_self _ hlt, hfound, rfl⟩
  simp only [List.mem_cons, List.not_mem_nil, or_false] at hy
  have hge : s.heap.size ≤ W.heap.size := X.same.2.1
  rcases hy with rfl | rfl | rfl | rfl | rfl <;> exact hge
/-- the words of a machine's NullPointerException, but the four that speak of the heap -/
def vx_atN (n : Nat) : List Cond := (Bundle.npeArmAtoms n).filter vx_no
/-- the words of a machine's throw with a message, but the four that speak of the heap -/
def vx_atM (X : String) (names : List String) : List Cond := (Bundle.messageArmAtoms X names).filter vx_no
section
variable {p : Program} {l : Launch} {e : Env} {R : Room} {s : State} {m : MethodId} {args : Array Value} {below : List Frame} {meth : Method} {c : Code} {H : Heap} {locs : List Loc} {cells slots : Nat}
/-- a frame seen from a rebased start, seen from the first start again -/
theorem vx_back9 {T S : State} {R' : Room} {k n : Nat} (X : Stand p l e R s m args below meth c T locs cells slots) (Y : Stand p l e R' ((T.setVm s.vm).setFrames (.invoking m args :: below)) m args below meth c T [] 0 0) (Z : Stand p l e R' ((T.setVm s.vm).setFrames (.invoking m args :: below)) m args below meth c S [] k n) :
    Stand p l e R s m args below meth c S locs (cells + k) (slots + n) := by
  have hW0 : s.WarmedH ((T.setVm s.vm).setFrames (.invoking m args :: below)).vm := State.WarmedH.refl s
  refine { admits := X.admits, cas := X.cas, clock := X.clock, frames := X.frames, room := X.room, hears := X.hears, method := X.method, code := X.code, here := Z.here, tail := Z.tail, warmed := State.WarmedH.trans hW0 Z.warmed, limits := Z.limits.trans (Y.limits.symm.trans X.limits), bytes := Z.bytes.trans (Y.bytes.symm.trans X.bytes), same := ?_ }
  obtain ⟨e1, e2⟩ := Z.same
  rw [State.setFrames_setFrames] at e1
  have h2 : (T.setVm s.vm).sameButNew (S.setVm s.vm) [] k n := ⟨e1, e2⟩
  have h3 := X.same.trans h2
  rw [List.append_nil] at h3
  exact h3
/-- from the machine's note that E is thrown here with this text -/
def vx_Note (p : Program) (l : Launch) (e : Env) (R : Room) (s : State) (m : MethodId) (args : Array Value) (below : List Frame) (meth : Method) (c : Code) (H : Heap) (locs : List Loc) (cells slots : Nat) (Q : State → Prop) (g : JFrame) (E text : String) : Prop :=
  ∀ T : State, T.heap = H → Stand p l e R s m args below meth c T locs cells slots → ∃ t, Steps p.tables e below ((T.setTop g).pushFrame (.throwNew E (some text) none)) t ∧ Q t
theorem vx_vm {pc : Nat} {ls : Array Slot} {rest : List Value} {Q : State → Prop} (hexec : p.tables.exec = Jvm.exec) (hl : l.stackTraces = false) {cls text : String} {names : List String} {nb : Nat} {A : Nat → Prop}
    (hcls : Bundle.fit cls = true) (hnames : ∀ n ∈ names, Bundle.fit n = true) (hsoe : (cls == "java/lang/StackOverflowError") = false) (hoom : (cls == "java/lang/OutOfMemoryError") = false)
    (hat : ∀ w ∈ vx_atM cls names, w.before args s = true) (hgood : ∀ w ∈ vx_atM cls names, vx_ot w = true)
    (hU : vx_Zq Bundle.tN "UNASSIGNED_STACK" Bundle.steD A s s.heap) (hN : vx_Zq Bundle.tN "SUPPRESSED_SENTINEL" Bundle.listD A s s.heap) (hS : va_S A s.heap H locs) (hsize : ls.size = c.maxLocals)
    (htext : (text == notModelled) = false) (hnb : (stringBytes (stringToUtf16 text)).size ≤ nb) (hnb1 : nb ≤ 1000)
    (hRframes : names.length + 4 < R.frames) (hRlocals : (rest.map fun v => v.category).sum + 10240 ≤ R.locals) (hshort : 13 * names.length + 55 ≤ 10240) (hRcells : cells + 3 ≤ R.cells) (hRslots : slots + (nb + 10) ≤ R.slots) (hlocks : meth.locks = false)
    (k : ∀ (H1 : Heap) (q9 : Addr) (ce : Cell), H.size ≤ H1.size → (∀ q : Nat, q < H.size → H1[q]? = H[q]?) → va_S A s.heap H1 locs → H1[q9]? = some ce → ce.vm = .none → s.vm.findClass cls = some ce.cls → vx_W p l e R s m args below meth c H1 locs (cells + 3) (slots + (nb + 10)) Q (F0 m pc ls rest) q9) :
    vx_Note p l e R s m args below meth c H locs cells slots Q (F0 m pc ls rest) cls text := by
  intro T hT X
  have htr : e.platform.stackTraces = false := (show e.platform.stackTraces = l.stackTraces by rw [X.admits.platform]).trans hl
  have Y := vx_rebase X (R' := { frames := R.frames, locals := R.locals, cells := 3, slots := nb + 10 }) (Nat.le_refl _) (Nat.le_refl _) hRcells hRslots
  have hhp : ((T.setVm s.vm).setFrames (.invoking m args :: below)).heap = H := hT
  have hW0 : s.WarmedH ((T.setVm s.vm).setFrames (.invoking m args :: below)).vm := State.WarmedH.refl s
  have hat' : ∀ w ∈ vx_atM cls names, w.before args ((T.setVm s.vm).setFrames (.invoking m args :: below)) = true := fun w hw => vx_ot_at hW0 rfl (hgood w hw) (hat w hw)
  have hU' : vx_Zq Bundle.tN "UNASSIGNED_STACK" Bundle.steD A ((T.setVm s.vm).setFrames (.invoking m args :: below)) ((T.setVm s.vm).setFrames (.invoking m args :: below)).heap := by rw [hhp]; exact vx_Zq.moved hW0.alike (hU.kept hS.2.1)
  have hN' : vx_Zq Bundle.tN "SUPPRESSED_SENTINEL" Bundle.listD A ((T.setVm s.vm).setFrames (.invoking m args :: below)) ((T.setVm s.vm).setFrames (.invoking m args :: below)).heap := by rw [hhp]; exact vx_Zq.moved hW0.alike (hN.kept hS.2.1)
  obtain ⟨S, q, ce, st, Z, hce, hcl', hv⟩ := vx_vmAt Y hexec htr (cls := cls) (names := names) (text := text) hcls hnames hsoe hoom (vx_own hat' (vx_isRefq hU'.1) (vx_isRefq hN'.1) hU'.2.word hN'.2.word) (fun x hx => nomatch hx) htext
    (by rw [Launch.admits_arrayLengthLimit X.admits]; omega) (by rw [Launch.admits_maxHeapBytes X.admits]; simp only [componentBytes]; omega)
    (g := F0 m pc ls rest) rfl hsize hRframes (by show 2 * 0 + (rest.map fun v => v.category).sum + 10240 ≤ R.locals; omega) hshort (by show 0 + 3 ≤ 3; omega) (by show 0 + (_ + 4 + 6) ≤ nb + 10; omega) hlocks
  obtain ⟨f1, f2⟩ := vx_frame Z.same
  have f1' : H.size ≤ S.heap.size := by rw [← hT]; exact f1
  have f2' : ∀ q : Nat, q < H.size → S.heap[q]? = H[q]? := fun q hq => by
    rw [← hT]
    exact f2 q (by rw [← hT] at hq; exact hq) (fun z hz => nomatch hz)
  have X5 := vx_back9 X Y Z
  have X6 : Stand p l e R s m args below meth c S locs (cells + 3) (slots + (nb + 10)) := { X5 with same := X5.same.mono (by omega) (by omega) }
  obtain ⟨t, a1, b1⟩ := k S.heap q ce f1' f2' ⟨Nat.le_trans hS.1 f1', fun q h1 h2 => (f2' q (Nat.lt_of_lt_of_le h1 hS.1)).trans (hS.2.1 q h1 h2), hS.2.2⟩ hce hv hcl' S rfl X6
  exact ⟨t, st t a1, b1⟩
/-- from the machine's note that NullPointerException is thrown here -/
def vx_NoteN (p : Program) (l : Launch) (e : Env) (R : Room) (s : State) (m : MethodId) (args : Array Value) (below : List Frame) (meth : Method) (c : Code) (H : Heap) (locs : List Loc) (cells slots : Nat) (Q : State → Prop) (g : JFrame) : Prop :=
  ∀ T : State, T.heap = H → Stand p l e R s m args below meth c T locs cells slots → ∃ t, Steps p.tables e below ((T.setTop g).pushFrame (.throwNew "java/lang/NullPointerException" none none)) t ∧ Q t
theorem vx_npe {pc : Nat} {ls : Array Slot} {rest : List Value} {Q : State → Prop} (hexec : p.tables.exec = Jvm.exec) (hl : l.stackTraces = false) {nb : Nat} {A : Nat → Prop}
    (hat : ∀ w ∈ vx_atN nb, w.before args s = true) (hgood : ∀ w ∈ vx_atN nb, vx_ot w = true)
    (hU : vx_Zq Bundle.tN "UNASSIGNED_STACK" Bundle.steD A s s.heap) (hN : vx_Zq Bundle.tN "SUPPRESSED_SENTINEL" Bundle.listD A s s.heap) (hS : va_S A s.heap H locs) (hsize : ls.size = c.maxLocals)
    (hRframes : 7 < R.frames) (hRlocals : (rest.map fun v => v.category).sum + 10240 ≤ R.locals) (hRcells : cells + 1 ≤ R.cells) (hRslots : slots + nb ≤ R.slots) (hlocks : meth.locks = false)
    (k : ∀ (H1 : Heap) (q9 : Addr) (ce : Cell), H.size ≤ H1.size → (∀ q : Nat, q < H.size → H1[q]? = H[q]?) → va_S A s.heap H1 locs → H1[q9]? = some ce → ce.vm = .none → s.vm.findClass "java/lang/NullPointerException" = some ce.cls → vx_W p l e R s m args below meth c H1 locs (cells + 1) (slots + nb) Q (F0 m pc ls rest) q9) :
    vx_NoteN p l e R s m args below meth c H locs cells slots Q (F0 m pc ls rest) := by
  intro T hT X
  have htr : e.platform.stackTraces = false := (show e.platform.stackTraces = l.stackTraces by rw [X.admits.platform]).trans hl
  have Y := vx_rebase X (R' := { frames := R.frames, locals := R.locals, cells := 1, slots := nb }) (Nat.le_refl _) (Nat.le_refl _) hRcells hRslots
  have hhp : ((T.setVm s.vm).setFrames (.invoking m args :: below)).heap = H := hT
  have hW0 : s.WarmedH ((T.setVm s.vm).setFrames (.invoking m args :: below)).vm := State.WarmedH.refl s
  have hat' : ∀ w ∈ vx_atN nb, w.before args ((T.setVm s.vm).setFrames (.invoking m args :: below)) = true := fun w hw => vx_ot_at hW0 rfl (hgood w hw) (hat w hw)
  have hU' : vx_Zq Bundle.tN "UNASSIGNED_STACK" Bundle.steD A ((T.setVm s.vm).setFrames (.invoking m args :: below)) ((T.setVm s.vm).setFrames (.invoking m args :: below)).heap := by rw [hhp]; exact vx_Zq.moved hW0.alike (hU.kept hS.2.1)
  have hN' : vx_Zq Bundle.tN "SUPPRESSED_SENTINEL" Bundle.listD A ((T.setVm s.vm).setFrames (.invoking m args :: below)) ((T.setVm s.vm).setFrames (.invoking m args :: below)).heap := by rw [hhp]; exact vx_Zq.moved hW0.alike (hN.kept hS.2.1)
  obtain ⟨S, q, ce, st, Z, hce, hcl', hv⟩ := vx_npeAt Y hexec htr (n := nb) (vx_own hat' (vx_isRefq hU'.1) (vx_isRefq hN'.1) hU'.2.word hN'.2.word) (fun x hx => nomatch hx)
    (g := F0 m pc ls rest) rfl hsize hRframes (by show 2 * 0 + (rest.map fun v => v.category).sum + 10240 ≤ R.locals; omega) (by show 0 + 1 ≤ 1; omega) (by show 0 + nb ≤ nb; omega) hlocks
  obtain ⟨f1, f2⟩ := vx_frame Z.same
  have f1' : H.size ≤ S.heap.size := by rw [← hT]; exact f1
  have f2' : ∀ q : Nat, q < H.size → S.heap[q]? = H[q]? := fun q hq => by
    rw [← hT]
    exact f2 q (by rw [← hT] at hq; exact hq) (fun z hz => nomatch hz)
  have X5 := vx_back9 X Y Z
  have X6 : Stand p l e R s m args below meth c S locs (cells + 1) (slots + nb) := { X5 with same := X5.same.mono (by omega) (by omega) }
  obtain ⟨t, a1, b1⟩ := k S.heap q ce f1' f2' ⟨Nat.le_trans hS.1 f1', fun q h1 h2 => (f2' q (Nat.lt_of_lt_of_le h1 hS.1)).trans (hS.2.1 q h1 h2), hS.2.2⟩ hce hv hcl' S rfl X6
  exact ⟨t, st t a1, b1⟩
variable {Q : State → Prop} {cc : ByteArray} {pc : Nat} {ls : Array Slot} {rest : List Value}
theorem vx_idivZ (hexec : p.tables.exec = Jvm.exec) (hb : c.code = cc) {a b : Int32} (h0 : b = 0) (d : decode cc pc = .ok (.idiv, 1)) (k : vx_Note p l e R s m args below meth c H locs cells slots Q (F0 m pc ls rest) "java/lang/ArithmeticException" "/ by zero") :
    W p l e R s m args below meth c H locs cells slots Q (F0 m pc ls (.int b :: .int a :: rest)) := by
  intro T hT X
  obtain ⟨t, st, q⟩ := k T hT X
  exact ⟨t, X.idivZero hexec (g := F0 m pc ls (.int b :: .int a :: rest)) rfl (a := a) (rest := rest) (by rw [h0]) (by rw [hb]; exact d) t st, q⟩
theorem vx_iremZ (hexec : p.tables.exec = Jvm.exec) (hb : c.code = cc) {a b : Int32} (h0 : b = 0) (d : decode cc pc = .ok (.irem, 1)) (k : vx_Note p l e R s m args below meth c H locs cells slots Q (F0 m pc ls rest) "java/lang/ArithmeticException" "/ by zero") :
    W p l e R s m args below meth c H locs cells slots Q (F0 m pc ls (.int b :: .int a :: rest)) := by
  intro T hT X
  obtain ⟨t, st, q⟩ := k T hT X
  exact ⟨t, X.iremZero hexec (g := F0 m pc ls (.int b :: .int a :: rest)) rfl (a := a) (rest := rest) (by rw [h0]) (by rw [hb]; exact d) t st, q⟩
theorem vx_ldivZ (hexec : p.tables.exec = Jvm.exec) (hb : c.code = cc) {a b : Int64} (h0 : b = 0) (d : decode cc pc = .ok (.ldiv, 1)) (k : vx_Note p l e R s m args below meth c H locs cells slots Q (F0 m pc ls rest) "java/lang/ArithmeticException" "/ by zero") :
    W p l e R s m args below meth c H locs cells slots Q (F0 m pc ls (.long b :: .long a :: rest)) := by
  intro T hT X
  obtain ⟨t, st, q⟩ := k T hT X
  exact ⟨t, X.ldivZero hexec (g := F0 m pc ls (.long b :: .long a :: rest)) rfl (a := a) (rest := rest) (by rw [h0]) (by rw [hb]; exact d) t st, q⟩
theorem vx_lremZ (hexec : p.tables.exec = Jvm.exec) (hb : c.code = cc) {a b : Int64} (h0 : b = 0) (d : decode cc pc = .ok (.lrem, 1)) (k : vx_Note p l e R s m args below meth c H locs cells slots Q (F0 m pc ls rest) "java/lang/ArithmeticException" "/ by zero") :
    W p l e R s m args below meth c H locs cells slots Q (F0 m pc ls (.long b :: .long a :: rest)) := by
  intro T hT X
  obtain ⟨t, st, q⟩ := k T hT X
  exact ⟨t, X.lremZero hexec (g := F0 m pc ls (.long b :: .long a :: rest)) rfl (a := a) (rest := rest) (by rw [h0]) (by rw [hb]; exact d) t st, q⟩
theorem vx_ialdZ {D : va_G} {cl : List vw_C} {ws : va_W} {tys : List (ClassId × FieldType)} {a : Nat} (hexec : p.tables.exec = Jvm.exec) (hb : c.code = cc) (hK : va_K D cl tys s) (hP : va_P D cl ws H) (q0 t0 : Nat) {cA : ClassId} {n : Nat} {f : Nat → Int32} (ha : ws[q0]? = some (a, .inl (cA, n, .inl f))) (ht : tys[t0]? = some (cA, .int)) {i : Int32} (hout : ¬ vp_in i n) (hdg : decode cc pc = .ok (.iaload, 1))
    (k : ∀ tx : String, tx = (toString "Index " ++ toString i ++ toString " out of bounds for length " ++ toString n : String) → vx_Note p l e R s m args below meth c H locs cells slots Q (F0 m pc ls rest) "java/lang/ArrayIndexOutOfBoundsException" tx) : W p l e R s m args below meth c H locs cells slots Q (F0 m pc ls (.int i :: .ref a :: rest)) := by
  intro T hT X
  obtain ⟨t, st, q⟩ := k _ rfl T hT X
  refine ⟨t, ?_, q⟩
  have h1 := X.ialoadOut hexec (by rw [hT]; exact hP q0 _ ha) ((hK.2 t0 _ ht).1 n (fun j => .int (f j))) (j := i) (by show (i < 0 ∨ (arrV _ _ _).slots.size ≤ _); rw [arrV_size]; exact Classical.byContradiction hout) (g := F0 m pc ls (.int i :: .ref a :: rest)) rfl (rest := rest) rfl (by rw [hb]; exact hdg) t
  simp only [arrV_size] at h1
  exact h1 st
theorem vx_iastZ {D : va_G} {cl : List vw_C} {ws : va_W} {tys : List (ClassId × FieldType)} {a : Nat} (hexec : p.tables.exec = Jvm.exec) (hb : c.code = cc) (hK : va_K D cl tys s) (hP : va_P D cl ws H) (q0 t0 : Nat) {cA : ClassId} {n : Nat} {f : Nat → Int32} (ha : ws[q0]? = some (a, .inl (cA, n, .inl f))) (ht : tys[t0]? = some (cA, .int)) {i : Int32} {x : Int32} (hout : ¬ vp_in i n) (hdg : decode cc pc = .ok (.iastore, 1))
    (k : ∀ tx : String, tx = (toString "Index " ++ toString i ++ toString " out of bounds for length " ++ toString n : String) → vx_Note p l e R s m args below meth c H locs cells slots Q (F0 m pc ls rest) "java/lang/ArrayIndexOutOfBoundsException" tx) : W p l e R s m args below meth c H locs cells slots Q (F0 m pc ls (.int x :: .int i :: .ref a :: rest)) := by
  intro T hT X
  obtain ⟨t, st, q⟩ := k _ rfl T hT X
  refine ⟨t, ?_, q⟩
  have h1 := X.iastoreOut hexec (by rw [hT]; exact hP q0 _ ha) ((hK.2 t0 _ ht).1 n (fun j => .int (f j))) (j := i) (by show (i < 0 ∨ (arrV _ _ _).slots.size ≤ _); rw [arrV_size]; exact Classical.byContradiction hout) (g := F0 m pc ls (.int x :: .int i :: .ref a :: rest)) rfl (rest := rest) rfl (by rw [hb]; exact hdg) t
  simp only [arrV_size] at h1
  exact h1 st
theorem vx_baldZ {D : va_G} {cl : List vw_C} {ws : va_W} {tys : List (ClassId × FieldType)} {a : Nat} (hexec : p.tables.exec = Jvm.exec) (hb : c.code = cc) (hK : va_K D cl tys s) (hP : va_P D cl ws H) (q0 t0 : Nat) {cA : ClassId} {n : Nat} {f : Nat → Int32} (ha : ws[q0]? = some (a, .inl (cA, n, .inl f))) (ht : tys[t0]? = some (cA, .byte)) {i : Int32} (hout : ¬ vp_in i n) (hdg : decode cc pc = .ok (.baload, 1))
    (k : ∀ tx : String, tx = (toString "Index " ++ toString i ++ toString " out of bounds for length " ++ toString n : String) → vx_Note p l e R s m args below meth c H locs cells slots Q (F0 m pc ls rest) "java/lang/ArrayIndexOutOfBoundsException" tx) : W p l e R s m args below meth c H locs cells slots Q (F0 m pc ls (.int i :: .ref a :: rest)) := by
  intro T hT X
  obtain ⟨t, st, q⟩ := k _ rfl T hT X
  refine ⟨t, ?_, q⟩
  have h1 := X.baloadOut hexec (by rw [hT]; exact hP q0 _ ha) ((hK.2 t0 _ ht).1 n (fun j => .int (f j))) (j := i) (by show (i < 0 ∨ (arrV _ _ _).slots.size ≤ _); rw [arrV_size]; exact Classical.byContradiction hout) (g := F0 m pc ls (.int i :: .ref a :: rest)) rfl (rest := rest) rfl (by rw [hb]; exact hdg) t
  simp only [arrV_size] at h1
  exact h1 st
theorem vx_bastZ {D : va_G} {cl : List vw_C} {ws : va_W} {tys : List (ClassId × FieldType)} {a : Nat} (hexec : p.tables.exec = Jvm.exec) (hb : c.code = cc) (hK : va_K D cl tys s) (hP : va_P D cl ws H) (q0 t0 : Nat) {cA : ClassId} {n : Nat} {f : Nat → Int32} (ha : ws[q0]? = some (a, .inl (cA, n, .inl f))) (ht : tys[t0]? = some (cA, .byte)) {i : Int32} {x : Int32} (hout : ¬ vp_in i n) (hdg : decode cc pc = .ok (.bastore, 1))
    (k : ∀ tx : String, tx = (toString "Index " ++ toString i ++ toString " out of bounds for length " ++ toString n : String) → vx_Note p l e R s m args below meth c H locs cells slots Q (F0 m pc ls rest) "java/lang/ArrayIndexOutOfBoundsException" tx) : W p l e R s m args below meth c H locs cells slots Q (F0 m pc ls (.int x :: .int i :: .ref a :: rest)) := by
  intro T hT X
  obtain ⟨t, st, q⟩ := k _ rfl T hT X
  refine ⟨t, ?_, q⟩
  have h1 := X.bastoreOut hexec (by rw [hT]; exact hP q0 _ ha) ((hK.2 t0 _ ht).1 n (fun j => .int (f j))) (j := i) (by show (i < 0 ∨ (arrV _ _ _).slots.size ≤ _); rw [arrV_size]; exact Classical.byContradiction hout) (g := F0 m pc ls (.int x :: .int i :: .ref a :: rest)) rfl (rest := rest) rfl (by rw [hb]; exact hdg) t
  simp only [arrV_size] at h1
  exact h1 st
theorem vx_zaldZ {D : va_G} {cl : List vw_C} {ws : va_W} {tys : List (ClassId × FieldType)} {a : Nat} (hexec : p.tables.exec = Jvm.exec) (hb : c.code = cc) (hK : va_K D cl tys s) (hP : va_P D cl ws H) (q0 t0 : Nat) {cA : ClassId} {n : Nat} {f : Nat → Int32} (ha : ws[q0]? = some (a, .inl (cA, n, .inl f))) (ht : tys[t0]? = some (cA, .boolean)) {i : Int32} (hout : ¬ vp_in i n) (hdg : decode cc pc = .ok (.baload, 1))
    (k : ∀ tx : String, tx = (toString "Index " ++ toString i ++ toString " out of bounds for length " ++ toString n : String) → vx_Note p l e R s m args below meth c H locs cells slots Q (F0 m pc ls rest) "java/lang/ArrayIndexOutOfBoundsException" tx) : W p l e R s m args below meth c H locs cells slots Q (F0 m pc ls (.int i :: .ref a :: rest)) := by
  intro T hT X
  obtain ⟨t, st, q⟩ := k _ rfl T hT X
  refine ⟨t, ?_, q⟩
  have h1 := X.baloadOut hexec (by rw [hT]; exact hP q0 _ ha) ((hK.2 t0 _ ht).1 n (fun j => .int (f j))) (j := i) (by show (i < 0 ∨ (arrV _ _ _).slots.size ≤ _); rw [arrV_size]; exact Classical.byContradiction hout) (g := F0 m pc ls (.int i :: .ref a :: rest)) rfl (rest := rest) rfl (by rw [hb]; exact hdg) t
  simp only [arrV_size] at h1
  exact h1 st
theorem vx_zastZ {D : va_G} {cl : List vw_C} {ws : va_W} {tys : List (ClassId × FieldType)} {a : Nat} (hexec : p.tables.exec = Jvm.exec) (hb : c.code = cc) (hK : va_K D cl tys s) (hP : va_P D cl ws H) (q0 t0 : Nat) {cA : ClassId} {n : Nat} {f : Nat → Int32} (ha : ws[q0]? = some (a, .inl (cA, n, .inl f))) (ht : tys[t0]? = some (cA, .boolean)) {i : Int32} {x : Int32} (hout : ¬ vp_in i n) (hdg : decode cc pc = .ok (.bastore, 1))
    (k : ∀ tx : String, tx = (toString "Index " ++ toString i ++ toString " out of bounds for length " ++ toString n : String) → vx_Note p l e R s m args below meth c H locs cells slots Q (F0 m pc ls rest) "java/lang/ArrayIndexOutOfBoundsException" tx) : W p l e R s m args below meth c H locs cells slots Q (F0 m pc ls (.int x :: .int i :: .ref a :: rest)) := by
  intro T hT X
  obtain ⟨t, st, q⟩ := k _ rfl T hT X
  refine ⟨t, ?_, q⟩
  have h1 := X.bastoreOut hexec (by rw [hT]; exact hP q0 _ ha) ((hK.2 t0 _ ht).1 n (fun j => .int (f j))) (j := i) (by show (i < 0 ∨ (arrV _ _ _).slots.size ≤ _); rw [arrV_size]; exact Classical.byContradiction hout) (g := F0 m pc ls (.int x :: .int i :: .ref a :: rest)) rfl (rest := rest) rfl (by rw [hb]; exact hdg) t
  simp only [arrV_size] at h1
  exact h1 st
theorem vx_caldZ {D : va_G} {cl : List vw_C} {ws : va_W} {tys : List (ClassId × FieldType)} {a : Nat} (hexec : p.tables.exec = Jvm.exec) (hb : c.code = cc) (hK : va_K D cl tys s) (hP : va_P D cl ws H) (q0 t0 : Nat) {cA : ClassId} {n : Nat} {f : Nat → Int32} (ha : ws[q0]? = some (a, .inl (cA, n, .inl f))) (ht : tys[t0]? = some (cA, .char)) {i : Int32} (hout : ¬ vp_in i n) (hdg : decode cc pc = .ok (.caload, 1))
    (k : ∀ tx : String, tx = (toString "Index " ++ toString i ++ toString " out of bounds for length " ++ toString n : String) → vx_Note p l e R s m args below meth c H locs cells slots Q (F0 m pc ls rest) "java/lang/ArrayIndexOutOfBoundsException" tx) : W p l e R s m args below meth c H locs cells slots Q (F0 m pc ls (.int i :: .ref a :: rest)) := by
  intro T hT X
  obtain ⟨t, st, q⟩ := k _ rfl T hT X
  refine ⟨t, ?_, q⟩
  have h1 := X.caloadOut hexec (by rw [hT]; exact hP q0 _ ha) ((hK.2 t0 _ ht).1 n (fun j => .int (f j))) (j := i) (by show (i < 0 ∨ (arrV _ _ _).slots.size ≤ _); rw [arrV_size]; exact Classical.byContradiction hout) (g := F0 m pc ls (.int i :: .ref a :: rest)) rfl (rest := rest) rfl (by rw [hb]; exact hdg) t
  simp only [arrV_size] at h1
  exact h1 st
theorem vx_castZ {D : va_G} {cl : List vw_C} {ws : va_W} {tys : List (ClassId × FieldType)} {a : Nat} (hexec : p.tables.exec = Jvm.exec) (hb : c.code = cc) (hK : va_K D cl tys s) (hP : va_P D cl ws H) (q0 t0 : Nat) {cA : ClassId} {n : Nat} {f : Nat → Int32} (ha : ws[q0]? = some (a, .inl (cA, n, .inl f))) (ht : tys[t0]? = some (cA, .char)) {i : Int32} {x : Int32} (hout : ¬ vp_in i n) (hdg : decode cc pc = .ok (.castore, 1))
    (k : ∀ tx : String, tx = (toString "Index " ++ toString i ++ toString " out of bounds for length " ++ toString n : String) → vx_Note p l e R s m args below meth c H locs cells slots Q (F0 m pc ls rest) "java/lang/ArrayIndexOutOfBoundsException" tx) : W p l e R s m args below meth c H locs cells slots Q (F0 m pc ls (.int x :: .int i :: .ref a :: rest)) := by
  intro T hT X
  obtain ⟨t, st, q⟩ := k _ rfl T hT X
  refine ⟨t, ?_, q⟩
  have h1 := X.castoreOut hexec (by rw [hT]; exact hP q0 _ ha) ((hK.2 t0 _ ht).1 n (fun j => .int (f j))) (j := i) (by show (i < 0 ∨ (arrV _ _ _).slots.size ≤ _); rw [arrV_size]; exact Classical.byContradiction hout) (g := F0 m pc ls (.int x :: .int i :: .ref a :: rest)) rfl (rest := rest) rfl (by rw [hb]; exact hdg) t
  simp only [arrV_size] at h1
  exact h1 st
theorem vx_saldZ {D : va_G} {cl : List vw_C} {ws : va_W} {tys : List (ClassId × FieldType)} {a : Nat} (hexec : p.tables.exec = Jvm.exec) (hb : c.code = cc) (hK : va_K D cl tys s) (hP : va_P D cl ws H) (q0 t0 : Nat) {cA : ClassId} {n : Nat} {f : Nat → Int32} (ha : ws[q0]? = some (a, .inl (cA, n, .inl f))) (ht : tys[t0]? = some (cA, .short)) {i : Int32} (hout : ¬ vp_in i n) (hdg : decode cc pc = .ok (.saload, 1))
    (k : ∀ tx : String, tx = (toString "Index " ++ toString i ++ toString " out of bounds for length " ++ toString n : String) → vx_Note p l e R s m args below meth c H locs cells slots Q (F0 m pc ls rest) "java/lang/ArrayIndexOutOfBoundsException" tx) : W p l e R s m args below meth c H locs cells slots Q (F0 m pc ls (.int i :: .ref a :: rest)) := by
  intro T hT X
  obtain ⟨t, st, q⟩ := k _ rfl T hT X
  refine ⟨t, ?_, q⟩
  have h1 := X.saloadOut hexec (by rw [hT]; exact hP q0 _ ha) ((hK.2 t0 _ ht).1 n (fun j => .int (f j))) (j := i) (by show (i < 0 ∨ (arrV _ _ _).slots.size ≤ _); rw [arrV_size]; exact Classical.byContradiction hout) (g := F0 m pc ls (.int i :: .ref a :: rest)) rfl (rest := rest) rfl (by rw [hb]; exact hdg) t
  simp only [arrV_size] at h1
  exact h1 st
theorem vx_sastZ {D : va_G} {cl : List vw_C} {ws : va_W} {tys : List (ClassId × FieldType)} {a : Nat} (hexec : p.tables.exec = Jvm.exec) (hb : c.code = cc) (hK : va_K D cl tys s) (hP : va_P D cl ws H) (q0 t0 : Nat) {cA : ClassId} {n : Nat} {f : Nat → Int32} (ha : ws[q0]? = some (a, .inl (cA, n, .inl f))) (ht : tys[t0]? = some (cA, .short)) {i : Int32} {x : Int32} (hout : ¬ vp_in i n) (hdg : decode cc pc = .ok (.sastore, 1))
    (k : ∀ tx : String, tx = (toString "Index " ++ toString i ++ toString " out of bounds for length " ++ toString n : String) → vx_Note p l e R s m args below meth c H locs cells slots Q (F0 m pc ls rest) "java/lang/ArrayIndexOutOfBoundsException" tx) : W p l e R s m args below meth c H locs cells slots Q (F0 m pc ls (.int x :: .int i :: .ref a :: rest)) := by
  intro T hT X
  obtain ⟨t, st, q⟩ := k _ rfl T hT X
  refine ⟨t, ?_, q⟩
  have h1 := X.sastoreOut hexec (by rw [hT]; exact hP q0 _ ha) ((hK.2 t0 _ ht).1 n (fun j => .int (f j))) (j := i) (by show (i < 0 ∨ (arrV _ _ _).slots.size ≤ _); rw [arrV_size]; exact Classical.byContradiction hout) (g := F0 m pc ls (.int x :: .int i :: .ref a :: rest)) rfl (rest := rest) rfl (by rw [hb]; exact hdg) t
  simp only [arrV_size] at h1
  exact h1 st
theorem vx_laldZ {D : va_G} {cl : List vw_C} {ws : va_W} {tys : List (ClassId × FieldType)} {a : Nat} (hexec : p.tables.exec = Jvm.exec) (hb : c.code = cc) (hK : va_K D cl tys s) (hP : va_P D cl ws H) (q0 t0 : Nat) {cA : ClassId} {n : Nat} {f : Nat → Int64} (ha : ws[q0]? = some (a, .inl (cA, n, .inr (.inl f)))) (ht : tys[t0]? = some (cA, .long)) {i : Int32} (hout : ¬ vp_in i n) (hdg : decode cc pc = .ok (.laload, 1))
    (k : ∀ tx : String, tx = (toString "Index " ++ toString i ++ toString " out of bounds for length " ++ toString n : String) → vx_Note p l e R s m args below meth c H locs cells slots Q (F0 m pc ls rest) "java/lang/ArrayIndexOutOfBoundsException" tx) : W p l e R s m args below meth c H locs cells slots Q (F0 m pc ls (.int i :: .ref a :: rest)) := by
  intro T hT X
  obtain ⟨t, st, q⟩ := k _ rfl T hT X
  refine ⟨t, ?_, q⟩
  have h1 := X.laloadOut hexec (by rw [hT]; exact hP q0 _ ha) ((hK.2 t0 _ ht).1 n (fun j => .long (f j))) (j := i) (by show (i < 0 ∨ (arrV _ _ _).slots.size ≤ _); rw [arrV_size]; exact Classical.byContradiction hout) (g := F0 m pc ls (.int i :: .ref a :: rest)) rfl (rest := rest) rfl (by rw [hb]; exact hdg) t
  simp only [arrV_size] at h1
  exact h1 st
theorem vx_lastZ {D : va_G} {cl : List vw_C} {ws : va_W} {tys : List (ClassId × FieldType)} {a : Nat} (hexec : p.tables.exec = Jvm.exec) (hb : c.code = cc) (hK : va_K D cl tys s) (hP : va_P D cl ws H) (q0 t0 : Nat) {cA : ClassId} {n : Nat} {f : Nat → Int64} (ha : ws[q0]? = some (a, .inl (cA, n, .inr (.inl f)))) (ht : tys[t0]? = some (cA, .long)) {i : Int32} {x : Int64} (hout : ¬ vp_in i n) (hdg : decode cc pc = .ok (.lastore, 1))
    (k : ∀ tx : String, tx = (toString "Index " ++ toString i ++ toString " out of bounds for length " ++ toString n : String) → vx_Note p l e R s m args below meth c H locs cells slots Q (F0 m pc ls rest) "java/lang/ArrayIndexOutOfBoundsException" tx) : W p l e R s m args below meth c H locs cells slots Q (F0 m pc ls (.long x :: .int i :: .ref a :: rest)) := by
  intro T hT X
  obtain ⟨t, st, q⟩ := k _ rfl T hT X
  refine ⟨t, ?_, q⟩
  have h1 := X.lastoreOut hexec (by rw [hT]; exact hP q0 _ ha) ((hK.2 t0 _ ht).1 n (fun j => .long (f j))) (j := i) (by show (i < 0 ∨ (arrV _ _ _).slots.size ≤ _); rw [arrV_size]; exact Classical.byContradiction hout) (g := F0 m pc ls (.long x :: .int i :: .ref a :: rest)) rfl (rest := rest) rfl (by rw [hb]; exact hdg) t
  simp only [arrV_size] at h1
  exact h1 st
theorem vx_faldZ {D : va_G} {cl : List vw_C} {ws : va_W} {tys : List (ClassId × FieldType)} {a : Nat} (hexec : p.tables.exec = Jvm.exec) (hb : c.code = cc) (hK : va_K D cl tys s) (hP : va_P D cl ws H) (q0 t0 : Nat) {cA : ClassId} {n : Nat} {f : Nat → UInt32} (ha : ws[q0]? = some (a, .inl (cA, n, .inr (.inr (.inl f))))) (ht : tys[t0]? = some (cA, .float)) {i : Int32} (hout : ¬ vp_in i n) (hdg : decode cc pc = .ok (.faload, 1))
    (k : ∀ tx : String, tx = (toString "Index " ++ toString i ++ toString " out of bounds for length " ++ toString n : String) → vx_Note p l e R s m args below meth c H locs cells slots Q (F0 m pc ls rest) "java/lang/ArrayIndexOutOfBoundsException" tx) : W p l e R s m args below meth c H locs cells slots Q (F0 m pc ls (.int i :: .ref a :: rest)) := by
  intro T hT X
  obtain ⟨t, st, q⟩ := k _ rfl T hT X
  refine ⟨t, ?_, q⟩
  have h1 := X.faloadOut hexec (by rw [hT]; exact hP q0 _ ha) ((hK.2 t0 _ ht).1 n (fun j => .float (f j))) (j := i) (by show (i < 0 ∨ (arrV _ _ _).slots.size ≤ _); rw [arrV_size]; exact Classical.byContradiction hout) (g := F0 m pc ls (.int i :: .ref a :: rest)) rfl (rest := rest) rfl (by rw [hb]; exact hdg) t
  simp only [arrV_size] at h1
  exact h1 st
theorem vx_fastZ {D : va_G} {cl : List vw_C} {ws : va_W} {tys : List (ClassId × FieldType)} {a : Nat} (hexec : p.tables.exec = Jvm.exec) (hb : c.code = cc) (hK : va_K D cl tys s) (hP : va_P D cl ws H) (q0 t0 : Nat) {cA : ClassId} {n : Nat} {f : Nat → UInt32} (ha : ws[q0]? = some (a, .inl (cA, n, .inr (.inr (.inl f))))) (ht : tys[t0]? = some (cA, .float)) {i : Int32} {x : UInt32} (hout : ¬ vp_in i n) (hdg : decode cc pc = .ok (.fastore, 1))
    (k : ∀ tx : String, tx = (toString "Index " ++ toString i ++ toString " out of bounds for length " ++ toString n : String) → vx_Note p l e R s m args below meth c H locs cells slots Q (F0 m pc ls rest) "java/lang/ArrayIndexOutOfBoundsException" tx) : W p l e R s m args below meth c H locs cells slots Q (F0 m pc ls (.float x :: .int i :: .ref a :: rest)) := by
  intro T hT X
  obtain ⟨t, st, q⟩ := k _ rfl T hT X
  refine ⟨t, ?_, q⟩
  have h1 := X.fastoreOut hexec (by rw [hT]; exact hP q0 _ ha) ((hK.2 t0 _ ht).1 n (fun j => .float (f j))) (j := i) (by show (i < 0 ∨ (arrV _ _ _).slots.size ≤ _); rw [arrV_size]; exact Classical.byContradiction hout) (g := F0 m pc ls (.float x :: .int i :: .ref a :: rest)) rfl (rest := rest) rfl (by rw [hb]; exact hdg) t
  simp only [arrV_size] at h1
  exact h1 st
theorem vx_daldZ {D : va_G} {cl : List vw_C} {ws : va_W} {tys : List (ClassId × FieldType)} {a : Nat} (hexec : p.tables.exec = Jvm.exec) (hb : c.code = cc) (hK : va_K D cl tys s) (hP : va_P D cl ws H) (q0 t0 : Nat) {cA : ClassId} {n : Nat} {f : Nat → UInt64} (ha : ws[q0]? = some (a, .inl (cA, n, .inr (.inr (.inr (.inl f)))))) (ht : tys[t0]? = some (cA, .double)) {i : Int32} (hout : ¬ vp_in i n) (hdg : decode cc pc = .ok (.daload, 1))
    (k : ∀ tx : String, tx = (toString "Index " ++ toString i ++ toString " out of bounds for length " ++ toString n : String) → vx_Note p l e R s m args below meth c H locs cells slots Q (F0 m pc ls rest) "java/lang/ArrayIndexOutOfBoundsException" tx) : W p l e R s m args below meth c H locs cells slots Q (F0 m pc ls (.int i :: .ref a :: rest)) := by
  intro T hT X
  obtain ⟨t, st, q⟩ := k _ rfl T hT X
  refine ⟨t, ?_, q⟩
  have h1 := X.daloadOut hexec (by rw [hT]; exact hP q0 _ ha) ((hK.2 t0 _ ht).1 n (fun j => .double (f j))) (j := i) (by show (i < 0 ∨ (arrV _ _ _).slots.size ≤ _); rw [arrV_size]; exact Classical.byContradiction hout) (g := F0 m pc ls (.int i :: .ref a :: rest)) rfl (rest := rest) rfl (by rw [hb]; exact hdg) t
  simp only [arrV_size] at h1
  exact h1 st
theorem vx_dastZ {D : va_G} {cl : List vw_C} {ws : va_W} {tys : List (ClassId × FieldType)} {a : Nat} (hexec : p.tables.exec = Jvm.exec) (hb : c.code = cc) (hK : va_K D cl tys s) (hP : va_P D cl ws H) (q0 t0 : Nat) {cA : ClassId} {n : Nat} {f : Nat → UInt64} (ha : ws[q0]? = some (a, .inl (cA, n, .inr (.inr (.inr (.inl f)))))) (ht : tys[t0]? = some (cA, .double)) {i : Int32} {x : UInt64} (hout : ¬ vp_in i n) (hdg : decode cc pc = .ok (.dastore, 1))
    (k : ∀ tx : String, tx = (toString "Index " ++ toString i ++ toString " out of bounds for length " ++ toString n : String) → vx_Note p l e R s m args below meth c H locs cells slots Q (F0 m pc ls rest) "java/lang/ArrayIndexOutOfBoundsException" tx) : W p l e R s m args below meth c H locs cells slots Q (F0 m pc ls (.double x :: .int i :: .ref a :: rest)) := by
  intro T hT X
  obtain ⟨t, st, q⟩ := k _ rfl T hT X
  refine ⟨t, ?_, q⟩
  have h1 := X.dastoreOut hexec (by rw [hT]; exact hP q0 _ ha) ((hK.2 t0 _ ht).1 n (fun j => .double (f j))) (j := i) (by show (i < 0 ∨ (arrV _ _ _).slots.size ≤ _); rw [arrV_size]; exact Classical.byContradiction hout) (g := F0 m pc ls (.double x :: .int i :: .ref a :: rest)) rfl (rest := rest) rfl (by rw [hb]; exact hdg) t
  simp only [arrV_size] at h1
  exact h1 st
theorem vx_arraylengthN (hexec : p.tables.exec = Jvm.exec) (hb : c.code = cc) (hdg : decode cc pc = .ok (.arraylength, 1)) (k : vx_NoteN p l e R s m args below meth c H locs cells slots Q (F0 m pc ls rest)) : W p l e R s m args below meth c H locs cells slots Q (F0 m pc ls (.null :: rest)) := by
  intro T hT X
  obtain ⟨t, st, q⟩ := k T hT X
  exact ⟨t, X.arraylengthNull hexec (g := F0 m pc ls (.null :: rest)) rfl (rest := rest) rfl (by rw [hb]; exact hdg) t st, q⟩
theorem vx_ialoadN (hexec : p.tables.exec = Jvm.exec) (hb : c.code = cc) {i : Int32} (hdg : decode cc pc = .ok (.iaload, 1)) (k : vx_NoteN p l e R s m args below meth c H locs cells slots Q (F0 m pc ls rest)) : W p l e R s m args below meth c H locs cells slots Q (F0 m pc ls (.int i :: .null :: rest)) := by
  intro T hT X
  obtain ⟨t, st, q⟩ := k T hT X
  exact ⟨t, X.ialoadNull hexec (g := F0 m pc ls (.int i :: .null :: rest)) rfl (rest := rest) rfl (by rw [hb]; exact hdg) t st, q⟩
theorem vx_laloadN (hexec : p.tables.exec = Jvm.exec) (hb : c.code = cc) {i : Int32} (hdg : decode cc pc = .ok (.laload, 1)) (k : vx_NoteN p l e R s m args below meth c H locs cells slots Q (F0 m pc ls rest)) : W p l e R s m args below meth c H locs cells slots Q (F0 m pc ls (.int i :: .null :: rest)) := by
  intro T hT X
  obtain ⟨t, st, q⟩ := k T hT X
  exact ⟨t, X.laloadNull hexec (g := F0 m pc ls (.int i :: .null :: rest)) rfl (rest := rest) rfl (by rw [hb]; exact hdg) t st, q⟩
theorem vx_faloadN (hexec : p.tables.exec = Jvm.exec) (hb : c.code = cc) {i : Int32} (hdg : decode cc pc = .ok (.faload, 1)) (k : vx_NoteN p l e R s m args below meth c H locs cells slots Q (F0 m pc ls rest)) : W p l e R s m args below meth c H locs cells slots Q (F0 m pc ls (.int i :: .null :: rest)) := by
  intro T hT X
  obtain ⟨t, st, q⟩ := k T hT X
  exact ⟨t, X.faloadNull hexec (g := F0 m pc ls (.int i :: .null :: rest)) rfl (rest := rest) rfl (by rw [hb]; exact hdg) t st, q⟩
theorem vx_daloadN (hexec : p.tables.exec = Jvm.exec) (hb : c.code = cc) {i : Int32} (hdg : decode cc pc = .ok (.daload, 1)) (k : vx_NoteN p l e R s m args below meth c H locs cells slots Q (F0 m pc ls rest)) : W p l e R s m args below meth c H locs cells slots Q (F0 m pc ls (.int i :: .null :: rest)) := by
  intro T hT X
  obtain ⟨t, st, q⟩ := k T hT X
  exact ⟨t, X.daloadNull hexec (g := F0 m pc ls (.int i :: .null :: rest)) rfl (rest := rest) rfl (by rw [hb]; exact hdg) t st, q⟩
theorem vx_aaloadN (hexec : p.tables.exec = Jvm.exec) (hb : c.code = cc) {i : Int32} (hdg : decode cc pc = .ok (.aaload, 1)) (k : vx_NoteN p l e R s m args below meth c H locs cells slots Q (F0 m pc ls rest)) : W p l e R s m args below meth c H locs cells slots Q (F0 m pc ls (.int i :: .null :: rest)) := by
  intro T hT X
  obtain ⟨t, st, q⟩ := k T hT X
  exact ⟨t, X.aaloadNull hexec (g := F0 m pc ls (.int i :: .null :: rest)) rfl (rest := rest) rfl (by rw [hb]; exact hdg) t st, q⟩
theorem vx_baloadN (hexec : p.tables.exec = Jvm.exec) (hb : c.code = cc) {i : Int32} (hdg : decode cc pc = .ok (.baload, 1)) (k : vx_NoteN p l e R s m args below meth c H locs cells slots Q (F0 m pc ls rest)) : W p l e R s m args below meth c H locs cells slots Q (F0 m pc ls (.int i :: .null :: rest)) := by
  intro T hT X
  obtain ⟨t, st, q⟩ := k T hT X
  exact ⟨t, X.baloadNull hexec (g := F0 m pc ls (.int i :: .null :: rest)) rfl (rest := rest) rfl (by rw [hb]; exact hdg) t st, q⟩
theorem vx_caloadN (hexec : p.tables.exec = Jvm.exec) (hb : c.code = cc) {i : Int32} (hdg : decode cc pc = .ok (.caload, 1)) (k : vx_NoteN p l e R s m args below meth c H locs cells slots Q (F0 m pc ls rest)) : W p l e R s m args below meth c H locs cells slots Q (F0 m pc ls (.int i :: .null :: rest)) := by
  intro T hT X
  obtain ⟨t, st, q⟩ := k T hT X
  exact ⟨t, X.caloadNull hexec (g := F0 m pc ls (.int i :: .null :: rest)) rfl (rest := rest) rfl (by rw [hb]; exact hdg) t st, q⟩
theorem vx_saloadN (hexec : p.tables.exec = Jvm.exec) (hb : c.code = cc) {i : Int32} (hdg : decode cc pc = .ok (.saload, 1)) (k : vx_NoteN p l e R s m args below meth c H locs cells slots Q (F0 m pc ls rest)) : W p l e R s m args below meth c H locs cells slots Q (F0 m pc ls (.int i :: .null :: rest)) := by
  intro T hT X
  obtain ⟨t, st, q⟩ := k T hT X
  exact ⟨t, X.saloadNull hexec (g := F0 m pc ls (.int i :: .null :: rest)) rfl (rest := rest) rfl (by rw [hb]; exact hdg) t st, q⟩
theorem vx_iastoreN (hexec : p.tables.exec = Jvm.exec) (hb : c.code = cc) {x : Int32} {i : Int32} (hdg : decode cc pc = .ok (.iastore, 1)) (k : vx_NoteN p l e R s m args below meth c H locs cells slots Q (F0 m pc ls rest)) : W p l e R s m args below meth c H locs cells slots Q (F0 m pc ls (.int x :: .int i :: .null :: rest)) := by
  intro T hT X
  obtain ⟨t, st, q⟩ := k T hT X
  exact ⟨t, X.iastoreNull hexec (g := F0 m pc ls (.int x :: .int i :: .null :: rest)) rfl (rest := rest) rfl (by rw [hb]; exact hdg) t st, q⟩
theorem vx_lastoreN (hexec : p.tables.exec = Jvm.exec) (hb : c.code = cc) {x : Int64} {i : Int32} (hdg : decode cc pc = .ok (.lastore, 1)) (k : vx_NoteN p l e R s m args below meth c H locs cells slots Q (F0 m pc ls rest)) : W p l e R s m args below meth c H locs cells slots Q (F0 m pc ls (.long x :: .int i :: .null :: rest)) := by
  intro T hT X
  obtain ⟨t, st, q⟩ := k T hT X
  exact ⟨t, X.lastoreNull hexec (g := F0 m pc ls (.long x :: .int i :: .null :: rest)) rfl (rest := rest) rfl (by rw [hb]; exact hdg) t st, q⟩
theorem vx_fastoreN (hexec : p.tables.exec = Jvm.exec) (hb : c.code = cc) {x : UInt32} {i : Int32} (hdg : decode cc pc = .ok (.fastore, 1)) (k : vx_NoteN p l e R s m args below meth c H locs cells slots Q (F0 m pc ls rest)) : W p l e R s m args below meth c H locs cells slots Q (F0 m pc ls (.float x :: .int i :: .null :: rest)) := by
  intro T hT X
  obtain ⟨t, st, q⟩ := k T hT X
  exact ⟨t, X.fastoreNull hexec (g := F0 m pc ls (.float x :: .int i :: .null :: rest)) rfl (rest := rest) rfl (by rw [hb]; exact hdg) t st, q⟩
theorem vx_dastoreN (hexec : p.tables.exec = Jvm.exec) (hb : c.code = cc) {x : UInt64} {i : Int32} (hdg : decode cc pc = .ok (.dastore, 1)) (k : vx_NoteN p l e R s m args below meth c H locs cells slots Q (F0 m pc ls rest)) : W p l e R s m args below meth c H locs cells slots Q (F0 m pc ls (.double x :: .int i :: .null :: rest)) := by
  intro T hT X
  obtain ⟨t, st, q⟩ := k T hT X
  exact ⟨t, X.dastoreNull hexec (g := F0 m pc ls (.double x :: .int i :: .null :: rest)) rfl (rest := rest) rfl (by rw [hb]; exact hdg) t st, q⟩
theorem vx_bastoreN (hexec : p.tables.exec = Jvm.exec) (hb : c.code = cc) {x : Int32} {i : Int32} (hdg : decode cc pc = .ok (.bastore, 1)) (k : vx_NoteN p l e R s m args below meth c H locs cells slots Q (F0 m pc ls rest)) : W p l e R s m args below meth c H locs cells slots Q (F0 m pc ls (.int x :: .int i :: .null :: rest)) := by
  intro T hT X
  obtain ⟨t, st, q⟩ := k T hT X
  exact ⟨t, X.bastoreNull hexec (g := F0 m pc ls (.int x :: .int i :: .null :: rest)) rfl (rest := rest) rfl (by rw [hb]; exact hdg) t st, q⟩
theorem vx_castoreN (hexec : p.tables.exec = Jvm.exec) (hb : c.code = cc) {x : Int32} {i : Int32} (hdg : decode cc pc = .ok (.castore, 1)) (k : vx_NoteN p l e R s m args below meth c H locs cells slots Q (F0 m pc ls rest)) : W p l e R s m args below meth c H locs cells slots Q (F0 m pc ls (.int x :: .int i :: .null :: rest)) := by
  intro T hT X
  obtain ⟨t, st, q⟩ := k T hT X
  exact ⟨t, X.castoreNull hexec (g := F0 m pc ls (.int x :: .int i :: .null :: rest)) rfl (rest := rest) rfl (by rw [hb]; exact hdg) t st, q⟩
theorem vx_sastoreN (hexec : p.tables.exec = Jvm.exec) (hb : c.code = cc) {x : Int32} {i : Int32} (hdg : decode cc pc = .ok (.sastore, 1)) (k : vx_NoteN p l e R s m args below meth c H locs cells slots Q (F0 m pc ls rest)) : W p l e R s m args below meth c H locs cells slots Q (F0 m pc ls (.int x :: .int i :: .null :: rest)) := by
  intro T hT X
  obtain ⟨t, st, q⟩ := k T hT X
  exact ⟨t, X.sastoreNull hexec (g := F0 m pc ls (.int x :: .int i :: .null :: rest)) rfl (rest := rest) rfl (by rw [hb]; exact hdg) t st, q⟩
theorem vx_invokeN {own C : String} {index maxL : Nat} {y : MethodName} {bytes : ByteArray} {ret : Option FieldType} (hexec : p.tables.exec = Jvm.exec) (hb : c.code = cc) (hown : s.vm.findClass own = some m.cls) (hlink : (Cond.methodLink own index y).before args s = true) (hinst : (Cond.instanceMethod y).before args s = true) (hcode : (Cond.code y bytes maxL ret).before args s = true) (hsel : (Cond.selects C y y).before args s = true)
    (hx : y.cls ≠ "java/lang/invoke/MethodHandle" ∧ y.cls ≠ "java/lang/invoke/VarHandle") {As : List Value} (hlen : (parseMethodDescriptor y.desc).map (fun d => d.parameters.length) = some As.length) (hdg : decode cc pc = .ok (.invokevirtual index, 3))
    (k : vx_NoteN p l e R s m args below meth c H locs cells slots Q (F0 m pc ls rest)) {st0 : List Value} (hst : st0 = As.reverse ++ .null :: rest) : W p l e R s m args below meth c H locs cells slots Q (F0 m pc ls st0) := by
  intro T hT X
  obtain ⟨r0, r, hn, hrm, hstR, hsigR⟩ := va_Decl.of hinst hcode
  obtain ⟨c2, r2, m2, q1, q2, q3, q4, kP, hkP, hkPi⟩ := Cond.selects_spec hsel
  cases hn.symm.trans q3
  have hl9 : As.length = r.sig.parameters.length := by
    rw [hsigR] at hlen
    exact (Option.some.inj hlen).symm
  obtain ⟨vm', X1, st1⟩ := X.invokevirtualNull hexec hown hlink hn hrm hstR hkP hkPi hx (g := F0 m pc ls st0) rfl (argsL := As) (rest := rest) hl9 hst (by rw [hb]; exact hdg)
  obtain ⟨t, st, q⟩ := k (T.setVm vm') hT X1
  exact ⟨t, st1 t st, q⟩
theorem vx_newarrayZ {atype : ArrayType} (hexec : p.tables.exec = Jvm.exec) (hb : c.code = cc) {n : Int32} (h0 : n < 0) (hdg : decode cc pc = .ok (.newarray atype, 2)) (k : ∀ tx : String, tx = toString n → vx_Note p l e R s m args below meth c H locs cells slots Q (F0 m pc ls rest) "java/lang/NegativeArraySizeException" tx) : W p l e R s m args below meth c H locs cells slots Q (F0 m pc ls (.int n :: rest)) := by
  intro T hT X
  obtain ⟨t, st, q⟩ := k _ rfl T hT X
  exact ⟨t, X.newarrayNegative hexec (g := F0 m pc ls (.int n :: rest)) rfl h0 (rest := rest) rfl (by rw [hb]; exact hdg) t st, q⟩
end
end VXM
/-! ===== END ===== -/
/-! ===== BEGIN an exception as an object: made, kept, thrown later (no traces kept) ===== -/
section VXK
variable {p : Program} {l : Launch} {e : Env} {R : Room} {s : State} {m₀ : MethodId} {args : Array Value} {below : List Frame} {meth : Method} {c : Code} {W : State} {locs : List Loc} {cells slots : Nat}
set_option maxHeartbeats 1000000 in
theorem vx_ctorMadeS (X : Stand p l e R s m₀ args below meth c W locs cells slots) (hexec : p.tables.exec = Jvm.exec) (htr : e.platform.stackTraces = false) {own cls : String} {names : List String} {ic : Nat}
    (hown : s.vm.findClass own = some m₀.cls) (hcls : Bundle.fit cls = true) (hnames : ∀ n ∈ names, Bundle.fit n = true)
    (h : ∀ a ∈ Bundle.ownAtoms own ic cls names, a.before args s = true)
    (hlocs : ∀ x ∈ locs, ∀ cell, s.heap[x.base]? = some cell → cell.vm.isStatics = false)
    {a : Addr} {cX : ClassId} {kX : Class} (hfoundX : s.vm.findClass cls = some cX) (hkX : s.vm.classes[cX]? = some kX) (hcell : W.heap[a]? = some (freshCell cX kX)) (hnew : s.heap.size ≤ a)
    {msg : Value} (hmsg : msg.isRef = true)
    {g : JFrame} (hg : g.method = m₀) (hsize : g.locals.size = c.maxLocals) {rest : List Value} (hstack : g.stack = msg :: .ref a :: .ref a :: rest)
    (hd6 : decode c.code g.pc = .ok (.invokespecial ic, 3))
    (hRframes : names.length + 3 < R.frames) (hRlocals : 2 * g.monitorRoom + ((Value.ref a :: rest).map fun v => v.category).sum + (13 * (names.length + 1) + 42) ≤ R.locals) :
    ∃ (V : State) (ce : Cell) (L : List Loc), Stand p l e R s m₀ args below meth c (V.setCell a ce) (locs ++ L) cells slots ∧ (∀ y ∈ L, y.base = a) ∧ a < V.heap.size ∧ ce.cls = cX ∧ ce.vm = .none ∧
      ∀ target, Steps p.tables e below ((V.setCell a ce).setTop { g with stack := .ref a :: rest, pc := g.pc + 3 }) target → Steps p.tables e below (W.setTop g) target := by
  have howns : e.platform.frameOwnsMonitors = true := by rw [X.admits.platform]
  have hfin : e.platform.finalization = false := by rw [X.admits.platform]
  have hpl : e.platform.magicAccessors = ({} : Platform).magicAccessors := by rw [X.admits.platform]
  have a' : ∀ x, x ∈ Bundle.ownAtoms own ic cls names → x.holds args s none s [] = true := fun x hx => h x hx
  obtain ⟨T, Z0, L, -, Y⟩ := ThrowableC.of_atoms (args := args) howns hfin hpl (fun x hx => h x (by simp [Bundle.ownAtoms, hx]))
  obtain ⟨Z, M, LZ, LM, hnZ⟩ := Init0T.ofS_atoms (args := args) hpl L Y (fun x hx => h x (by simp [Bundle.ownAtoms, hx]))
  obtain ⟨P1, Ps, hlen, L1, hL, hP1m, hlink1, hlink⟩ := Bundle.chainS (args := args) hpl hnZ names cls hcls hnames (fun x hx => h x (by simp [Bundle.ownAtoms, hx]))
  have hfound : s.vm.findClass cls = some P1.m.cls := findClass_of_methodNamed hP1m
  cases Option.some.inj (hfoundX.symm.trans hfound)
  obtain ⟨c1, kX', hc1, hk, hord, -, -, hn6⟩ := Cond.instantiable_spec (a' (.instantiable cls 6) (by simp [Bundle.ownAtoms]))
  cases Option.some.inj (hc1.symm.trans hfound)
  cases Option.some.inj (hkX.symm.trans hk)
  have hsel0 : selectMethod e.platform s.vm P1.m.cls T.fill0 = .method T.fill0 := by
    obtain ⟨c2, r2, m2, q1, q2, q3, q4, -⟩ := Cond.selects_spec (a' (.selects cls Bundle.tFill0 Bundle.tFill0) (by simp [Bundle.ownAtoms]))
    cases Option.some.inj (q1.symm.trans hfound)
    cases Option.some.inj (q2.symm.trans (State.methodFound?_of_named Y.fill0 (by decide)))
    cases Option.some.inj (q3.symm.trans Y.fill0)
    rw [Launch.admits_selectMethod X.admits]; exact q4
  have hselF : selectMethod e.platform s.vm P1.m.cls T.fill = .method T.fill := by
    obtain ⟨c2, r2, m2, q1, q2, q3, q4, -⟩ := Cond.selects_spec (a' (.selects cls Bundle.tFill Bundle.tFill) (by simp [Bundle.ownAtoms]))
    cases Option.some.inj (q1.symm.trans hfound)
    cases Option.some.inj (q2.symm.trans (State.methodFound?_of_named Y.fill (by decide)))
    cases Option.some.inj (q3.symm.trans Y.fill)
    rw [Launch.admits_selectMethod X.admits]; exact q4
  obtain ⟨cellS0, hcS0, hiss⟩ := Y.statics
  obtain ⟨u0, hu0⟩ := Cond.staticRefV Y.unassigned L.unassignedStatic L.statics hcS0 hiss (a' (.isRef (.static Bundle.tN "UNASSIGNED_STACK" Bundle.steD)) (by simp [Bundle.ownAtoms]))
  obtain ⟨sen, hsen⟩ := Cond.staticRefV Y.sentinel L.sentinelStatic L.statics hcS0 hiss (a' (.isRef (.static Bundle.tN "SUPPRESSED_SENTINEL" Bundle.listD)) (by simp [Bundle.ownAtoms]))
  obtain ⟨ci198, i198, fB, hk198, hg198, ha198, hsB, -, hnB, htB, hffB⟩ := Cond.ownField (t := .object "java/lang/Object") Y.found L.cls (by decide +kernel) (a' (.fieldLink Bundle.tN 198 Bundle.tN "backtrace" "Ljava/lang/Object;") (by simp [Bundle.ownAtoms])) (a' (.lays Bundle.tN Bundle.tN "backtrace" "Ljava/lang/Object;") (by simp [Bundle.ownAtoms])) e.platform hpl
  obtain ⟨cellS, hcS', heS, -, hkeep⟩ := X.same.2.2.2.2.2 T.aS cellS0 hcS0
  have hcellS : W.heap[T.aS]? = some cellS := hcS'
  have hout' : ∀ i, (⟨T.aS, i⟩ : Loc) ∉ locs := fun i hmem => by
    have := hlocs _ hmem cellS0 hcS0
    rw [hiss] at this; cases this
  have hknownS : cellS.vm ≠ .unknown := by
    rw [heS]; intro hu
    rw [show cellS0.vm = .unknown from hu] at hiss
    cases hiss
  have hneS : T.aS ≠ a := Nat.ne_of_lt (Nat.lt_of_lt_of_le (Array.getElem?_eq_some_iff.mp hcS0).1 hnew)
  obtain ⟨iM, hffM⟩ := Y.msg
  obtain ⟨tyC, dC, hdC, hdnC⟩ := Cond.laysAt hfound hk Y.cause (a' (.lays cls Bundle.tN "cause" "Ljava/lang/Throwable;") (by simp [Bundle.ownAtoms]))
  obtain ⟨tyS, dS, hdS, hdnS⟩ := Cond.laysAt hfound hk Y.stack (a' (.lays cls Bundle.tN "stackTrace" Bundle.steD) (by simp [Bundle.ownAtoms]))
  obtain ⟨tyP, dP, hdP, hdnP⟩ := Cond.laysAt hfound hk Y.supp (a' (.lays cls Bundle.tN "suppressedExceptions" Bundle.listD) (by simp [Bundle.ownAtoms]))
  obtain ⟨tyM, dM, hdM, hdnM⟩ := Cond.laysAt hfound hk hffM (a' (.lays cls Bundle.tN "detailMessage" "Ljava/lang/String;") (by simp [Bundle.ownAtoms]))
  obtain ⟨tyB, dB, hdB, hdnB⟩ := Cond.laysAt hfound hk hffB (a' (.lays cls Bundle.tN "backtrace" "Ljava/lang/Object;") (by simp [Bundle.ownAtoms]))
  have bC := Cond.laysApart hdB hdC hdnB hdnC (by rw [hnB, Y.causeName]; decide)
  have bS := Cond.laysApart hdB hdS hdnB hdnS (by rw [hnB, Y.stackName]; decide)
  have bP := Cond.laysApart hdB hdP hdnB hdnP (by rw [hnB, Y.suppName]; decide)
  have hskip : SkipFacts T e.platform s (fun u => u) u0 ((preparedCellV T.toThrowableT (freshCell P1.m.cls kX) a u0 sen).withEntry W.cur) :=
    ⟨{ ci198 := ci198, i198 := i198, fBack := fB }, ⟨hk198, hg198, ha198, hsB⟩, by
      have := fresh_default (c := P1.m.cls) tyB
      rw [htB] at this
      simpa [preparedCellV, Cell.setSlot, Cell.withEntry, Array.getElem?_setIfInBounds, bC, bS, bP, bC.symm, bS.symm, bP.symm, defaultValue] using this, fun _ _ => rfl⟩
  obtain ⟨tm, methC, cdC, kC, vm₁, hnC, -, -, -, -, -, -, -, hW₁, st1⟩ := Steps.initColdS (tb := p.tables) (e := e) (below := below) (s := s) (U := W) X.here hexec X.warmed hpl hown (t := Bundle.initS cls) rfl rfl (Bundle.fit_spec hcls).2
    (a' (.methodLink own ic (Bundle.initS cls)) (by simp [Bundle.ownAtoms])) (h (.instanceMethod (Bundle.initS cls)) (by cases names <;> simp [Bundle.ownAtoms, Bundle.chainSAtoms, Bundle.passSAtoms])) (bytes := Bundle.six) (maxL := 2) (h (.code (Bundle.initS cls) Bundle.six 2 none) (by cases names <;> simp [Bundle.ownAtoms, Bundle.chainSAtoms, Bundle.passSAtoms]))
    (f := g) hg (a := a) (msg := msg) (rest := .ref a :: rest) hstack hd6
  cases Option.some.inj (hnC.symm.trans hP1m)
  have X₁ := X.noted hW₁
  obtain ⟨vm₂, X₂, st2⟩ := X₁.ctorMessageOffV hexec (g := { g with stack := .ref a :: rest }) hg hsize T L Z LZ M LM (P1 :: Ps)
    (fun P hP => by rcases List.mem_cons.mp hP with rfl | hP; exact L1; exact hL P hP) ⟨hlink1, hlink⟩ (u0 := u0) (sen := sen) (self := a) hmsg (cell := freshCell P1.m.cls kX) (cellS := cellS)
    hcell (fun _ => by simp) (by simp) rfl rfl hsel0 hselF hcellS hneS hknownS (by rw [hkeep _ (hout' _)]; exact hu0) (by rw [hkeep _ (hout' _)]; exact hsen)
    (Takes.of_laid hk hord tyC (by rw [Y.causeType]; rfl)) (Takes.of_laid hk hord tyS (by rw [Y.stackType]; exact fits_refV_array _ u0)) (Takes.of_laid hk hord tyP (by rw [Y.suppType]; exact fits_refV_object _ sen))
    (Takes.of_laid hk hord tyM (by rw [Y.msgType]; exact fits_refV_object _ ⟨msg, hmsg⟩)) Y.objLocals hskip htr [] hd6
    (by simp only [List.length_cons, hlen]; omega) (by simp only [List.length_cons, hlen]; exact hRlocals)
  have hlt : a < ((W.setVm vm₁).setVm vm₂).heap.size := (Array.getElem?_eq_some_iff.mp hcell).1
  refine ⟨(W.setVm vm₁).setVm vm₂, _, _, X₂, fun y hy => ?_, hlt, rfl, rfl, fun target hwalk => st1 _ (fun acts => ?_)⟩
  · simp only [List.mem_cons, List.not_mem_nil, or_false] at hy
    rcases hy with rfl | rfl | rfl | rfl | rfl <;> rfl
  · rw [doInvoke_state]
    exact st2 _ hwalk
set_option maxHeartbeats 1000000 in
theorem vx_ctorMade0 (X : Stand p l e R s m₀ args below meth c W locs cells slots) (hexec : p.tables.exec = Jvm.exec) (htr : e.platform.stackTraces = false) {own cls : String} {names : List String} {ic : Nat}
    (hown : s.vm.findClass own = some m₀.cls) (hcls : Bundle.fit cls = true) (hnames : ∀ n ∈ names, Bundle.fit n = true)
    (h : ∀ a ∈ Bundle.ownAtoms0 own ic cls names, a.before args s = true)
    (hlocs : ∀ x ∈ locs, ∀ cell, s.heap[x.base]? = some cell → cell.vm.isStatics = false)
    {a : Addr} {cX : ClassId} {kX : Class} (hfoundX : s.vm.findClass cls = some cX) (hkX : s.vm.classes[cX]? = some kX) (hcell : W.heap[a]? = some (freshCell cX kX)) (hnew : s.heap.size ≤ a)
    {g : JFrame} (hg : g.method = m₀) (hsize : g.locals.size = c.maxLocals) {rest : List Value} (hstack : g.stack = .ref a :: .ref a :: rest)
    (hd6 : decode c.code g.pc = .ok (.invokespecial ic, 3))
    (hRframes : names.length + 3 < R.frames) (hRlocals : 2 * g.monitorRoom + ((Value.ref a :: rest).map fun v => v.category).sum + (13 * (names.length + 1) + 41) ≤ R.locals) :
    ∃ (V : State) (ce : Cell) (L : List Loc), Stand p l e R s m₀ args below meth c (V.setCell a ce) (locs ++ L) cells slots ∧ (∀ y ∈ L, y.base = a) ∧ a < V.heap.size ∧ ce.cls = cX ∧ ce.vm = .none ∧
      ∀ target, Steps p.tables e below ((V.setCell a ce).setTop { g with stack := .ref a :: rest, pc := g.pc + 3 }) target → Steps p.tables e below (W.setTop g) target := by
  have howns : e.platform.frameOwnsMonitors = true := by rw [X.admits.platform]
  have hfin : e.platform.finalization = false := by rw [X.admits.platform]
  have hpl : e.platform.magicAccessors = ({} : Platform).magicAccessors := by rw [X.admits.platform]
  have a' : ∀ x, x ∈ Bundle.ownAtoms0 own ic cls names → x.holds args s none s [] = true := fun x hx => h x hx
  obtain ⟨T, Z, L, LZ, Y⟩ := ThrowableC.of_atoms (args := args) howns hfin hpl (fun x hx => h x (by simp [Bundle.ownAtoms0, hx]))
  obtain ⟨P1, Ps, hlen, L1, hL, hP1m, hlink1, hlink⟩ := Bundle.chain0 (args := args) hpl Y.init0 names cls hcls hnames (fun x hx => h x (by simp [Bundle.ownAtoms0, hx]))
  have hfound : s.vm.findClass cls = some P1.m.cls := findClass_of_methodNamed hP1m
  cases Option.some.inj (hfoundX.symm.trans hfound)
  obtain ⟨c1, kX', hc1, hk, hord, -, -, hn6⟩ := Cond.instantiable_spec (a' (.instantiable cls 6) (by simp [Bundle.ownAtoms0]))
  cases Option.some.inj (hc1.symm.trans hfound)
  cases Option.some.inj (hkX.symm.trans hk)
  have hsel0 : selectMethod e.platform s.vm P1.m.cls T.fill0 = .method T.fill0 := by
    obtain ⟨c2, r2, m2, q1, q2, q3, q4, -⟩ := Cond.selects_spec (a' (.selects cls Bundle.tFill0 Bundle.tFill0) (by simp [Bundle.ownAtoms0]))
    cases Option.some.inj (q1.symm.trans hfound)
    cases Option.some.inj (q2.symm.trans (State.methodFound?_of_named Y.fill0 (by decide)))
    cases Option.some.inj (q3.symm.trans Y.fill0)
    rw [Launch.admits_selectMethod X.admits]; exact q4
  have hselF : selectMethod e.platform s.vm P1.m.cls T.fill = .method T.fill := by
    obtain ⟨c2, r2, m2, q1, q2, q3, q4, -⟩ := Cond.selects_spec (a' (.selects cls Bundle.tFill Bundle.tFill) (by simp [Bundle.ownAtoms0]))
    cases Option.some.inj (q1.symm.trans hfound)
    cases Option.some.inj (q2.symm.trans (State.methodFound?_of_named Y.fill (by decide)))
    cases Option.some.inj (q3.symm.trans Y.fill)
    rw [Launch.admits_selectMethod X.admits]; exact q4
  obtain ⟨cellS0, hcS0, hiss⟩ := Y.statics
  obtain ⟨u0, hu0⟩ := Cond.staticRefV Y.unassigned L.unassignedStatic L.statics hcS0 hiss (a' (.isRef (.static Bundle.tN "UNASSIGNED_STACK" Bundle.steD)) (by simp [Bundle.ownAtoms0]))
  obtain ⟨sen, hsen⟩ := Cond.staticRefV Y.sentinel L.sentinelStatic L.statics hcS0 hiss (a' (.isRef (.static Bundle.tN "SUPPRESSED_SENTINEL" Bundle.listD)) (by simp [Bundle.ownAtoms0]))
  obtain ⟨ci198, i198, fB, hk198, hg198, ha198, hsB, -, hnB, htB, hffB⟩ := Cond.ownField (t := .object "java/lang/Object") Y.found L.cls (by decide +kernel) (a' (.fieldLink Bundle.tN 198 Bundle.tN "backtrace" "Ljava/lang/Object;") (by simp [Bundle.ownAtoms0])) (a' (.lays Bundle.tN Bundle.tN "backtrace" "Ljava/lang/Object;") (by simp [Bundle.ownAtoms0])) e.platform hpl
  obtain ⟨cellS, hcS', heS, -, hkeep⟩ := X.same.2.2.2.2.2 T.aS cellS0 hcS0
  have hcellS : W.heap[T.aS]? = some cellS := hcS'
  have hout' : ∀ i, (⟨T.aS, i⟩ : Loc) ∉ locs := fun i hmem => by
    have := hlocs _ hmem cellS0 hcS0
    rw [hiss] at this; cases this
  have hknownS : cellS.vm ≠ .unknown := by
    rw [heS]; intro hu
    rw [show cellS0.vm = .unknown from hu] at hiss
    cases hiss
  have hneS : T.aS ≠ a := Nat.ne_of_lt (Nat.lt_of_lt_of_le (Array.getElem?_eq_some_iff.mp hcS0).1 hnew)
  obtain ⟨iM, hffM⟩ := Y.msg
  obtain ⟨tyC, dC, hdC, hdnC⟩ := Cond.laysAt hfound hk Y.cause (a' (.lays cls Bundle.tN "cause" "Ljava/lang/Throwable;") (by simp [Bundle.ownAtoms0]))
  obtain ⟨tyS, dS, hdS, hdnS⟩ := Cond.laysAt hfound hk Y.stack (a' (.lays cls Bundle.tN "stackTrace" Bundle.steD) (by simp [Bundle.ownAtoms0]))
  obtain ⟨tyP, dP, hdP, hdnP⟩ := Cond.laysAt hfound hk Y.supp (a' (.lays cls Bundle.tN "suppressedExceptions" Bundle.listD) (by simp [Bundle.ownAtoms0]))
  obtain ⟨tyM, dM, hdM, hdnM⟩ := Cond.laysAt hfound hk hffM (a' (.lays cls Bundle.tN "detailMessage" "Ljava/lang/String;") (by simp [Bundle.ownAtoms0]))
  obtain ⟨tyB, dB, hdB, hdnB⟩ := Cond.laysAt hfound hk hffB (a' (.lays cls Bundle.tN "backtrace" "Ljava/lang/Object;") (by simp [Bundle.ownAtoms0]))
  have bC := Cond.laysApart hdB hdC hdnB hdnC (by rw [hnB, Y.causeName]; decide)
  have bS := Cond.laysApart hdB hdS hdnB hdnS (by rw [hnB, Y.stackName]; decide)
  have bP := Cond.laysApart hdB hdP hdnB hdnP (by rw [hnB, Y.suppName]; decide)
  have hskip : SkipFacts T e.platform s (fun u => u) u0 ((preparedCellV T.toThrowableT (freshCell P1.m.cls kX) a u0 sen).withEntry W.cur) :=
    ⟨{ ci198 := ci198, i198 := i198, fBack := fB }, ⟨hk198, hg198, ha198, hsB⟩, by
      have := fresh_default (c := P1.m.cls) tyB
      rw [htB] at this
      simpa [preparedCellV, Cell.setSlot, Cell.withEntry, Array.getElem?_setIfInBounds, bC, bS, bP, bC.symm, bS.symm, bP.symm, defaultValue] using this, fun _ _ => rfl⟩
  obtain ⟨tm, methC, cdC, kC, vm₁, hnC, -, -, -, -, -, -, -, hW₁, st1⟩ := Steps.initCold (tb := p.tables) (e := e) (below := below) (s := s) (U := W) X.here hexec X.warmed hpl hown (t := Bundle.init0 cls) rfl rfl (Bundle.fit_spec hcls).2
    (a' (.methodLink own ic (Bundle.init0 cls)) (by simp [Bundle.ownAtoms0])) (h (.instanceMethod (Bundle.init0 cls)) (by cases names <;> simp [Bundle.ownAtoms0, Bundle.chain0Atoms, Bundle.passAtoms])) (bytes := Bundle.five) (maxL := 1) (h (.code (Bundle.init0 cls) Bundle.five 1 none) (by cases names <;> simp [Bundle.ownAtoms0, Bundle.chain0Atoms, Bundle.passAtoms]))
    (f := g) hg (a := a) (rest := .ref a :: rest) hstack hd6
  cases Option.some.inj (hnC.symm.trans hP1m)
  have X₁ := X.noted hW₁
  obtain ⟨vm₂, X₂, st2⟩ := X₁.ctorPlainOffV hexec (g := { g with stack := .ref a :: rest }) hg hsize T L Z LZ (P1 :: Ps)
    (fun P hP => by rcases List.mem_cons.mp hP with rfl | hP; exact L1; exact hL P hP) ⟨hlink1, hlink⟩ (u0 := u0) (sen := sen) (self := a) (cell := freshCell P1.m.cls kX) (cellS := cellS)
    hcell (fun _ => by simp) (by simp) rfl rfl hsel0 hselF hcellS hneS hknownS (by rw [hkeep _ (hout' _)]; exact hu0) (by rw [hkeep _ (hout' _)]; exact hsen)
    (Takes.of_laid hk hord tyC (by rw [Y.causeType]; rfl)) (Takes.of_laid hk hord tyS (by rw [Y.stackType]; exact fits_refV_array _ u0)) (Takes.of_laid hk hord tyP (by rw [Y.suppType]; exact fits_refV_object _ sen)) Y.objLocals hskip htr [] hd6
    (by simp only [List.length_cons, hlen]; omega) (by simp only [List.length_cons, hlen]; exact hRlocals)
  have hlt : a < ((W.setVm vm₁).setVm vm₂).heap.size := (Array.getElem?_eq_some_iff.mp hcell).1
  refine ⟨(W.setVm vm₁).setVm vm₂, _, _, X₂, fun y hy => ?_, hlt, rfl, rfl, fun target hwalk => st1 _ (fun acts => ?_)⟩
  · simp only [List.mem_cons, List.not_mem_nil, or_false] at hy
    rcases hy with rfl | rfl | rfl | rfl <;> rfl
  · rw [doInvoke_state]
    exact st2 _ hwalk
end VXK
section VXK2
variable {p : Program} {l : Launch} {e : Env} {R : Room} {s : State} {m : MethodId} {args : Array Value} {below : List Frame} {meth : Method} {c : Code} {H : Heap} {locs : List Loc} {cells slots : Nat} {Q : State → Prop}
variable {ls : Array Slot} {rest : List Value} {D : va_G} {cl : List vw_C} {tys : List (ClassId × FieldType)} {ws : va_W}
/-- 'new E("text")' that isn't thrown at once: the object goes on the stack -/
theorem vx_makeS {cc : ByteArray} {pc : Nat} (hexec : p.tables.exec = Jvm.exec) (hb : c.code = cc) (hl : l.stackTraces = false) {own cls text : String} {names : List String} {ik is ic sa ci : Nat} {A : Nat → Prop} {T0 : u_T}
    (hown : s.vm.findClass own = some m.cls) (hcls : Bundle.fit cls = true) (hnames : ∀ n ∈ names, Bundle.fit n = true)
    (hk : (Cond.classLink own ik cls).before args s = true) (hini : (Cond.initialized cls).before args s = true) (hstr : vk_R own is text sa s) (hat : ∀ w ∈ vx_atS own ic cls names, w.before args s = true)
    (hgood : ∀ w ∈ Cond.classLink own ik cls :: Cond.initialized cls :: vx_atS own ic cls names, vx_ot w = true)
    (hU : vx_Zq Bundle.tN "UNASSIGNED_STACK" Bundle.steD A s s.heap) (hN : vx_Zq Bundle.tN "SUPPRESSED_SENTINEL" Bundle.listD A s s.heap) (hS : va_S A s.heap H locs) (hsize : ls.size = c.maxLocals)
    (d0 : decode cc pc = .ok (.new ik, 3)) (d3 : decode cc (pc + 3) = .ok (.dup, 1)) (d4 : decode cc (pc + 4) = .ok (.ldc is, 2)) (d6 : decode cc (pc + 6) = .ok (.invokespecial ic, 3))
    (hK : va_K D cl tys s) (hP : va_P D cl ws H) (hD : va_D A ws) (hA : ∀ q, s.heap.size ≤ q → A q) (hc : cl[ci]? = some (cls, T0, 0))
    (hRframes : names.length + 3 < R.frames) (hRlocals : (rest.map fun v => v.category).sum + (13 * (names.length + 1) + 43) ≤ R.locals) (hRcells : cells + 1 ≤ R.cells) (hRslots : slots + 6 ≤ R.slots)
    (kk : ∀ (q : Nat) (H1 : Heap), va_P D cl (ws ++ [(q, .inr (ci, []))]) H1 → va_D A (ws ++ [(q, .inr (ci, []))]) → va_S A s.heap H1 locs → W p l e R s m args below meth c H1 locs (cells + 1) (slots + 6) Q (F0 m (pc + 9) ls (.ref q :: rest))) :
    W p l e R s m args below meth c H locs cells slots Q (F0 m pc ls rest) := by
  intro T hT X
  subst hT
  have htr : e.platform.stackTraces = false := (show e.platform.stackTraces = l.stackTraces by rw [X.admits.platform]).trans hl
  have Y := vx_rebase X (R' := { frames := R.frames, locals := R.locals, cells := 1, slots := 6 }) (Nat.le_refl _) (Nat.le_refl _) hRcells hRslots
  obtain ⟨s', hA'⟩ : ∃ z, z = (T.setVm s.vm).setFrames (.invoking m args :: below) := ⟨_, rfl⟩
  rw [← hA'] at Y
  have hvm : s'.vm = s.vm := by rw [hA']; rfl
  have hhp : s'.heap = T.heap := by rw [hA']; rfl
  have hW0 : s.WarmedH s'.vm := by rw [hvm]; exact State.WarmedH.refl s
  have hat' : ∀ w ∈ vx_atS own ic cls names, w.before args s' = true := fun w hw => vx_ot_at hW0 hvm.symm (hgood w (List.mem_cons_of_mem _ (List.mem_cons_of_mem _ hw))) (hat w hw)
  have hk' : (Cond.classLink own ik cls).before args s' = true := vx_ot_at hW0 hvm.symm (hgood _ List.mem_cons_self) hk
  have hini' : (Cond.initialized cls).before args s' = true := vx_ot_at hW0 hvm.symm (hgood _ (List.mem_cons_of_mem _ List.mem_cons_self)) hini
  have hU' : vx_Zq Bundle.tN "UNASSIGNED_STACK" Bundle.steD A s' s'.heap := by rw [hhp]; exact vx_Zq.moved hW0.alike (hU.kept hS.2.1)
  have hN' : vx_Zq Bundle.tN "SUPPRESSED_SENTINEL" Bundle.listD A s' s'.heap := by rw [hhp]; exact vx_Zq.moved hW0.alike (hN.kept hS.2.1)
  have h : ∀ w ∈ Bundle.ownAtoms own ic cls names, w.before args s' = true := vx_own hat' (vx_isRefq hU'.1) (vx_isRefq hN'.1) hU'.2.word hN'.2.word
  have hown' : s'.vm.findClass own = some m.cls := by rw [hvm]; exact hown
  have hins : (Cond.instantiable cls 6).before args s' = true := h _ (by simp [Bundle.ownAtoms])
  obtain ⟨vm₁, cX, kX, hfX, hkX, -, -, X₁, st1⟩ := Y.newCold hexec (own := own) (C := cls) (index := ik) (n := 6) hown' hk' hins hini'
    (g := F0 m pc ls rest) rfl (by rw [hb]; exact d0) (Nat.le_refl _) (Nat.le_refl _)
  generalize hT1 : (T.setVm vm₁).pushCell { cls := cX, slots := kX.instanceTypes.map defaultValue, vm := .none } = T1 at X₁ st1
  have hcat : (Value.ref T.heap.size).category = 1 := rfl
  have hcellA : T1.heap[T.heap.size]? = some (freshCell cX kX) := by rw [← hT1]; exact State.heap_pushCell_size _ _
  have d3' : decode c.code (pc + 3) = .ok (.dup, 1) := by rw [hb]; exact d3
  have d4' : decode c.code (pc + 4) = .ok (.ldc is, 2) := by rw [hb]; exact d4
  have hstr' : vk_R own is text sa s' := vk_R.warm hW0 hstr
  obtain ⟨V, ce, L, Z, hL, hlt, hcl9, hvm9, st⟩ := vx_ctorMadeS X₁ hexec htr (own := own) (cls := cls) (names := names) (ic := ic) hown' hcls hnames h (fun x hx => nomatch hx) hfX hkX hcellA (by rw [hhp]; exact Nat.le_refl _) (msg := .ref sa) rfl
    (g := { method := m, pc := pc + 6, locals := ls, stack := .ref sa :: .ref T.heap.size :: .ref T.heap.size :: rest, locked := none }) rfl hsize (rest := rest) rfl
    (by rw [hb]; exact d6) hRframes (by simp only [List.map_cons, List.sum_cons, hcat]; omega)
  have Z0 := Stand.forget (locs := []) Z (fun y hy => by rw [hL y hy, hhp]; exact Nat.le_refl _)
  obtain ⟨f1, f2⟩ := vx_frame Z0.same
  rw [hhp] at f1 f2
  have hcid : ce.cls = D.1 ci := by
    rw [hcl9]
    have h1 := (hK.1 ci _ hc).2.1
    rw [hvm] at hfX
    exact Option.some.inj (hfX.symm.trans h1)
  have hh : (V.setCell T.heap.size ce).heap[T.heap.size]? = some ce := heapAt_setCell_self (s := V) ce hlt
  subst hA'
  have X5 := vx_back9 X Y Z0
  have X6 : Stand p l e R s m args below meth c (V.setCell T.heap.size ce) locs (cells + 1) (slots + 6) := { X5 with same := X5.same.mono (by omega) (by omega) }
  have hk9 : ∀ (k : Nat) (x : Nat × va_E), ws[k]? = some x → (V.setCell T.heap.size ce).heap[x.1]? = T.heap[x.1]? := fun k x hx => f2 x.1 ((hP k x hx).lt) (fun z hz => nomatch hz)
  obtain ⟨t, a1, b1⟩ := kk T.heap.size (V.setCell T.heap.size ce).heap ((hP.kept hk9).app (fun k x hx => by
      have hz : k < 1 := (List.getElem?_eq_some_iff.mp hx).1
      rw [show k = 0 by omega] at hx
      cases hx
      exact ⟨_, hc, ce, hh, hcid, hvm9, fun k hk => absurd hk (Nat.not_lt_zero k)⟩)) (hD.push hP rfl (hA _ hS.1)) ⟨Nat.le_trans hS.1 f1, fun q h1 h2 => (f2 q (Nat.lt_of_lt_of_le h1 hS.1) (fun z hz => nomatch hz)).trans (hS.2.1 q h1 h2), hS.2.2⟩ _ rfl X6
  refine ⟨t, st1 _ ?_, b1⟩
  show Steps p.tables e below (T1.setTop { method := m, pc := pc + 3, locals := ls, stack := .ref T.heap.size :: rest, locked := none }) _
  jvm_step X₁.here [X₁.here.top, hexec, d3', Value.category]
  exact X₁.ldcString hexec (own := own) (text := text) (index := is) (a := sa) hown' hstr'.1 hstr'.2
    (g := { method := m, pc := pc + 4, locals := ls, stack := .ref T.heap.size :: .ref T.heap.size :: rest, locked := none }) rfl d4' _ (st _ a1)
/-- 'new E()' that isn't thrown at once: the object goes on the stack -/
theorem vx_make0 {cc : ByteArray} {pc : Nat} (hexec : p.tables.exec = Jvm.exec) (hb : c.code = cc) (hl : l.stackTraces = false) {own cls : String} {names : List String} {ik ic ci : Nat} {A : Nat → Prop} {T0 : u_T}
    (hown : s.vm.findClass own = some m.cls) (hcls : Bundle.fit cls = true) (hnames : ∀ n ∈ names, Bundle.fit n = true)
    (hk : (Cond.classLink own ik cls).before args s = true) (hini : (Cond.initialized cls).before args s = true) (hat : ∀ w ∈ vx_at0 own ic cls names, w.before args s = true)
    (hgood : ∀ w ∈ Cond.classLink own ik cls :: Cond.initialized cls :: vx_at0 own ic cls names, vx_ot w = true)
    (hU : vx_Zq Bundle.tN "UNASSIGNED_STACK" Bundle.steD A s s.heap) (hN : vx_Zq Bundle.tN "SUPPRESSED_SENTINEL" Bundle.listD A s s.heap) (hS : va_S A s.heap H locs) (hsize : ls.size = c.maxLocals)
    (d0 : decode cc pc = .ok (.new ik, 3)) (d3 : decode cc (pc + 3) = .ok (.dup, 1)) (d4 : decode cc (pc + 4) = .ok (.invokespecial ic, 3))
    (hK : va_K D cl tys s) (hP : va_P D cl ws H) (hD : va_D A ws) (hA : ∀ q, s.heap.size ≤ q → A q) (hc : cl[ci]? = some (cls, T0, 0))
    (hRframes : names.length + 3 < R.frames) (hRlocals : (rest.map fun v => v.category).sum + (13 * (names.length + 1) + 42) ≤ R.locals) (hRcells : cells + 1 ≤ R.cells) (hRslots : slots + 6 ≤ R.slots)
    (kk : ∀ (q : Nat) (H1 : Heap), va_P D cl (ws ++ [(q, .inr (ci, []))]) H1 → va_D A (ws ++ [(q, .inr (ci, []))]) → va_S A s.heap H1 locs → W p l e R s m args below meth c H1 locs (cells + 1) (slots + 6) Q (F0 m (pc + 7) ls (.ref q :: rest))) :
    W p l e R s m args below meth c H locs cells slots Q (F0 m pc ls rest) := by
  intro T hT X
  subst hT
  have htr : e.platform.stackTraces = false := (show e.platform.stackTraces = l.stackTraces by rw [X.admits.platform]).trans hl
  have Y := vx_rebase X (R' := { frames := R.frames, locals := R.locals, cells := 1, slots := 6 }) (Nat.le_refl _) (Nat.le_refl _) hRcells hRslots
  obtain ⟨s', hA'⟩ : ∃ z, z = (T.setVm s.vm).setFrames (.invoking m args :: below) := ⟨_, rfl⟩
  rw [← hA'] at Y
  have hvm : s'.vm = s.vm := by rw [hA']; rfl
  have hhp : s'.heap = T.heap := by rw [hA']; rfl
  have hW0 : s.WarmedH s'.vm := by rw [hvm]; exact State.WarmedH.refl s
  have hat' : ∀ w ∈ vx_at0 own ic cls names, w.before args s' = true := fun w hw => vx_ot_at hW0 hvm.symm (hgood w (List.mem_cons_of_mem _ (List.mem_cons_of_mem _ hw))) (hat w hw)
  have hk' : (Cond.classLink own ik cls).before args s' = true := vx_ot_at hW0 hvm.symm (hgood _ List.mem_cons_self) hk
  have hini' : (Cond.initialized cls).before args s' = true := vx_ot_at hW0 hvm.symm (hgood _ (List.mem_cons_of_mem _ List.mem_cons_self)) hini
  have hU' : vx_Zq Bundle.tN "UNASSIGNED_STACK" Bundle.steD A s' s'.heap := by rw [hhp]; exact vx_Zq.moved hW0.alike (hU.kept hS.2.1)
  have hN' : vx_Zq Bundle.tN "SUPPRESSED_SENTINEL" Bundle.listD A s' s'.heap := by rw [hhp]; exact vx_Zq.moved hW0.alike (hN.kept hS.2.1)
  have h : ∀ w ∈ Bundle.ownAtoms0 own ic cls names, w.before args s' = true := vx_own hat' (vx_isRefq hU'.1) (vx_isRefq hN'.1) hU'.2.word hN'.2.word
  have hown' : s'.vm.findClass own = some m.cls := by rw [hvm]; exact hown
  have hins : (Cond.instantiable cls 6).before args s' = true := h _ (by simp [Bundle.ownAtoms0])
  obtain ⟨vm₁, cX, kX, hfX, hkX, -, -, X₁, st1⟩ := Y.newCold hexec (own := own) (C := cls) (index := ik) (n := 6) hown' hk' hins hini'
    (g := F0 m pc ls rest) rfl (by rw [hb]; exact d0) (Nat.le_refl _) (Nat.le_refl _)
  generalize hT1 : (T.setVm vm₁).pushCell { cls := cX, slots := kX.instanceTypes.map defaultValue, vm := .none } = T1 at X₁ st1
  have hcat : (Value.ref T.heap.size).category = 1 := rfl
  have hcellA : T1.heap[T.heap.size]? = some (freshCell cX kX) := by rw [← hT1]; exact State.heap_pushCell_size _ _
  have d3' : decode c.code (pc + 3) = .ok (.dup, 1) := by rw [hb]; exact d3
  obtain ⟨V, ce, L, Z, hL, hlt, hcl9, hvm9, st⟩ := vx_ctorMade0 X₁ hexec htr (own := own) (cls := cls) (names := names) (ic := ic) hown' hcls hnames h (fun x hx => nomatch hx) hfX hkX hcellA (by rw [hhp]; exact Nat.le_refl _)
    (g := { method := m, pc := pc + 4, locals := ls, stack := .ref T.heap.size :: .ref T.heap.size :: rest, locked := none }) rfl hsize (rest := rest) rfl
    (by rw [hb]; exact d4) hRframes (by simp only [List.map_cons, List.sum_cons, hcat]; omega)
  have Z0 := Stand.forget (locs := []) Z (fun y hy => by rw [hL y hy, hhp]; exact Nat.le_refl _)
  obtain ⟨f1, f2⟩ := vx_frame Z0.same
  rw [hhp] at f1 f2
  have hcid : ce.cls = D.1 ci := by
    rw [hcl9]
    have h1 := (hK.1 ci _ hc).2.1
    rw [hvm] at hfX
    exact Option.some.inj (hfX.symm.trans h1)
  have hh : (V.setCell T.heap.size ce).heap[T.heap.size]? = some ce := heapAt_setCell_self (s := V) ce hlt
  subst hA'
  have X5 := vx_back9 X Y Z0
  have X6 : Stand p l e R s m args below meth c (V.setCell T.heap.size ce) locs (cells + 1) (slots + 6) := { X5 with same := X5.same.mono (by omega) (by omega) }
  have hk9 : ∀ (k : Nat) (x : Nat × va_E), ws[k]? = some x → (V.setCell T.heap.size ce).heap[x.1]? = T.heap[x.1]? := fun k x hx => f2 x.1 ((hP k x hx).lt) (fun z hz => nomatch hz)
  obtain ⟨t, a1, b1⟩ := kk T.heap.size (V.setCell T.heap.size ce).heap ((hP.kept hk9).app (fun k x hx => by
      have hz : k < 1 := (List.getElem?_eq_some_iff.mp hx).1
      rw [show k = 0 by omega] at hx
      cases hx
      exact ⟨_, hc, ce, hh, hcid, hvm9, fun k hk => absurd hk (Nat.not_lt_zero k)⟩)) (hD.push hP rfl (hA _ hS.1)) ⟨Nat.le_trans hS.1 f1, fun q h1 h2 => (f2 q (Nat.lt_of_lt_of_le h1 hS.1) (fun z hz => nomatch hz)).trans (hS.2.1 q h1 h2), hS.2.2⟩ _ rfl X6
  refine ⟨t, st1 _ ?_, b1⟩
  show Steps p.tables e below (T1.setTop { method := m, pc := pc + 3, locals := ls, stack := .ref T.heap.size :: rest, locked := none }) _
  jvm_step X₁.here [X₁.here.top, hexec, d3', Value.category]
  exact st _ a1
/-- 'throw x' of an object that was made before -/
theorem vx_athrow {cc : ByteArray} {pc : Nat} (hexec : p.tables.exec = Jvm.exec) (hb : c.code = cc) {q : Addr} (hdg : decode cc pc = .ok (.athrow, 1)) (k : vx_W p l e R s m args below meth c H locs cells slots Q (F0 m pc ls rest) q) : W p l e R s m args below meth c H locs cells slots Q (F0 m pc ls (.ref q :: rest)) := by
  intro T hT X
  obtain ⟨t, st, hq⟩ := k T hT X
  refine ⟨t, ?_, hq⟩
  have hdg' : decode c.code pc = .ok (.athrow, 1) := by rw [hb]; exact hdg
  jvm_step X.here [X.here.top, hexec, hdg', athrow.wp_sem]
  exact st
end VXK2
/-! ===== END ===== -/
/-! ===== BEGIN a constructor that throws (launches without stack traces) ===== -/
section VXIA
variable {p : Program} {l : Launch} {e : Env} {R : Room} {s : State} {m : MethodId} {args : Array Value} {below : List Frame} {meth : Method} {c : Code} {T : State} {locs : List Loc} {cells slots : Nat}
theorem vx_callI (X : Stand p l e R s m args below meth c T locs cells slots) (hexec : p.tables.exec = Jvm.exec) {own : String} {index : Nat} {y : MethodName} {bytes : ByteArray} {maxL : Nat}
    (hown : s.vm.findClass own = some m.cls) (hy1 : y.name = "<init>") (hlink : (Cond.methodLink own index y).before args s = true) (hinst : (Cond.instanceMethod y).before args s = true)
    (hcode : (Cond.code y bytes maxL none).before args s = true) (hy : y.cls ≠ "java/lang/invoke/MethodHandle" ∧ y.cls ≠ "java/lang/invoke/VarHandle")
    {W9 : Nat} {Pre : Pt → Array Value → Prop} {Post : Pt → Array Value → Option Value → Pt → Prop} {PostX : Pt → Array Value → Addr → Pt → Prop} (hK : vx_Back l R p e below s args y 3 W9 Pre Post PostX)
    {g : JFrame} (hg : g.method = m) (hsize : g.locals.size = c.maxLocals) {a : Addr} {argsL rest : List Value} (hlen : ∀ sig, parseMethodDescriptor y.desc = some sig → argsL.length = sig.parameters.length)
    (hstack : g.stack = argsL.reverse ++ .ref a :: rest) (hW : 2 * g.monitorRoom + (rest.map fun v => v.category).sum ≤ W9) (hdg : decode c.code g.pc = .ok (.invokespecial index, 3))
    (hpre : ∀ vm₁, s.WarmedH vm₁ → Pre ⟨T.setVm vm₁, locs, cells, slots⟩ (Value.ref a :: argsL).toArray) :
    (∃ (v : Option Value) (vm₁ : Vm) (B : Pt), s.WarmedH vm₁ ∧ Stand p l e R s m args below meth c B.U B.locs B.cells B.slots ∧ Post ⟨T.setVm vm₁, locs, cells, slots⟩ (Value.ref a :: argsL).toArray v B ∧
      ∀ target, Steps p.tables e below (B.U.setTop { g with pc := g.pc + 3, stack := v.toList ++ rest }) target → Steps p.tables e below (T.setTop g) target) ∨
    (∃ (q : Addr) (vm₁ : Vm) (B : Pt), s.WarmedH vm₁ ∧ Stand p l e R s m args below meth c B.U B.locs B.cells B.slots ∧ PostX ⟨T.setVm vm₁, locs, cells, slots⟩ (Value.ref a :: argsL).toArray q B ∧
      Steps p.tables e below (T.setTop g) ((B.U.setTop { g with stack := rest }).pushFrame (.throwing q))) := by
  subst hg
  have hpl : e.platform.magicAccessors = ({} : Platform).magicAccessors := by rw [X.admits.platform]
  obtain ⟨mk, methM, cM, kP, vm₁, hnamed, hmethM, hcodeM, -, hlocalsM, -, hkP, -, hW₁, hstep₁⟩ := Steps.initColdArgs (e := e) X.here hexec X.warmed hpl hown hy1 hy hlink hinst hcode (f := g) rfl hlen hstack hdg
  have X₁ := X.noted hW₁
  rcases hK g.method meth c ⟨T.setVm vm₁, locs, cells, slots⟩ { g with stack := rest } (.invokespecial index) mk (Value.ref a :: argsL).toArray X₁ rfl hsize hdg hW (X₁.named hnamed) (hpre vm₁ X₁.warmed) with ⟨v, B, X', hpost, hsteps⟩ | ⟨q, B, X', hpost, hsteps⟩
  · exact Or.inl ⟨v, vm₁, B, X₁.warmed, X', hpost, fun target h => hstep₁ _ fun acts => by rw [doInvoke_state]; exact hsteps.trans h⟩
  · exact Or.inr ⟨q, vm₁, B, X₁.warmed, X', hpost, hstep₁ _ fun acts => by rw [doInvoke_state]; exact hsteps⟩
end VXIA
section VXIB
variable {p : Program} {l : Launch} {e : Env} {R : Room} {s : State} {m : MethodId} {args : Array Value} {below : List Frame} {meth : Method} {c : Code} {H : Heap} {locs : List Loc} {cells slots : Nat}
variable {y : MethodName} {bytes cc : ByteArray} {maxL nL mc ms n index : Nat} {ret : Option FieldType} {ws : List Cond} {rm : Room} {Pc : Array Value → State → Prop} {Qc : Array Value → State → Outcome → State → Prop} {XC : String → State → State → Prop} {free : Addr → Prop} {Ts : List Cond} {own C : String} {b : Addr} {As rest : List Value} {g : JFrame}
theorem vx_runI (S : CallFix p m c cc nL s args Ts own) (hM : vx_Met l y ws rm Pc Qc XC mc ms free) (cw : CallB R s args own index y bytes maxL none ws rm mc ms n ∧ y.name = "<init>" ∧ (Cond.instanceMethod y).before args s = true) (hp : PreS s H Pc (.ref b :: As))
    (hg : g.method = m) (hn : As.length = n) (hsize : g.locals.size = nL) (hstack : g.stack = As.reverse ++ .ref b :: rest) (hW : 2 * g.monitorRoom + (rest.map fun v => v.category).sum ≤ 8) (hdg : decode cc g.pc = .ok (.invokespecial index, 3)) (hf : cells + mc ≤ R.cells ∧ slots + ms ≤ R.slots) :
    vx_Run p l e R s m args below meth c H locs cells slots mc ms g rest (Qc (Value.ref b :: As).toArray) XC free := by
  have hK : vx_Back l R p e below s args y 3 8 (PreOf R mc ms Pc) (PostOf Qc mc ms free) (vx_Post XC mc ms free) := vx_callBack cw.1 hM hp.1
  obtain ⟨⟨-, -, -, -, -, -, hcode, -, hy, hlen, hl⟩, hy1, hin⟩ := cw
  obtain ⟨hx, hb, hml, ho, -⟩ := S
  have hPc := hp.2
  intro T hT X
  rcases vx_callI X hx (bytes := bytes) (maxL := maxL) ho hy1 hl hin hcode hy hK hg (hsize.trans hml.symm) (a := b) (argsL := As) (rest := rest) (fun sig h => hn.trans (hlen sig h)) hstack hW (by rw [hb]; exact hdg)
    (fun vm₁ hW₁ => ⟨hf.1, hf.2, hPc (T.setVm vm₁) hT hW₁⟩) with ⟨v, vm₁, ⟨U', l2, c2, s2⟩, hW₁, X', ⟨g', mk, t, L, e1, e2, hq, h1, hL, h2, h3⟩, st⟩ | ⟨q, vm₁, ⟨U', l2, c2, s2⟩, hW₁, X', ⟨g', mk, t, L, E, ce, e1, e2, hq, hce, hcv, hcl, h1, hL, h2, h3⟩, st⟩
  · dsimp only [Pt.U, Pt.locs, Pt.cells, Pt.slots] at X' e1 e2 h1 h2 h3 st
    subst h1; subst h2; subst h3
    exact Or.inl ⟨v, (T.setVm vm₁).calling g' mk (Value.ref b :: As).toArray, t, U', L, hT, X', hL, e1, e2, hq, st⟩
  · dsimp only [Pt.U, Pt.locs, Pt.cells, Pt.slots] at X' e1 e2 h1 h2 h3 st hcl
    subst h1; subst h2; subst h3
    exact Or.inr ⟨q, (T.setVm vm₁).calling g' mk (Value.ref b :: As).toArray, t, U', L, E, ce, hT, X', hL, e1, e2, hq, hce, hcv, vx_cls hW₁ hcl, st⟩
end VXIB
/-! ===== END ===== -/
/-! ===== BEGIN a private constructor of a nest mate that throws ===== -/
section VXIC
variable {p : Program} {l : Launch} {e : Env} {R : Room} {s : State} {m : MethodId} {args : Array Value} {below : List Frame} {meth : Method} {c : Code} {T : State} {locs : List Loc} {cells slots : Nat}
theorem vx_callIN (X : Stand p l e R s m args below meth c T locs cells slots) (hexec : p.tables.exec = Jvm.exec) {own : String} {index : Nat} {host : String} {y : MethodName} {bytes : ByteArray} {maxL : Nat}
    (hown : s.vm.findClass own = some m.cls) (hy1 : y.name = "<init>") (hlink : (Cond.methodLinkNest own index y host).before args s = true) (hinst : (Cond.instanceMethod y).before args s = true)
    (hcode : (Cond.code y bytes maxL none).before args s = true) (hy : y.cls ≠ "java/lang/invoke/MethodHandle" ∧ y.cls ≠ "java/lang/invoke/VarHandle")
    {W9 : Nat} {Pre : Pt → Array Value → Prop} {Post : Pt → Array Value → Option Value → Pt → Prop} {PostX : Pt → Array Value → Addr → Pt → Prop} (hK : vx_Back l R p e below s args y 3 W9 Pre Post PostX)
    {g : JFrame} (hg : g.method = m) (hsize : g.locals.size = c.maxLocals) {a : Addr} {argsL rest : List Value} (hlen : ∀ sig, parseMethodDescriptor y.desc = some sig → argsL.length = sig.parameters.length)
    (hstack : g.stack = argsL.reverse ++ .ref a :: rest) (hW : 2 * g.monitorRoom + (rest.map fun v => v.category).sum ≤ W9) (hdg : decode c.code g.pc = .ok (.invokespecial index, 3))
    (hpre : ∀ vm₁, s.WarmedH vm₁ → Pre ⟨T.setVm vm₁, locs, cells, slots⟩ (Value.ref a :: argsL).toArray) :
    (∃ (v : Option Value) (vm₁ : Vm) (B : Pt), s.WarmedH vm₁ ∧ Stand p l e R s m args below meth c B.U B.locs B.cells B.slots ∧ Post ⟨T.setVm vm₁, locs, cells, slots⟩ (Value.ref a :: argsL).toArray v B ∧
      ∀ target, Steps p.tables e below (B.U.setTop { g with pc := g.pc + 3, stack := v.toList ++ rest }) target → Steps p.tables e below (T.setTop g) target) ∨
    (∃ (q : Addr) (vm₁ : Vm) (B : Pt), s.WarmedH vm₁ ∧ Stand p l e R s m args below meth c B.U B.locs B.cells B.slots ∧ PostX ⟨T.setVm vm₁, locs, cells, slots⟩ (Value.ref a :: argsL).toArray q B ∧
      Steps p.tables e below (T.setTop g) ((B.U.setTop { g with stack := rest }).pushFrame (.throwing q))) := by
  subst hg
  have hpl : e.platform.magicAccessors = ({} : Platform).magicAccessors := by rw [X.admits.platform]
  obtain ⟨mk, methM, cM, kP, vm₁, hnamed, hmethM, hcodeM, -, hlocalsM, -, hkP, -, hW₁, hstep₁⟩ := Steps.initColdArgsNest (e := e) X.here hexec X.warmed hpl hown hy1 hy hlink hinst hcode (f := g) rfl hlen hstack hdg
  have X₁ := X.noted hW₁
  rcases hK g.method meth c ⟨T.setVm vm₁, locs, cells, slots⟩ { g with stack := rest } (.invokespecial index) mk (Value.ref a :: argsL).toArray X₁ rfl hsize hdg hW (X₁.named hnamed) (hpre vm₁ X₁.warmed) with ⟨v, B, X', hpost, hsteps⟩ | ⟨q, B, X', hpost, hsteps⟩
  · exact Or.inl ⟨v, vm₁, B, X₁.warmed, X', hpost, fun target h => hstep₁ _ fun acts => by rw [doInvoke_state]; exact hsteps.trans h⟩
  · exact Or.inr ⟨q, vm₁, B, X₁.warmed, X', hpost, hstep₁ _ fun acts => by rw [doInvoke_state]; exact hsteps⟩
end VXIC
section VXID
variable {p : Program} {l : Launch} {e : Env} {R : Room} {s : State} {m : MethodId} {args : Array Value} {below : List Frame} {meth : Method} {c : Code} {H : Heap} {locs : List Loc} {cells slots : Nat}
theorem vx_runIN {y : MethodName} {bytes cc : ByteArray} {maxL nL mc ms n index : Nat} {ws : List Cond} {rm : Room} {Pc : Array Value → State → Prop} {Qc : Array Value → State → Outcome → State → Prop} {XC : String → State → State → Prop} {free : Addr → Prop} {Ts : List Cond} {own host : String} {b : Addr} {As rest : List Value} {g : JFrame}
    (S : CallFix p m c cc nL s args Ts own) (hM : vx_Met l y ws rm Pc Qc XC mc ms free) (cw : va_CN R s args own index y host bytes maxL none ws rm mc ms n ∧ y.name = "<init>" ∧ (Cond.instanceMethod y).before args s = true) (hp : PreS s H Pc (.ref b :: As))
    (hg : g.method = m) (hn : As.length = n) (hsize : g.locals.size = nL) (hstack : g.stack = As.reverse ++ .ref b :: rest) (hW : 2 * g.monitorRoom + (rest.map fun v => v.category).sum ≤ 8) (hdg : decode cc g.pc = .ok (.invokespecial index, 3)) (hf : cells + mc ≤ R.cells ∧ slots + ms ≤ R.slots) :
    vx_Run p l e R s m args below meth c H locs cells slots mc ms g rest (Qc (Value.ref b :: As).toArray) XC free := by
  obtain ⟨⟨⟨hrc, hrs, hfr, hlo, hws, hcw⟩, hcode, hini, hy, hlen, hl⟩, hx1, hx2⟩ := cw
  have hK : vx_Back l R p e below s args y 3 8 (PreOf R mc ms Pc) (PostOf Qc mc ms free) (vx_Post XC mc ms free) := vx_back (bytes := bytes) (maxL := maxL) (ret := none) hM hp.1 hrc hrs hfr hlo hws hcw (fun a' U hW => word_at hW (Or.inl (by first | rfl | simp [Cond.onTables, Cond.keeps, Cond.steady])) hini)
  obtain ⟨hx, hb, hml, ho, -⟩ := S
  have hPc := hp.2
  intro T hT X
  rcases vx_callIN X hx (bytes := bytes) (maxL := maxL) ho hx1 hl hx2 hcode hy hK hg (hsize.trans hml.symm) (a := b) (argsL := As) (rest := rest) (fun sig h => hn.trans (hlen sig h)) hstack hW (by rw [hb]; exact hdg)
    (fun vm₁ hW₁ => ⟨hf.1, hf.2, hPc (T.setVm vm₁) hT hW₁⟩) with ⟨v, vm₁, ⟨U', l2, c2, s2⟩, hW₁, X', ⟨g', mk, t, L, e1, e2, hq, h1, hL, h2, h3⟩, st⟩ | ⟨q, vm₁, ⟨U', l2, c2, s2⟩, hW₁, X', ⟨g', mk, t, L, E, ce, e1, e2, hq, hce, hcv, hcl, h1, hL, h2, h3⟩, st⟩
  · dsimp only [Pt.U, Pt.locs, Pt.cells, Pt.slots] at X' e1 e2 h1 h2 h3 st
    subst h1; subst h2; subst h3
    exact Or.inl ⟨v, (T.setVm vm₁).calling g' mk (Value.ref b :: As).toArray, t, U', L, hT, X', hL, e1, e2, hq, st⟩
  · dsimp only [Pt.U, Pt.locs, Pt.cells, Pt.slots] at X' e1 e2 h1 h2 h3 st hcl
    subst h1; subst h2; subst h3
    exact Or.inr ⟨q, (T.setVm vm₁).calling g' mk (Value.ref b :: As).toArray, t, U', L, E, ce, hT, X', hL, e1, e2, hq, hce, hcv, vx_cls hW₁ hcl, st⟩
end VXID
/-! ===== END ===== -/
/-! ===== BEGIN a method of a class above, found by the receiver, that may throw (follows va_callVU, va_runU of this kit) ===== -/
section
variable {p : Program} {l : Launch} {e : Env} {R : Room} {s : State} {m : MethodId} {args : Array Value} {below : List Frame} {meth : Method} {c : Code} {H : Heap} {locs : List Loc} {cells slots : Nat}
theorem vx_callVU {T : State} {locs : List Loc} {cells slots : Nat} (X : Stand p l e R s m args below meth c T locs cells slots) (hexec : p.tables.exec = Jvm.exec) {own C owner : String} {index : Nat} {x y : MethodName} {bytes : ByteArray} {maxL : Nat} {ret : Option FieldType}
    (hown : s.vm.findClass own = some m.cls) (hlink : (Cond.methodLink own index x).before args s = true) (hsame : (Cond.sameMethod x.cls owner x.name x.desc).before args s = true)
    (hd0 : va_Decl s ⟨owner, x.name, x.desc⟩) (howner : owner ≠ "java/lang/invoke/MethodHandle" ∧ owner ≠ "java/lang/invoke/VarHandle")
    (hsel : (Cond.selects C x y).before args s = true) (hinst : (Cond.instanceMethod y).before args s = true) (hcode : (Cond.code y bytes maxL ret).before args s = true)
    {W : Nat} {Pre : Pt → Array Value → Prop} {Post : Pt → Array Value → Option Value → Pt → Prop} {PostX : Pt → Array Value → Addr → Pt → Prop} (hK : vx_Back l R p e below s args y 3 W Pre Post PostX)
    {b : Addr} {cellB : Cell} (hcell : T.heap[b]? = some cellB) (hobj : cellB.vm.isStatics = false) (hcls : s.vm.findClass C = some cellB.cls)
    {g : JFrame} (hg : g.method = m) (hsize : g.locals.size = c.maxLocals) {argsL rest : List Value} (hlen : ∀ sig, parseMethodDescriptor x.desc = some sig → argsL.length = sig.parameters.length)
    (hstack : g.stack = argsL.reverse ++ .ref b :: rest) (hW : 2 * g.monitorRoom + (rest.map fun v => v.category).sum ≤ W) (hdg : decode c.code g.pc = .ok (.invokevirtual index, 3))
    (hpre : ∀ vm₁, s.WarmedH vm₁ → Pre ⟨T.setVm vm₁, locs, cells, slots⟩ (Value.ref b :: argsL).toArray) :
    (∃ (v : Option Value) (vm₁ : Vm) (B : Pt), s.WarmedH vm₁ ∧ Stand p l e R s m args below meth c B.U B.locs B.cells B.slots ∧ Post ⟨T.setVm vm₁, locs, cells, slots⟩ (Value.ref b :: argsL).toArray v B ∧
      ∀ target, Steps p.tables e below (B.U.setTop { g with pc := g.pc + 3, stack := v.toList ++ rest }) target → Steps p.tables e below (T.setTop g) target) ∨
    (∃ (q : Addr) (vm₁ : Vm) (B : Pt), s.WarmedH vm₁ ∧ Stand p l e R s m args below meth c B.U B.locs B.cells B.slots ∧ PostX ⟨T.setVm vm₁, locs, cells, slots⟩ (Value.ref b :: argsL).toArray q B ∧
      Steps p.tables e below (T.setTop g) ((B.U.setTop { g with stack := rest }).pushFrame (.throwing q))) := by
  obtain ⟨r0, r, hn, hrm, hstR, hsigR⟩ := hd0
  obtain ⟨cn, ck, r1, hcn, hck, hni, hf, hn1⟩ := Cond.sameMethod_found hsame
  cases hn.symm.trans hn1
  obtain ⟨mk, methM, hnamed, hmethM, -, habM⟩ := Cond.instanceMethod_spec hinst
  obtain ⟨c2, r2, m2, q1, q2, q3, q4, kP, hkP, hkPi⟩ := Cond.selects_spec hsel
  cases hcls.symm.trans q1
  cases hf.symm.trans q2
  cases hnamed.symm.trans q3
  have hselP : selectMethod e.platform s.vm cellB.cls r0 = .method mk := by rw [Launch.admits_selectMethod X.admits]; exact q4
  obtain ⟨vm₁, X₁, hstep₁⟩ := X.invokevirtualUp hexec hown hlink hsame howner hn hrm hstR (a := b) (cell := cellB) hcell
    (fun z h => by rw [h] at hobj; cases hobj) hselP hmethM habM hkP hkPi (g := g) hg (argsL := argsL) (rest := rest) (hlen _ hsigR) hstack hdg
  rcases hK m meth c ⟨T.setVm vm₁, locs, cells, slots⟩ { g with stack := rest } (.invokevirtual index) mk (Value.ref b :: argsL).toArray X₁ hg hsize hdg hW (X₁.named hnamed) (hpre vm₁ X₁.warmed) with ⟨v, B, X', hpost, hsteps⟩ | ⟨q, B, X', hpost, hsteps⟩
  · exact Or.inl ⟨v, vm₁, B, X₁.warmed, X', hpost, fun target h => hstep₁ _ fun acts => by rw [doInvoke_state]; exact hsteps.trans h⟩
  · exact Or.inr ⟨q, vm₁, B, X₁.warmed, X', hpost, hstep₁ _ fun acts => by rw [doInvoke_state]; exact hsteps⟩
theorem vx_runU {x y : MethodName} {bytes cc : ByteArray} {maxL nL mc ms n index : Nat} {ret : Option FieldType} {ws : List Cond} {rm : Room} {Pc : Array Value → State → Prop} {Qc : Array Value → State → Outcome → State → Prop} {XC : String → State → State → Prop} {free : Addr → Prop} {Ts : List Cond} {own C owner : String} {b : Addr} {As rest : List Value} {g : JFrame}
    (S : CallFix p m c cc nL s args Ts own) (hM : vx_Met l y ws rm Pc Qc XC mc ms free) (cw : va_CU R s args own C owner index x y bytes maxL ret ws rm mc ms n) (hp : PreV s H C b Pc As)
    (hg : g.method = m) (hn : As.length = n) (hsize : g.locals.size = nL) (hstack : g.stack = As.reverse ++ .ref b :: rest) (hW : 2 * g.monitorRoom + (rest.map fun v => v.category).sum ≤ 8) (hdg : decode cc g.pc = .ok (.invokevirtual index, 3)) (hf : cells + mc ≤ R.cells ∧ slots + ms ≤ R.slots) :
    vx_Run p l e R s m args below meth c H locs cells slots mc ms g rest (Qc (Value.ref b :: As).toArray) XC free := by
  obtain ⟨hrc, hrs, hfr, hlo, hws, hcw⟩ := cw.back
  have hini := cw.init
  have hK : vx_Back l R p e below s args y 3 8 (PreOf R mc ms Pc) (PostOf Qc mc ms free) (vx_Post XC mc ms free) := vx_back (bytes := bytes) (maxL := maxL) (ret := ret) hM hp.1 hrc hrs hfr hlo hws hcw (fun a' U hW => word_at hW (Or.inl (by first | rfl | simp [Cond.onTables, Cond.keeps, Cond.steady])) hini)
  obtain ⟨hx, hb, hml, ho, -⟩ := S
  obtain ⟨-, ⟨cellB, hcB, hoB, hclB⟩, hPc⟩ := hp
  intro T hT X
  rcases vx_callVU X hx (C := C) (owner := owner) (bytes := bytes) (maxL := maxL) (ret := ret) ho cw.link cw.same cw.decl cw.notMH cw.sel cw.inst cw.code hK (by rw [hT]; exact hcB) hoB hclB hg (hsize.trans hml.symm) (argsL := As) (rest := rest) (fun sig h => hn.trans (cw.len sig h)) hstack hW (by rw [hb]; exact hdg)
    (fun vm₁ hW₁ => ⟨hf.1, hf.2, hPc (T.setVm vm₁) hT hW₁⟩) with ⟨v, vm₁, ⟨U', l2, c2, s2⟩, hW₁, X', ⟨g', mk, t, L, e1, e2, hq, h1, hL, h2, h3⟩, st⟩ | ⟨q, vm₁, ⟨U', l2, c2, s2⟩, hW₁, X', ⟨g', mk, t, L, E, ce, e1, e2, hq, hce, hcv, hcl, h1, hL, h2, h3⟩, st⟩
  · dsimp only [Pt.U, Pt.locs, Pt.cells, Pt.slots] at X' e1 e2 h1 h2 h3 st
    subst h1; subst h2; subst h3
    exact Or.inl ⟨v, (T.setVm vm₁).calling g' mk (Value.ref b :: As).toArray, t, U', L, hT, X', hL, e1, e2, hq, st⟩
  · dsimp only [Pt.U, Pt.locs, Pt.cells, Pt.slots] at X' e1 e2 h1 h2 h3 st hcl
    subst h1; subst h2; subst h3
    exact Or.inr ⟨q, (T.setVm vm₁).calling g' mk (Value.ref b :: As).toArray, t, U', L, E, ce, hT, X', hL, e1, e2, hq, hce, hcv, vx_cls hW₁ hcl, st⟩
end
/-! ===== END ===== -/
/-! ===== BEGIN super.m(..) that may throw (follows va_callSU, va_runSU) ===== -/
section
variable {p : Program} {l : Launch} {e : Env} {R : Room} {s : State} {m : MethodId} {args : Array Value} {below : List Frame} {meth : Method} {c : Code} {H : Heap} {locs : List Loc} {cells slots : Nat}
theorem vx_callSU {T : State} {locs : List Loc} {cells slots : Nat} (X : Stand p l e R s m args below meth c T locs cells slots) (hexec : p.tables.exec = Jvm.exec) {own : String} {index : Nat} {y : MethodName} {bytes : ByteArray} {maxL : Nat} {ret : Option FieldType}
    (hown : s.vm.findClass own = some m.cls) (hlink : (Cond.methodLink own index y).before args s = true) (hsame : (Cond.sameMethod y.cls y.cls y.name y.desc).before args s = true) (hsup : (Cond.superclass own y.cls).before args s = true)
    (hinst : (Cond.instanceMethod y).before args s = true) (hcode : (Cond.code y bytes maxL ret).before args s = true) (hno : y.name ≠ "<init>")
    {W : Nat} {Pre : Pt → Array Value → Prop} {Post : Pt → Array Value → Option Value → Pt → Prop} {PostX : Pt → Array Value → Addr → Pt → Prop} (hK : vx_Back l R p e below s args y 3 W Pre Post PostX)
    {b : Addr} {cellB : Cell} {kB : Class} (hcell : T.heap[b]? = some cellB) (hobj : cellB.vm.isStatics = false) (hkB : s.vm.classes[cellB.cls]? = some kB)
    {g : JFrame} (hg : g.method = m) (hsize : g.locals.size = c.maxLocals) {argsL rest : List Value} (hlen : ∀ sig, parseMethodDescriptor y.desc = some sig → argsL.length = sig.parameters.length)
    (hstack : g.stack = argsL.reverse ++ .ref b :: rest) (hW : 2 * g.monitorRoom + (rest.map fun v => v.category).sum ≤ W) (hdg : decode c.code g.pc = .ok (.invokespecial index, 3))
    (hpre : ∀ vm₁, s.WarmedH vm₁ → Pre ⟨T.setVm vm₁, locs, cells, slots⟩ (Value.ref b :: argsL).toArray) :
    (∃ (v : Option Value) (vm₁ : Vm) (B : Pt), s.WarmedH vm₁ ∧ Stand p l e R s m args below meth c B.U B.locs B.cells B.slots ∧ Post ⟨T.setVm vm₁, locs, cells, slots⟩ (Value.ref b :: argsL).toArray v B ∧
      ∀ target, Steps p.tables e below (B.U.setTop { g with pc := g.pc + 3, stack := v.toList ++ rest }) target → Steps p.tables e below (T.setTop g) target) ∨
    (∃ (q : Addr) (vm₁ : Vm) (B : Pt), s.WarmedH vm₁ ∧ Stand p l e R s m args below meth c B.U B.locs B.cells B.slots ∧ PostX ⟨T.setVm vm₁, locs, cells, slots⟩ (Value.ref b :: argsL).toArray q B ∧
      Steps p.tables e below (T.setTop g) ((B.U.setTop { g with stack := rest }).pushFrame (.throwing q))) := by
  obtain ⟨mk, methM, hnamed, hmethM, hstM, habM⟩ := Cond.instanceMethod_spec hinst
  obtain ⟨methM', cM, hmethM', -, -, -, -, -, -, hsigM⟩ := Cond.code_spec hnamed hcode
  cases hmethM.symm.trans hmethM'
  obtain ⟨ps, dk, kp, hps, hdk, hkp, hsuper, -, -, hnid⟩ := Cond.superclass_spec hown hsup
  have hn : s.methodNamed? ⟨y.cls, y.name, y.desc⟩ = some mk := hnamed
  have hpm : ps = mk.cls := Option.some.inj (hps.symm.trans (findClass_of_methodNamed hnamed))
  have hsub : s.vm.isSubclass ps mk.cls = true := by rw [hpm]; simp [Vm.isSubclass, Vm.isSubclassAux]
  obtain ⟨vm₁, X₁, hstep₁⟩ := X.invokespecialUp hexec hown hlink hsame hn hmethM hstM habM hno hdk hnid hps hsuper hsub (a := b) (cell := cellB) hcell
    (fun z h => by rw [h] at hobj; cases hobj) hkB (g := g) hg (argsL := argsL) (rest := rest) (hlen _ hsigM) hstack hdg
  rcases hK m meth c ⟨T.setVm vm₁, locs, cells, slots⟩ { g with stack := rest } (.invokespecial index) mk (Value.ref b :: argsL).toArray X₁ hg hsize hdg hW (X₁.named hnamed) (hpre vm₁ X₁.warmed) with ⟨v, B, X', hpost, hsteps⟩ | ⟨q, B, X', hpost, hsteps⟩
  · exact Or.inl ⟨v, vm₁, B, X₁.warmed, X', hpost, fun target h => hstep₁ _ (by rw [doInvoke_state]; exact hsteps.trans h)⟩
  · exact Or.inr ⟨q, vm₁, B, X₁.warmed, X', hpost, hstep₁ _ (by rw [doInvoke_state]; exact hsteps)⟩
theorem vx_runSU {y : MethodName} {bytes cc : ByteArray} {maxL nL mc ms n index : Nat} {ret : Option FieldType} {ws : List Cond} {rm : Room} {Pc : Array Value → State → Prop} {Qc : Array Value → State → Outcome → State → Prop} {XC : String → State → State → Prop} {free : Addr → Prop} {Ts : List Cond} {own C : String} {cC : ClassId} {b : Addr} {As rest : List Value} {g : JFrame}
    (hat : ClassAt s C cC) (S : CallFix p m c cc nL s args Ts own) (hM : vx_Met l y ws rm Pc Qc XC mc ms free) (cw : va_CS R s args own index y bytes maxL ret ws rm mc ms n) (hp : PreV s H C b Pc As)
    (hg : g.method = m) (hn : As.length = n) (hsize : g.locals.size = nL) (hstack : g.stack = As.reverse ++ .ref b :: rest) (hW : 2 * g.monitorRoom + (rest.map fun v => v.category).sum ≤ 8) (hdg : decode cc g.pc = .ok (.invokespecial index, 3)) (hf : cells + mc ≤ R.cells ∧ slots + ms ≤ R.slots) :
    vx_Run p l e R s m args below meth c H locs cells slots mc ms g rest (Qc (Value.ref b :: As).toArray) XC free := by
  obtain ⟨⟨hrc, hrs, hfr, hlo, hws, hcw⟩, hl1, hl2, hl3, hl4, hini, hcode, hno, hlen⟩ := cw
  have hK : vx_Back l R p e below s args y 3 8 (PreOf R mc ms Pc) (PostOf Qc mc ms free) (vx_Post XC mc ms free) := vx_back (bytes := bytes) (maxL := maxL) (ret := ret) hM hp.1 hrc hrs hfr hlo hws hcw (fun a' U hW => word_at hW (Or.inl (by first | rfl | simp [Cond.onTables, Cond.keeps, Cond.steady])) hini)
  obtain ⟨hx, hb, hml, ho, -⟩ := S
  obtain ⟨-, ⟨cellB, hcB, hoB, hclB⟩, hPc⟩ := hp
  obtain ⟨hfc, kB, hkB, -⟩ := hat
  cases hfc.symm.trans hclB
  intro T hT X
  rcases vx_callSU X hx (bytes := bytes) (maxL := maxL) (ret := ret) ho hl1 hl2 hl3 hl4 hcode hno hK (by rw [hT]; exact hcB) hoB hkB hg (hsize.trans hml.symm) (argsL := As) (rest := rest) (fun sig h => hn.trans (hlen sig h)) hstack hW (by rw [hb]; exact hdg)
    (fun vm₁ hW₁ => ⟨hf.1, hf.2, hPc (T.setVm vm₁) hT hW₁⟩) with ⟨v, vm₁, ⟨U', l2, c2, s2⟩, hW₁, X', ⟨g', mk, t, L, e1, e2, hq, h1, hL, h2, h3⟩, st⟩ | ⟨q, vm₁, ⟨U', l2, c2, s2⟩, hW₁, X', ⟨g', mk, t, L, E, ce, e1, e2, hq, hce, hcv, hcl, h1, hL, h2, h3⟩, st⟩
  · dsimp only [Pt.U, Pt.locs, Pt.cells, Pt.slots] at X' e1 e2 h1 h2 h3 st
    subst h1; subst h2; subst h3
    exact Or.inl ⟨v, (T.setVm vm₁).calling g' mk (Value.ref b :: As).toArray, t, U', L, hT, X', hL, e1, e2, hq, st⟩
  · dsimp only [Pt.U, Pt.locs, Pt.cells, Pt.slots] at X' e1 e2 h1 h2 h3 st hcl
    subst h1; subst h2; subst h3
    exact Or.inr ⟨q, (T.setVm vm₁).calling g' mk (Value.ref b :: As).toArray, t, U', L, E, ce, hT, X', hL, e1, e2, hq, hce, hcv, vx_cls hW₁ hcl, st⟩
end
/-! ===== END ===== -/
/-! ===== BEGIN a private method of a nest mate that may throw (follows va_callVN, va_callSN, va_runVN, va_runSN) ===== -/
section
variable {p : Program} {l : Launch} {e : Env} {R : Room} {s : State} {m : MethodId} {args : Array Value} {below : List Frame} {meth : Method} {c : Code} {H : Heap} {locs : List Loc} {cells slots : Nat}
variable {T : State}
theorem vx_callVN (X : Stand p l e R s m args below meth c T locs cells slots) (hexec : p.tables.exec = Jvm.exec) {own C : String} {index : Nat} {host : String} {y : MethodName} {bytes : ByteArray} {maxL : Nat} {ret : Option FieldType}
    (hown : s.vm.findClass own = some m.cls) (hlink : (Cond.methodLinkNest own index y host).before args s = true) (hinst : (Cond.instanceMethod y).before args s = true) (hsel : (Cond.selects C y y).before args s = true)
    (hcode : (Cond.code y bytes maxL ret).before args s = true) (hy : y.cls ≠ "java/lang/invoke/MethodHandle" ∧ y.cls ≠ "java/lang/invoke/VarHandle")
    {W : Nat} {Pre : Pt → Array Value → Prop} {Post : Pt → Array Value → Option Value → Pt → Prop} {PostX : Pt → Array Value → Addr → Pt → Prop} (hK : vx_Back l R p e below s args y 3 W Pre Post PostX)
    {b : Addr} {cellB : Cell} (hcell : T.heap[b]? = some cellB) (hobj : cellB.vm.isStatics = false) (hcls : s.vm.findClass C = some cellB.cls)
    {g : JFrame} (hg : g.method = m) (hsize : g.locals.size = c.maxLocals) {argsL rest : List Value} (hlen : ∀ sig, parseMethodDescriptor y.desc = some sig → argsL.length = sig.parameters.length)
    (hstack : g.stack = argsL.reverse ++ .ref b :: rest) (hW : 2 * g.monitorRoom + (rest.map fun v => v.category).sum ≤ W) (hdg : decode c.code g.pc = .ok (.invokevirtual index, 3))
    (hpre : ∀ vm₁, s.WarmedH vm₁ → Pre ⟨T.setVm vm₁, locs, cells, slots⟩ (Value.ref b :: argsL).toArray) :
    (∃ (v : Option Value) (vm₁ : Vm) (B : Pt), s.WarmedH vm₁ ∧ Stand p l e R s m args below meth c B.U B.locs B.cells B.slots ∧ Post ⟨T.setVm vm₁, locs, cells, slots⟩ (Value.ref b :: argsL).toArray v B ∧
      ∀ target, Steps p.tables e below (B.U.setTop { g with pc := g.pc + 3, stack := v.toList ++ rest }) target → Steps p.tables e below (T.setTop g) target) ∨
    (∃ (q : Addr) (vm₁ : Vm) (B : Pt), s.WarmedH vm₁ ∧ Stand p l e R s m args below meth c B.U B.locs B.cells B.slots ∧ PostX ⟨T.setVm vm₁, locs, cells, slots⟩ (Value.ref b :: argsL).toArray q B ∧
      Steps p.tables e below (T.setTop g) ((B.U.setTop { g with stack := rest }).pushFrame (.throwing q))) := by
  obtain ⟨mk, methM, hnamed, hmethM, hstM, habM⟩ := Cond.instanceMethod_spec hinst
  obtain ⟨methM', cM, hmethM', -, -, -, -, -, -, hsigM⟩ := Cond.code_spec hnamed hcode
  cases hmethM.symm.trans hmethM'
  obtain ⟨c2, r2, m2, q1, q2, q3, q4, kP, hkP, hkPi⟩ := Cond.selects_spec hsel
  cases hcls.symm.trans q1
  cases (State.methodFound?_of_named hnamed hy).symm.trans q2
  cases hnamed.symm.trans q3
  have hselP : selectMethod e.platform s.vm cellB.cls mk = .method mk := by rw [Launch.admits_selectMethod X.admits]; exact q4
  obtain ⟨vm₁, X₁, hstep₁⟩ := X.invokevirtualNest hexec hown hlink hnamed hmethM hstM hkP hkPi hy (a := b) (cell := cellB) hcell
    (fun z h => by rw [h] at hobj; cases hobj) hselP hmethM habM hkP hkPi (g := g) hg (argsL := argsL) (rest := rest) (hlen _ hsigM) hstack hdg
  rcases hK m meth c ⟨T.setVm vm₁, locs, cells, slots⟩ { g with stack := rest } (.invokevirtual index) mk (Value.ref b :: argsL).toArray X₁ hg hsize hdg hW (X₁.named hnamed) (hpre vm₁ X₁.warmed) with ⟨v, B, X', hpost, hsteps⟩ | ⟨q, B, X', hpost, hsteps⟩
  · exact Or.inl ⟨v, vm₁, B, X₁.warmed, X', hpost, fun target h => hstep₁ _ fun acts => by rw [doInvoke_state]; exact hsteps.trans h⟩
  · exact Or.inr ⟨q, vm₁, B, X₁.warmed, X', hpost, hstep₁ _ fun acts => by rw [doInvoke_state]; exact hsteps⟩
theorem vx_callSN (X : Stand p l e R s m args below meth c T locs cells slots) (hexec : p.tables.exec = Jvm.exec) {own : String} {index : Nat} {host : String} {y : MethodName} {bytes : ByteArray} {maxL : Nat} {ret : Option FieldType}
    (hown : s.vm.findClass own = some m.cls) (hlink : (Cond.methodLinkNest own index y host).before args s = true) (hstat : (Cond.static y).before args s = true) (hinit : (Cond.initialized y.cls).before args s = true)
    (hcode : (Cond.code y bytes maxL ret).before args s = true) (hy : y.cls ≠ "java/lang/invoke/MethodHandle" ∧ y.cls ≠ "java/lang/invoke/VarHandle")
    {W : Nat} {Pre : Pt → Array Value → Prop} {Post : Pt → Array Value → Option Value → Pt → Prop} {PostX : Pt → Array Value → Addr → Pt → Prop} (hK : vx_Back l R p e below s args y 3 W Pre Post PostX)
    {g : JFrame} (hg : g.method = m) (hsize : g.locals.size = c.maxLocals) {argsL rest : List Value} (hlen : ∀ sig, parseMethodDescriptor y.desc = some sig → argsL.length = sig.parameters.length)
    (hstack : g.stack = argsL.reverse ++ rest) (hW : 2 * g.monitorRoom + (rest.map fun v => v.category).sum ≤ W) (hdg : decode c.code g.pc = .ok (.invokestatic index, 3))
    (hpre : ∀ vm₁, s.WarmedH vm₁ → Pre ⟨T.setVm vm₁, locs, cells, slots⟩ argsL.toArray) :
    (∃ (v : Option Value) (vm₁ : Vm) (B : Pt), s.WarmedH vm₁ ∧ Stand p l e R s m args below meth c B.U B.locs B.cells B.slots ∧ Post ⟨T.setVm vm₁, locs, cells, slots⟩ argsL.toArray v B ∧
      ∀ target, Steps p.tables e below (B.U.setTop { g with pc := g.pc + 3, stack := v.toList ++ rest }) target → Steps p.tables e below (T.setTop g) target) ∨
    (∃ (q : Addr) (vm₁ : Vm) (B : Pt), s.WarmedH vm₁ ∧ Stand p l e R s m args below meth c B.U B.locs B.cells B.slots ∧ PostX ⟨T.setVm vm₁, locs, cells, slots⟩ argsL.toArray q B ∧
      Steps p.tables e below (T.setTop g) ((B.U.setTop { g with stack := rest }).pushFrame (.throwing q))) := by
  obtain ⟨mk, hnamed⟩ := Cond.code_named hcode
  obtain ⟨methM, cM, hmethM, -, -, -, -, -, -, hsigM⟩ := Cond.code_spec hnamed hcode
  have hstatic : methM.isStatic = true := Cond.static_spec hnamed hmethM hstat
  obtain ⟨kP, hkP, -⟩ := className_of_methodNamed hnamed
  have hinitP : kP.init = .initialized := Cond.initialized_spec (findClass_of_methodNamed hnamed) hkP hinit
  obtain ⟨vm₁, X₁, hstep₁⟩ := X.invokestaticNest hexec hown hlink hnamed hmethM hstatic hkP hinitP hy (g := g) hg (argsL := argsL) (rest := rest) (hlen _ hsigM) hstack hdg
  rcases hK m meth c ⟨T.setVm vm₁, locs, cells, slots⟩ { g with stack := rest } (.invokestatic index) mk argsL.toArray X₁ hg hsize hdg hW (X₁.named hnamed) (hpre vm₁ X₁.warmed) with ⟨v, B, X', hpost, hsteps⟩ | ⟨q, B, X', hpost, hsteps⟩
  · exact Or.inl ⟨v, vm₁, B, X₁.warmed, X', hpost, fun target h => hstep₁ _ fun acts => by rw [doInvoke_state]; exact hsteps.trans h⟩
  · exact Or.inr ⟨q, vm₁, B, X₁.warmed, X', hpost, hstep₁ _ fun acts => by rw [doInvoke_state]; exact hsteps⟩
theorem vx_runVN {y : MethodName} {bytes cc : ByteArray} {maxL nL mc ms n index : Nat} {ret : Option FieldType} {ws : List Cond} {rm : Room} {Pc : Array Value → State → Prop} {Qc : Array Value → State → Outcome → State → Prop} {XC : String → State → State → Prop} {free : Addr → Prop} {Ts : List Cond} {own C host : String} {b : Addr} {As rest : List Value} {g : JFrame}
    (S : CallFix p m c cc nL s args Ts own) (hM : vx_Met l y ws rm Pc Qc XC mc ms free) (cw : va_CN R s args own index y host bytes maxL ret ws rm mc ms n ∧ (Cond.instanceMethod y).before args s = true ∧ (Cond.selects C y y).before args s = true) (hp : PreV s H C b Pc As)
    (hg : g.method = m) (hn : As.length = n) (hsize : g.locals.size = nL) (hstack : g.stack = As.reverse ++ .ref b :: rest) (hW : 2 * g.monitorRoom + (rest.map fun v => v.category).sum ≤ 8) (hdg : decode cc g.pc = .ok (.invokevirtual index, 3)) (hf : cells + mc ≤ R.cells ∧ slots + ms ≤ R.slots) :
    vx_Run p l e R s m args below meth c H locs cells slots mc ms g rest (Qc (Value.ref b :: As).toArray) XC free := by
  obtain ⟨⟨⟨hrc, hrs, hfr, hlo, hws, hcw⟩, hcode, hini, hy, hlen, hl⟩, hx1, hx2⟩ := cw
  have hK : vx_Back l R p e below s args y 3 8 (PreOf R mc ms Pc) (PostOf Qc mc ms free) (vx_Post XC mc ms free) := vx_back (bytes := bytes) (maxL := maxL) (ret := ret) hM hp.1 hrc hrs hfr hlo hws hcw (fun a' U hW => word_at hW (Or.inl (by first | rfl | simp [Cond.onTables, Cond.keeps, Cond.steady])) hini)
  obtain ⟨hx, hb, hml, ho, -⟩ := S
  obtain ⟨-, ⟨cellB, hcB, hoB, hclB⟩, hPc⟩ := hp
  intro T hT X
  rcases vx_callVN X hx (C := C) (bytes := bytes) (maxL := maxL) (ret := ret) ho hl hx1 hx2 hcode hy hK (by rw [hT]; exact hcB) hoB hclB hg (hsize.trans hml.symm) (argsL := As) (rest := rest) (fun sig h => hn.trans (hlen sig h)) hstack hW (by rw [hb]; exact hdg)
    (fun vm₁ hW₁ => ⟨hf.1, hf.2, hPc (T.setVm vm₁) hT hW₁⟩) with ⟨v, vm₁, ⟨U', l2, c2, s2⟩, hW₁, X', ⟨g', mk, t, L, e1, e2, hq, h1, hL, h2, h3⟩, st⟩ | ⟨q, vm₁, ⟨U', l2, c2, s2⟩, hW₁, X', ⟨g', mk, t, L, E, ce, e1, e2, hq, hce, hcv, hcl, h1, hL, h2, h3⟩, st⟩
  · dsimp only [Pt.U, Pt.locs, Pt.cells, Pt.slots] at X' e1 e2 h1 h2 h3 st
    subst h1; subst h2; subst h3
    exact Or.inl ⟨v, (T.setVm vm₁).calling g' mk (Value.ref b :: As).toArray, t, U', L, hT, X', hL, e1, e2, hq, st⟩
  · dsimp only [Pt.U, Pt.locs, Pt.cells, Pt.slots] at X' e1 e2 h1 h2 h3 st hcl
    subst h1; subst h2; subst h3
    exact Or.inr ⟨q, (T.setVm vm₁).calling g' mk (Value.ref b :: As).toArray, t, U', L, E, ce, hT, X', hL, e1, e2, hq, hce, hcv, vx_cls hW₁ hcl, st⟩
theorem vx_runSN {y : MethodName} {bytes cc : ByteArray} {maxL nL mc ms n index : Nat} {ret : Option FieldType} {ws : List Cond} {rm : Room} {Pc : Array Value → State → Prop} {Qc : Array Value → State → Outcome → State → Prop} {XC : String → State → State → Prop} {free : Addr → Prop} {Ts : List Cond} {own host : String} {As rest : List Value} {g : JFrame}
    (S : CallFix p m c cc nL s args Ts own) (hM : vx_Met l y ws rm Pc Qc XC mc ms free) (cw : va_CN R s args own index y host bytes maxL ret ws rm mc ms n ∧ (Cond.static y).before args s = true ∧ True) (hp : PreS s H Pc As)
    (hg : g.method = m) (hn : As.length = n) (hsize : g.locals.size = nL) (hstack : g.stack = As.reverse ++ rest) (hW : 2 * g.monitorRoom + (rest.map fun v => v.category).sum ≤ 8) (hdg : decode cc g.pc = .ok (.invokestatic index, 3)) (hf : cells + mc ≤ R.cells ∧ slots + ms ≤ R.slots) :
    vx_Run p l e R s m args below meth c H locs cells slots mc ms g rest (Qc As.toArray) XC free := by
  obtain ⟨⟨⟨hrc, hrs, hfr, hlo, hws, hcw⟩, hcode, hini, hy, hlen, hl⟩, hx1, hx2⟩ := cw
  have hK : vx_Back l R p e below s args y 3 8 (PreOf R mc ms Pc) (PostOf Qc mc ms free) (vx_Post XC mc ms free) := vx_back (bytes := bytes) (maxL := maxL) (ret := ret) hM hp.1 hrc hrs hfr hlo hws hcw (fun a' U hW => word_at hW (Or.inl (by first | rfl | simp [Cond.onTables, Cond.keeps, Cond.steady])) hini)
  obtain ⟨hx, hb, hml, ho, -⟩ := S
  have hPc := hp.2
  intro T hT X
  rcases vx_callSN X hx (bytes := bytes) (maxL := maxL) (ret := ret) ho hl hx1 hini hcode hy hK hg (hsize.trans hml.symm) (argsL := As) (rest := rest) (fun sig h => hn.trans (hlen sig h)) hstack hW (by rw [hb]; exact hdg)
    (fun vm₁ hW₁ => ⟨hf.1, hf.2, hPc (T.setVm vm₁) hT hW₁⟩) with ⟨v, vm₁, ⟨U', l2, c2, s2⟩, hW₁, X', ⟨g', mk, t, L, e1, e2, hq, h1, hL, h2, h3⟩, st⟩ | ⟨q, vm₁, ⟨U', l2, c2, s2⟩, hW₁, X', ⟨g', mk, t, L, E, ce, e1, e2, hq, hce, hcv, hcl, h1, hL, h2, h3⟩, st⟩
  · dsimp only [Pt.U, Pt.locs, Pt.cells, Pt.slots] at X' e1 e2 h1 h2 h3 st
    subst h1; subst h2; subst h3
    exact Or.inl ⟨v, (T.setVm vm₁).calling g' mk As.toArray, t, U', L, hT, X', hL, e1, e2, hq, st⟩
  · dsimp only [Pt.U, Pt.locs, Pt.cells, Pt.slots] at X' e1 e2 h1 h2 h3 st hcl
    subst h1; subst h2; subst h3
    exact Or.inr ⟨q, (T.setVm vm₁).calling g' mk As.toArray, t, U', L, E, ce, hT, X', hL, e1, e2, hq, hce, hcv, vx_cls hW₁ hcl, st⟩
end
/-! ===== END ===== -/
/-! ===== BEGIN calls by an interface of methods that may throw (vx_callIF, vx_runF follow va_callIF, va_runF of this kit) ===== -/
section
variable {p : Program} {l : Launch} {e : Env} {R : Room} {s : State} {m : MethodId} {args : Array Value} {below : List Frame} {meth : Method} {c : Code} {H : Heap} {locs : List Loc} {cells slots : Nat} {Q : State → Prop}
variable {mc ms : Nat} {free : Addr → Prop} {A0 A1 : Nat → Prop} {H0 : Heap} {a : Array Value} {pc : Nat} {ls : Array Slot} {st0 rest : List Value}
def vx_Run5 (p : Program) (l : Launch) (e : Env) (R : Room) (s : State) (m : MethodId) (args : Array Value) (below : List Frame) (meth : Method) (c : Code) (H : Heap) (locs : List Loc) (cells slots mc ms : Nat) (g : JFrame) (rest : List Value) (Qa : State → Outcome → State → Prop) (XC : String → State → State → Prop) (free : Addr → Prop) : Prop :=
  ∀ T : State, T.heap = H → Stand p l e R s m args below meth c T locs cells slots →
    (∃ (v : Option Value) (st₀ t T' : State) (L : List Loc), st₀.heap = H ∧ Stand p l e R s m args below meth c T' (locs ++ L) (cells + mc) (slots + ms) ∧ (∀ q ∈ L, free q.base) ∧ T'.heap = t.heap ∧ T'.vm = t.vm ∧ Qa st₀ (.returned v) t ∧
      Goes p e below T g T' { g with pc := g.pc + 5, stack := v.toList ++ rest }) ∨
    (∃ (q : Addr) (st₀ t T' : State) (L : List Loc) (E : String) (ce : Cell), st₀.heap = H ∧ Stand p l e R s m args below meth c T' (locs ++ L) (cells + mc) (slots + ms) ∧ (∀ z ∈ L, free z.base) ∧ T'.heap = t.heap ∧ T'.vm = t.vm ∧ XC E st₀ t ∧ t.heap[q]? = some ce ∧ ce.vm = .none ∧ s.vm.findClass E = some ce.cls ∧
      Steps p.tables e below (T.setTop g) ((T'.setTop { g with stack := rest }).pushFrame (.throwing q)))
theorem vx_callIF {T : State} (X : Stand p l e R s m args below meth c T locs cells slots) (hexec : p.tables.exec = Jvm.exec) {own C : String} {index count : Nat} {x y : MethodName} {bytes : ByteArray} {maxL : Nat} {ret : Option FieldType}
    (hown : s.vm.findClass own = some m.cls) (hlink : (Cond.methodLink own index x).before args s = true) (hdecl : (Cond.declares x).before args s = true) (hface : (Cond.interfaceMethod x.cls x.cls x.name x.desc).before args s = true)
    (hsel : (Cond.selects C x y).before args s = true) (hinst : (Cond.instanceMethod y).before args s = true) (hpub : (Cond.publicMethod y).before args s = true) (hunh : (Cond.unhidden C x.name x.desc).before args s = true)
    (hcast : (Cond.castable C x.cls).before args s = true) (hcode : (Cond.code y bytes maxL ret).before args s = true) (hx : x.cls ≠ "java/lang/invoke/MethodHandle" ∧ x.cls ≠ "java/lang/invoke/VarHandle")
    {W9 : Nat} {Pre : Pt → Array Value → Prop} {Post : Pt → Array Value → Option Value → Pt → Prop} {PostX : Pt → Array Value → Addr → Pt → Prop} (hK : vx_Back l R p e below s args y 5 W9 Pre Post PostX)
    {b : Addr} {cellB : Cell} {kB : Class} (hcell : T.heap[b]? = some cellB) (hobj : cellB.vm.isStatics = false) (hcls : s.vm.findClass C = some cellB.cls) (hkB : s.vm.classes[cellB.cls]? = some kB)
    {g : JFrame} (hg : g.method = m) (hsize : g.locals.size = c.maxLocals) {argsL rest : List Value} (hlen : ∀ sig, parseMethodDescriptor x.desc = some sig → argsL.length = sig.parameters.length)
    (hstack : g.stack = argsL.reverse ++ .ref b :: rest) (hW : 2 * g.monitorRoom + (rest.map fun v => v.category).sum ≤ W9) (hdg : decode c.code g.pc = .ok (.invokeinterface index count, 5))
    (hpre : ∀ vm₁, s.WarmedH vm₁ → Pre ⟨T.setVm vm₁, locs, cells, slots⟩ (Value.ref b :: argsL).toArray) :
    (∃ (v : Option Value) (vm₁ : Vm) (B : Pt), s.WarmedH vm₁ ∧ Stand p l e R s m args below meth c B.U B.locs B.cells B.slots ∧ Post ⟨T.setVm vm₁, locs, cells, slots⟩ (Value.ref b :: argsL).toArray v B ∧
      ∀ target, Steps p.tables e below (B.U.setTop { g with pc := g.pc + 5, stack := v.toList ++ rest }) target → Steps p.tables e below (T.setTop g) target) ∨
    (∃ (q : Addr) (vm₁ : Vm) (B : Pt), s.WarmedH vm₁ ∧ Stand p l e R s m args below meth c B.U B.locs B.cells B.slots ∧ PostX ⟨T.setVm vm₁, locs, cells, slots⟩ (Value.ref b :: argsL).toArray q B ∧
      Steps p.tables e below (T.setTop g) ((B.U.setTop { g with stack := rest }).pushFrame (.throwing q))) := by
  obtain ⟨r0, r, hn, hrm, hstR, hsigR⟩ := Cond.declares_spec hdecl
  obtain ⟨cL, kL, r1, hcL, hkL, hiL, hfoundL, hn1⟩ := Cond.interfaceMethod_spec hface
  cases hn.symm.trans hn1
  have hr0cls : r0.cls = cL := Option.some.inj ((findClass_of_methodNamed hn).symm.trans hcL)
  obtain ⟨hnameR, hdescR⟩ := name_of_methodNamed hn hrm
  obtain ⟨mk, methM, hnamed, hmethM, -, habM⟩ := Cond.instanceMethod_spec hinst
  obtain ⟨c2, r2, m2, q1, q2, q3, q4, -⟩ := Cond.selects_spec hsel
  cases hcls.symm.trans q1
  cases hfoundL.symm.trans q2
  cases hnamed.symm.trans q3
  have hselP : selectMethod e.platform s.vm cellB.cls r0 = .method mk := by rw [Launch.admits_selectMethod X.admits]; exact q4
  have hpubM : hasFlag methM.accessFlags Acc.public_ = true := Cond.publicMethod_spec hnamed hmethM hpub
  have hway : ((cellB.cls :: s.vm.superclasses cellB.cls).any fun k => (declaredIn s.vm r.name r.desc k).any fun (_, z) => z.isPrivate || z.isStatic) = false := by
    rw [hnameR, hdescR]; exact Cond.unhidden_spec hcls hunh
  obtain ⟨c3, t3, w1, w2, w3⟩ := Cond.castable_spec hcast
  cases hcls.symm.trans w1
  cases hcL.symm.trans w2
  obtain ⟨vm₁, X₁, hstep₁⟩ := X.invokeinterface hexec hown hlink hn hrm hstR (by rw [hr0cls]; exact hkL) hiL hx (a := b) (cell := cellB) (kcell := kB) hcell
    (fun z h => by rw [h] at hobj; cases hobj) hkB (by rw [hr0cls]; exact w3) hselP hmethM hway hpubM habM (g := g) hg (argsL := argsL) (rest := rest) (hlen _ hsigR) hstack hdg
  rcases hK m meth c ⟨T.setVm vm₁, locs, cells, slots⟩ { g with stack := rest } (.invokeinterface index count) mk (Value.ref b :: argsL).toArray X₁ hg hsize hdg hW (X₁.named hnamed) (hpre vm₁ X₁.warmed) with ⟨v, B, X', hpost, hsteps⟩ | ⟨q, B, X', hpost, hsteps⟩
  · exact Or.inl ⟨v, vm₁, B, X₁.warmed, X', hpost, fun target h => hstep₁ _ fun acts => by rw [doInvoke_state]; exact hsteps.trans h⟩
  · exact Or.inr ⟨q, vm₁, B, X₁.warmed, X', hpost, hstep₁ _ fun acts => by rw [doInvoke_state]; exact hsteps⟩
theorem vx_runF {x y : MethodName} {bytes cc : ByteArray} {maxL nL mc ms n index count : Nat} {ret : Option FieldType} {ws : List Cond} {rm : Room} {Pc : Array Value → State → Prop} {Qc : Array Value → State → Outcome → State → Prop} {XC : String → State → State → Prop} {free : Addr → Prop} {Ts : List Cond} {own C : String} {cC : ClassId} {b : Addr} {As rest : List Value} {g : JFrame}
    (hat : ClassAt s C cC) (S : CallFix p m c cc nL s args Ts own) (hM : vx_Met l y ws rm Pc Qc XC mc ms free) (cw : va_CI R s args own C index x y bytes maxL ret ws rm mc ms n) (hp : PreV s H C b Pc As)
    (hg : g.method = m) (hn : As.length = n) (hsize : g.locals.size = nL) (hstack : g.stack = As.reverse ++ .ref b :: rest) (hW : 2 * g.monitorRoom + (rest.map fun v => v.category).sum ≤ 8) (hdg : decode cc g.pc = .ok (.invokeinterface index count, 5)) (hf : cells + mc ≤ R.cells ∧ slots + ms ≤ R.slots) :
    vx_Run5 p l e R s m args below meth c H locs cells slots mc ms g rest (Qc (Value.ref b :: As).toArray) XC free := by
  obtain ⟨hrc, hrs, hfr, hlo, hws, hcw⟩ := cw.back
  have hini := cw.init
  have hK : vx_Back l R p e below s args y 5 8 (PreOf R mc ms Pc) (PostOf Qc mc ms free) (vx_Post XC mc ms free) := vx_back (bytes := bytes) (maxL := maxL) (ret := ret) hM hp.1 hrc hrs hfr hlo hws hcw (fun a' U hW => word_at hW (Or.inl (by first | rfl | simp [Cond.onTables, Cond.keeps, Cond.steady])) hini)
  obtain ⟨hx, hb, hml, ho, -⟩ := S
  obtain ⟨-, ⟨cellB, hcB, hoB, hclB⟩, hPc⟩ := hp
  obtain ⟨hfc, kB, hkB, -⟩ := hat
  cases hfc.symm.trans hclB
  intro T hT X
  rcases vx_callIF X hx (C := C) (bytes := bytes) (maxL := maxL) (ret := ret) ho cw.link cw.decl cw.face cw.sel cw.inst cw.pub cw.unh cw.cast cw.code cw.notMH hK (by rw [hT]; exact hcB) hoB hclB hkB hg (hsize.trans hml.symm) (argsL := As) (rest := rest) (fun sig h => hn.trans (cw.len sig h)) hstack hW (by rw [hb]; exact hdg)
    (fun vm₁ hW₁ => ⟨hf.1, hf.2, hPc (T.setVm vm₁) hT hW₁⟩) with ⟨v, vm₁, ⟨U', l2, c2, s2⟩, hW₁, X', ⟨g', mk, t, L, e1, e2, hq, h1, hL, h2, h3⟩, st⟩ | ⟨q, vm₁, ⟨U', l2, c2, s2⟩, hW₁, X', ⟨g', mk, t, L, E, ce, e1, e2, hq, hce, hcv, hcl, h1, hL, h2, h3⟩, st⟩
  · dsimp only [Pt.U, Pt.locs, Pt.cells, Pt.slots] at X' e1 e2 h1 h2 h3 st
    subst h1; subst h2; subst h3
    exact Or.inl ⟨v, (T.setVm vm₁).calling g' mk (Value.ref b :: As).toArray, t, U', L, hT, X', hL, e1, e2, hq, st⟩
  · dsimp only [Pt.U, Pt.locs, Pt.cells, Pt.slots] at X' e1 e2 h1 h2 h3 st hcl
    subst h1; subst h2; subst h3
    exact Or.inr ⟨q, (T.setVm vm₁).calling g' mk (Value.ref b :: As).toArray, t, U', L, E, ce, hT, X', hL, e1, e2, hq, hce, hcv, vx_cls hW₁ hcl, st⟩
theorem vx_callFv {S SX : Type} {post : S → Prop} {px : SX → Prop} {B : S → State → Prop} {BX : String → SX → State → Prop} {AX : Nat → Prop} (hr : vx_Run5 p l e R s m args below meth c H locs cells slots mc ms (F0 m pc ls st0) rest (va_Qv post B A1 a) (vx_X px BX AX) free) (hS : va_S A0 H0 H locs) (hA : ∀ q, q < H.size → A1 q → A0 q) (hf : ∀ q, free q → A0 q) (hAX : ∀ q, q < H.size → AX q → A0 q)
    (kx : ∀ (E : String) (ce : Cell) (q9 : Addr) (u : SX) (t : State) (H1 : Heap) (locs1 : List Loc), t.heap = H1 → s.vm.Alike t.vm → px u → BX E u t → H.size ≤ H1.size → (∀ q : Nat, q < H.size → ¬ AX q → H1[q]? = H[q]?) → va_S A0 H0 H1 locs1 → H1[q9]? = some ce → ce.vm = .none → s.vm.findClass E = some ce.cls → vx_W p l e R s m args below meth c H1 locs1 (cells + mc) (slots + ms) Q (F0 m pc ls rest) q9)
    (kk : ∀ (u : S) (t : State) (H1 : Heap) (locs1 : List Loc), t.heap = H1 → s.vm.Alike t.vm → post u → B u t → H.size ≤ H1.size → (∀ q : Nat, q < H.size → ¬ A1 q → H1[q]? = H[q]?) → va_S A0 H0 H1 locs1 → W p l e R s m args below meth c H1 locs1 (cells + mc) (slots + ms) Q (F0 m (pc + 5) ls (rest))) : W p l e R s m args below meth c H locs cells slots Q (F0 m pc ls st0) := by
  intro T hT X
  rcases hr T hT X with ⟨v, st₀, t, T', L, h0, X', hL, e1, e2, ⟨⟨u, hv, hp, hb⟩, hF⟩, st⟩ | ⟨q, st₀, t, T', L, E, ce, h0, X', hL, e1, e2, ⟨u, hp, hb, hF⟩, hce, hcv, hcl, st⟩
  · cases hv
    obtain ⟨k1, k2, k3⟩ := vx_keep h0 e1 hS hA hf hL hF
    obtain ⟨t2, a1, b1⟩ := kk u t T'.heap (locs ++ L) e1.symm (by rw [← e2]; exact X'.warmed.alike) hp hb k1 k2 k3 T' rfl X'
    exact ⟨t2, st t2 a1, b1⟩
  · obtain ⟨k1, k2, k3⟩ := vx_keep h0 e1 hS hAX hf hL hF
    obtain ⟨t2, a1, b1⟩ := kx E ce q u t T'.heap (locs ++ L) e1.symm (by rw [← e2]; exact X'.warmed.alike) hp hb k1 k2 k3 (by rw [e1]; exact hce) hcv hcl T' rfl X'
    exact ⟨t2, st.trans a1, b1⟩
theorem vx_callFi {S SX : Type} {post : Int32 → S → Prop} {px : SX → Prop} {B : S → State → Prop} {BX : String → SX → State → Prop} {AX : Nat → Prop} (hr : vx_Run5 p l e R s m args below meth c H locs cells slots mc ms (F0 m pc ls st0) rest (va_Qi post B A1 a) (vx_X px BX AX) free) (hS : va_S A0 H0 H locs) (hA : ∀ q, q < H.size → A1 q → A0 q) (hf : ∀ q, free q → A0 q) (hAX : ∀ q, q < H.size → AX q → A0 q)
    (kx : ∀ (E : String) (ce : Cell) (q9 : Addr) (u : SX) (t : State) (H1 : Heap) (locs1 : List Loc), t.heap = H1 → s.vm.Alike t.vm → px u → BX E u t → H.size ≤ H1.size → (∀ q : Nat, q < H.size → ¬ AX q → H1[q]? = H[q]?) → va_S A0 H0 H1 locs1 → H1[q9]? = some ce → ce.vm = .none → s.vm.findClass E = some ce.cls → vx_W p l e R s m args below meth c H1 locs1 (cells + mc) (slots + ms) Q (F0 m pc ls rest) q9)
    (kk : ∀ (r : Int32) (u : S) (t : State) (H1 : Heap) (locs1 : List Loc), t.heap = H1 → s.vm.Alike t.vm → post r u → B u t → H.size ≤ H1.size → (∀ q : Nat, q < H.size → ¬ A1 q → H1[q]? = H[q]?) → va_S A0 H0 H1 locs1 → W p l e R s m args below meth c H1 locs1 (cells + mc) (slots + ms) Q (F0 m (pc + 5) ls (.int r :: rest))) : W p l e R s m args below meth c H locs cells slots Q (F0 m pc ls st0) := by
  intro T hT X
  rcases hr T hT X with ⟨v, st₀, t, T', L, h0, X', hL, e1, e2, ⟨⟨r, u, hv, hp, hb⟩, hF⟩, st⟩ | ⟨q, st₀, t, T', L, E, ce, h0, X', hL, e1, e2, ⟨u, hp, hb, hF⟩, hce, hcv, hcl, st⟩
  · cases hv
    obtain ⟨k1, k2, k3⟩ := vx_keep h0 e1 hS hA hf hL hF
    obtain ⟨t2, a1, b1⟩ := kk r u t T'.heap (locs ++ L) e1.symm (by rw [← e2]; exact X'.warmed.alike) hp hb k1 k2 k3 T' rfl X'
    exact ⟨t2, st t2 a1, b1⟩
  · obtain ⟨k1, k2, k3⟩ := vx_keep h0 e1 hS hAX hf hL hF
    obtain ⟨t2, a1, b1⟩ := kx E ce q u t T'.heap (locs ++ L) e1.symm (by rw [← e2]; exact X'.warmed.alike) hp hb k1 k2 k3 (by rw [e1]; exact hce) hcv hcl T' rfl X'
    exact ⟨t2, st.trans a1, b1⟩
theorem vx_callFl {S SX : Type} {post : Int64 → S → Prop} {px : SX → Prop} {B : S → State → Prop} {BX : String → SX → State → Prop} {AX : Nat → Prop} (hr : vx_Run5 p l e R s m args below meth c H locs cells slots mc ms (F0 m pc ls st0) rest (va_Ql post B A1 a) (vx_X px BX AX) free) (hS : va_S A0 H0 H locs) (hA : ∀ q, q < H.size → A1 q → A0 q) (hf : ∀ q, free q → A0 q) (hAX : ∀ q, q < H.size → AX q → A0 q)
    (kx : ∀ (E : String) (ce : Cell) (q9 : Addr) (u : SX) (t : State) (H1 : Heap) (locs1 : List Loc), t.heap = H1 → s.vm.Alike t.vm → px u → BX E u t → H.size ≤ H1.size → (∀ q : Nat, q < H.size → ¬ AX q → H1[q]? = H[q]?) → va_S A0 H0 H1 locs1 → H1[q9]? = some ce → ce.vm = .none → s.vm.findClass E = some ce.cls → vx_W p l e R s m args below meth c H1 locs1 (cells + mc) (slots + ms) Q (F0 m pc ls rest) q9)
    (kk : ∀ (r : Int64) (u : S) (t : State) (H1 : Heap) (locs1 : List Loc), t.heap = H1 → s.vm.Alike t.vm → post r u → B u t → H.size ≤ H1.size → (∀ q : Nat, q < H.size → ¬ A1 q → H1[q]? = H[q]?) → va_S A0 H0 H1 locs1 → W p l e R s m args below meth c H1 locs1 (cells + mc) (slots + ms) Q (F0 m (pc + 5) ls (.long r :: rest))) : W p l e R s m args below meth c H locs cells slots Q (F0 m pc ls st0) := by
  intro T hT X
  rcases hr T hT X with ⟨v, st₀, t, T', L, h0, X', hL, e1, e2, ⟨⟨r, u, hv, hp, hb⟩, hF⟩, st⟩ | ⟨q, st₀, t, T', L, E, ce, h0, X', hL, e1, e2, ⟨u, hp, hb, hF⟩, hce, hcv, hcl, st⟩
  · cases hv
    obtain ⟨k1, k2, k3⟩ := vx_keep h0 e1 hS hA hf hL hF
    obtain ⟨t2, a1, b1⟩ := kk r u t T'.heap (locs ++ L) e1.symm (by rw [← e2]; exact X'.warmed.alike) hp hb k1 k2 k3 T' rfl X'
    exact ⟨t2, st t2 a1, b1⟩
  · obtain ⟨k1, k2, k3⟩ := vx_keep h0 e1 hS hAX hf hL hF
    obtain ⟨t2, a1, b1⟩ := kx E ce q u t T'.heap (locs ++ L) e1.symm (by rw [← e2]; exact X'.warmed.alike) hp hb k1 k2 k3 (by rw [e1]; exact hce) hcv hcl T' rfl X'
    exact ⟨t2, st.trans a1, b1⟩
theorem vx_callFf {S SX : Type} {post : UInt32 → S → Prop} {px : SX → Prop} {B : S → State → Prop} {BX : String → SX → State → Prop} {AX : Nat → Prop} (hr : vx_Run5 p l e R s m args below meth c H locs cells slots mc ms (F0 m pc ls st0) rest (va_Qf post B A1 a) (vx_X px BX AX) free) (hS : va_S A0 H0 H locs) (hA : ∀ q, q < H.size → A1 q → A0 q) (hf : ∀ q, free q → A0 q) (hAX : ∀ q, q < H.size → AX q → A0 q)
    (kx : ∀ (E : String) (ce : Cell) (q9 : Addr) (u : SX) (t : State) (H1 : Heap) (locs1 : List Loc), t.heap = H1 → s.vm.Alike t.vm → px u → BX E u t → H.size ≤ H1.size → (∀ q : Nat, q < H.size → ¬ AX q → H1[q]? = H[q]?) → va_S A0 H0 H1 locs1 → H1[q9]? = some ce → ce.vm = .none → s.vm.findClass E = some ce.cls → vx_W p l e R s m args below meth c H1 locs1 (cells + mc) (slots + ms) Q (F0 m pc ls rest) q9)
    (kk : ∀ (r : UInt32) (u : S) (t : State) (H1 : Heap) (locs1 : List Loc), t.heap = H1 → s.vm.Alike t.vm → post r u → B u t → H.size ≤ H1.size → (∀ q : Nat, q < H.size → ¬ A1 q → H1[q]? = H[q]?) → va_S A0 H0 H1 locs1 → W p l e R s m args below meth c H1 locs1 (cells + mc) (slots + ms) Q (F0 m (pc + 5) ls (.float r :: rest))) : W p l e R s m args below meth c H locs cells slots Q (F0 m pc ls st0) := by
  intro T hT X
  rcases hr T hT X with ⟨v, st₀, t, T', L, h0, X', hL, e1, e2, ⟨⟨r, u, hv, hp, hb⟩, hF⟩, st⟩ | ⟨q, st₀, t, T', L, E, ce, h0, X', hL, e1, e2, ⟨u, hp, hb, hF⟩, hce, hcv, hcl, st⟩
  · cases hv
    obtain ⟨k1, k2, k3⟩ := vx_keep h0 e1 hS hA hf hL hF
    obtain ⟨t2, a1, b1⟩ := kk r u t T'.heap (locs ++ L) e1.symm (by rw [← e2]; exact X'.warmed.alike) hp hb k1 k2 k3 T' rfl X'
    exact ⟨t2, st t2 a1, b1⟩
  · obtain ⟨k1, k2, k3⟩ := vx_keep h0 e1 hS hAX hf hL hF
    obtain ⟨t2, a1, b1⟩ := kx E ce q u t T'.heap (locs ++ L) e1.symm (by rw [← e2]; exact X'.warmed.alike) hp hb k1 k2 k3 (by rw [e1]; exact hce) hcv hcl T' rfl X'
    exact ⟨t2, st.trans a1, b1⟩
theorem vx_callFd {S SX : Type} {post : UInt64 → S → Prop} {px : SX → Prop} {B : S → State → Prop} {BX : String → SX → State → Prop} {AX : Nat → Prop} (hr : vx_Run5 p l e R s m args below meth c H locs cells slots mc ms (F0 m pc ls st0) rest (va_Qd post B A1 a) (vx_X px BX AX) free) (hS : va_S A0 H0 H locs) (hA : ∀ q, q < H.size → A1 q → A0 q) (hf : ∀ q, free q → A0 q) (hAX : ∀ q, q < H.size → AX q → A0 q)
    (kx : ∀ (E : String) (ce : Cell) (q9 : Addr) (u : SX) (t : State) (H1 : Heap) (locs1 : List Loc), t.heap = H1 → s.vm.Alike t.vm → px u → BX E u t → H.size ≤ H1.size → (∀ q : Nat, q < H.size → ¬ AX q → H1[q]? = H[q]?) → va_S A0 H0 H1 locs1 → H1[q9]? = some ce → ce.vm = .none → s.vm.findClass E = some ce.cls → vx_W p l e R s m args below meth c H1 locs1 (cells + mc) (slots + ms) Q (F0 m pc ls rest) q9)
    (kk : ∀ (r : UInt64) (u : S) (t : State) (H1 : Heap) (locs1 : List Loc), t.heap = H1 → s.vm.Alike t.vm → post r u → B u t → H.size ≤ H1.size → (∀ q : Nat, q < H.size → ¬ A1 q → H1[q]? = H[q]?) → va_S A0 H0 H1 locs1 → W p l e R s m args below meth c H1 locs1 (cells + mc) (slots + ms) Q (F0 m (pc + 5) ls (.double r :: rest))) : W p l e R s m args below meth c H locs cells slots Q (F0 m pc ls st0) := by
  intro T hT X
  rcases hr T hT X with ⟨v, st₀, t, T', L, h0, X', hL, e1, e2, ⟨⟨r, u, hv, hp, hb⟩, hF⟩, st⟩ | ⟨q, st₀, t, T', L, E, ce, h0, X', hL, e1, e2, ⟨u, hp, hb, hF⟩, hce, hcv, hcl, st⟩
  · cases hv
    obtain ⟨k1, k2, k3⟩ := vx_keep h0 e1 hS hA hf hL hF
    obtain ⟨t2, a1, b1⟩ := kk r u t T'.heap (locs ++ L) e1.symm (by rw [← e2]; exact X'.warmed.alike) hp hb k1 k2 k3 T' rfl X'
    exact ⟨t2, st t2 a1, b1⟩
  · obtain ⟨k1, k2, k3⟩ := vx_keep h0 e1 hS hAX hf hL hF
    obtain ⟨t2, a1, b1⟩ := kx E ce q u t T'.heap (locs ++ L) e1.symm (by rw [← e2]; exact X'.warmed.alike) hp hb k1 k2 k3 (by rw [e1]; exact hce) hcv hcl T' rfl X'
    exact ⟨t2, st.trans a1, b1⟩
end
/-! ===== END ===== -/
/-! ===== BEGIN by an interface, a method with a table of its own that may throw (follows va_callIFW, va_runFW) ===== -/
section
variable {p : Program} {l : Launch} {e : Env} {R : Room} {s : State} {m : MethodId} {args : Array Value} {below : List Frame} {meth : Method} {c : Code} {H : Heap} {locs : List Loc} {cells slots : Nat}
theorem vx_callIFW {T : State} (X : Stand p l e R s m args below meth c T locs cells slots) (hexec : p.tables.exec = Jvm.exec) {own C : String} {index count : Nat} {x y : MethodName} {bytes : ByteArray} {maxL : Nat} {ret : Option FieldType} {hh : List (Nat × Nat × Nat × Nat)}
    (hown : s.vm.findClass own = some m.cls) (hlink : (Cond.methodLink own index x).before args s = true) (hdecl : (Cond.declares x).before args s = true) (hface : (Cond.interfaceMethod x.cls x.cls x.name x.desc).before args s = true)
    (hsel : (Cond.selects C x y).before args s = true) (hinst : (Cond.instanceMethod y).before args s = true) (hpub : (Cond.publicMethod y).before args s = true) (hunh : (Cond.unhidden C x.name x.desc).before args s = true)
    (hcast : (Cond.castable C x.cls).before args s = true) (hcode : (Cond.codeWith y bytes maxL ret hh).before args s = true) (hx : x.cls ≠ "java/lang/invoke/MethodHandle" ∧ x.cls ≠ "java/lang/invoke/VarHandle")
    {W : Nat} {Pre : Pt → Array Value → Prop} {Post : Pt → Array Value → Option Value → Pt → Prop} {PostX : Pt → Array Value → Addr → Pt → Prop} (hK : vx_Back l R p e below s args y 5 W Pre Post PostX)
    {b : Addr} {cellB : Cell} {kB : Class} (hcell : T.heap[b]? = some cellB) (hobj : cellB.vm.isStatics = false) (hcls : s.vm.findClass C = some cellB.cls) (hkB : s.vm.classes[cellB.cls]? = some kB)
    {g : JFrame} (hg : g.method = m) (hsize : g.locals.size = c.maxLocals) {argsL rest : List Value} (hlen : ∀ sig, parseMethodDescriptor x.desc = some sig → argsL.length = sig.parameters.length)
    (hstack : g.stack = argsL.reverse ++ .ref b :: rest) (hW : 2 * g.monitorRoom + (rest.map fun v => v.category).sum ≤ W) (hdg : decode c.code g.pc = .ok (.invokeinterface index count, 5))
    (hpre : ∀ vm₁, s.WarmedH vm₁ → Pre ⟨T.setVm vm₁, locs, cells, slots⟩ (Value.ref b :: argsL).toArray) :
    (∃ (v : Option Value) (vm₁ : Vm) (B : Pt), s.WarmedH vm₁ ∧ Stand p l e R s m args below meth c B.U B.locs B.cells B.slots ∧ Post ⟨T.setVm vm₁, locs, cells, slots⟩ (Value.ref b :: argsL).toArray v B ∧
      ∀ target, Steps p.tables e below (B.U.setTop { g with pc := g.pc + 5, stack := v.toList ++ rest }) target → Steps p.tables e below (T.setTop g) target) ∨
    (∃ (q : Addr) (vm₁ : Vm) (B : Pt), s.WarmedH vm₁ ∧ Stand p l e R s m args below meth c B.U B.locs B.cells B.slots ∧ PostX ⟨T.setVm vm₁, locs, cells, slots⟩ (Value.ref b :: argsL).toArray q B ∧
      Steps p.tables e below (T.setTop g) ((B.U.setTop { g with stack := rest }).pushFrame (.throwing q))) := by
  obtain ⟨r0, r, hn, hrm, hstR, hsigR⟩ := Cond.declares_spec hdecl
  obtain ⟨cL, kL, r1, hcL, hkL, hiL, hfoundL, hn1⟩ := Cond.interfaceMethod_spec hface
  cases hn.symm.trans hn1
  have hr0cls : r0.cls = cL := Option.some.inj ((findClass_of_methodNamed hn).symm.trans hcL)
  obtain ⟨hnameR, hdescR⟩ := name_of_methodNamed hn hrm
  obtain ⟨mk, methM, hnamed, hmethM, -, habM⟩ := Cond.instanceMethod_spec hinst
  obtain ⟨c2, r2, m2, q1, q2, q3, q4, -⟩ := Cond.selects_spec hsel
  cases hcls.symm.trans q1
  cases hfoundL.symm.trans q2
  cases hnamed.symm.trans q3
  have hselP : selectMethod e.platform s.vm cellB.cls r0 = .method mk := by rw [Launch.admits_selectMethod X.admits]; exact q4
  have hpubM : hasFlag methM.accessFlags Acc.public_ = true := Cond.publicMethod_spec hnamed hmethM hpub
  have hway : ((cellB.cls :: s.vm.superclasses cellB.cls).any fun k => (declaredIn s.vm r.name r.desc k).any fun (_, z) => z.isPrivate || z.isStatic) = false := by
    rw [hnameR, hdescR]; exact Cond.unhidden_spec hcls hunh
  obtain ⟨c3, t3, w1, w2, w3⟩ := Cond.castable_spec hcast
  cases hcls.symm.trans w1
  cases hcL.symm.trans w2
  obtain ⟨vm₁, X₁, hstep₁⟩ := X.invokeinterface hexec hown hlink hn hrm hstR (by rw [hr0cls]; exact hkL) hiL hx (a := b) (cell := cellB) (kcell := kB) hcell
    (fun z h => by rw [h] at hobj; cases hobj) hkB (by rw [hr0cls]; exact w3) hselP hmethM hway hpubM habM (g := g) hg (argsL := argsL) (rest := rest) (hlen _ hsigR) hstack hdg
  rcases hK m meth c ⟨T.setVm vm₁, locs, cells, slots⟩ { g with stack := rest } (.invokeinterface index count) mk (Value.ref b :: argsL).toArray X₁ hg hsize hdg hW (X₁.named hnamed) (hpre vm₁ X₁.warmed) with ⟨v, B, X', hpost, hsteps⟩ | ⟨q, B, X', hpost, hsteps⟩
  · exact Or.inl ⟨v, vm₁, B, X₁.warmed, X', hpost, fun target h => hstep₁ _ fun acts => by rw [doInvoke_state]; exact hsteps.trans h⟩
  · exact Or.inr ⟨q, vm₁, B, X₁.warmed, X', hpost, hstep₁ _ fun acts => by rw [doInvoke_state]; exact hsteps⟩
theorem vx_runFW {x y : MethodName} {bytes cc : ByteArray} {maxL nL mc ms n index count : Nat} {ret : Option FieldType} {hh : List (Nat × Nat × Nat × Nat)} {ws : List Cond} {rm : Room} {Pc : Array Value → State → Prop} {Qc : Array Value → State → Outcome → State → Prop} {XC : String → State → State → Prop} {free : Addr → Prop} {Ts : List Cond} {own C : String} {cC : ClassId} {b : Addr} {As rest : List Value} {g : JFrame}
    (hat : ClassAt s C cC) (S : CallFix p m c cc nL s args Ts own) (hM : vx_Met l y ws rm Pc Qc XC mc ms free) (cw : va_CIW R s args own C index x y bytes maxL ret hh ws rm mc ms n) (hp : PreV s H C b Pc As)
    (hg : g.method = m) (hn : As.length = n) (hsize : g.locals.size = nL) (hstack : g.stack = As.reverse ++ .ref b :: rest) (hW : 2 * g.monitorRoom + (rest.map fun v => v.category).sum ≤ 8) (hdg : decode cc g.pc = .ok (.invokeinterface index count, 5)) (hf : cells + mc ≤ R.cells ∧ slots + ms ≤ R.slots) :
    vx_Run5 p l e R s m args below meth c H locs cells slots mc ms g rest (Qc (Value.ref b :: As).toArray) XC free := by
  obtain ⟨hrc, hrs, hfr, hlo, hws, hcw⟩ := cw.back
  have hini := cw.init
  have hK : vx_Back l R p e below s args y 5 8 (PreOf R mc ms Pc) (PostOf Qc mc ms free) (vx_Post XC mc ms free) := vx_backW (hh := hh) (bytes := bytes) (maxL := maxL) (ret := ret) hM hp.1 hrc hrs hfr hlo hws hcw (fun a' U hW => word_at hW (Or.inl (by first | rfl | simp [Cond.onTables, Cond.keeps, Cond.steady])) hini)
  obtain ⟨hx, hb, hml, ho, -⟩ := S
  obtain ⟨-, ⟨cellB, hcB, hoB, hclB⟩, hPc⟩ := hp
  obtain ⟨hfc, kB, hkB, -⟩ := hat
  cases hfc.symm.trans hclB
  intro T hT X
  rcases vx_callIFW X hx (C := C) (hh := hh) (bytes := bytes) (maxL := maxL) (ret := ret) ho cw.link cw.decl cw.face cw.sel cw.inst cw.pub cw.unh cw.cast cw.code cw.notMH hK (by rw [hT]; exact hcB) hoB hclB hkB hg (hsize.trans hml.symm) (argsL := As) (rest := rest) (fun sig h => hn.trans (cw.len sig h)) hstack hW (by rw [hb]; exact hdg)
    (fun vm₁ hW₁ => ⟨hf.1, hf.2, hPc (T.setVm vm₁) hT hW₁⟩) with ⟨v, vm₁, ⟨U', l2, c2, s2⟩, hW₁, X', ⟨g', mk, t, L, e1, e2, hq, h1, hL, h2, h3⟩, st⟩ | ⟨q, vm₁, ⟨U', l2, c2, s2⟩, hW₁, X', ⟨g', mk, t, L, E, ce, e1, e2, hq, hce, hcv, hcl, h1, hL, h2, h3⟩, st⟩
  · dsimp only [Pt.U, Pt.locs, Pt.cells, Pt.slots] at X' e1 e2 h1 h2 h3 st
    subst h1; subst h2; subst h3
    exact Or.inl ⟨v, (T.setVm vm₁).calling g' mk (Value.ref b :: As).toArray, t, U', L, hT, X', hL, e1, e2, hq, st⟩
  · dsimp only [Pt.U, Pt.locs, Pt.cells, Pt.slots] at X' e1 e2 h1 h2 h3 st hcl
    subst h1; subst h2; subst h3
    exact Or.inr ⟨q, (T.setVm vm₁).calling g' mk (Value.ref b :: As).toArray, t, U', L, E, ce, hT, X', hL, e1, e2, hq, hce, hcv, vx_cls hW₁ hcl, st⟩
end
/-! ===== END ===== -/
/-! ===== BEGIN .. of methods that hand back an object of the pool ===== -/
section
variable {p : Program} {l : Launch} {e : Env} {R : Room} {s : State} {m : MethodId} {args : Array Value} {below : List Frame} {meth : Method} {c : Code} {H : Heap} {locs : List Loc} {cells slots : Nat} {Q : State → Prop}
variable {mc ms : Nat} {free : Addr → Prop} {A0 A1 : Nat → Prop} {H0 : Heap} {a : Array Value} {pc : Nat} {ls : Array Slot} {st0 rest : List Value}
theorem vx_callq {S SX : Type} {post : Option Nat → S → Prop} {px : SX → Prop} {B : S → State → Prop} {BX : String → SX → State → Prop} {AX : Nat → Prop} (hr : vx_Run p l e R s m args below meth c H locs cells slots mc ms (F0 m pc ls st0) rest (va_Qq post B A1 a) (vx_X px BX AX) free) (hS : va_S A0 H0 H locs) (hA : ∀ q, q < H.size → A1 q → A0 q) (hf : ∀ q, free q → A0 q) (hAX : ∀ q, q < H.size → AX q → A0 q)
    (kx : ∀ (E : String) (ce : Cell) (q9 : Addr) (u : SX) (t : State) (H1 : Heap) (locs1 : List Loc), t.heap = H1 → s.vm.Alike t.vm → px u → BX E u t → H.size ≤ H1.size → (∀ q : Nat, q < H.size → ¬ AX q → H1[q]? = H[q]?) → va_S A0 H0 H1 locs1 → H1[q9]? = some ce → ce.vm = .none → s.vm.findClass E = some ce.cls → vx_W p l e R s m args below meth c H1 locs1 (cells + mc) (slots + ms) Q (F0 m pc ls rest) q9)
    (kk : ∀ (r : Option Nat) (u : S) (t : State) (H1 : Heap) (locs1 : List Loc), t.heap = H1 → s.vm.Alike t.vm → post r u → B u t → H.size ≤ H1.size → (∀ q : Nat, q < H.size → ¬ A1 q → H1[q]? = H[q]?) → va_S A0 H0 H1 locs1 → W p l e R s m args below meth c H1 locs1 (cells + mc) (slots + ms) Q (F0 m (pc + 3) ls (va_rf r :: rest))) : W p l e R s m args below meth c H locs cells slots Q (F0 m pc ls st0) := by
  intro T hT X
  rcases hr T hT X with ⟨v, st₀, t, T', L, h0, X', hL, e1, e2, ⟨⟨r, u, hv, hp, hb⟩, hF⟩, st⟩ | ⟨q, st₀, t, T', L, E, ce, h0, X', hL, e1, e2, ⟨u, hp, hb, hF⟩, hce, hcv, hcl, st⟩
  · cases hv
    obtain ⟨k1, k2, k3⟩ := vx_keep h0 e1 hS hA hf hL hF
    obtain ⟨t2, a1, b1⟩ := kk r u t T'.heap (locs ++ L) e1.symm (by rw [← e2]; exact X'.warmed.alike) hp hb k1 k2 k3 T' rfl X'
    exact ⟨t2, st t2 a1, b1⟩
  · obtain ⟨k1, k2, k3⟩ := vx_keep h0 e1 hS hAX hf hL hF
    obtain ⟨t2, a1, b1⟩ := kx E ce q u t T'.heap (locs ++ L) e1.symm (by rw [← e2]; exact X'.warmed.alike) hp hb k1 k2 k3 (by rw [e1]; exact hce) hcv hcl T' rfl X'
    exact ⟨t2, st.trans a1, b1⟩
end
/-! ===== END ===== -/
/-! ===== BEGIN .. a constant ===== -/
section
variable {p : Program} {l : Launch} {e : Env} {R : Room} {s : State} {m : MethodId} {args : Array Value} {below : List Frame} {meth : Method} {c : Code} {H : Heap} {locs : List Loc} {cells slots : Nat} {Q : State → Prop}
variable {mc ms : Nat} {free : Addr → Prop} {A0 A1 : Nat → Prop} {H0 : Heap} {a : Array Value} {pc : Nat} {ls : Array Slot} {st0 rest : List Value}
theorem vx_calle {ad : Nat → Nat} {S SX : Type} {post : Option Nat → S → Prop} {px : SX → Prop} {B : S → State → Prop} {BX : String → SX → State → Prop} {AX : Nat → Prop} (hr : vx_Run p l e R s m args below meth c H locs cells slots mc ms (F0 m pc ls st0) rest (va_Qe ad post B A1 a) (vx_X px BX AX) free) (hS : va_S A0 H0 H locs) (hA : ∀ q, q < H.size → A1 q → A0 q) (hf : ∀ q, free q → A0 q) (hAX : ∀ q, q < H.size → AX q → A0 q)
    (kx : ∀ (E : String) (ce : Cell) (q9 : Addr) (u : SX) (t : State) (H1 : Heap) (locs1 : List Loc), t.heap = H1 → s.vm.Alike t.vm → px u → BX E u t → H.size ≤ H1.size → (∀ q : Nat, q < H.size → ¬ AX q → H1[q]? = H[q]?) → va_S A0 H0 H1 locs1 → H1[q9]? = some ce → ce.vm = .none → s.vm.findClass E = some ce.cls → vx_W p l e R s m args below meth c H1 locs1 (cells + mc) (slots + ms) Q (F0 m pc ls rest) q9)
    (kk : ∀ (r : Option Nat) (u : S) (t : State) (H1 : Heap) (locs1 : List Loc), t.heap = H1 → s.vm.Alike t.vm → post r u → B u t → H.size ≤ H1.size → (∀ q : Nat, q < H.size → ¬ A1 q → H1[q]? = H[q]?) → va_S A0 H0 H1 locs1 → W p l e R s m args below meth c H1 locs1 (cells + mc) (slots + ms) Q (F0 m (pc + 3) ls (va_re ad r :: rest))) : W p l e R s m args below meth c H locs cells slots Q (F0 m pc ls st0) := by
  intro T hT X
  rcases hr T hT X with ⟨v, st₀, t, T', L, h0, X', hL, e1, e2, ⟨⟨r, u, hv, hp, hb⟩, hF⟩, st⟩ | ⟨q, st₀, t, T', L, E, ce, h0, X', hL, e1, e2, ⟨u, hp, hb, hF⟩, hce, hcv, hcl, st⟩
  · cases hv
    obtain ⟨k1, k2, k3⟩ := vx_keep h0 e1 hS hA hf hL hF
    obtain ⟨t2, a1, b1⟩ := kk r u t T'.heap (locs ++ L) e1.symm (by rw [← e2]; exact X'.warmed.alike) hp hb k1 k2 k3 T' rfl X'
    exact ⟨t2, st t2 a1, b1⟩
  · obtain ⟨k1, k2, k3⟩ := vx_keep h0 e1 hS hAX hf hL hF
    obtain ⟨t2, a1, b1⟩ := kx E ce q u t T'.heap (locs ++ L) e1.symm (by rw [← e2]; exact X'.warmed.alike) hp hb k1 k2 k3 (by rw [e1]; exact hce) hcv hcl T' rfl X'
    exact ⟨t2, st.trans a1, b1⟩
end
/-! ===== END ===== -/
/-! ===== BEGIN .. by an interface, an object ===== -/
section
variable {p : Program} {l : Launch} {e : Env} {R : Room} {s : State} {m : MethodId} {args : Array Value} {below : List Frame} {meth : Method} {c : Code} {H : Heap} {locs : List Loc} {cells slots : Nat} {Q : State → Prop}
variable {mc ms : Nat} {free : Addr → Prop} {A0 A1 : Nat → Prop} {H0 : Heap} {a : Array Value} {pc : Nat} {ls : Array Slot} {st0 rest : List Value}
theorem vx_callFq {S SX : Type} {post : Option Nat → S → Prop} {px : SX → Prop} {B : S → State → Prop} {BX : String → SX → State → Prop} {AX : Nat → Prop} (hr : vx_Run5 p l e R s m args below meth c H locs cells slots mc ms (F0 m pc ls st0) rest (va_Qq post B A1 a) (vx_X px BX AX) free) (hS : va_S A0 H0 H locs) (hA : ∀ q, q < H.size → A1 q → A0 q) (hf : ∀ q, free q → A0 q) (hAX : ∀ q, q < H.size → AX q → A0 q)
    (kx : ∀ (E : String) (ce : Cell) (q9 : Addr) (u : SX) (t : State) (H1 : Heap) (locs1 : List Loc), t.heap = H1 → s.vm.Alike t.vm → px u → BX E u t → H.size ≤ H1.size → (∀ q : Nat, q < H.size → ¬ AX q → H1[q]? = H[q]?) → va_S A0 H0 H1 locs1 → H1[q9]? = some ce → ce.vm = .none → s.vm.findClass E = some ce.cls → vx_W p l e R s m args below meth c H1 locs1 (cells + mc) (slots + ms) Q (F0 m pc ls rest) q9)
    (kk : ∀ (r : Option Nat) (u : S) (t : State) (H1 : Heap) (locs1 : List Loc), t.heap = H1 → s.vm.Alike t.vm → post r u → B u t → H.size ≤ H1.size → (∀ q : Nat, q < H.size → ¬ A1 q → H1[q]? = H[q]?) → va_S A0 H0 H1 locs1 → W p l e R s m args below meth c H1 locs1 (cells + mc) (slots + ms) Q (F0 m (pc + 5) ls (va_rf r :: rest))) : W p l e R s m args below meth c H locs cells slots Q (F0 m pc ls st0) := by
  intro T hT X
  rcases hr T hT X with ⟨v, st₀, t, T', L, h0, X', hL, e1, e2, ⟨⟨r, u, hv, hp, hb⟩, hF⟩, st⟩ | ⟨q, st₀, t, T', L, E, ce, h0, X', hL, e1, e2, ⟨u, hp, hb, hF⟩, hce, hcv, hcl, st⟩
  · cases hv
    obtain ⟨k1, k2, k3⟩ := vx_keep h0 e1 hS hA hf hL hF
    obtain ⟨t2, a1, b1⟩ := kk r u t T'.heap (locs ++ L) e1.symm (by rw [← e2]; exact X'.warmed.alike) hp hb k1 k2 k3 T' rfl X'
    exact ⟨t2, st t2 a1, b1⟩
  · obtain ⟨k1, k2, k3⟩ := vx_keep h0 e1 hS hAX hf hL hF
    obtain ⟨t2, a1, b1⟩ := kx E ce q u t T'.heap (locs ++ L) e1.symm (by rw [← e2]; exact X'.warmed.alike) hp hb k1 k2 k3 (by rw [e1]; exact hce) hcv hcl T' rfl X'
    exact ⟨t2, st.trans a1, b1⟩
end
/-! ===== END ===== -/
/-! ===== BEGIN .. by an interface, a constant ===== -/
section
variable {p : Program} {l : Launch} {e : Env} {R : Room} {s : State} {m : MethodId} {args : Array Value} {below : List Frame} {meth : Method} {c : Code} {H : Heap} {locs : List Loc} {cells slots : Nat} {Q : State → Prop}
variable {mc ms : Nat} {free : Addr → Prop} {A0 A1 : Nat → Prop} {H0 : Heap} {a : Array Value} {pc : Nat} {ls : Array Slot} {st0 rest : List Value}
theorem vx_callFe {ad : Nat → Nat} {S SX : Type} {post : Option Nat → S → Prop} {px : SX → Prop} {B : S → State → Prop} {BX : String → SX → State → Prop} {AX : Nat → Prop} (hr : vx_Run5 p l e R s m args below meth c H locs cells slots mc ms (F0 m pc ls st0) rest (va_Qe ad post B A1 a) (vx_X px BX AX) free) (hS : va_S A0 H0 H locs) (hA : ∀ q, q < H.size → A1 q → A0 q) (hf : ∀ q, free q → A0 q) (hAX : ∀ q, q < H.size → AX q → A0 q)
    (kx : ∀ (E : String) (ce : Cell) (q9 : Addr) (u : SX) (t : State) (H1 : Heap) (locs1 : List Loc), t.heap = H1 → s.vm.Alike t.vm → px u → BX E u t → H.size ≤ H1.size → (∀ q : Nat, q < H.size → ¬ AX q → H1[q]? = H[q]?) → va_S A0 H0 H1 locs1 → H1[q9]? = some ce → ce.vm = .none → s.vm.findClass E = some ce.cls → vx_W p l e R s m args below meth c H1 locs1 (cells + mc) (slots + ms) Q (F0 m pc ls rest) q9)
    (kk : ∀ (r : Option Nat) (u : S) (t : State) (H1 : Heap) (locs1 : List Loc), t.heap = H1 → s.vm.Alike t.vm → post r u → B u t → H.size ≤ H1.size → (∀ q : Nat, q < H.size → ¬ A1 q → H1[q]? = H[q]?) → va_S A0 H0 H1 locs1 → W p l e R s m args below meth c H1 locs1 (cells + mc) (slots + ms) Q (F0 m (pc + 5) ls (va_re ad r :: rest))) : W p l e R s m args below meth c H locs cells slots Q (F0 m pc ls st0) := by
  intro T hT X
  rcases hr T hT X with ⟨v, st₀, t, T', L, h0, X', hL, e1, e2, ⟨⟨r, u, hv, hp, hb⟩, hF⟩, st⟩ | ⟨q, st₀, t, T', L, E, ce, h0, X', hL, e1, e2, ⟨u, hp, hb, hF⟩, hce, hcv, hcl, st⟩
  · cases hv
    obtain ⟨k1, k2, k3⟩ := vx_keep h0 e1 hS hA hf hL hF
    obtain ⟨t2, a1, b1⟩ := kk r u t T'.heap (locs ++ L) e1.symm (by rw [← e2]; exact X'.warmed.alike) hp hb k1 k2 k3 T' rfl X'
    exact ⟨t2, st t2 a1, b1⟩
  · obtain ⟨k1, k2, k3⟩ := vx_keep h0 e1 hS hAX hf hL hF
    obtain ⟨t2, a1, b1⟩ := kx E ce q u t T'.heap (locs ++ L) e1.symm (by rw [← e2]; exact X'.warmed.alike) hp hb k1 k2 k3 (by rw [e1]; exact hce) hcv hcl T' rfl X'
    exact ⟨t2, st.trans a1, b1⟩
end
/-! ===== END ===== -/
/-! ===== BEGIN what the machine throws by itself: null at a field, at athrow ===== -/
section VXM2
variable {p : Program} {l : Launch} {e : Env} {R : Room} {s : State} {m : MethodId} {args : Array Value} {below : List Frame} {meth : Method} {c : Code} {H : Heap} {locs : List Loc} {cells slots : Nat}
variable {Q : State → Prop} {cc : ByteArray} {pc : Nat} {ls : Array Slot} {rest : List Value}
theorem vx_getfN {D cl tys} {own ref C : String} {T : u_T} {N ci index : Nat} {Ts : List Cond} (hexec : p.tables.exec = Jvm.exec) (hb : c.code = cc) (hts : ∀ w ∈ Ts, w.before args s = true) (hin : ∀ w ∈ u_ws C T N, w ∈ Ts) (hown : s.vm.findClass own = some m.cls) (hK : va_K D cl tys s) (hc : cl[ci]? = some (C, T, N)) (k : Nat) (hk : k < N) (hlink : (Cond.fieldLink own index ref (T k).2.1 (T k).2.2.1).before args s = true) (hsame : ∀ x, s.fieldFound? (T k).1 (T k).2.1 (T k).2.2.1 = some x → s.fieldFound? ref (T k).2.1 (T k).2.2.1 = some x) (hdg : decode cc pc = .ok (.getfield index, 3)) (kk : vx_NoteN p l e R s m args below meth c H locs cells slots Q (F0 m pc ls rest)) : W p l e R s m args below meth c H locs cells slots Q (F0 m pc ls (.null :: rest)) := by
  obtain ⟨hS, hfc, kC, hkC, -⟩ := hK.1 ci _ hc
  obtain ⟨cf, kf, fi, f, hi, -⟩ := hS k hk
  intro U hU X
  obtain ⟨vm', X1, st1⟩ := X.getfieldNull hexec hown hlink (hsame _ hi) (u_facts hfc hkC (u_lays hts hin hk) hi).1 (g := F0 m pc ls (.null :: rest)) rfl (rest := rest) rfl (by rw [hb]; exact hdg)
  obtain ⟨t, st, q⟩ := kk (U.setVm vm') hU X1
  exact ⟨t, st1 t st, q⟩
theorem vx_getfNN {D cl tys} {own ref C host : String} {T : u_T} {N ci index : Nat} {Ts : List Cond} (hexec : p.tables.exec = Jvm.exec) (hb : c.code = cc) (hts : ∀ w ∈ Ts, w.before args s = true) (hin : ∀ w ∈ u_ws C T N, w ∈ Ts) (hown : s.vm.findClass own = some m.cls) (hK : va_K D cl tys s) (hc : cl[ci]? = some (C, T, N)) (k : Nat) (hk : k < N) (hlink : (Cond.fieldLinkNest own index ref (T k).2.1 (T k).2.2.1 host).before args s = true) (hsame : ∀ x, s.fieldFound? (T k).1 (T k).2.1 (T k).2.2.1 = some x → s.fieldFound? ref (T k).2.1 (T k).2.2.1 = some x) (hdg : decode cc pc = .ok (.getfield index, 3)) (kk : vx_NoteN p l e R s m args below meth c H locs cells slots Q (F0 m pc ls rest)) : W p l e R s m args below meth c H locs cells slots Q (F0 m pc ls (.null :: rest)) := by
  obtain ⟨hS, hfc, kC, hkC, -⟩ := hK.1 ci _ hc
  obtain ⟨cf, kf, fi, f, hi, -⟩ := hS k hk
  intro U hU X
  obtain ⟨vm', X1, st1⟩ := X.getfieldNullNest hexec hown hlink (hsame _ hi) (u_facts hfc hkC (u_lays hts hin hk) hi).1 (g := F0 m pc ls (.null :: rest)) rfl (rest := rest) rfl (by rw [hb]; exact hdg)
  obtain ⟨t, st, q⟩ := kk (U.setVm vm') hU X1
  exact ⟨t, st1 t st, q⟩
theorem vx_putfN {D cl tys} {own ref C : String} {T : u_T} {N ci index : Nat} {Ts : List Cond} (hexec : p.tables.exec = Jvm.exec) (hb : c.code = cc) (hts : ∀ w ∈ Ts, w.before args s = true) (hin : ∀ w ∈ u_ws C T N, w ∈ Ts) (hown : s.vm.findClass own = some m.cls) (hK : va_K D cl tys s) (hc : cl[ci]? = some (C, T, N)) (k : Nat) (hk : k < N) (hlink : (Cond.fieldLink own index ref (T k).2.1 (T k).2.2.1).before args s = true) (hsame : ∀ x, s.fieldFound? (T k).1 (T k).2.1 (T k).2.2.1 = some x → s.fieldFound? ref (T k).2.1 (T k).2.2.1 = some x) (hfin : (T k).2.2.2 = false) {v : Value} (hdg : decode cc pc = .ok (.putfield index, 3)) (kk : vx_NoteN p l e R s m args below meth c H locs cells slots Q (F0 m pc ls rest)) : W p l e R s m args below meth c H locs cells slots Q (F0 m pc ls (v :: .null :: rest)) := by
  obtain ⟨hS, hfc, kC, hkC, -⟩ := hK.1 ci _ hc
  obtain ⟨cf, kf, fi, f, hi, -⟩ := hS k hk
  have hlay := hts _ (hin _ (u_in_lay hk))
  unfold u_lay at hlay
  rw [if_neg (by rw [hfin]; decide)] at hlay
  obtain ⟨c9, k9, cf9, kf9, fi9, f9, -, -, hi9, hst9, hnf9, -⟩ := Cond.lays_spec hlay
  cases hi.symm.trans hi9
  intro U hU X
  obtain ⟨vm', X1, st1⟩ := X.putfieldNull hexec hown hlink (hsame _ hi) hst9 hnf9 (g := F0 m pc ls (v :: .null :: rest)) rfl (v := v) (rest := rest) rfl (by rw [hb]; exact hdg)
  obtain ⟨t, st, q⟩ := kk (U.setVm vm') hU X1
  exact ⟨t, st1 t st, q⟩
theorem vx_putfNN {D cl tys} {own ref C host : String} {T : u_T} {N ci index : Nat} {Ts : List Cond} (hexec : p.tables.exec = Jvm.exec) (hb : c.code = cc) (hts : ∀ w ∈ Ts, w.before args s = true) (hin : ∀ w ∈ u_ws C T N, w ∈ Ts) (hown : s.vm.findClass own = some m.cls) (hK : va_K D cl tys s) (hc : cl[ci]? = some (C, T, N)) (k : Nat) (hk : k < N) (hlink : (Cond.fieldLinkNest own index ref (T k).2.1 (T k).2.2.1 host).before args s = true) (hsame : ∀ x, s.fieldFound? (T k).1 (T k).2.1 (T k).2.2.1 = some x → s.fieldFound? ref (T k).2.1 (T k).2.2.1 = some x) (hfin : (T k).2.2.2 = false) {v : Value} (hdg : decode cc pc = .ok (.putfield index, 3)) (kk : vx_NoteN p l e R s m args below meth c H locs cells slots Q (F0 m pc ls rest)) : W p l e R s m args below meth c H locs cells slots Q (F0 m pc ls (v :: .null :: rest)) := by
  obtain ⟨hS, hfc, kC, hkC, -⟩ := hK.1 ci _ hc
  obtain ⟨cf, kf, fi, f, hi, -⟩ := hS k hk
  have hlay := hts _ (hin _ (u_in_lay hk))
  unfold u_lay at hlay
  rw [if_neg (by rw [hfin]; decide)] at hlay
  obtain ⟨c9, k9, cf9, kf9, fi9, f9, -, -, hi9, hst9, hnf9, -⟩ := Cond.lays_spec hlay
  cases hi.symm.trans hi9
  intro U hU X
  obtain ⟨vm', X1, st1⟩ := X.putfieldNullNest hexec hown hlink (hsame _ hi) hst9 hnf9 (g := F0 m pc ls (v :: .null :: rest)) rfl (v := v) (rest := rest) rfl (by rw [hb]; exact hdg)
  obtain ⟨t, st, q⟩ := kk (U.setVm vm') hU X1
  exact ⟨t, st1 t st, q⟩
theorem vx_athrowN (hexec : p.tables.exec = Jvm.exec) (hb : c.code = cc) (hdg : decode cc pc = .ok (.athrow, 1)) (k : vx_NoteN p l e R s m args below meth c H locs cells slots Q (F0 m pc ls rest)) : W p l e R s m args below meth c H locs cells slots Q (F0 m pc ls (.null :: rest)) := by
  intro T hT X
  obtain ⟨t, st, q⟩ := k T hT X
  exact ⟨t, X.athrowNull hexec (g := F0 m pc ls (.null :: rest)) rfl (rest := rest) rfl (by rw [hb]; exact hdg) t st, q⟩
end VXM2
/-! ===== END ===== -/
end
section
/-! ===== BEGIN printed: names, fields, word lists, decode rows ===== -/
def RX0 : String := "Stripboard$Board"
def TX0 : u_T := fun k => match k with
  | 0 => ("Stripboard$Board", "script", "LStripboard$Script;", true)
  | 1 => ("Stripboard$Board", "pace", "LStripboard$Pace;", true)
  | 2 => ("Stripboard$Board", "days", "[LStripboard$Day;", true)
  | 3 => ("Stripboard$Board", "clock", "LStripboard$Clock;", true)
  | _ => ("Stripboard$Board", "now", "I", false)
def tyX0 : Nat → FieldType := fun k => match k with
  | 0 => .object "Stripboard$Script"
  | 1 => .object "Stripboard$Pace"
  | 2 => .array (.object "Stripboard$Day")
  | 3 => .object "Stripboard$Clock"
  | _ => .int
theorem nmX0 : ∀ a, a < 5 → ∀ b, b < 5 → a ≠ b → (TX0 a).2.1 ≠ (TX0 b).2.1 := by decide +kernel
theorem tyX0_ok : ∀ k, k < 5 → parseFieldDescriptor (TX0 k).2.2.1 = some (tyX0 k) := by decide +kernel
abbrev cX0_init : ByteArray := prog_2_method_1_code
def yX0_init : MethodName := ⟨RX0, "<init>", "(LStripboard$Script;LStripboard$Crew;LStripboard$Places;)V"⟩
abbrev cX0_tellIll : ByteArray := prog_2_method_2_code
def yX0_tellIll : MethodName := ⟨RX0, "tellIll", "(IIZ)I"⟩
abbrev cX0_tellAllowed : ByteArray := prog_2_method_3_code
def yX0_tellAllowed : MethodName := ⟨RX0, "tellAllowed", "(IIZ)I"⟩
abbrev cX0_putOn : ByteArray := prog_2_method_4_code
def yX0_putOn : MethodName := ⟨RX0, "putOn", "(III)V"⟩
abbrev cX0_takeOff : ByteArray := prog_2_method_5_code
def yX0_takeOff : MethodName := ⟨RX0, "takeOff", "(I)V"⟩
abbrev cX0_endDay : ByteArray := prog_2_method_6_code
def yX0_endDay : MethodName := ⟨RX0, "endDay", "()V"⟩
abbrev cX0_clockOf : ByteArray := prog_2_method_7_code
def yX0_clockOf : MethodName := ⟨RX0, "clockOf", "(I)LStripboard$Clock;"⟩
abbrev cX0_timeOf : ByteArray := prog_2_method_8_code
def yX0_timeOf : MethodName := ⟨RX0, "timeOf", "(IZ)I"⟩
abbrev cX0_faultsOf : ByteArray := prog_2_method_9_code
def yX0_faultsOf : MethodName := ⟨RX0, "faultsOf", "(I)I"⟩
abbrev cX0_faultless : ByteArray := prog_2_method_10_code
def yX0_faultless : MethodName := ⟨RX0, "faultless", "(I)I"⟩
abbrev cX0_faultsAt : ByteArray := prog_2_method_11_code
def yX0_faultsAt : MethodName := ⟨RX0, "faultsAt", "(LStripboard$Day;I)I"⟩
abbrev cX0_isDark : ByteArray := prog_2_method_12_code
def yX0_isDark : MethodName := ⟨RX0, "isDark", "(LStripboard$Day;I)Z"⟩
abbrev cX0_isTooEarly : ByteArray := prog_2_method_13_code
def yX0_isTooEarly : MethodName := ⟨RX0, "isTooEarly", "(LStripboard$Scene;[II)Z"⟩
abbrev cX0_isDoneBefore : ByteArray := prog_2_method_14_code
def yX0_isDoneBefore : MethodName := ⟨RX0, "isDoneBefore", "(LStripboard$Scene;I)Z"⟩
def RX1 : String := "Stripboard$Clock"
def TX1 : u_T := fun k => match k with
  | 0 => ("Stripboard$Clock", "script", "LStripboard$Script;", true)
  | 1 => ("Stripboard$Clock", "crew", "LStripboard$Crew;", true)
  | 2 => ("Stripboard$Clock", "places", "LStripboard$Places;", true)
  | 3 => ("Stripboard$Clock", "pace", "LStripboard$Pace;", true)
  | 4 => ("Stripboard$Clock", "begins", "[I", true)
  | 5 => ("Stripboard$Clock", "ends", "[I", true)
  | 6 => ("Stripboard$Clock", "calls", "[I", true)
  | 7 => ("Stripboard$Clock", "wraps", "[I", true)
  | 8 => ("Stripboard$Clock", "working", "I", false)
  | 9 => ("Stripboard$Clock", "tiredChildren", "I", false)
  | _ => ("Stripboard$Clock", "tooLong", "Z", false)
def tyX1 : Nat → FieldType := fun k => match k with
  | 0 => .object "Stripboard$Script"
  | 1 => .object "Stripboard$Crew"
  | 2 => .object "Stripboard$Places"
  | 3 => .object "Stripboard$Pace"
  | 4 => .array .int
  | 5 => .array .int
  | 6 => .array .int
  | 7 => .array .int
  | 8 => .int
  | 9 => .int
  | _ => .boolean
theorem nmX1 : ∀ a, a < 11 → ∀ b, b < 11 → a ≠ b → (TX1 a).2.1 ≠ (TX1 b).2.1 := by decide +kernel
theorem tyX1_ok : ∀ k, k < 11 → parseFieldDescriptor (TX1 k).2.2.1 = some (tyX1 k) := by decide +kernel
abbrev cX1_init : ByteArray := prog_3_method_1_code
def yX1_init : MethodName := ⟨RX1, "<init>", "(LStripboard$Script;LStripboard$Crew;LStripboard$Places;LStripboard$Pace;)V"⟩
abbrev cX1_read : ByteArray := prog_3_method_2_code
def yX1_read : MethodName := ⟨RX1, "read", "(LStripboard$Day;)V"⟩
abbrev cX1_hasWorkFor : ByteArray := prog_3_method_3_code
def yX1_hasWorkFor : MethodName := ⟨RX1, "hasWorkFor", "(I)Z"⟩
abbrev cX1_readRow : ByteArray := prog_3_method_4_code
def yX1_readRow : MethodName := ⟨RX1, "readRow", "(LStripboard$Day;)V"⟩
abbrev cX1_readPeople : ByteArray := prog_3_method_5_code
def yX1_readPeople : MethodName := ⟨RX1, "readPeople", "(LStripboard$Day;)V"⟩
abbrev cX1_readChildren : ByteArray := prog_3_method_6_code
def yX1_readChildren : MethodName := ⟨RX1, "readChildren", "()V"⟩
def RX2 : String := "Stripboard$Crew"
def TX2 : u_T := fun k => match k with
  | 0 => ("Stripboard$Crew", "deals", "[I", true)
  | 1 => ("Stripboard$Crew", "rates", "[I", true)
  | 2 => ("Stripboard$Crew", "prepares", "[I", true)
  | 3 => ("Stripboard$Crew", "children", "I", false)
  | _ => ("Stripboard$Crew", "count", "I", false)
def tyX2 : Nat → FieldType := fun k => match k with
  | 0 => .array .int
  | 1 => .array .int
  | 2 => .array .int
  | 3 => .int
  | _ => .int
theorem nmX2 : ∀ a, a < 5 → ∀ b, b < 5 → a ≠ b → (TX2 a).2.1 ≠ (TX2 b).2.1 := by decide +kernel
theorem tyX2_ok : ∀ k, k < 5 → parseFieldDescriptor (TX2 k).2.2.1 = some (tyX2 k) := by decide +kernel
abbrev cX2_init : ByteArray := prog_4_method_1_code
def yX2_init : MethodName := ⟨RX2, "<init>", "()V"⟩
abbrev cX2_add : ByteArray := prog_4_method_2_code
def yX2_add : MethodName := ⟨RX2, "add", "(IIIZ)I"⟩
def RX3 : String := "Stripboard$Day"
def TX3 : u_T := fun k => match k with
  | 0 => ("Stripboard$Day", "start", "I", false)
  | 1 => ("Stripboard$Day", "lightFrom", "I", false)
  | 2 => ("Stripboard$Day", "lightTo", "I", false)
  | 3 => ("Stripboard$Day", "ill", "I", false)
  | 4 => ("Stripboard$Day", "closed", "I", false)
  | 5 => ("Stripboard$Day", "row", "[I", true)
  | _ => ("Stripboard$Day", "count", "I", false)
def tyX3 : Nat → FieldType := fun k => match k with
  | 0 => .int
  | 1 => .int
  | 2 => .int
  | 3 => .int
  | 4 => .int
  | 5 => .array .int
  | _ => .int
theorem nmX3 : ∀ a, a < 7 → ∀ b, b < 7 → a ≠ b → (TX3 a).2.1 ≠ (TX3 b).2.1 := by decide +kernel
theorem tyX3_ok : ∀ k, k < 7 → parseFieldDescriptor (TX3 k).2.2.1 = some (tyX3 k) := by decide +kernel
abbrev cX3_init : ByteArray := prog_5_method_1_code
def yX3_init : MethodName := ⟨RX3, "<init>", "()V"⟩
abbrev cX3_isFull : ByteArray := prog_5_method_2_code
def yX3_isFull : MethodName := ⟨RX3, "isFull", "()Z"⟩
abbrev cX3_insert : ByteArray := prog_5_method_3_code
def yX3_insert : MethodName := ⟨RX3, "insert", "(II)V"⟩
abbrev cX3_remove : ByteArray := prog_5_method_4_code
def yX3_remove : MethodName := ⟨RX3, "remove", "(I)V"⟩
abbrev cX3_spotOf : ByteArray := prog_5_method_5_code
def yX3_spotOf : MethodName := ⟨RX3, "spotOf", "(I)I"⟩
def RX4 : String := "Stripboard$Filler"
def TX4 : u_T := fun k => match k with
  | 0 => ("Stripboard$Filler", "script", "LStripboard$Script;", true)
  | 1 => ("Stripboard$Filler", "board", "LStripboard$Board;", true)
  | _ => ("Stripboard$Filler", "taken", "[I", true)
def tyX4 : Nat → FieldType := fun k => match k with
  | 0 => .object "Stripboard$Script"
  | 1 => .object "Stripboard$Board"
  | _ => .array .int
theorem nmX4 : ∀ a, a < 3 → ∀ b, b < 3 → a ≠ b → (TX4 a).2.1 ≠ (TX4 b).2.1 := by decide +kernel
theorem tyX4_ok : ∀ k, k < 3 → parseFieldDescriptor (TX4 k).2.2.1 = some (tyX4 k) := by decide +kernel
abbrev cX4_init : ByteArray := prog_6_method_1_code
def yX4_init : MethodName := ⟨RX4, "<init>", "(LStripboard$Script;LStripboard$Board;)V"⟩
abbrev cX4_takeIllOnes : ByteArray := prog_6_method_2_code
def yX4_takeIllOnes : MethodName := ⟨RX4, "takeIllOnes", "(I)I"⟩
abbrev cX4_findDay : ByteArray := prog_6_method_3_code
def yX4_findDay : MethodName := ⟨RX4, "findDay", "(II)Z"⟩
abbrev cX4_fits : ByteArray := prog_6_method_4_code
def yX4_fits : MethodName := ⟨RX4, "fits", "(II)Z"⟩
def RX5 : String := "Stripboard$Pace"
def TX5 : u_T := fun k => match k with
  | 0 => ("Stripboard$Pace", "minutes", "I", false)
  | _ => ("Stripboard$Pace", "eighths", "I", false)
def tyX5 : Nat → FieldType := fun k => match k with
  | 0 => .int
  | _ => .int
theorem nmX5 : ∀ a, a < 2 → ∀ b, b < 2 → a ≠ b → (TX5 a).2.1 ≠ (TX5 b).2.1 := by decide +kernel
theorem tyX5_ok : ∀ k, k < 2 → parseFieldDescriptor (TX5 k).2.2.1 = some (tyX5 k) := by decide +kernel
abbrev cX5_init : ByteArray := prog_7_method_1_code
def yX5_init : MethodName := ⟨RX5, "<init>", "()V"⟩
abbrev cX5_learn : ByteArray := prog_7_method_2_code
def yX5_learn : MethodName := ⟨RX5, "learn", "(II)I"⟩
abbrev cX5_ofEighth : ByteArray := prog_7_method_3_code
def yX5_ofEighth : MethodName := ⟨RX5, "ofEighth", "()I"⟩
def RX6 : String := "Stripboard$Payroll"
def TX6 : u_T := fun k => match k with
  | 0 => ("Stripboard$Payroll", "script", "LStripboard$Script;", true)
  | 1 => ("Stripboard$Payroll", "crew", "LStripboard$Crew;", true)
  | 2 => ("Stripboard$Payroll", "places", "LStripboard$Places;", true)
  | _ => ("Stripboard$Payroll", "board", "LStripboard$Board;", true)
def tyX6 : Nat → FieldType := fun k => match k with
  | 0 => .object "Stripboard$Script"
  | 1 => .object "Stripboard$Crew"
  | 2 => .object "Stripboard$Places"
  | _ => .object "Stripboard$Board"
theorem nmX6 : ∀ a, a < 4 → ∀ b, b < 4 → a ≠ b → (TX6 a).2.1 ≠ (TX6 b).2.1 := by decide +kernel
theorem tyX6_ok : ∀ k, k < 4 → parseFieldDescriptor (TX6 k).2.2.1 = some (tyX6 k) := by decide +kernel
abbrev cX6_init : ByteArray := prog_8_method_1_code
def yX6_init : MethodName := ⟨RX6, "<init>", "(LStripboard$Script;LStripboard$Crew;LStripboard$Places;LStripboard$Board;)V"⟩
abbrev cX6_payOf : ByteArray := prog_8_method_2_code
def yX6_payOf : MethodName := ⟨RX6, "payOf", "(IZ)I"⟩
abbrev cX6_dueTimes : ByteArray := prog_8_method_3_code
def yX6_dueTimes : MethodName := ⟨RX6, "dueTimes", "(III)I"⟩
abbrev cX6_begunHours : ByteArray := prog_8_method_4_code
def yX6_begunHours : MethodName := ⟨RX6, "begunHours", "(I)I"⟩
abbrev cX6_costOfAll : ByteArray := prog_8_method_5_code
def yX6_costOfAll : MethodName := ⟨RX6, "costOfAll", "()I"⟩
abbrev cX6_costOfPlaces : ByteArray := prog_8_method_6_code
def yX6_costOfPlaces : MethodName := ⟨RX6, "costOfPlaces", "(LStripboard$Day;)I"⟩
def RX7 : String := "Stripboard$Places"
def TX7 : u_T := fun k => match k with
  | 0 => ("Stripboard$Places", "costs", "[I", true)
  | 1 => ("Stripboard$Places", "moves", "[I", true)
  | _ => ("Stripboard$Places", "count", "I", false)
def tyX7 : Nat → FieldType := fun k => match k with
  | 0 => .array .int
  | 1 => .array .int
  | _ => .int
theorem nmX7 : ∀ a, a < 3 → ∀ b, b < 3 → a ≠ b → (TX7 a).2.1 ≠ (TX7 b).2.1 := by decide +kernel
theorem tyX7_ok : ∀ k, k < 3 → parseFieldDescriptor (TX7 k).2.2.1 = some (tyX7 k) := by decide +kernel
abbrev cX7_init : ByteArray := prog_9_method_1_code
def yX7_init : MethodName := ⟨RX7, "<init>", "()V"⟩
abbrev cX7_add : ByteArray := prog_9_method_2_code
def yX7_add : MethodName := ⟨RX7, "add", "(I)I"⟩
abbrev cX7_moveBetween : ByteArray := prog_9_method_3_code
def yX7_moveBetween : MethodName := ⟨RX7, "moveBetween", "(II)I"⟩
abbrev cX7_tellMove : ByteArray := prog_9_method_4_code
def yX7_tellMove : MethodName := ⟨RX7, "tellMove", "(III)I"⟩
def RX8 : String := "Stripboard$Scene"
def TX8 : u_T := fun k => match k with
  | 0 => ("Stripboard$Scene", "place", "I", false)
  | 1 => ("Stripboard$Scene", "byDay", "Z", false)
  | 2 => ("Stripboard$Scene", "inside", "Z", false)
  | 3 => ("Stripboard$Scene", "eighths", "I", false)
  | 4 => ("Stripboard$Scene", "people", "I", false)
  | 5 => ("Stripboard$Scene", "behind", "I", false)
  | 6 => ("Stripboard$Scene", "number", "I", false)
  | 7 => ("Stripboard$Scene", "letter", "I", false)
  | 8 => ("Stripboard$Scene", "wants", "[I", true)
  | 9 => ("Stripboard$Scene", "leaves", "[I", true)
  | 10 => ("Stripboard$Scene", "clashing", "Z", false)
  | 11 => ("Stripboard$Scene", "omitted", "Z", false)
  | 12 => ("Stripboard$Scene", "shot", "Z", false)
  | 13 => ("Stripboard$Scene", "owed", "Z", false)
  | 14 => ("Stripboard$Scene", "lasted", "I", false)
  | _ => ("Stripboard$Scene", "day", "I", false)
def tyX8 : Nat → FieldType := fun k => match k with
  | 0 => .int
  | 1 => .boolean
  | 2 => .boolean
  | 3 => .int
  | 4 => .int
  | 5 => .int
  | 6 => .int
  | 7 => .int
  | 8 => .array .int
  | 9 => .array .int
  | 10 => .boolean
  | 11 => .boolean
  | 12 => .boolean
  | 13 => .boolean
  | 14 => .int
  | _ => .int
theorem nmX8 : ∀ a, a < 16 → ∀ b, b < 16 → a ≠ b → (TX8 a).2.1 ≠ (TX8 b).2.1 := by decide +kernel
theorem tyX8_ok : ∀ k, k < 16 → parseFieldDescriptor (TX8 k).2.2.1 = some (tyX8 k) := by decide +kernel
abbrev cX8_init : ByteArray := prog_10_method_1_code
def yX8_init : MethodName := ⟨RX8, "<init>", "()V"⟩
abbrev cX8_status : ByteArray := prog_10_method_2_code
def yX8_status : MethodName := ⟨RX8, "status", "()I"⟩
abbrev cX8_isLoose : ByteArray := prog_10_method_3_code
def yX8_isLoose : MethodName := ⟨RX8, "isLoose", "()Z"⟩
abbrev cX8_isSettled : ByteArray := prog_10_method_4_code
def yX8_isSettled : MethodName := ⟨RX8, "isSettled", "()Z"⟩
abbrev cX8_lasts : ByteArray := prog_10_method_5_code
def yX8_lasts : MethodName := ⟨RX8, "lasts", "(I)I"⟩
abbrev cX8_wantsLight : ByteArray := prog_10_method_6_code
def yX8_wantsLight : MethodName := ⟨RX8, "wantsLight", "()Z"⟩
abbrev cX8_keepTake : ByteArray := prog_10_method_7_code
def yX8_keepTake : MethodName := ⟨RX8, "keepTake", "(I)V"⟩
def RX9 : String := "Stripboard$Script"
def TX9 : u_T := fun k => match k with
  | 0 => ("Stripboard$Script", "scenes", "[LStripboard$Scene;", true)
  | 1 => ("Stripboard$Script", "order", "[I", true)
  | 2 => ("Stripboard$Script", "looks", "[I", true)
  | 3 => ("Stripboard$Script", "made", "I", false)
  | _ => ("Stripboard$Script", "locked", "Z", false)
def tyX9 : Nat → FieldType := fun k => match k with
  | 0 => .array (.object "Stripboard$Scene")
  | 1 => .array .int
  | 2 => .array .int
  | 3 => .int
  | _ => .boolean
theorem nmX9 : ∀ a, a < 5 → ∀ b, b < 5 → a ≠ b → (TX9 a).2.1 ≠ (TX9 b).2.1 := by decide +kernel
theorem tyX9_ok : ∀ k, k < 5 → parseFieldDescriptor (TX9 k).2.2.1 = some (tyX9 k) := by decide +kernel
abbrev cX9_init : ByteArray := prog_11_method_1_code
def yX9_init : MethodName := ⟨RX9, "<init>", "()V"⟩
abbrev cX9_hasRoomBehind : ByteArray := prog_11_method_2_code
def yX9_hasRoomBehind : MethodName := ⟨RX9, "hasRoomBehind", "(I)Z"⟩
abbrev cX9_add : ByteArray := prog_11_method_3_code
def yX9_add : MethodName := ⟨RX9, "add", "(IIZZI)I"⟩
abbrev cX9_spotBehind : ByteArray := prog_11_method_4_code
def yX9_spotBehind : MethodName := ⟨RX9, "spotBehind", "(I)I"⟩
abbrev cX9_spotOf : ByteArray := prog_11_method_5_code
def yX9_spotOf : MethodName := ⟨RX9, "spotOf", "(I)I"⟩
abbrev cX9_numberAt : ByteArray := prog_11_method_6_code
def yX9_numberAt : MethodName := ⟨RX9, "numberAt", "(I)I"⟩
abbrev cX9_lowestLetter : ByteArray := prog_11_method_7_code
def yX9_lowestLetter : MethodName := ⟨RX9, "lowestLetter", "(I)I"⟩
abbrev cX9_keepLabels : ByteArray := prog_11_method_8_code
def yX9_keepLabels : MethodName := ⟨RX9, "keepLabels", "()V"⟩
abbrev cX9_labelOf : ByteArray := prog_11_method_9_code
def yX9_labelOf : MethodName := ⟨RX9, "labelOf", "(I)I"⟩
abbrev cX9_countOf : ByteArray := prog_11_method_10_code
def yX9_countOf : MethodName := ⟨RX9, "countOf", "(I)I"⟩
abbrev cX9_findClashes : ByteArray := prog_11_method_11_code
def yX9_findClashes : MethodName := ⟨RX9, "findClashes", "()I"⟩
abbrev cX9_wantsOther : ByteArray := prog_11_method_12_code
def yX9_wantsOther : MethodName := ⟨RX9, "wantsOther", "(LStripboard$Scene;)Z"⟩
abbrev cX9_leaveLooks : ByteArray := prog_11_method_13_code
def yX9_leaveLooks : MethodName := ⟨RX9, "leaveLooks", "(LStripboard$Scene;)V"⟩
abbrev cX9_leadsTo : ByteArray := prog_11_method_14_code
def yX9_leadsTo : MethodName := ⟨RX9, "leadsTo", "(II)Z"⟩
abbrev cX9_firstToTry : ByteArray := prog_11_method_15_code
def yX9_firstToTry : MethodName := ⟨RX9, "firstToTry", "(I)I"⟩
abbrev cX9_isFree : ByteArray := prog_11_method_16_code
def yX9_isFree : MethodName := ⟨RX9, "isFree", "(LStripboard$Scene;)Z"⟩
def RX10 : String := "Stripboard"
def TX10 : u_T := fun k => match k with
  | 0 => ("Stripboard", "script", "LStripboard$Script;", true)
  | 1 => ("Stripboard", "crew", "LStripboard$Crew;", true)
  | 2 => ("Stripboard", "places", "LStripboard$Places;", true)
  | 3 => ("Stripboard", "board", "LStripboard$Board;", true)
  | 4 => ("Stripboard", "filler", "LStripboard$Filler;", true)
  | _ => ("Stripboard", "payroll", "LStripboard$Payroll;", true)
def tyX10 : Nat → FieldType := fun k => match k with
  | 0 => .object "Stripboard$Script"
  | 1 => .object "Stripboard$Crew"
  | 2 => .object "Stripboard$Places"
  | 3 => .object "Stripboard$Board"
  | 4 => .object "Stripboard$Filler"
  | _ => .object "Stripboard$Payroll"
theorem nmX10 : ∀ a, a < 6 → ∀ b, b < 6 → a ≠ b → (TX10 a).2.1 ≠ (TX10 b).2.1 := by decide +kernel
theorem tyX10_ok : ∀ k, k < 6 → parseFieldDescriptor (TX10 k).2.2.1 = some (tyX10 k) := by decide +kernel
abbrev cX10_init : ByteArray := prog_1_method_1_code
def yX10_init : MethodName := ⟨RX10, "<init>", "()V"⟩
abbrev cX10_scene : ByteArray := prog_1_method_2_code
def yX10_scene : MethodName := ⟨RX10, "scene", "(IIZZI)I"⟩
abbrev cX10_lock : ByteArray := prog_1_method_3_code
def yX10_lock : MethodName := ⟨RX10, "lock", "()I"⟩
abbrev cX10_omit : ByteArray := prog_1_method_4_code
def yX10_omit : MethodName := ⟨RX10, "omit", "(I)I"⟩
abbrev cX10_label : ByteArray := prog_1_method_5_code
def yX10_label : MethodName := ⟨RX10, "label", "(I)I"⟩
abbrev cX10_needs : ByteArray := prog_1_method_6_code
def yX10_needs : MethodName := ⟨RX10, "needs", "(II)I"⟩
abbrev cX10_look : ByteArray := prog_1_method_7_code
def yX10_look : MethodName := ⟨RX10, "look", "(IIZI)I"⟩
abbrev cX10_clashes : ByteArray := prog_1_method_8_code
def yX10_clashes : MethodName := ⟨RX10, "clashes", "(I)Z"⟩
abbrev cX10_bind : ByteArray := prog_1_method_9_code
def yX10_bind : MethodName := ⟨RX10, "bind", "(II)I"⟩
abbrev cX10_person : ByteArray := prog_1_method_10_code
def yX10_person : MethodName := ⟨RX10, "person", "(IIIZ)I"⟩
abbrev cX10_ill : ByteArray := prog_1_method_11_code
def yX10_ill : MethodName := ⟨RX10, "ill", "(IIZ)I"⟩
abbrev cX10_place : ByteArray := prog_1_method_12_code
def yX10_place : MethodName := ⟨RX10, "place", "(I)I"⟩
abbrev cX10_permit : ByteArray := prog_1_method_13_code
def yX10_permit : MethodName := ⟨RX10, "permit", "(IIZ)I"⟩
abbrev cX10_move : ByteArray := prog_1_method_14_code
def yX10_move : MethodName := ⟨RX10, "move", "(III)I"⟩
abbrev cX10_light : ByteArray := prog_1_method_15_code
def yX10_light : MethodName := ⟨RX10, "light", "(IIII)V"⟩
abbrev cX10_put : ByteArray := prog_1_method_16_code
def yX10_put : MethodName := ⟨RX10, "put", "(III)I"⟩
abbrev cX10_take : ByteArray := prog_1_method_17_code
def yX10_take : MethodName := ⟨RX10, "take", "(I)I"⟩
abbrev cX10_fill : ByteArray := prog_1_method_18_code
def yX10_fill : MethodName := ⟨RX10, "fill", "()I"⟩
abbrev cX10_mend : ByteArray := prog_1_method_19_code
def yX10_mend : MethodName := ⟨RX10, "mend", "(I)I"⟩
abbrev cX10_strip : ByteArray := prog_1_method_20_code
def yX10_strip : MethodName := ⟨RX10, "strip", "(II)I"⟩
abbrev cX10_ofScene : ByteArray := prog_1_method_21_code
def yX10_ofScene : MethodName := ⟨RX10, "ofScene", "(II)I"⟩
abbrev cX10_call : ByteArray := prog_1_method_22_code
def yX10_call : MethodName := ⟨RX10, "call", "(IIZ)I"⟩
abbrev cX10_shoot : ByteArray := prog_1_method_23_code
def yX10_shoot : MethodName := ⟨RX10, "shoot", "(II)I"⟩
abbrev cX10_lose : ByteArray := prog_1_method_24_code
def yX10_lose : MethodName := ⟨RX10, "lose", "(I)I"⟩
abbrev cX10_next : ByteArray := prog_1_method_25_code
def yX10_next : MethodName := ⟨RX10, "next", "()I"⟩
abbrev cX10_pay : ByteArray := prog_1_method_26_code
def yX10_pay : MethodName := ⟨RX10, "pay", "(IZ)I"⟩
abbrev cX10_cost : ByteArray := prog_1_method_27_code
def yX10_cost : MethodName := ⟨RX10, "cost", "()I"⟩
abbrev cX10_checkScene : ByteArray := prog_1_method_28_code
def yX10_checkScene : MethodName := ⟨RX10, "checkScene", "(I)V"⟩
abbrev cX10_checkPerson : ByteArray := prog_1_method_29_code
def yX10_checkPerson : MethodName := ⟨RX10, "checkPerson", "(I)V"⟩
abbrev cX10_checkPlace : ByteArray := prog_1_method_30_code
def yX10_checkPlace : MethodName := ⟨RX10, "checkPlace", "(I)V"⟩
abbrev cX10_checkDay : ByteArray := prog_1_method_31_code
def yX10_checkDay : MethodName := ⟨RX10, "checkDay", "(I)V"⟩
abbrev cX10_checkIndex : ByteArray := prog_1_method_32_code
def yX10_checkIndex : MethodName := ⟨RX10, "checkIndex", "(II)V"⟩
abbrev cX10_checkRange : ByteArray := prog_1_method_33_code
def yX10_checkRange : MethodName := ⟨RX10, "checkRange", "(III)V"⟩
abbrev cX10_hasBit : ByteArray := prog_1_method_34_code
def yX10_hasBit : MethodName := ⟨RX10, "hasBit", "(II)Z"⟩
abbrev cX10_withBit : ByteArray := prog_1_method_35_code
def yX10_withBit : MethodName := ⟨RX10, "withBit", "(IIZ)I"⟩
def RX11 : String := "StripboardModel"
def TX11 : u_T := fun k => match k with
  | 0 => ("StripboardModel", "thrown", "I", false)
  | 1 => ("StripboardModel", "now", "I", false)
  | 2 => ("StripboardModel", "isLocked", "Z", false)
  | 3 => ("StripboardModel", "scenes", "I", false)
  | 4 => ("StripboardModel", "story", "[I", true)
  | 5 => ("StripboardModel", "number", "[I", true)
  | 6 => ("StripboardModel", "letter", "[I", true)
  | 7 => ("StripboardModel", "placeOf", "[I", true)
  | 8 => ("StripboardModel", "byDay", "[Z", true)
  | 9 => ("StripboardModel", "isInside", "[Z", true)
  | 10 => ("StripboardModel", "eighths", "[I", true)
  | 11 => ("StripboardModel", "people", "[I", true)
  | 12 => ("StripboardModel", "wants", "[I", true)
  | 13 => ("StripboardModel", "leaves", "[I", true)
  | 14 => ("StripboardModel", "boundTo", "[I", true)
  | 15 => ("StripboardModel", "isOmitted", "[Z", true)
  | 16 => ("StripboardModel", "isShot", "[Z", true)
  | 17 => ("StripboardModel", "isOwed", "[Z", true)
  | 18 => ("StripboardModel", "lasted", "[I", true)
  | 19 => ("StripboardModel", "dayOf", "[I", true)
  | 20 => ("StripboardModel", "shotMinutes", "I", false)
  | 21 => ("StripboardModel", "shotEighths", "I", false)
  | 22 => ("StripboardModel", "persons", "I", false)
  | 23 => ("StripboardModel", "deal", "[I", true)
  | 24 => ("StripboardModel", "rate", "[I", true)
  | 25 => ("StripboardModel", "prepares", "[I", true)
  | 26 => ("StripboardModel", "isChild", "[Z", true)
  | 27 => ("StripboardModel", "ill", "[I", true)
  | 28 => ("StripboardModel", "places", "I", false)
  | 29 => ("StripboardModel", "placeCost", "[I", true)
  | 30 => ("StripboardModel", "allowed", "[I", true)
  | 31 => ("StripboardModel", "moves", "[I", true)
  | 32 => ("StripboardModel", "start", "[I", true)
  | 33 => ("StripboardModel", "lightFrom", "[I", true)
  | 34 => ("StripboardModel", "lightTo", "[I", true)
  | 35 => ("StripboardModel", "row", "[I", true)
  | 36 => ("StripboardModel", "many", "[I", true)
  | 37 => ("StripboardModel", "looks", "[I", true)
  | 38 => ("StripboardModel", "begins", "[I", true)
  | 39 => ("StripboardModel", "ends", "[I", true)
  | _ => ("StripboardModel", "taken", "[I", true)
def tyX11 : Nat → FieldType := fun k => match k with
  | 0 => .int
  | 1 => .int
  | 2 => .boolean
  | 3 => .int
  | 4 => .array .int
  | 5 => .array .int
  | 6 => .array .int
  | 7 => .array .int
  | 8 => .array .boolean
  | 9 => .array .boolean
  | 10 => .array .int
  | 11 => .array .int
  | 12 => .array .int
  | 13 => .array .int
  | 14 => .array .int
  | 15 => .array .boolean
  | 16 => .array .boolean
  | 17 => .array .boolean
  | 18 => .array .int
  | 19 => .array .int
  | 20 => .int
  | 21 => .int
  | 22 => .int
  | 23 => .array .int
  | 24 => .array .int
  | 25 => .array .int
  | 26 => .array .boolean
  | 27 => .array .int
  | 28 => .int
  | 29 => .array .int
  | 30 => .array .int
  | 31 => .array .int
  | 32 => .array .int
  | 33 => .array .int
  | 34 => .array .int
  | 35 => .array .int
  | 36 => .array .int
  | 37 => .array .int
  | 38 => .array .int
  | 39 => .array .int
  | _ => .array .int
theorem nmX11 : ∀ a, a < 41 → ∀ b, b < 41 → a ≠ b → (TX11 a).2.1 ≠ (TX11 b).2.1 := by decide +kernel
theorem tyX11_ok : ∀ k, k < 41 → parseFieldDescriptor (TX11 k).2.2.1 = some (tyX11 k) := by decide +kernel
abbrev cX11_init : ByteArray := prog_13_method_1_code
def yX11_init : MethodName := ⟨RX11, "<init>", "()V"⟩
abbrev cX11_thrown : ByteArray := prog_13_method_2_code
def yX11_thrown : MethodName := ⟨RX11, "thrown", "()I"⟩
abbrev cX11_goesWell : ByteArray := prog_13_method_3_code
def yX11_goesWell : MethodName := ⟨RX11, "goesWell", "(I)Z"⟩
abbrev cX11_in : ByteArray := prog_13_method_4_code
def yX11_in : MethodName := ⟨RX11, "in", "(III)Z"⟩
abbrev cX11_has : ByteArray := prog_13_method_5_code
def yX11_has : MethodName := ⟨RX11, "has", "(II)Z"⟩
abbrev cX11_size : ByteArray := prog_13_method_6_code
def yX11_size : MethodName := ⟨RX11, "size", "(I)I"⟩
abbrev cX11_isScene : ByteArray := prog_13_method_7_code
def yX11_isScene : MethodName := ⟨RX11, "isScene", "(I)Z"⟩
abbrev cX11_isPerson : ByteArray := prog_13_method_8_code
def yX11_isPerson : MethodName := ⟨RX11, "isPerson", "(I)Z"⟩
abbrev cX11_isPlace : ByteArray := prog_13_method_9_code
def yX11_isPlace : MethodName := ⟨RX11, "isPlace", "(I)Z"⟩
abbrev cX11_isDay : ByteArray := prog_13_method_10_code
def yX11_isDay : MethodName := ⟨RX11, "isDay", "(I)Z"⟩
abbrev cX11_placeIn : ByteArray := prog_13_method_11_code
def yX11_placeIn : MethodName := ⟨RX11, "placeIn", "(I)I"⟩
abbrev cX11_letter : ByteArray := prog_13_method_12_code
def yX11_letter : MethodName := ⟨RX11, "letter", "(I)V"⟩
abbrev cX11_scene : ByteArray := prog_13_method_13_code
def yX11_scene : MethodName := ⟨RX11, "scene", "(IIZZI)I"⟩
abbrev cX11_lock : ByteArray := prog_13_method_14_code
def yX11_lock : MethodName := ⟨RX11, "lock", "()I"⟩
abbrev cX11_omit : ByteArray := prog_13_method_15_code
def yX11_omit : MethodName := ⟨RX11, "omit", "(I)I"⟩
abbrev cX11_label : ByteArray := prog_13_method_16_code
def yX11_label : MethodName := ⟨RX11, "label", "(I)I"⟩
abbrev cX11_needs : ByteArray := prog_13_method_17_code
def yX11_needs : MethodName := ⟨RX11, "needs", "(II)I"⟩
abbrev cX11_clashing : ByteArray := prog_13_method_18_code
def yX11_clashing : MethodName := ⟨RX11, "clashing", "()I"⟩
abbrev cX11_look : ByteArray := prog_13_method_19_code
def yX11_look : MethodName := ⟨RX11, "look", "(IIZI)I"⟩
abbrev cX11_clashes : ByteArray := prog_13_method_20_code
def yX11_clashes : MethodName := ⟨RX11, "clashes", "(I)Z"⟩
abbrev cX11_isBound : ByteArray := prog_13_method_21_code
def yX11_isBound : MethodName := ⟨RX11, "isBound", "(II)Z"⟩
abbrev cX11_bind : ByteArray := prog_13_method_22_code
def yX11_bind : MethodName := ⟨RX11, "bind", "(II)I"⟩
abbrev cX11_person : ByteArray := prog_13_method_23_code
def yX11_person : MethodName := ⟨RX11, "person", "(IIIZ)I"⟩
abbrev cX11_ill : ByteArray := prog_13_method_24_code
def yX11_ill : MethodName := ⟨RX11, "ill", "(IIZ)I"⟩
abbrev cX11_place : ByteArray := prog_13_method_25_code
def yX11_place : MethodName := ⟨RX11, "place", "(I)I"⟩
abbrev cX11_permit : ByteArray := prog_13_method_26_code
def yX11_permit : MethodName := ⟨RX11, "permit", "(IIZ)I"⟩
abbrev cX11_move : ByteArray := prog_13_method_27_code
def yX11_move : MethodName := ⟨RX11, "move", "(III)I"⟩
abbrev cX11_light : ByteArray := prog_13_method_28_code
def yX11_light : MethodName := ⟨RX11, "light", "(IIII)V"⟩
abbrev cX11_eighth : ByteArray := prog_13_method_29_code
def yX11_eighth : MethodName := ⟨RX11, "eighth", "()I"⟩
abbrev cX11_clock : ByteArray := prog_13_method_30_code
def yX11_clock : MethodName := ⟨RX11, "clock", "(I)V"⟩
abbrev cX11_callOf : ByteArray := prog_13_method_31_code
def yX11_callOf : MethodName := ⟨RX11, "callOf", "(IIZ)I"⟩
abbrev cX11_placeOn : ByteArray := prog_13_method_32_code
def yX11_placeOn : MethodName := ⟨RX11, "placeOn", "(II)I"⟩
abbrev cX11_isBehind : ByteArray := prog_13_method_33_code
def yX11_isBehind : MethodName := ⟨RX11, "isBehind", "(II)Z"⟩
abbrev cX11_faultsOf : ByteArray := prog_13_method_34_code
def yX11_faultsOf : MethodName := ⟨RX11, "faultsOf", "(I)I"⟩
abbrev cX11_on : ByteArray := prog_13_method_35_code
def yX11_on : MethodName := ⟨RX11, "on", "(III)V"⟩
abbrev cX11_off : ByteArray := prog_13_method_36_code
def yX11_off : MethodName := ⟨RX11, "off", "(I)V"⟩
abbrev cX11_put : ByteArray := prog_13_method_37_code
def yX11_put : MethodName := ⟨RX11, "put", "(III)I"⟩
abbrev cX11_take : ByteArray := prog_13_method_38_code
def yX11_take : MethodName := ⟨RX11, "take", "(I)I"⟩
abbrev cX11_faultless : ByteArray := prog_13_method_39_code
def yX11_faultless : MethodName := ⟨RX11, "faultless", "(I)I"⟩
abbrev cX11_find : ByteArray := prog_13_method_40_code
def yX11_find : MethodName := ⟨RX11, "find", "(II)Z"⟩
abbrev cX11_canTry : ByteArray := prog_13_method_41_code
def yX11_canTry : MethodName := ⟨RX11, "canTry", "(I)Z"⟩
abbrev cX11_fill : ByteArray := prog_13_method_42_code
def yX11_fill : MethodName := ⟨RX11, "fill", "()I"⟩
abbrev cX11_mend : ByteArray := prog_13_method_43_code
def yX11_mend : MethodName := ⟨RX11, "mend", "(I)I"⟩
abbrev cX11_strip : ByteArray := prog_13_method_44_code
def yX11_strip : MethodName := ⟨RX11, "strip", "(II)I"⟩
abbrev cX11_stateOf : ByteArray := prog_13_method_45_code
def yX11_stateOf : MethodName := ⟨RX11, "stateOf", "(I)I"⟩
abbrev cX11_ofScene : ByteArray := prog_13_method_46_code
def yX11_ofScene : MethodName := ⟨RX11, "ofScene", "(II)I"⟩
abbrev cX11_call : ByteArray := prog_13_method_47_code
def yX11_call : MethodName := ⟨RX11, "call", "(IIZ)I"⟩
abbrev cX11_owed : ByteArray := prog_13_method_48_code
def yX11_owed : MethodName := ⟨RX11, "owed", "()I"⟩
abbrev cX11_shoot : ByteArray := prog_13_method_49_code
def yX11_shoot : MethodName := ⟨RX11, "shoot", "(II)I"⟩
abbrev cX11_lose : ByteArray := prog_13_method_50_code
def yX11_lose : MethodName := ⟨RX11, "lose", "(I)I"⟩
abbrev cX11_next : ByteArray := prog_13_method_51_code
def yX11_next : MethodName := ⟨RX11, "next", "()I"⟩
abbrev cX11_works : ByteArray := prog_13_method_52_code
def yX11_works : MethodName := ⟨RX11, "works", "(II)Z"⟩
abbrev cX11_days : ByteArray := prog_13_method_53_code
def yX11_days : MethodName := ⟨RX11, "days", "(I)I"⟩
abbrev cX11_weeks : ByteArray := prog_13_method_54_code
def yX11_weeks : MethodName := ⟨RX11, "weeks", "(I)I"⟩
abbrev cX11_run : ByteArray := prog_13_method_55_code
def yX11_run : MethodName := ⟨RX11, "run", "(I)I"⟩
abbrev cX11_hours : ByteArray := prog_13_method_56_code
def yX11_hours : MethodName := ⟨RX11, "hours", "(I)I"⟩
abbrev cX11_besides : ByteArray := prog_13_method_57_code
def yX11_besides : MethodName := ⟨RX11, "besides", "(II)I"⟩
abbrev cX11_payOf : ByteArray := prog_13_method_58_code
def yX11_payOf : MethodName := ⟨RX11, "payOf", "(IZ)I"⟩
abbrev cX11_pay : ByteArray := prog_13_method_59_code
def yX11_pay : MethodName := ⟨RX11, "pay", "(IZ)I"⟩
abbrev cX11_cost : ByteArray := prog_13_method_60_code
def yX11_cost : MethodName := ⟨RX11, "cost", "()I"⟩
def RJx145de : String := "java/io/Serializable"
def TJx145de : u_T := fun k => match k with
  | _ => ("", "", "", false)
def tyJx145de : Nat → FieldType := fun k => match k with
  | _ => .int
theorem nmJx145de : ∀ a, a < 0 → ∀ b, b < 0 → a ≠ b → (TJx145de a).2.1 ≠ (TJx145de b).2.1 := by decide +kernel
theorem tyJx145de_ok : ∀ k, k < 0 → parseFieldDescriptor (TJx145de k).2.2.1 = some (tyJx145de k) := by decide +kernel
def RJ6 : String := "java/lang/Integer"
def TJ6 : u_T := fun k => match k with
  | _ => ("", "", "", false)
def tyJ6 : Nat → FieldType := fun k => match k with
  | _ => .int
theorem nmJ6 : ∀ a, a < 0 → ∀ b, b < 0 → a ≠ b → (TJ6 a).2.1 ≠ (TJ6 b).2.1 := by decide +kernel
theorem tyJ6_ok : ∀ k, k < 0 → parseFieldDescriptor (TJ6 k).2.2.1 = some (tyJ6 k) := by decide +kernel
abbrev cJ6_bitCount_0f7a4 : ByteArray := prog_18_method_49_code
def yJ6_bitCount_0f7a4 : MethodName := ⟨RJ6, "bitCount", "(I)I"⟩
def RJ0 : String := "java/lang/String"
def TJ0 : u_T := fun k => match k with
  | _ => ("", "", "", false)
def tyJ0 : Nat → FieldType := fun k => match k with
  | _ => .int
theorem nmJ0 : ∀ a, a < 0 → ∀ b, b < 0 → a ≠ b → (TJ0 a).2.1 ≠ (TJ0 b).2.1 := by decide +kernel
theorem tyJ0_ok : ∀ k, k < 0 → parseFieldDescriptor (TJ0 k).2.2.1 = some (tyJ0 k) := by decide +kernel
def RJ7 : String := "java/util/Arrays"
def TJ7 : u_T := fun k => match k with
  | _ => ("", "", "", false)
def tyJ7 : Nat → FieldType := fun k => match k with
  | _ => .int
theorem nmJ7 : ∀ a, a < 0 → ∀ b, b < 0 → a ≠ b → (TJ7 a).2.1 ≠ (TJ7 b).2.1 := by decide +kernel
theorem tyJ7_ok : ∀ k, k < 0 → parseFieldDescriptor (TJ7 k).2.2.1 = some (tyJ7 k) := by decide +kernel
abbrev cJ7_fill_53178 : ByteArray := prog_22_method_103_code
def yJ7_fill_53178 : MethodName := ⟨RJ7, "fill", "([II)V"⟩
def RL : String := "StripboardLaw"
abbrev cL_scene : ByteArray := method_3_code
def yL_scene : MethodName := ⟨RL, "scene", "(LStripboard;IIZZI[J)I"⟩
abbrev cL_lock : ByteArray := method_4_code
def yL_lock : MethodName := ⟨RL, "lock", "(LStripboard;[J)I"⟩
abbrev cL_omit : ByteArray := method_5_code
def yL_omit : MethodName := ⟨RL, "omit", "(LStripboard;I[J)I"⟩
abbrev cL_label : ByteArray := method_6_code
def yL_label : MethodName := ⟨RL, "label", "(LStripboard;I[J)I"⟩
abbrev cL_needs : ByteArray := method_7_code
def yL_needs : MethodName := ⟨RL, "needs", "(LStripboard;II[J)I"⟩
abbrev cL_look : ByteArray := method_8_code
def yL_look : MethodName := ⟨RL, "look", "(LStripboard;IIZI[J)I"⟩
abbrev cL_clashes : ByteArray := method_9_code
def yL_clashes : MethodName := ⟨RL, "clashes", "(LStripboard;I[J)I"⟩
abbrev cL_bind : ByteArray := method_10_code
def yL_bind : MethodName := ⟨RL, "bind", "(LStripboard;II[J)I"⟩
abbrev cL_person : ByteArray := method_11_code
def yL_person : MethodName := ⟨RL, "person", "(LStripboard;IIIZ[J)I"⟩
abbrev cL_ill : ByteArray := method_12_code
def yL_ill : MethodName := ⟨RL, "ill", "(LStripboard;IIZ[J)I"⟩
abbrev cL_place : ByteArray := method_13_code
def yL_place : MethodName := ⟨RL, "place", "(LStripboard;I[J)I"⟩
abbrev cL_permit : ByteArray := method_14_code
def yL_permit : MethodName := ⟨RL, "permit", "(LStripboard;IIZ[J)I"⟩
abbrev cL_move : ByteArray := method_15_code
def yL_move : MethodName := ⟨RL, "move", "(LStripboard;III[J)I"⟩
abbrev cL_light : ByteArray := method_16_code
def yL_light : MethodName := ⟨RL, "light", "(LStripboard;IIII)I"⟩
abbrev cL_put : ByteArray := method_17_code
def yL_put : MethodName := ⟨RL, "put", "(LStripboard;III[J)I"⟩
abbrev cL_take : ByteArray := method_18_code
def yL_take : MethodName := ⟨RL, "take", "(LStripboard;I[J)I"⟩
abbrev cL_mend : ByteArray := method_19_code
def yL_mend : MethodName := ⟨RL, "mend", "(LStripboard;I[J)I"⟩
abbrev cL_strip : ByteArray := method_20_code
def yL_strip : MethodName := ⟨RL, "strip", "(LStripboard;II[J)I"⟩
abbrev cL_ofScene : ByteArray := method_21_code
def yL_ofScene : MethodName := ⟨RL, "ofScene", "(LStripboard;II[J)I"⟩
abbrev cL_call : ByteArray := method_22_code
def yL_call : MethodName := ⟨RL, "call", "(LStripboard;IIZ[J)I"⟩
abbrev cL_shoot : ByteArray := method_23_code
def yL_shoot : MethodName := ⟨RL, "shoot", "(LStripboard;II[J)I"⟩
abbrev cL_lose : ByteArray := method_24_code
def yL_lose : MethodName := ⟨RL, "lose", "(LStripboard;I[J)I"⟩
abbrev cL_next : ByteArray := method_25_code
def yL_next : MethodName := ⟨RL, "next", "(LStripboard;[J)I"⟩
abbrev cL_pay : ByteArray := method_26_code
def yL_pay : MethodName := ⟨RL, "pay", "(LStripboard;IZ[J)I"⟩
abbrev cL_law : ByteArray := code
def yL_law : MethodName := ⟨RL, "law", "([I)Z"⟩
abbrev vwCl : List vw_C := [(RX0, TX0, 5), (RX1, TX1, 11), (RX2, TX2, 5), (RX3, TX3, 7), (RX4, TX4, 3), (RX5, TX5, 2), (RX6, TX6, 4), (RX7, TX7, 3), (RX8, TX8, 16), (RX9, TX9, 5), (RX10, TX10, 6), (RX11, TX11, 41)]
end
section
theorem dX0_init_0 : decode cX0_init 0 = .ok (.aload_n 0, 1) := by decide +kernel
theorem dX0_init_1 : decode cX0_init 1 = .ok (.invokespecial 3, 3) := by decide +kernel
theorem dX0_init_4 : decode cX0_init 4 = .ok (.aload_n 0, 1) := by decide +kernel
theorem dX0_init_5 : decode cX0_init 5 = .ok (.new 9, 3) := by decide +kernel
theorem dX0_init_8 : decode cX0_init 8 = .ok (.dup, 1) := by decide +kernel
theorem dX0_init_9 : decode cX0_init 9 = .ok (.invokespecial 11, 3) := by decide +kernel
theorem dX0_init_12 : decode cX0_init 12 = .ok (.putfield 12, 3) := by decide +kernel
theorem dX0_init_15 : decode cX0_init 15 = .ok (.aload_n 0, 1) := by decide +kernel
theorem dX0_init_16 : decode cX0_init 16 = .ok (.bipush 30, 2) := by decide +kernel
theorem dX0_init_18 : decode cX0_init 18 = .ok (.anewarray 18, 3) := by decide +kernel
theorem dX0_init_21 : decode cX0_init 21 = .ok (.putfield 20, 3) := by decide +kernel
theorem dX0_init_24 : decode cX0_init 24 = .ok (.aload_n 0, 1) := by decide +kernel
theorem dX0_init_25 : decode cX0_init 25 = .ok (.aload_n 1, 1) := by decide +kernel
theorem dX0_init_26 : decode cX0_init 26 = .ok (.putfield 24, 3) := by decide +kernel
theorem dX0_init_29 : decode cX0_init 29 = .ok (.aload_n 0, 1) := by decide +kernel
theorem dX0_init_30 : decode cX0_init 30 = .ok (.new 28, 3) := by decide +kernel
theorem dX0_init_33 : decode cX0_init 33 = .ok (.dup, 1) := by decide +kernel
theorem dX0_init_34 : decode cX0_init 34 = .ok (.aload_n 1, 1) := by decide +kernel
theorem dX0_init_35 : decode cX0_init 35 = .ok (.aload_n 2, 1) := by decide +kernel
theorem dX0_init_36 : decode cX0_init 36 = .ok (.aload_n 3, 1) := by decide +kernel
theorem dX0_init_37 : decode cX0_init 37 = .ok (.aload_n 0, 1) := by decide +kernel
theorem dX0_init_38 : decode cX0_init 38 = .ok (.getfield 12, 3) := by decide +kernel
theorem dX0_init_41 : decode cX0_init 41 = .ok (.invokespecial 30, 3) := by decide +kernel
theorem dX0_init_44 : decode cX0_init 44 = .ok (.putfield 33, 3) := by decide +kernel
theorem dX0_init_47 : decode cX0_init 47 = .ok (.iconst 0, 1) := by decide +kernel
theorem dX0_init_48 : decode cX0_init 48 = .ok (.istore 4, 2) := by decide +kernel
theorem dX0_init_50 : decode cX0_init 50 = .ok (.iload 4, 2) := by decide +kernel
theorem dX0_init_52 : decode cX0_init 52 = .ok (.bipush 30, 2) := by decide +kernel
theorem dX0_init_54 : decode cX0_init 54 = .ok (.if_icmp .ge 23, 3) := by decide +kernel
theorem dX0_init_57 : decode cX0_init 57 = .ok (.aload_n 0, 1) := by decide +kernel
theorem dX0_init_58 : decode cX0_init 58 = .ok (.getfield 20, 3) := by decide +kernel
theorem dX0_init_61 : decode cX0_init 61 = .ok (.iload 4, 2) := by decide +kernel
theorem dX0_init_63 : decode cX0_init 63 = .ok (.new 18, 3) := by decide +kernel
theorem dX0_init_66 : decode cX0_init 66 = .ok (.dup, 1) := by decide +kernel
theorem dX0_init_67 : decode cX0_init 67 = .ok (.invokespecial 37, 3) := by decide +kernel
theorem dX0_init_70 : decode cX0_init 70 = .ok (.aastore, 1) := by decide +kernel
theorem dX0_init_71 : decode cX0_init 71 = .ok (.iinc 4 1, 3) := by decide +kernel
theorem dX0_init_74 : decode cX0_init 74 = .ok (.goto (-24), 3) := by decide +kernel
theorem dX0_init_77 : decode cX0_init 77 = .ok (.return_, 1) := by decide +kernel
theorem dX0_tellIll_0 : decode cX0_tellIll 0 = .ok (.aload_n 0, 1) := by decide +kernel
theorem dX0_tellIll_1 : decode cX0_tellIll 1 = .ok (.getfield 20, 3) := by decide +kernel
theorem dX0_tellIll_4 : decode cX0_tellIll 4 = .ok (.iload_n 2, 1) := by decide +kernel
theorem dX0_tellIll_5 : decode cX0_tellIll 5 = .ok (.aaload, 1) := by decide +kernel
theorem dX0_tellIll_6 : decode cX0_tellIll 6 = .ok (.aload_n 0, 1) := by decide +kernel
theorem dX0_tellIll_7 : decode cX0_tellIll 7 = .ok (.getfield 20, 3) := by decide +kernel
theorem dX0_tellIll_10 : decode cX0_tellIll 10 = .ok (.iload_n 2, 1) := by decide +kernel
theorem dX0_tellIll_11 : decode cX0_tellIll 11 = .ok (.aaload, 1) := by decide +kernel
theorem dX0_tellIll_12 : decode cX0_tellIll 12 = .ok (.getfield 38, 3) := by decide +kernel
theorem dX0_tellIll_15 : decode cX0_tellIll 15 = .ok (.iload_n 1, 1) := by decide +kernel
theorem dX0_tellIll_16 : decode cX0_tellIll 16 = .ok (.iload_n 3, 1) := by decide +kernel
theorem dX0_tellIll_17 : decode cX0_tellIll 17 = .ok (.invokestatic 42, 3) := by decide +kernel
theorem dX0_tellIll_20 : decode cX0_tellIll 20 = .ok (.putfield 38, 3) := by decide +kernel
theorem dX0_tellIll_23 : decode cX0_tellIll 23 = .ok (.iconst 0, 1) := by decide +kernel
theorem dX0_tellIll_24 : decode cX0_tellIll 24 = .ok (.istore 4, 2) := by decide +kernel
theorem dX0_tellIll_26 : decode cX0_tellIll 26 = .ok (.iconst 0, 1) := by decide +kernel
theorem dX0_tellIll_27 : decode cX0_tellIll 27 = .ok (.istore 5, 2) := by decide +kernel
theorem dX0_tellIll_29 : decode cX0_tellIll 29 = .ok (.iload 5, 2) := by decide +kernel
theorem dX0_tellIll_31 : decode cX0_tellIll 31 = .ok (.bipush 30, 2) := by decide +kernel
theorem dX0_tellIll_33 : decode cX0_tellIll 33 = .ok (.if_icmp .ge 29, 3) := by decide +kernel
theorem dX0_tellIll_36 : decode cX0_tellIll 36 = .ok (.aload_n 0, 1) := by decide +kernel
theorem dX0_tellIll_37 : decode cX0_tellIll 37 = .ok (.getfield 20, 3) := by decide +kernel
theorem dX0_tellIll_40 : decode cX0_tellIll 40 = .ok (.iload 5, 2) := by decide +kernel
theorem dX0_tellIll_42 : decode cX0_tellIll 42 = .ok (.aaload, 1) := by decide +kernel
theorem dX0_tellIll_43 : decode cX0_tellIll 43 = .ok (.getfield 38, 3) := by decide +kernel
theorem dX0_tellIll_46 : decode cX0_tellIll 46 = .ok (.iload_n 1, 1) := by decide +kernel
theorem dX0_tellIll_47 : decode cX0_tellIll 47 = .ok (.invokestatic 46, 3) := by decide +kernel
theorem dX0_tellIll_50 : decode cX0_tellIll 50 = .ok (.ifCond .eq 6, 3) := by decide +kernel
theorem dX0_tellIll_53 : decode cX0_tellIll 53 = .ok (.iinc 4 1, 3) := by decide +kernel
theorem dX0_tellIll_56 : decode cX0_tellIll 56 = .ok (.iinc 5 1, 3) := by decide +kernel
theorem dX0_tellIll_59 : decode cX0_tellIll 59 = .ok (.goto (-30), 3) := by decide +kernel
theorem dX0_tellIll_62 : decode cX0_tellIll 62 = .ok (.iload 4, 2) := by decide +kernel
theorem dX0_tellIll_64 : decode cX0_tellIll 64 = .ok (.ireturn, 1) := by decide +kernel
theorem dX0_tellAllowed_0 : decode cX0_tellAllowed 0 = .ok (.aload_n 0, 1) := by decide +kernel
theorem dX0_tellAllowed_1 : decode cX0_tellAllowed 1 = .ok (.getfield 20, 3) := by decide +kernel
theorem dX0_tellAllowed_4 : decode cX0_tellAllowed 4 = .ok (.iload_n 2, 1) := by decide +kernel
theorem dX0_tellAllowed_5 : decode cX0_tellAllowed 5 = .ok (.aaload, 1) := by decide +kernel
theorem dX0_tellAllowed_6 : decode cX0_tellAllowed 6 = .ok (.aload_n 0, 1) := by decide +kernel
theorem dX0_tellAllowed_7 : decode cX0_tellAllowed 7 = .ok (.getfield 20, 3) := by decide +kernel
theorem dX0_tellAllowed_10 : decode cX0_tellAllowed 10 = .ok (.iload_n 2, 1) := by decide +kernel
theorem dX0_tellAllowed_11 : decode cX0_tellAllowed 11 = .ok (.aaload, 1) := by decide +kernel
theorem dX0_tellAllowed_12 : decode cX0_tellAllowed 12 = .ok (.getfield 50, 3) := by decide +kernel
theorem dX0_tellAllowed_15 : decode cX0_tellAllowed 15 = .ok (.iload_n 1, 1) := by decide +kernel
theorem dX0_tellAllowed_16 : decode cX0_tellAllowed 16 = .ok (.iload_n 3, 1) := by decide +kernel
theorem dX0_tellAllowed_17 : decode cX0_tellAllowed 17 = .ok (.ifCond .ne 7, 3) := by decide +kernel
theorem dX0_tellAllowed_20 : decode cX0_tellAllowed 20 = .ok (.iconst 1, 1) := by decide +kernel
theorem dX0_tellAllowed_21 : decode cX0_tellAllowed 21 = .ok (.goto 4, 3) := by decide +kernel
theorem dX0_tellAllowed_24 : decode cX0_tellAllowed 24 = .ok (.iconst 0, 1) := by decide +kernel
theorem dX0_tellAllowed_25 : decode cX0_tellAllowed 25 = .ok (.invokestatic 42, 3) := by decide +kernel
theorem dX0_tellAllowed_28 : decode cX0_tellAllowed 28 = .ok (.putfield 50, 3) := by decide +kernel
theorem dX0_tellAllowed_31 : decode cX0_tellAllowed 31 = .ok (.iconst 0, 1) := by decide +kernel
theorem dX0_tellAllowed_32 : decode cX0_tellAllowed 32 = .ok (.istore 4, 2) := by decide +kernel
theorem dX0_tellAllowed_34 : decode cX0_tellAllowed 34 = .ok (.iconst 0, 1) := by decide +kernel
theorem dX0_tellAllowed_35 : decode cX0_tellAllowed 35 = .ok (.istore 5, 2) := by decide +kernel
theorem dX0_tellAllowed_37 : decode cX0_tellAllowed 37 = .ok (.iload 5, 2) := by decide +kernel
theorem dX0_tellAllowed_39 : decode cX0_tellAllowed 39 = .ok (.bipush 30, 2) := by decide +kernel
theorem dX0_tellAllowed_41 : decode cX0_tellAllowed 41 = .ok (.if_icmp .ge 29, 3) := by decide +kernel
theorem dX0_tellAllowed_44 : decode cX0_tellAllowed 44 = .ok (.aload_n 0, 1) := by decide +kernel
theorem dX0_tellAllowed_45 : decode cX0_tellAllowed 45 = .ok (.getfield 20, 3) := by decide +kernel
theorem dX0_tellAllowed_48 : decode cX0_tellAllowed 48 = .ok (.iload 5, 2) := by decide +kernel
theorem dX0_tellAllowed_50 : decode cX0_tellAllowed 50 = .ok (.aaload, 1) := by decide +kernel
theorem dX0_tellAllowed_51 : decode cX0_tellAllowed 51 = .ok (.getfield 50, 3) := by decide +kernel
theorem dX0_tellAllowed_54 : decode cX0_tellAllowed 54 = .ok (.iload_n 1, 1) := by decide +kernel
theorem dX0_tellAllowed_55 : decode cX0_tellAllowed 55 = .ok (.invokestatic 46, 3) := by decide +kernel
theorem dX0_tellAllowed_58 : decode cX0_tellAllowed 58 = .ok (.ifCond .ne 6, 3) := by decide +kernel
theorem dX0_tellAllowed_61 : decode cX0_tellAllowed 61 = .ok (.iinc 4 1, 3) := by decide +kernel
theorem dX0_tellAllowed_64 : decode cX0_tellAllowed 64 = .ok (.iinc 5 1, 3) := by decide +kernel
theorem dX0_tellAllowed_67 : decode cX0_tellAllowed 67 = .ok (.goto (-30), 3) := by decide +kernel
theorem dX0_tellAllowed_70 : decode cX0_tellAllowed 70 = .ok (.iload 4, 2) := by decide +kernel
theorem dX0_tellAllowed_72 : decode cX0_tellAllowed 72 = .ok (.ireturn, 1) := by decide +kernel
theorem dX0_putOn_0 : decode cX0_putOn 0 = .ok (.aload_n 0, 1) := by decide +kernel
theorem dX0_putOn_1 : decode cX0_putOn 1 = .ok (.getfield 20, 3) := by decide +kernel
theorem dX0_putOn_4 : decode cX0_putOn 4 = .ok (.iload_n 2, 1) := by decide +kernel
theorem dX0_putOn_5 : decode cX0_putOn 5 = .ok (.aaload, 1) := by decide +kernel
theorem dX0_putOn_6 : decode cX0_putOn 6 = .ok (.iload_n 1, 1) := by decide +kernel
theorem dX0_putOn_7 : decode cX0_putOn 7 = .ok (.iload_n 3, 1) := by decide +kernel
theorem dX0_putOn_8 : decode cX0_putOn 8 = .ok (.invokevirtual 53, 3) := by decide +kernel
theorem dX0_putOn_11 : decode cX0_putOn 11 = .ok (.aload_n 0, 1) := by decide +kernel
theorem dX0_putOn_12 : decode cX0_putOn 12 = .ok (.getfield 24, 3) := by decide +kernel
theorem dX0_putOn_15 : decode cX0_putOn 15 = .ok (.getfield 57, 3) := by decide +kernel
theorem dX0_putOn_18 : decode cX0_putOn 18 = .ok (.iload_n 1, 1) := by decide +kernel
theorem dX0_putOn_19 : decode cX0_putOn 19 = .ok (.aaload, 1) := by decide +kernel
theorem dX0_putOn_20 : decode cX0_putOn 20 = .ok (.iload_n 2, 1) := by decide +kernel
theorem dX0_putOn_21 : decode cX0_putOn 21 = .ok (.putfield 63, 3) := by decide +kernel
theorem dX0_putOn_24 : decode cX0_putOn 24 = .ok (.return_, 1) := by decide +kernel
theorem dX0_takeOff_0 : decode cX0_takeOff 0 = .ok (.aload_n 0, 1) := by decide +kernel
theorem dX0_takeOff_1 : decode cX0_takeOff 1 = .ok (.getfield 24, 3) := by decide +kernel
theorem dX0_takeOff_4 : decode cX0_takeOff 4 = .ok (.getfield 57, 3) := by decide +kernel
theorem dX0_takeOff_7 : decode cX0_takeOff 7 = .ok (.iload_n 1, 1) := by decide +kernel
theorem dX0_takeOff_8 : decode cX0_takeOff 8 = .ok (.aaload, 1) := by decide +kernel
theorem dX0_takeOff_9 : decode cX0_takeOff 9 = .ok (.astore_n 2, 1) := by decide +kernel
theorem dX0_takeOff_10 : decode cX0_takeOff 10 = .ok (.aload_n 2, 1) := by decide +kernel
theorem dX0_takeOff_11 : decode cX0_takeOff 11 = .ok (.getfield 63, 3) := by decide +kernel
theorem dX0_takeOff_14 : decode cX0_takeOff 14 = .ok (.iconst (-1), 1) := by decide +kernel
theorem dX0_takeOff_15 : decode cX0_takeOff 15 = .ok (.if_icmp .ne 4, 3) := by decide +kernel
theorem dX0_takeOff_18 : decode cX0_takeOff 18 = .ok (.return_, 1) := by decide +kernel
theorem dX0_takeOff_19 : decode cX0_takeOff 19 = .ok (.aload_n 0, 1) := by decide +kernel
theorem dX0_takeOff_20 : decode cX0_takeOff 20 = .ok (.getfield 20, 3) := by decide +kernel
theorem dX0_takeOff_23 : decode cX0_takeOff 23 = .ok (.aload_n 2, 1) := by decide +kernel
theorem dX0_takeOff_24 : decode cX0_takeOff 24 = .ok (.getfield 63, 3) := by decide +kernel
theorem dX0_takeOff_27 : decode cX0_takeOff 27 = .ok (.aaload, 1) := by decide +kernel
theorem dX0_takeOff_28 : decode cX0_takeOff 28 = .ok (.iload_n 1, 1) := by decide +kernel
theorem dX0_takeOff_29 : decode cX0_takeOff 29 = .ok (.invokevirtual 68, 3) := by decide +kernel
theorem dX0_takeOff_32 : decode cX0_takeOff 32 = .ok (.aload_n 2, 1) := by decide +kernel
theorem dX0_takeOff_33 : decode cX0_takeOff 33 = .ok (.iconst (-1), 1) := by decide +kernel
theorem dX0_takeOff_34 : decode cX0_takeOff 34 = .ok (.putfield 63, 3) := by decide +kernel
theorem dX0_takeOff_37 : decode cX0_takeOff 37 = .ok (.return_, 1) := by decide +kernel
theorem dX0_endDay_0 : decode cX0_endDay 0 = .ok (.aload_n 0, 1) := by decide +kernel
theorem dX0_endDay_1 : decode cX0_endDay 1 = .ok (.getfield 20, 3) := by decide +kernel
theorem dX0_endDay_4 : decode cX0_endDay 4 = .ok (.aload_n 0, 1) := by decide +kernel
theorem dX0_endDay_5 : decode cX0_endDay 5 = .ok (.getfield 72, 3) := by decide +kernel
theorem dX0_endDay_8 : decode cX0_endDay 8 = .ok (.aaload, 1) := by decide +kernel
theorem dX0_endDay_9 : decode cX0_endDay 9 = .ok (.astore_n 1, 1) := by decide +kernel
theorem dX0_endDay_10 : decode cX0_endDay 10 = .ok (.aload_n 1, 1) := by decide +kernel
theorem dX0_endDay_11 : decode cX0_endDay 11 = .ok (.getfield 75, 3) := by decide +kernel
theorem dX0_endDay_14 : decode cX0_endDay 14 = .ok (.iconst 1, 1) := by decide +kernel
theorem dX0_endDay_15 : decode cX0_endDay 15 = .ok (.isub, 1) := by decide +kernel
theorem dX0_endDay_16 : decode cX0_endDay 16 = .ok (.istore_n 2, 1) := by decide +kernel
theorem dX0_endDay_17 : decode cX0_endDay 17 = .ok (.iload_n 2, 1) := by decide +kernel
theorem dX0_endDay_18 : decode cX0_endDay 18 = .ok (.ifCond .lt 46, 3) := by decide +kernel
theorem dX0_endDay_21 : decode cX0_endDay 21 = .ok (.aload_n 0, 1) := by decide +kernel
theorem dX0_endDay_22 : decode cX0_endDay 22 = .ok (.getfield 24, 3) := by decide +kernel
theorem dX0_endDay_25 : decode cX0_endDay 25 = .ok (.getfield 57, 3) := by decide +kernel
theorem dX0_endDay_28 : decode cX0_endDay 28 = .ok (.aload_n 1, 1) := by decide +kernel
theorem dX0_endDay_29 : decode cX0_endDay 29 = .ok (.getfield 78, 3) := by decide +kernel
theorem dX0_endDay_32 : decode cX0_endDay 32 = .ok (.iload_n 2, 1) := by decide +kernel
theorem dX0_endDay_33 : decode cX0_endDay 33 = .ok (.iaload, 1) := by decide +kernel
theorem dX0_endDay_34 : decode cX0_endDay 34 = .ok (.aaload, 1) := by decide +kernel
theorem dX0_endDay_35 : decode cX0_endDay 35 = .ok (.astore_n 3, 1) := by decide +kernel
theorem dX0_endDay_36 : decode cX0_endDay 36 = .ok (.aload_n 3, 1) := by decide +kernel
theorem dX0_endDay_37 : decode cX0_endDay 37 = .ok (.getfield 82, 3) := by decide +kernel
theorem dX0_endDay_40 : decode cX0_endDay 40 = .ok (.ifCond .ne 18, 3) := by decide +kernel
theorem dX0_endDay_43 : decode cX0_endDay 43 = .ok (.aload_n 3, 1) := by decide +kernel
theorem dX0_endDay_44 : decode cX0_endDay 44 = .ok (.iconst 1, 1) := by decide +kernel
theorem dX0_endDay_45 : decode cX0_endDay 45 = .ok (.putfield 86, 3) := by decide +kernel
theorem dX0_endDay_48 : decode cX0_endDay 48 = .ok (.aload_n 0, 1) := by decide +kernel
theorem dX0_endDay_49 : decode cX0_endDay 49 = .ok (.aload_n 1, 1) := by decide +kernel
theorem dX0_endDay_50 : decode cX0_endDay 50 = .ok (.getfield 78, 3) := by decide +kernel
theorem dX0_endDay_53 : decode cX0_endDay 53 = .ok (.iload_n 2, 1) := by decide +kernel
theorem dX0_endDay_54 : decode cX0_endDay 54 = .ok (.iaload, 1) := by decide +kernel
theorem dX0_endDay_55 : decode cX0_endDay 55 = .ok (.invokevirtual 89, 3) := by decide +kernel
theorem dX0_endDay_58 : decode cX0_endDay 58 = .ok (.iinc 2 (-1), 3) := by decide +kernel
theorem dX0_endDay_61 : decode cX0_endDay 61 = .ok (.goto (-44), 3) := by decide +kernel
theorem dX0_endDay_64 : decode cX0_endDay 64 = .ok (.aload_n 0, 1) := by decide +kernel
theorem dX0_endDay_65 : decode cX0_endDay 65 = .ok (.dup, 1) := by decide +kernel
theorem dX0_endDay_66 : decode cX0_endDay 66 = .ok (.getfield 72, 3) := by decide +kernel
theorem dX0_endDay_69 : decode cX0_endDay 69 = .ok (.iconst 1, 1) := by decide +kernel
theorem dX0_endDay_70 : decode cX0_endDay 70 = .ok (.iadd, 1) := by decide +kernel
theorem dX0_endDay_71 : decode cX0_endDay 71 = .ok (.putfield 72, 3) := by decide +kernel
theorem dX0_endDay_74 : decode cX0_endDay 74 = .ok (.return_, 1) := by decide +kernel
theorem dX0_clockOf_0 : decode cX0_clockOf 0 = .ok (.aload_n 0, 1) := by decide +kernel
theorem dX0_clockOf_1 : decode cX0_clockOf 1 = .ok (.getfield 33, 3) := by decide +kernel
theorem dX0_clockOf_4 : decode cX0_clockOf 4 = .ok (.aload_n 0, 1) := by decide +kernel
theorem dX0_clockOf_5 : decode cX0_clockOf 5 = .ok (.getfield 20, 3) := by decide +kernel
theorem dX0_clockOf_8 : decode cX0_clockOf 8 = .ok (.iload_n 1, 1) := by decide +kernel
theorem dX0_clockOf_9 : decode cX0_clockOf 9 = .ok (.aaload, 1) := by decide +kernel
theorem dX0_clockOf_10 : decode cX0_clockOf 10 = .ok (.invokevirtual 92, 3) := by decide +kernel
theorem dX0_clockOf_13 : decode cX0_clockOf 13 = .ok (.aload_n 0, 1) := by decide +kernel
theorem dX0_clockOf_14 : decode cX0_clockOf 14 = .ok (.getfield 33, 3) := by decide +kernel
theorem dX0_clockOf_17 : decode cX0_clockOf 17 = .ok (.areturn, 1) := by decide +kernel
theorem dX0_timeOf_0 : decode cX0_timeOf 0 = .ok (.aload_n 0, 1) := by decide +kernel
theorem dX0_timeOf_1 : decode cX0_timeOf 1 = .ok (.getfield 20, 3) := by decide +kernel
theorem dX0_timeOf_4 : decode cX0_timeOf 4 = .ok (.aload_n 0, 1) := by decide +kernel
theorem dX0_timeOf_5 : decode cX0_timeOf 5 = .ok (.getfield 24, 3) := by decide +kernel
theorem dX0_timeOf_8 : decode cX0_timeOf 8 = .ok (.getfield 57, 3) := by decide +kernel
theorem dX0_timeOf_11 : decode cX0_timeOf 11 = .ok (.iload_n 1, 1) := by decide +kernel
theorem dX0_timeOf_12 : decode cX0_timeOf 12 = .ok (.aaload, 1) := by decide +kernel
theorem dX0_timeOf_13 : decode cX0_timeOf 13 = .ok (.getfield 63, 3) := by decide +kernel
theorem dX0_timeOf_16 : decode cX0_timeOf 16 = .ok (.aaload, 1) := by decide +kernel
theorem dX0_timeOf_17 : decode cX0_timeOf 17 = .ok (.astore_n 3, 1) := by decide +kernel
theorem dX0_timeOf_18 : decode cX0_timeOf 18 = .ok (.aload_n 3, 1) := by decide +kernel
theorem dX0_timeOf_19 : decode cX0_timeOf 19 = .ok (.iload_n 1, 1) := by decide +kernel
theorem dX0_timeOf_20 : decode cX0_timeOf 20 = .ok (.invokevirtual 96, 3) := by decide +kernel
theorem dX0_timeOf_23 : decode cX0_timeOf 23 = .ok (.istore 4, 2) := by decide +kernel
theorem dX0_timeOf_25 : decode cX0_timeOf 25 = .ok (.aload_n 0, 1) := by decide +kernel
theorem dX0_timeOf_26 : decode cX0_timeOf 26 = .ok (.getfield 33, 3) := by decide +kernel
theorem dX0_timeOf_29 : decode cX0_timeOf 29 = .ok (.aload_n 3, 1) := by decide +kernel
theorem dX0_timeOf_30 : decode cX0_timeOf 30 = .ok (.invokevirtual 92, 3) := by decide +kernel
theorem dX0_timeOf_33 : decode cX0_timeOf 33 = .ok (.iload_n 2, 1) := by decide +kernel
theorem dX0_timeOf_34 : decode cX0_timeOf 34 = .ok (.ifCond .eq 16, 3) := by decide +kernel
theorem dX0_timeOf_37 : decode cX0_timeOf 37 = .ok (.aload_n 0, 1) := by decide +kernel
theorem dX0_timeOf_38 : decode cX0_timeOf 38 = .ok (.getfield 33, 3) := by decide +kernel
theorem dX0_timeOf_41 : decode cX0_timeOf 41 = .ok (.getfield 100, 3) := by decide +kernel
theorem dX0_timeOf_44 : decode cX0_timeOf 44 = .ok (.iload 4, 2) := by decide +kernel
theorem dX0_timeOf_46 : decode cX0_timeOf 46 = .ok (.iaload, 1) := by decide +kernel
theorem dX0_timeOf_47 : decode cX0_timeOf 47 = .ok (.goto 13, 3) := by decide +kernel
theorem dX0_timeOf_50 : decode cX0_timeOf 50 = .ok (.aload_n 0, 1) := by decide +kernel
theorem dX0_timeOf_51 : decode cX0_timeOf 51 = .ok (.getfield 33, 3) := by decide +kernel
theorem dX0_timeOf_54 : decode cX0_timeOf 54 = .ok (.getfield 103, 3) := by decide +kernel
theorem dX0_timeOf_57 : decode cX0_timeOf 57 = .ok (.iload 4, 2) := by decide +kernel
theorem dX0_timeOf_59 : decode cX0_timeOf 59 = .ok (.iaload, 1) := by decide +kernel
theorem dX0_timeOf_60 : decode cX0_timeOf 60 = .ok (.ireturn, 1) := by decide +kernel
theorem dX0_faultsOf_0 : decode cX0_faultsOf 0 = .ok (.aload_n 0, 1) := by decide +kernel
theorem dX0_faultsOf_1 : decode cX0_faultsOf 1 = .ok (.getfield 20, 3) := by decide +kernel
theorem dX0_faultsOf_4 : decode cX0_faultsOf 4 = .ok (.aload_n 0, 1) := by decide +kernel
theorem dX0_faultsOf_5 : decode cX0_faultsOf 5 = .ok (.getfield 24, 3) := by decide +kernel
theorem dX0_faultsOf_8 : decode cX0_faultsOf 8 = .ok (.getfield 57, 3) := by decide +kernel
theorem dX0_faultsOf_11 : decode cX0_faultsOf 11 = .ok (.iload_n 1, 1) := by decide +kernel
theorem dX0_faultsOf_12 : decode cX0_faultsOf 12 = .ok (.aaload, 1) := by decide +kernel
theorem dX0_faultsOf_13 : decode cX0_faultsOf 13 = .ok (.getfield 63, 3) := by decide +kernel
theorem dX0_faultsOf_16 : decode cX0_faultsOf 16 = .ok (.aaload, 1) := by decide +kernel
theorem dX0_faultsOf_17 : decode cX0_faultsOf 17 = .ok (.astore_n 2, 1) := by decide +kernel
theorem dX0_faultsOf_18 : decode cX0_faultsOf 18 = .ok (.aload_n 0, 1) := by decide +kernel
theorem dX0_faultsOf_19 : decode cX0_faultsOf 19 = .ok (.getfield 33, 3) := by decide +kernel
theorem dX0_faultsOf_22 : decode cX0_faultsOf 22 = .ok (.aload_n 2, 1) := by decide +kernel
theorem dX0_faultsOf_23 : decode cX0_faultsOf 23 = .ok (.invokevirtual 92, 3) := by decide +kernel
theorem dX0_faultsOf_26 : decode cX0_faultsOf 26 = .ok (.aload_n 0, 1) := by decide +kernel
theorem dX0_faultsOf_27 : decode cX0_faultsOf 27 = .ok (.aload_n 2, 1) := by decide +kernel
theorem dX0_faultsOf_28 : decode cX0_faultsOf 28 = .ok (.aload_n 2, 1) := by decide +kernel
theorem dX0_faultsOf_29 : decode cX0_faultsOf 29 = .ok (.iload_n 1, 1) := by decide +kernel
theorem dX0_faultsOf_30 : decode cX0_faultsOf 30 = .ok (.invokevirtual 96, 3) := by decide +kernel
theorem dX0_faultsOf_33 : decode cX0_faultsOf 33 = .ok (.invokevirtual 106, 3) := by decide +kernel
theorem dX0_faultsOf_36 : decode cX0_faultsOf 36 = .ok (.ireturn, 1) := by decide +kernel
theorem dX0_faultless_0 : decode cX0_faultless 0 = .ok (.aload_n 0, 1) := by decide +kernel
theorem dX0_faultless_1 : decode cX0_faultless 1 = .ok (.getfield 20, 3) := by decide +kernel
theorem dX0_faultless_4 : decode cX0_faultless 4 = .ok (.iload_n 1, 1) := by decide +kernel
theorem dX0_faultless_5 : decode cX0_faultless 5 = .ok (.aaload, 1) := by decide +kernel
theorem dX0_faultless_6 : decode cX0_faultless 6 = .ok (.astore_n 2, 1) := by decide +kernel
theorem dX0_faultless_7 : decode cX0_faultless 7 = .ok (.aload_n 0, 1) := by decide +kernel
theorem dX0_faultless_8 : decode cX0_faultless 8 = .ok (.getfield 33, 3) := by decide +kernel
theorem dX0_faultless_11 : decode cX0_faultless 11 = .ok (.aload_n 2, 1) := by decide +kernel
theorem dX0_faultless_12 : decode cX0_faultless 12 = .ok (.invokevirtual 92, 3) := by decide +kernel
theorem dX0_faultless_15 : decode cX0_faultless 15 = .ok (.iconst 0, 1) := by decide +kernel
theorem dX0_faultless_16 : decode cX0_faultless 16 = .ok (.istore_n 3, 1) := by decide +kernel
theorem dX0_faultless_17 : decode cX0_faultless 17 = .ok (.iconst 0, 1) := by decide +kernel
theorem dX0_faultless_18 : decode cX0_faultless 18 = .ok (.istore 4, 2) := by decide +kernel
theorem dX0_faultless_20 : decode cX0_faultless 20 = .ok (.iload 4, 2) := by decide +kernel
theorem dX0_faultless_22 : decode cX0_faultless 22 = .ok (.aload_n 2, 1) := by decide +kernel
theorem dX0_faultless_23 : decode cX0_faultless 23 = .ok (.getfield 75, 3) := by decide +kernel
theorem dX0_faultless_26 : decode cX0_faultless 26 = .ok (.if_icmp .ge 26, 3) := by decide +kernel
theorem dX0_faultless_29 : decode cX0_faultless 29 = .ok (.aload_n 0, 1) := by decide +kernel
theorem dX0_faultless_30 : decode cX0_faultless 30 = .ok (.aload_n 2, 1) := by decide +kernel
theorem dX0_faultless_31 : decode cX0_faultless 31 = .ok (.iload 4, 2) := by decide +kernel
theorem dX0_faultless_33 : decode cX0_faultless 33 = .ok (.invokevirtual 106, 3) := by decide +kernel
theorem dX0_faultless_36 : decode cX0_faultless 36 = .ok (.ifCond .ne 10, 3) := by decide +kernel
theorem dX0_faultless_39 : decode cX0_faultless 39 = .ok (.iload_n 3, 1) := by decide +kernel
theorem dX0_faultless_40 : decode cX0_faultless 40 = .ok (.iconst 1, 1) := by decide +kernel
theorem dX0_faultless_41 : decode cX0_faultless 41 = .ok (.iload 4, 2) := by decide +kernel
theorem dX0_faultless_43 : decode cX0_faultless 43 = .ok (.ishl, 1) := by decide +kernel
theorem dX0_faultless_44 : decode cX0_faultless 44 = .ok (.ior, 1) := by decide +kernel
theorem dX0_faultless_45 : decode cX0_faultless 45 = .ok (.istore_n 3, 1) := by decide +kernel
theorem dX0_faultless_46 : decode cX0_faultless 46 = .ok (.iinc 4 1, 3) := by decide +kernel
theorem dX0_faultless_49 : decode cX0_faultless 49 = .ok (.goto (-29), 3) := by decide +kernel
theorem dX0_faultless_52 : decode cX0_faultless 52 = .ok (.iload_n 3, 1) := by decide +kernel
theorem dX0_faultless_53 : decode cX0_faultless 53 = .ok (.ireturn, 1) := by decide +kernel
theorem dX0_faultsAt_0 : decode cX0_faultsAt 0 = .ok (.aload_n 0, 1) := by decide +kernel
theorem dX0_faultsAt_1 : decode cX0_faultsAt 1 = .ok (.getfield 24, 3) := by decide +kernel
theorem dX0_faultsAt_4 : decode cX0_faultsAt 4 = .ok (.getfield 57, 3) := by decide +kernel
theorem dX0_faultsAt_7 : decode cX0_faultsAt 7 = .ok (.aload_n 1, 1) := by decide +kernel
theorem dX0_faultsAt_8 : decode cX0_faultsAt 8 = .ok (.getfield 78, 3) := by decide +kernel
theorem dX0_faultsAt_11 : decode cX0_faultsAt 11 = .ok (.iload_n 2, 1) := by decide +kernel
theorem dX0_faultsAt_12 : decode cX0_faultsAt 12 = .ok (.iaload, 1) := by decide +kernel
theorem dX0_faultsAt_13 : decode cX0_faultsAt 13 = .ok (.aaload, 1) := by decide +kernel
theorem dX0_faultsAt_14 : decode cX0_faultsAt 14 = .ok (.astore_n 3, 1) := by decide +kernel
theorem dX0_faultsAt_15 : decode cX0_faultsAt 15 = .ok (.iconst 0, 1) := by decide +kernel
theorem dX0_faultsAt_16 : decode cX0_faultsAt 16 = .ok (.istore 4, 2) := by decide +kernel
theorem dX0_faultsAt_18 : decode cX0_faultsAt 18 = .ok (.aload_n 1, 1) := by decide +kernel
theorem dX0_faultsAt_19 : decode cX0_faultsAt 19 = .ok (.getfield 50, 3) := by decide +kernel
theorem dX0_faultsAt_22 : decode cX0_faultsAt 22 = .ok (.aload_n 3, 1) := by decide +kernel
theorem dX0_faultsAt_23 : decode cX0_faultsAt 23 = .ok (.getfield 110, 3) := by decide +kernel
theorem dX0_faultsAt_26 : decode cX0_faultsAt 26 = .ok (.invokestatic 46, 3) := by decide +kernel
theorem dX0_faultsAt_29 : decode cX0_faultsAt 29 = .ok (.ifCond .eq 6, 3) := by decide +kernel
theorem dX0_faultsAt_32 : decode cX0_faultsAt 32 = .ok (.iinc 4 1, 3) := by decide +kernel
theorem dX0_faultsAt_35 : decode cX0_faultsAt 35 = .ok (.aload_n 3, 1) := by decide +kernel
theorem dX0_faultsAt_36 : decode cX0_faultsAt 36 = .ok (.invokevirtual 113, 3) := by decide +kernel
theorem dX0_faultsAt_39 : decode cX0_faultsAt 39 = .ok (.ifCond .eq 15, 3) := by decide +kernel
theorem dX0_faultsAt_42 : decode cX0_faultsAt 42 = .ok (.aload_n 0, 1) := by decide +kernel
theorem dX0_faultsAt_43 : decode cX0_faultsAt 43 = .ok (.aload_n 1, 1) := by decide +kernel
theorem dX0_faultsAt_44 : decode cX0_faultsAt 44 = .ok (.iload_n 2, 1) := by decide +kernel
theorem dX0_faultsAt_45 : decode cX0_faultsAt 45 = .ok (.invokevirtual 117, 3) := by decide +kernel
theorem dX0_faultsAt_48 : decode cX0_faultsAt 48 = .ok (.ifCond .eq 6, 3) := by decide +kernel
theorem dX0_faultsAt_51 : decode cX0_faultsAt 51 = .ok (.iinc 4 2, 3) := by decide +kernel
theorem dX0_faultsAt_54 : decode cX0_faultsAt 54 = .ok (.aload_n 3, 1) := by decide +kernel
theorem dX0_faultsAt_55 : decode cX0_faultsAt 55 = .ok (.getfield 121, 3) := by decide +kernel
theorem dX0_faultsAt_58 : decode cX0_faultsAt 58 = .ok (.aload_n 1, 1) := by decide +kernel
theorem dX0_faultsAt_59 : decode cX0_faultsAt 59 = .ok (.getfield 38, 3) := by decide +kernel
theorem dX0_faultsAt_62 : decode cX0_faultsAt 62 = .ok (.iand, 1) := by decide +kernel
theorem dX0_faultsAt_63 : decode cX0_faultsAt 63 = .ok (.ifCond .eq 6, 3) := by decide +kernel
theorem dX0_faultsAt_66 : decode cX0_faultsAt 66 = .ok (.iinc 4 4, 3) := by decide +kernel
theorem dX0_faultsAt_69 : decode cX0_faultsAt 69 = .ok (.aload_n 3, 1) := by decide +kernel
theorem dX0_faultsAt_70 : decode cX0_faultsAt 70 = .ok (.getfield 121, 3) := by decide +kernel
theorem dX0_faultsAt_73 : decode cX0_faultsAt 73 = .ok (.aload_n 0, 1) := by decide +kernel
theorem dX0_faultsAt_74 : decode cX0_faultsAt 74 = .ok (.getfield 33, 3) := by decide +kernel
theorem dX0_faultsAt_77 : decode cX0_faultsAt 77 = .ok (.getfield 124, 3) := by decide +kernel
theorem dX0_faultsAt_80 : decode cX0_faultsAt 80 = .ok (.iand, 1) := by decide +kernel
theorem dX0_faultsAt_81 : decode cX0_faultsAt 81 = .ok (.ifCond .eq 6, 3) := by decide +kernel
theorem dX0_faultsAt_84 : decode cX0_faultsAt 84 = .ok (.iinc 4 8, 3) := by decide +kernel
theorem dX0_faultsAt_87 : decode cX0_faultsAt 87 = .ok (.aload_n 0, 1) := by decide +kernel
theorem dX0_faultsAt_88 : decode cX0_faultsAt 88 = .ok (.aload_n 3, 1) := by decide +kernel
theorem dX0_faultsAt_89 : decode cX0_faultsAt 89 = .ok (.aload_n 1, 1) := by decide +kernel
theorem dX0_faultsAt_90 : decode cX0_faultsAt 90 = .ok (.getfield 78, 3) := by decide +kernel
theorem dX0_faultsAt_93 : decode cX0_faultsAt 93 = .ok (.iload_n 2, 1) := by decide +kernel
theorem dX0_faultsAt_94 : decode cX0_faultsAt 94 = .ok (.invokevirtual 127, 3) := by decide +kernel
theorem dX0_faultsAt_97 : decode cX0_faultsAt 97 = .ok (.ifCond .eq 6, 3) := by decide +kernel
theorem dX0_faultsAt_100 : decode cX0_faultsAt 100 = .ok (.iinc 4 16, 3) := by decide +kernel
theorem dX0_faultsAt_103 : decode cX0_faultsAt 103 = .ok (.aload_n 0, 1) := by decide +kernel
theorem dX0_faultsAt_104 : decode cX0_faultsAt 104 = .ok (.getfield 33, 3) := by decide +kernel
theorem dX0_faultsAt_107 : decode cX0_faultsAt 107 = .ok (.getfield 131, 3) := by decide +kernel
theorem dX0_faultsAt_110 : decode cX0_faultsAt 110 = .ok (.ifCond .eq 6, 3) := by decide +kernel
theorem dX0_faultsAt_113 : decode cX0_faultsAt 113 = .ok (.iinc 4 32, 3) := by decide +kernel
theorem dX0_faultsAt_116 : decode cX0_faultsAt 116 = .ok (.iload 4, 2) := by decide +kernel
theorem dX0_faultsAt_118 : decode cX0_faultsAt 118 = .ok (.ireturn, 1) := by decide +kernel
theorem dX0_isDark_0 : decode cX0_isDark 0 = .ok (.aload_n 0, 1) := by decide +kernel
theorem dX0_isDark_1 : decode cX0_isDark 1 = .ok (.getfield 33, 3) := by decide +kernel
theorem dX0_isDark_4 : decode cX0_isDark 4 = .ok (.getfield 103, 3) := by decide +kernel
theorem dX0_isDark_7 : decode cX0_isDark 7 = .ok (.iload_n 2, 1) := by decide +kernel
theorem dX0_isDark_8 : decode cX0_isDark 8 = .ok (.iaload, 1) := by decide +kernel
theorem dX0_isDark_9 : decode cX0_isDark 9 = .ok (.aload_n 1, 1) := by decide +kernel
theorem dX0_isDark_10 : decode cX0_isDark 10 = .ok (.getfield 134, 3) := by decide +kernel
theorem dX0_isDark_13 : decode cX0_isDark 13 = .ok (.if_icmp .lt 19, 3) := by decide +kernel
theorem dX0_isDark_16 : decode cX0_isDark 16 = .ok (.aload_n 0, 1) := by decide +kernel
theorem dX0_isDark_17 : decode cX0_isDark 17 = .ok (.getfield 33, 3) := by decide +kernel
theorem dX0_isDark_20 : decode cX0_isDark 20 = .ok (.getfield 100, 3) := by decide +kernel
theorem dX0_isDark_23 : decode cX0_isDark 23 = .ok (.iload_n 2, 1) := by decide +kernel
theorem dX0_isDark_24 : decode cX0_isDark 24 = .ok (.iaload, 1) := by decide +kernel
theorem dX0_isDark_25 : decode cX0_isDark 25 = .ok (.aload_n 1, 1) := by decide +kernel
theorem dX0_isDark_26 : decode cX0_isDark 26 = .ok (.getfield 137, 3) := by decide +kernel
theorem dX0_isDark_29 : decode cX0_isDark 29 = .ok (.if_icmp .le 7, 3) := by decide +kernel
theorem dX0_isDark_32 : decode cX0_isDark 32 = .ok (.iconst 1, 1) := by decide +kernel
theorem dX0_isDark_33 : decode cX0_isDark 33 = .ok (.goto 4, 3) := by decide +kernel
theorem dX0_isDark_36 : decode cX0_isDark 36 = .ok (.iconst 0, 1) := by decide +kernel
theorem dX0_isDark_37 : decode cX0_isDark 37 = .ok (.ireturn, 1) := by decide +kernel
theorem dX0_isTooEarly_0 : decode cX0_isTooEarly 0 = .ok (.iconst 0, 1) := by decide +kernel
theorem dX0_isTooEarly_1 : decode cX0_isTooEarly 1 = .ok (.istore 4, 2) := by decide +kernel
theorem dX0_isTooEarly_3 : decode cX0_isTooEarly 3 = .ok (.iconst 0, 1) := by decide +kernel
theorem dX0_isTooEarly_4 : decode cX0_isTooEarly 4 = .ok (.istore 5, 2) := by decide +kernel
theorem dX0_isTooEarly_6 : decode cX0_isTooEarly 6 = .ok (.iload 5, 2) := by decide +kernel
theorem dX0_isTooEarly_8 : decode cX0_isTooEarly 8 = .ok (.iload_n 3, 1) := by decide +kernel
theorem dX0_isTooEarly_9 : decode cX0_isTooEarly 9 = .ok (.if_icmp .ge 20, 3) := by decide +kernel
theorem dX0_isTooEarly_12 : decode cX0_isTooEarly 12 = .ok (.iload 4, 2) := by decide +kernel
theorem dX0_isTooEarly_14 : decode cX0_isTooEarly 14 = .ok (.iconst 1, 1) := by decide +kernel
theorem dX0_isTooEarly_15 : decode cX0_isTooEarly 15 = .ok (.aload_n 2, 1) := by decide +kernel
theorem dX0_isTooEarly_16 : decode cX0_isTooEarly 16 = .ok (.iload 5, 2) := by decide +kernel
theorem dX0_isTooEarly_18 : decode cX0_isTooEarly 18 = .ok (.iaload, 1) := by decide +kernel
theorem dX0_isTooEarly_19 : decode cX0_isTooEarly 19 = .ok (.ishl, 1) := by decide +kernel
theorem dX0_isTooEarly_20 : decode cX0_isTooEarly 20 = .ok (.ior, 1) := by decide +kernel
theorem dX0_isTooEarly_21 : decode cX0_isTooEarly 21 = .ok (.istore 4, 2) := by decide +kernel
theorem dX0_isTooEarly_23 : decode cX0_isTooEarly 23 = .ok (.iinc 5 1, 3) := by decide +kernel
theorem dX0_isTooEarly_26 : decode cX0_isTooEarly 26 = .ok (.goto (-20), 3) := by decide +kernel
theorem dX0_isTooEarly_29 : decode cX0_isTooEarly 29 = .ok (.iconst 0, 1) := by decide +kernel
theorem dX0_isTooEarly_30 : decode cX0_isTooEarly 30 = .ok (.istore 5, 2) := by decide +kernel
theorem dX0_isTooEarly_32 : decode cX0_isTooEarly 32 = .ok (.iload 5, 2) := by decide +kernel
theorem dX0_isTooEarly_34 : decode cX0_isTooEarly 34 = .ok (.aload_n 0, 1) := by decide +kernel
theorem dX0_isTooEarly_35 : decode cX0_isTooEarly 35 = .ok (.getfield 24, 3) := by decide +kernel
theorem dX0_isTooEarly_38 : decode cX0_isTooEarly 38 = .ok (.getfield 140, 3) := by decide +kernel
theorem dX0_isTooEarly_41 : decode cX0_isTooEarly 41 = .ok (.if_icmp .ge 48, 3) := by decide +kernel
theorem dX0_isTooEarly_44 : decode cX0_isTooEarly 44 = .ok (.aload_n 1, 1) := by decide +kernel
theorem dX0_isTooEarly_45 : decode cX0_isTooEarly 45 = .ok (.getfield 143, 3) := by decide +kernel
theorem dX0_isTooEarly_48 : decode cX0_isTooEarly 48 = .ok (.iload 4, 2) := by decide +kernel
theorem dX0_isTooEarly_50 : decode cX0_isTooEarly 50 = .ok (.iconst (-1), 1) := by decide +kernel
theorem dX0_isTooEarly_51 : decode cX0_isTooEarly 51 = .ok (.ixor, 1) := by decide +kernel
theorem dX0_isTooEarly_52 : decode cX0_isTooEarly 52 = .ok (.iand, 1) := by decide +kernel
theorem dX0_isTooEarly_53 : decode cX0_isTooEarly 53 = .ok (.iload 5, 2) := by decide +kernel
theorem dX0_isTooEarly_55 : decode cX0_isTooEarly 55 = .ok (.invokestatic 46, 3) := by decide +kernel
theorem dX0_isTooEarly_58 : decode cX0_isTooEarly 58 = .ok (.ifCond .eq 25, 3) := by decide +kernel
theorem dX0_isTooEarly_61 : decode cX0_isTooEarly 61 = .ok (.aload_n 0, 1) := by decide +kernel
theorem dX0_isTooEarly_62 : decode cX0_isTooEarly 62 = .ok (.getfield 24, 3) := by decide +kernel
theorem dX0_isTooEarly_65 : decode cX0_isTooEarly 65 = .ok (.getfield 57, 3) := by decide +kernel
theorem dX0_isTooEarly_68 : decode cX0_isTooEarly 68 = .ok (.iload 5, 2) := by decide +kernel
theorem dX0_isTooEarly_70 : decode cX0_isTooEarly 70 = .ok (.aaload, 1) := by decide +kernel
theorem dX0_isTooEarly_71 : decode cX0_isTooEarly 71 = .ok (.aload_n 1, 1) := by decide +kernel
theorem dX0_isTooEarly_72 : decode cX0_isTooEarly 72 = .ok (.getfield 63, 3) := by decide +kernel
theorem dX0_isTooEarly_75 : decode cX0_isTooEarly 75 = .ok (.invokestatic 146, 3) := by decide +kernel
theorem dX0_isTooEarly_78 : decode cX0_isTooEarly 78 = .ok (.ifCond .ne 5, 3) := by decide +kernel
theorem dX0_isTooEarly_81 : decode cX0_isTooEarly 81 = .ok (.iconst 1, 1) := by decide +kernel
theorem dX0_isTooEarly_82 : decode cX0_isTooEarly 82 = .ok (.ireturn, 1) := by decide +kernel
theorem dX0_isTooEarly_83 : decode cX0_isTooEarly 83 = .ok (.iinc 5 1, 3) := by decide +kernel
theorem dX0_isTooEarly_86 : decode cX0_isTooEarly 86 = .ok (.goto (-54), 3) := by decide +kernel
theorem dX0_isTooEarly_89 : decode cX0_isTooEarly 89 = .ok (.iconst 0, 1) := by decide +kernel
theorem dX0_isTooEarly_90 : decode cX0_isTooEarly 90 = .ok (.ireturn, 1) := by decide +kernel
theorem dX0_isDoneBefore_0 : decode cX0_isDoneBefore 0 = .ok (.aload_n 0, 1) := by decide +kernel
theorem dX0_isDoneBefore_1 : decode cX0_isDoneBefore 1 = .ok (.getfield 150, 3) := by decide +kernel
theorem dX0_isDoneBefore_4 : decode cX0_isDoneBefore 4 = .ok (.ifCond .ne 26, 3) := by decide +kernel
theorem dX0_isDoneBefore_7 : decode cX0_isDoneBefore 7 = .ok (.aload_n 0, 1) := by decide +kernel
theorem dX0_isDoneBefore_8 : decode cX0_isDoneBefore 8 = .ok (.getfield 82, 3) := by decide +kernel
theorem dX0_isDoneBefore_11 : decode cX0_isDoneBefore 11 = .ok (.ifCond .ne 19, 3) := by decide +kernel
theorem dX0_isDoneBefore_14 : decode cX0_isDoneBefore 14 = .ok (.aload_n 0, 1) := by decide +kernel
theorem dX0_isDoneBefore_15 : decode cX0_isDoneBefore 15 = .ok (.getfield 63, 3) := by decide +kernel
theorem dX0_isDoneBefore_18 : decode cX0_isDoneBefore 18 = .ok (.iconst (-1), 1) := by decide +kernel
theorem dX0_isDoneBefore_19 : decode cX0_isDoneBefore 19 = .ok (.if_icmp .eq 15, 3) := by decide +kernel
theorem dX0_isDoneBefore_22 : decode cX0_isDoneBefore 22 = .ok (.aload_n 0, 1) := by decide +kernel
theorem dX0_isDoneBefore_23 : decode cX0_isDoneBefore 23 = .ok (.getfield 63, 3) := by decide +kernel
theorem dX0_isDoneBefore_26 : decode cX0_isDoneBefore 26 = .ok (.iload_n 1, 1) := by decide +kernel
theorem dX0_isDoneBefore_27 : decode cX0_isDoneBefore 27 = .ok (.if_icmp .ge 7, 3) := by decide +kernel
theorem dX0_isDoneBefore_30 : decode cX0_isDoneBefore 30 = .ok (.iconst 1, 1) := by decide +kernel
theorem dX0_isDoneBefore_31 : decode cX0_isDoneBefore 31 = .ok (.goto 4, 3) := by decide +kernel
theorem dX0_isDoneBefore_34 : decode cX0_isDoneBefore 34 = .ok (.iconst 0, 1) := by decide +kernel
theorem dX0_isDoneBefore_35 : decode cX0_isDoneBefore 35 = .ok (.ireturn, 1) := by decide +kernel
theorem dX1_init_0 : decode cX1_init 0 = .ok (.aload_n 0, 1) := by decide +kernel
theorem dX1_init_1 : decode cX1_init 1 = .ok (.invokespecial 3, 3) := by decide +kernel
theorem dX1_init_4 : decode cX1_init 4 = .ok (.aload_n 0, 1) := by decide +kernel
theorem dX1_init_5 : decode cX1_init 5 = .ok (.bipush 8, 2) := by decide +kernel
theorem dX1_init_7 : decode cX1_init 7 = .ok (.newarray .int, 2) := by decide +kernel
theorem dX1_init_9 : decode cX1_init 9 = .ok (.putfield 9, 3) := by decide +kernel
theorem dX1_init_12 : decode cX1_init 12 = .ok (.aload_n 0, 1) := by decide +kernel
theorem dX1_init_13 : decode cX1_init 13 = .ok (.bipush 8, 2) := by decide +kernel
theorem dX1_init_15 : decode cX1_init 15 = .ok (.newarray .int, 2) := by decide +kernel
theorem dX1_init_17 : decode cX1_init 17 = .ok (.putfield 15, 3) := by decide +kernel
theorem dX1_init_20 : decode cX1_init 20 = .ok (.aload_n 0, 1) := by decide +kernel
theorem dX1_init_21 : decode cX1_init 21 = .ok (.bipush 8, 2) := by decide +kernel
theorem dX1_init_23 : decode cX1_init 23 = .ok (.newarray .int, 2) := by decide +kernel
theorem dX1_init_25 : decode cX1_init 25 = .ok (.putfield 18, 3) := by decide +kernel
theorem dX1_init_28 : decode cX1_init 28 = .ok (.aload_n 0, 1) := by decide +kernel
theorem dX1_init_29 : decode cX1_init 29 = .ok (.bipush 8, 2) := by decide +kernel
theorem dX1_init_31 : decode cX1_init 31 = .ok (.newarray .int, 2) := by decide +kernel
theorem dX1_init_33 : decode cX1_init 33 = .ok (.putfield 21, 3) := by decide +kernel
theorem dX1_init_36 : decode cX1_init 36 = .ok (.aload_n 0, 1) := by decide +kernel
theorem dX1_init_37 : decode cX1_init 37 = .ok (.aload_n 1, 1) := by decide +kernel
theorem dX1_init_38 : decode cX1_init 38 = .ok (.putfield 24, 3) := by decide +kernel
theorem dX1_init_41 : decode cX1_init 41 = .ok (.aload_n 0, 1) := by decide +kernel
theorem dX1_init_42 : decode cX1_init 42 = .ok (.aload_n 2, 1) := by decide +kernel
theorem dX1_init_43 : decode cX1_init 43 = .ok (.putfield 28, 3) := by decide +kernel
theorem dX1_init_46 : decode cX1_init 46 = .ok (.aload_n 0, 1) := by decide +kernel
theorem dX1_init_47 : decode cX1_init 47 = .ok (.aload_n 3, 1) := by decide +kernel
theorem dX1_init_48 : decode cX1_init 48 = .ok (.putfield 32, 3) := by decide +kernel
theorem dX1_init_51 : decode cX1_init 51 = .ok (.aload_n 0, 1) := by decide +kernel
theorem dX1_init_52 : decode cX1_init 52 = .ok (.aload 4, 2) := by decide +kernel
theorem dX1_init_54 : decode cX1_init 54 = .ok (.putfield 36, 3) := by decide +kernel
theorem dX1_init_57 : decode cX1_init 57 = .ok (.return_, 1) := by decide +kernel
theorem dX1_read_0 : decode cX1_read 0 = .ok (.aload_n 0, 1) := by decide +kernel
theorem dX1_read_1 : decode cX1_read 1 = .ok (.aload_n 1, 1) := by decide +kernel
theorem dX1_read_2 : decode cX1_read 2 = .ok (.invokevirtual 40, 3) := by decide +kernel
theorem dX1_read_5 : decode cX1_read 5 = .ok (.aload_n 0, 1) := by decide +kernel
theorem dX1_read_6 : decode cX1_read 6 = .ok (.aload_n 1, 1) := by decide +kernel
theorem dX1_read_7 : decode cX1_read 7 = .ok (.invokevirtual 44, 3) := by decide +kernel
theorem dX1_read_10 : decode cX1_read 10 = .ok (.aload_n 0, 1) := by decide +kernel
theorem dX1_read_11 : decode cX1_read 11 = .ok (.invokevirtual 47, 3) := by decide +kernel
theorem dX1_read_14 : decode cX1_read 14 = .ok (.return_, 1) := by decide +kernel
theorem dX1_hasWorkFor_0 : decode cX1_hasWorkFor 0 = .ok (.aload_n 0, 1) := by decide +kernel
theorem dX1_hasWorkFor_1 : decode cX1_hasWorkFor 1 = .ok (.getfield 50, 3) := by decide +kernel
theorem dX1_hasWorkFor_4 : decode cX1_hasWorkFor 4 = .ok (.iload_n 1, 1) := by decide +kernel
theorem dX1_hasWorkFor_5 : decode cX1_hasWorkFor 5 = .ok (.invokestatic 54, 3) := by decide +kernel
theorem dX1_hasWorkFor_8 : decode cX1_hasWorkFor 8 = .ok (.ireturn, 1) := by decide +kernel
theorem dX1_readRow_0 : decode cX1_readRow 0 = .ok (.aload_n 0, 1) := by decide +kernel
theorem dX1_readRow_1 : decode cX1_readRow 1 = .ok (.getfield 36, 3) := by decide +kernel
theorem dX1_readRow_4 : decode cX1_readRow 4 = .ok (.invokevirtual 58, 3) := by decide +kernel
theorem dX1_readRow_7 : decode cX1_readRow 7 = .ok (.istore_n 2, 1) := by decide +kernel
theorem dX1_readRow_8 : decode cX1_readRow 8 = .ok (.aload_n 1, 1) := by decide +kernel
theorem dX1_readRow_9 : decode cX1_readRow 9 = .ok (.getfield 64, 3) := by decide +kernel
theorem dX1_readRow_12 : decode cX1_readRow 12 = .ok (.istore_n 3, 1) := by decide +kernel
theorem dX1_readRow_13 : decode cX1_readRow 13 = .ok (.aload_n 1, 1) := by decide +kernel
theorem dX1_readRow_14 : decode cX1_readRow 14 = .ok (.getfield 64, 3) := by decide +kernel
theorem dX1_readRow_17 : decode cX1_readRow 17 = .ok (.sipush 360, 3) := by decide +kernel
theorem dX1_readRow_20 : decode cX1_readRow 20 = .ok (.iadd, 1) := by decide +kernel
theorem dX1_readRow_21 : decode cX1_readRow 21 = .ok (.istore 4, 2) := by decide +kernel
theorem dX1_readRow_23 : decode cX1_readRow 23 = .ok (.iconst 0, 1) := by decide +kernel
theorem dX1_readRow_24 : decode cX1_readRow 24 = .ok (.istore 5, 2) := by decide +kernel
theorem dX1_readRow_26 : decode cX1_readRow 26 = .ok (.iconst 0, 1) := by decide +kernel
theorem dX1_readRow_27 : decode cX1_readRow 27 = .ok (.istore 6, 2) := by decide +kernel
theorem dX1_readRow_29 : decode cX1_readRow 29 = .ok (.iload 6, 2) := by decide +kernel
theorem dX1_readRow_31 : decode cX1_readRow 31 = .ok (.aload_n 1, 1) := by decide +kernel
theorem dX1_readRow_32 : decode cX1_readRow 32 = .ok (.getfield 69, 3) := by decide +kernel
theorem dX1_readRow_35 : decode cX1_readRow 35 = .ok (.if_icmp .ge 115, 3) := by decide +kernel
theorem dX1_readRow_38 : decode cX1_readRow 38 = .ok (.aload_n 0, 1) := by decide +kernel
theorem dX1_readRow_39 : decode cX1_readRow 39 = .ok (.getfield 24, 3) := by decide +kernel
theorem dX1_readRow_42 : decode cX1_readRow 42 = .ok (.getfield 72, 3) := by decide +kernel
theorem dX1_readRow_45 : decode cX1_readRow 45 = .ok (.aload_n 1, 1) := by decide +kernel
theorem dX1_readRow_46 : decode cX1_readRow 46 = .ok (.getfield 78, 3) := by decide +kernel
theorem dX1_readRow_49 : decode cX1_readRow 49 = .ok (.iload 6, 2) := by decide +kernel
theorem dX1_readRow_51 : decode cX1_readRow 51 = .ok (.iaload, 1) := by decide +kernel
theorem dX1_readRow_52 : decode cX1_readRow 52 = .ok (.aaload, 1) := by decide +kernel
theorem dX1_readRow_53 : decode cX1_readRow 53 = .ok (.astore 7, 2) := by decide +kernel
theorem dX1_readRow_55 : decode cX1_readRow 55 = .ok (.aload 7, 2) := by decide +kernel
theorem dX1_readRow_57 : decode cX1_readRow 57 = .ok (.iload_n 2, 1) := by decide +kernel
theorem dX1_readRow_58 : decode cX1_readRow 58 = .ok (.invokevirtual 81, 3) := by decide +kernel
theorem dX1_readRow_61 : decode cX1_readRow 61 = .ok (.istore 8, 2) := by decide +kernel
theorem dX1_readRow_63 : decode cX1_readRow 63 = .ok (.iload 6, 2) := by decide +kernel
theorem dX1_readRow_65 : decode cX1_readRow 65 = .ok (.ifCond .le 38, 3) := by decide +kernel
theorem dX1_readRow_68 : decode cX1_readRow 68 = .ok (.iload_n 3, 1) := by decide +kernel
theorem dX1_readRow_69 : decode cX1_readRow 69 = .ok (.aload_n 0, 1) := by decide +kernel
theorem dX1_readRow_70 : decode cX1_readRow 70 = .ok (.getfield 32, 3) := by decide +kernel
theorem dX1_readRow_73 : decode cX1_readRow 73 = .ok (.aload_n 0, 1) := by decide +kernel
theorem dX1_readRow_74 : decode cX1_readRow 74 = .ok (.getfield 24, 3) := by decide +kernel
theorem dX1_readRow_77 : decode cX1_readRow 77 = .ok (.getfield 72, 3) := by decide +kernel
theorem dX1_readRow_80 : decode cX1_readRow 80 = .ok (.aload_n 1, 1) := by decide +kernel
theorem dX1_readRow_81 : decode cX1_readRow 81 = .ok (.getfield 78, 3) := by decide +kernel
theorem dX1_readRow_84 : decode cX1_readRow 84 = .ok (.iload 6, 2) := by decide +kernel
theorem dX1_readRow_86 : decode cX1_readRow 86 = .ok (.iconst 1, 1) := by decide +kernel
theorem dX1_readRow_87 : decode cX1_readRow 87 = .ok (.isub, 1) := by decide +kernel
theorem dX1_readRow_88 : decode cX1_readRow 88 = .ok (.iaload, 1) := by decide +kernel
theorem dX1_readRow_89 : decode cX1_readRow 89 = .ok (.aaload, 1) := by decide +kernel
theorem dX1_readRow_90 : decode cX1_readRow 90 = .ok (.getfield 87, 3) := by decide +kernel
theorem dX1_readRow_93 : decode cX1_readRow 93 = .ok (.aload 7, 2) := by decide +kernel
theorem dX1_readRow_95 : decode cX1_readRow 95 = .ok (.getfield 87, 3) := by decide +kernel
theorem dX1_readRow_98 : decode cX1_readRow 98 = .ok (.invokevirtual 90, 3) := by decide +kernel
theorem dX1_readRow_101 : decode cX1_readRow 101 = .ok (.iadd, 1) := by decide +kernel
theorem dX1_readRow_102 : decode cX1_readRow 102 = .ok (.istore_n 3, 1) := by decide +kernel
theorem dX1_readRow_103 : decode cX1_readRow 103 = .ok (.iload 5, 2) := by decide +kernel
theorem dX1_readRow_105 : decode cX1_readRow 105 = .ok (.ifCond .ne 18, 3) := by decide +kernel
theorem dX1_readRow_108 : decode cX1_readRow 108 = .ok (.iload_n 3, 1) := by decide +kernel
theorem dX1_readRow_109 : decode cX1_readRow 109 = .ok (.iload 8, 2) := by decide +kernel
theorem dX1_readRow_111 : decode cX1_readRow 111 = .ok (.iadd, 1) := by decide +kernel
theorem dX1_readRow_112 : decode cX1_readRow 112 = .ok (.iload 4, 2) := by decide +kernel
theorem dX1_readRow_114 : decode cX1_readRow 114 = .ok (.if_icmp .le 9, 3) := by decide +kernel
theorem dX1_readRow_117 : decode cX1_readRow 117 = .ok (.iinc 3 30, 3) := by decide +kernel
theorem dX1_readRow_120 : decode cX1_readRow 120 = .ok (.iconst 1, 1) := by decide +kernel
theorem dX1_readRow_121 : decode cX1_readRow 121 = .ok (.istore 5, 2) := by decide +kernel
theorem dX1_readRow_123 : decode cX1_readRow 123 = .ok (.aload_n 0, 1) := by decide +kernel
theorem dX1_readRow_124 : decode cX1_readRow 124 = .ok (.getfield 9, 3) := by decide +kernel
theorem dX1_readRow_127 : decode cX1_readRow 127 = .ok (.iload 6, 2) := by decide +kernel
theorem dX1_readRow_129 : decode cX1_readRow 129 = .ok (.iload_n 3, 1) := by decide +kernel
theorem dX1_readRow_130 : decode cX1_readRow 130 = .ok (.iastore, 1) := by decide +kernel
theorem dX1_readRow_131 : decode cX1_readRow 131 = .ok (.iload_n 3, 1) := by decide +kernel
theorem dX1_readRow_132 : decode cX1_readRow 132 = .ok (.iload 8, 2) := by decide +kernel
theorem dX1_readRow_134 : decode cX1_readRow 134 = .ok (.iadd, 1) := by decide +kernel
theorem dX1_readRow_135 : decode cX1_readRow 135 = .ok (.istore_n 3, 1) := by decide +kernel
theorem dX1_readRow_136 : decode cX1_readRow 136 = .ok (.aload_n 0, 1) := by decide +kernel
theorem dX1_readRow_137 : decode cX1_readRow 137 = .ok (.getfield 15, 3) := by decide +kernel
theorem dX1_readRow_140 : decode cX1_readRow 140 = .ok (.iload 6, 2) := by decide +kernel
theorem dX1_readRow_142 : decode cX1_readRow 142 = .ok (.iload_n 3, 1) := by decide +kernel
theorem dX1_readRow_143 : decode cX1_readRow 143 = .ok (.iastore, 1) := by decide +kernel
theorem dX1_readRow_144 : decode cX1_readRow 144 = .ok (.iinc 6 1, 3) := by decide +kernel
theorem dX1_readRow_147 : decode cX1_readRow 147 = .ok (.goto (-118), 3) := by decide +kernel
theorem dX1_readRow_150 : decode cX1_readRow 150 = .ok (.aload_n 0, 1) := by decide +kernel
theorem dX1_readRow_151 : decode cX1_readRow 151 = .ok (.iload_n 3, 1) := by decide +kernel
theorem dX1_readRow_152 : decode cX1_readRow 152 = .ok (.aload_n 1, 1) := by decide +kernel
theorem dX1_readRow_153 : decode cX1_readRow 153 = .ok (.getfield 64, 3) := by decide +kernel
theorem dX1_readRow_156 : decode cX1_readRow 156 = .ok (.sipush 720, 3) := by decide +kernel
theorem dX1_readRow_159 : decode cX1_readRow 159 = .ok (.iadd, 1) := by decide +kernel
theorem dX1_readRow_160 : decode cX1_readRow 160 = .ok (.if_icmp .le 7, 3) := by decide +kernel
theorem dX1_readRow_163 : decode cX1_readRow 163 = .ok (.iconst 1, 1) := by decide +kernel
theorem dX1_readRow_164 : decode cX1_readRow 164 = .ok (.goto 4, 3) := by decide +kernel
theorem dX1_readRow_167 : decode cX1_readRow 167 = .ok (.iconst 0, 1) := by decide +kernel
theorem dX1_readRow_168 : decode cX1_readRow 168 = .ok (.putfield 96, 3) := by decide +kernel
theorem dX1_readRow_171 : decode cX1_readRow 171 = .ok (.return_, 1) := by decide +kernel
theorem dX1_readPeople_0 : decode cX1_readPeople 0 = .ok (.aload_n 0, 1) := by decide +kernel
theorem dX1_readPeople_1 : decode cX1_readPeople 1 = .ok (.iconst 0, 1) := by decide +kernel
theorem dX1_readPeople_2 : decode cX1_readPeople 2 = .ok (.putfield 50, 3) := by decide +kernel
theorem dX1_readPeople_5 : decode cX1_readPeople 5 = .ok (.iconst 0, 1) := by decide +kernel
theorem dX1_readPeople_6 : decode cX1_readPeople 6 = .ok (.istore_n 2, 1) := by decide +kernel
theorem dX1_readPeople_7 : decode cX1_readPeople 7 = .ok (.iload_n 2, 1) := by decide +kernel
theorem dX1_readPeople_8 : decode cX1_readPeople 8 = .ok (.aload_n 1, 1) := by decide +kernel
theorem dX1_readPeople_9 : decode cX1_readPeople 9 = .ok (.getfield 69, 3) := by decide +kernel
theorem dX1_readPeople_12 : decode cX1_readPeople 12 = .ok (.if_icmp .ge 119, 3) := by decide +kernel
theorem dX1_readPeople_15 : decode cX1_readPeople 15 = .ok (.aload_n 0, 1) := by decide +kernel
theorem dX1_readPeople_16 : decode cX1_readPeople 16 = .ok (.getfield 24, 3) := by decide +kernel
theorem dX1_readPeople_19 : decode cX1_readPeople 19 = .ok (.getfield 72, 3) := by decide +kernel
theorem dX1_readPeople_22 : decode cX1_readPeople 22 = .ok (.aload_n 1, 1) := by decide +kernel
theorem dX1_readPeople_23 : decode cX1_readPeople 23 = .ok (.getfield 78, 3) := by decide +kernel
theorem dX1_readPeople_26 : decode cX1_readPeople 26 = .ok (.iload_n 2, 1) := by decide +kernel
theorem dX1_readPeople_27 : decode cX1_readPeople 27 = .ok (.iaload, 1) := by decide +kernel
theorem dX1_readPeople_28 : decode cX1_readPeople 28 = .ok (.aaload, 1) := by decide +kernel
theorem dX1_readPeople_29 : decode cX1_readPeople 29 = .ok (.getfield 100, 3) := by decide +kernel
theorem dX1_readPeople_32 : decode cX1_readPeople 32 = .ok (.istore_n 3, 1) := by decide +kernel
theorem dX1_readPeople_33 : decode cX1_readPeople 33 = .ok (.iconst 0, 1) := by decide +kernel
theorem dX1_readPeople_34 : decode cX1_readPeople 34 = .ok (.istore 4, 2) := by decide +kernel
theorem dX1_readPeople_36 : decode cX1_readPeople 36 = .ok (.iload 4, 2) := by decide +kernel
theorem dX1_readPeople_38 : decode cX1_readPeople 38 = .ok (.aload_n 0, 1) := by decide +kernel
theorem dX1_readPeople_39 : decode cX1_readPeople 39 = .ok (.getfield 28, 3) := by decide +kernel
theorem dX1_readPeople_42 : decode cX1_readPeople 42 = .ok (.getfield 103, 3) := by decide +kernel
theorem dX1_readPeople_45 : decode cX1_readPeople 45 = .ok (.if_icmp .ge 70, 3) := by decide +kernel
theorem dX1_readPeople_48 : decode cX1_readPeople 48 = .ok (.iload_n 3, 1) := by decide +kernel
theorem dX1_readPeople_49 : decode cX1_readPeople 49 = .ok (.iload 4, 2) := by decide +kernel
theorem dX1_readPeople_51 : decode cX1_readPeople 51 = .ok (.invokestatic 54, 3) := by decide +kernel
theorem dX1_readPeople_54 : decode cX1_readPeople 54 = .ok (.ifCond .ne 6, 3) := by decide +kernel
theorem dX1_readPeople_57 : decode cX1_readPeople 57 = .ok (.goto 52, 3) := by decide +kernel
theorem dX1_readPeople_60 : decode cX1_readPeople 60 = .ok (.aload_n 0, 1) := by decide +kernel
theorem dX1_readPeople_61 : decode cX1_readPeople 61 = .ok (.getfield 50, 3) := by decide +kernel
theorem dX1_readPeople_64 : decode cX1_readPeople 64 = .ok (.iload 4, 2) := by decide +kernel
theorem dX1_readPeople_66 : decode cX1_readPeople 66 = .ok (.invokestatic 54, 3) := by decide +kernel
theorem dX1_readPeople_69 : decode cX1_readPeople 69 = .ok (.ifCond .ne 27, 3) := by decide +kernel
theorem dX1_readPeople_72 : decode cX1_readPeople 72 = .ok (.aload_n 0, 1) := by decide +kernel
theorem dX1_readPeople_73 : decode cX1_readPeople 73 = .ok (.getfield 18, 3) := by decide +kernel
theorem dX1_readPeople_76 : decode cX1_readPeople 76 = .ok (.iload 4, 2) := by decide +kernel
theorem dX1_readPeople_78 : decode cX1_readPeople 78 = .ok (.aload_n 0, 1) := by decide +kernel
theorem dX1_readPeople_79 : decode cX1_readPeople 79 = .ok (.getfield 9, 3) := by decide +kernel
theorem dX1_readPeople_82 : decode cX1_readPeople 82 = .ok (.iload_n 2, 1) := by decide +kernel
theorem dX1_readPeople_83 : decode cX1_readPeople 83 = .ok (.iaload, 1) := by decide +kernel
theorem dX1_readPeople_84 : decode cX1_readPeople 84 = .ok (.aload_n 0, 1) := by decide +kernel
theorem dX1_readPeople_85 : decode cX1_readPeople 85 = .ok (.getfield 28, 3) := by decide +kernel
theorem dX1_readPeople_88 : decode cX1_readPeople 88 = .ok (.getfield 106, 3) := by decide +kernel
theorem dX1_readPeople_91 : decode cX1_readPeople 91 = .ok (.iload 4, 2) := by decide +kernel
theorem dX1_readPeople_93 : decode cX1_readPeople 93 = .ok (.iaload, 1) := by decide +kernel
theorem dX1_readPeople_94 : decode cX1_readPeople 94 = .ok (.isub, 1) := by decide +kernel
theorem dX1_readPeople_95 : decode cX1_readPeople 95 = .ok (.iastore, 1) := by decide +kernel
theorem dX1_readPeople_96 : decode cX1_readPeople 96 = .ok (.aload_n 0, 1) := by decide +kernel
theorem dX1_readPeople_97 : decode cX1_readPeople 97 = .ok (.getfield 21, 3) := by decide +kernel
theorem dX1_readPeople_100 : decode cX1_readPeople 100 = .ok (.iload 4, 2) := by decide +kernel
theorem dX1_readPeople_102 : decode cX1_readPeople 102 = .ok (.aload_n 0, 1) := by decide +kernel
theorem dX1_readPeople_103 : decode cX1_readPeople 103 = .ok (.getfield 15, 3) := by decide +kernel
theorem dX1_readPeople_106 : decode cX1_readPeople 106 = .ok (.iload_n 2, 1) := by decide +kernel
theorem dX1_readPeople_107 : decode cX1_readPeople 107 = .ok (.iaload, 1) := by decide +kernel
theorem dX1_readPeople_108 : decode cX1_readPeople 108 = .ok (.iastore, 1) := by decide +kernel
theorem dX1_readPeople_109 : decode cX1_readPeople 109 = .ok (.iinc 4 1, 3) := by decide +kernel
theorem dX1_readPeople_112 : decode cX1_readPeople 112 = .ok (.goto (-76), 3) := by decide +kernel
theorem dX1_readPeople_115 : decode cX1_readPeople 115 = .ok (.aload_n 0, 1) := by decide +kernel
theorem dX1_readPeople_116 : decode cX1_readPeople 116 = .ok (.dup, 1) := by decide +kernel
theorem dX1_readPeople_117 : decode cX1_readPeople 117 = .ok (.getfield 50, 3) := by decide +kernel
theorem dX1_readPeople_120 : decode cX1_readPeople 120 = .ok (.iload_n 3, 1) := by decide +kernel
theorem dX1_readPeople_121 : decode cX1_readPeople 121 = .ok (.ior, 1) := by decide +kernel
theorem dX1_readPeople_122 : decode cX1_readPeople 122 = .ok (.putfield 50, 3) := by decide +kernel
theorem dX1_readPeople_125 : decode cX1_readPeople 125 = .ok (.iinc 2 1, 3) := by decide +kernel
theorem dX1_readPeople_128 : decode cX1_readPeople 128 = .ok (.goto (-121), 3) := by decide +kernel
theorem dX1_readPeople_131 : decode cX1_readPeople 131 = .ok (.return_, 1) := by decide +kernel
theorem dX1_readChildren_0 : decode cX1_readChildren 0 = .ok (.aload_n 0, 1) := by decide +kernel
theorem dX1_readChildren_1 : decode cX1_readChildren 1 = .ok (.iconst 0, 1) := by decide +kernel
theorem dX1_readChildren_2 : decode cX1_readChildren 2 = .ok (.putfield 109, 3) := by decide +kernel
theorem dX1_readChildren_5 : decode cX1_readChildren 5 = .ok (.aload_n 0, 1) := by decide +kernel
theorem dX1_readChildren_6 : decode cX1_readChildren 6 = .ok (.getfield 50, 3) := by decide +kernel
theorem dX1_readChildren_9 : decode cX1_readChildren 9 = .ok (.aload_n 0, 1) := by decide +kernel
theorem dX1_readChildren_10 : decode cX1_readChildren 10 = .ok (.getfield 28, 3) := by decide +kernel
theorem dX1_readChildren_13 : decode cX1_readChildren 13 = .ok (.getfield 112, 3) := by decide +kernel
theorem dX1_readChildren_16 : decode cX1_readChildren 16 = .ok (.iand, 1) := by decide +kernel
theorem dX1_readChildren_17 : decode cX1_readChildren 17 = .ok (.istore_n 1, 1) := by decide +kernel
theorem dX1_readChildren_18 : decode cX1_readChildren 18 = .ok (.iconst 0, 1) := by decide +kernel
theorem dX1_readChildren_19 : decode cX1_readChildren 19 = .ok (.istore_n 2, 1) := by decide +kernel
theorem dX1_readChildren_20 : decode cX1_readChildren 20 = .ok (.iload_n 2, 1) := by decide +kernel
theorem dX1_readChildren_21 : decode cX1_readChildren 21 = .ok (.aload_n 0, 1) := by decide +kernel
theorem dX1_readChildren_22 : decode cX1_readChildren 22 = .ok (.getfield 28, 3) := by decide +kernel
theorem dX1_readChildren_25 : decode cX1_readChildren 25 = .ok (.getfield 103, 3) := by decide +kernel
theorem dX1_readChildren_28 : decode cX1_readChildren 28 = .ok (.if_icmp .ge 48, 3) := by decide +kernel
theorem dX1_readChildren_31 : decode cX1_readChildren 31 = .ok (.iload_n 1, 1) := by decide +kernel
theorem dX1_readChildren_32 : decode cX1_readChildren 32 = .ok (.iload_n 2, 1) := by decide +kernel
theorem dX1_readChildren_33 : decode cX1_readChildren 33 = .ok (.invokestatic 54, 3) := by decide +kernel
theorem dX1_readChildren_36 : decode cX1_readChildren 36 = .ok (.ifCond .eq 34, 3) := by decide +kernel
theorem dX1_readChildren_39 : decode cX1_readChildren 39 = .ok (.aload_n 0, 1) := by decide +kernel
theorem dX1_readChildren_40 : decode cX1_readChildren 40 = .ok (.getfield 21, 3) := by decide +kernel
theorem dX1_readChildren_43 : decode cX1_readChildren 43 = .ok (.iload_n 2, 1) := by decide +kernel
theorem dX1_readChildren_44 : decode cX1_readChildren 44 = .ok (.iaload, 1) := by decide +kernel
theorem dX1_readChildren_45 : decode cX1_readChildren 45 = .ok (.aload_n 0, 1) := by decide +kernel
theorem dX1_readChildren_46 : decode cX1_readChildren 46 = .ok (.getfield 18, 3) := by decide +kernel
theorem dX1_readChildren_49 : decode cX1_readChildren 49 = .ok (.iload_n 2, 1) := by decide +kernel
theorem dX1_readChildren_50 : decode cX1_readChildren 50 = .ok (.iaload, 1) := by decide +kernel
theorem dX1_readChildren_51 : decode cX1_readChildren 51 = .ok (.isub, 1) := by decide +kernel
theorem dX1_readChildren_52 : decode cX1_readChildren 52 = .ok (.sipush 480, 3) := by decide +kernel
theorem dX1_readChildren_55 : decode cX1_readChildren 55 = .ok (.if_icmp .le 15, 3) := by decide +kernel
theorem dX1_readChildren_58 : decode cX1_readChildren 58 = .ok (.aload_n 0, 1) := by decide +kernel
theorem dX1_readChildren_59 : decode cX1_readChildren 59 = .ok (.dup, 1) := by decide +kernel
theorem dX1_readChildren_60 : decode cX1_readChildren 60 = .ok (.getfield 109, 3) := by decide +kernel
theorem dX1_readChildren_63 : decode cX1_readChildren 63 = .ok (.iconst 1, 1) := by decide +kernel
theorem dX1_readChildren_64 : decode cX1_readChildren 64 = .ok (.iload_n 2, 1) := by decide +kernel
theorem dX1_readChildren_65 : decode cX1_readChildren 65 = .ok (.ishl, 1) := by decide +kernel
theorem dX1_readChildren_66 : decode cX1_readChildren 66 = .ok (.ior, 1) := by decide +kernel
theorem dX1_readChildren_67 : decode cX1_readChildren 67 = .ok (.putfield 109, 3) := by decide +kernel
theorem dX1_readChildren_70 : decode cX1_readChildren 70 = .ok (.iinc 2 1, 3) := by decide +kernel
theorem dX1_readChildren_73 : decode cX1_readChildren 73 = .ok (.goto (-53), 3) := by decide +kernel
theorem dX1_readChildren_76 : decode cX1_readChildren 76 = .ok (.return_, 1) := by decide +kernel
theorem dX2_init_0 : decode cX2_init 0 = .ok (.aload_n 0, 1) := by decide +kernel
theorem dX2_init_1 : decode cX2_init 1 = .ok (.invokespecial 3, 3) := by decide +kernel
theorem dX2_init_4 : decode cX2_init 4 = .ok (.aload_n 0, 1) := by decide +kernel
theorem dX2_init_5 : decode cX2_init 5 = .ok (.bipush 8, 2) := by decide +kernel
theorem dX2_init_7 : decode cX2_init 7 = .ok (.newarray .int, 2) := by decide +kernel
theorem dX2_init_9 : decode cX2_init 9 = .ok (.putfield 9, 3) := by decide +kernel
theorem dX2_init_12 : decode cX2_init 12 = .ok (.aload_n 0, 1) := by decide +kernel
theorem dX2_init_13 : decode cX2_init 13 = .ok (.bipush 8, 2) := by decide +kernel
theorem dX2_init_15 : decode cX2_init 15 = .ok (.newarray .int, 2) := by decide +kernel
theorem dX2_init_17 : decode cX2_init 17 = .ok (.putfield 15, 3) := by decide +kernel
theorem dX2_init_20 : decode cX2_init 20 = .ok (.aload_n 0, 1) := by decide +kernel
theorem dX2_init_21 : decode cX2_init 21 = .ok (.bipush 8, 2) := by decide +kernel
theorem dX2_init_23 : decode cX2_init 23 = .ok (.newarray .int, 2) := by decide +kernel
theorem dX2_init_25 : decode cX2_init 25 = .ok (.putfield 18, 3) := by decide +kernel
theorem dX2_init_28 : decode cX2_init 28 = .ok (.return_, 1) := by decide +kernel
theorem dX2_add_0 : decode cX2_add 0 = .ok (.aload_n 0, 1) := by decide +kernel
theorem dX2_add_1 : decode cX2_add 1 = .ok (.getfield 9, 3) := by decide +kernel
theorem dX2_add_4 : decode cX2_add 4 = .ok (.aload_n 0, 1) := by decide +kernel
theorem dX2_add_5 : decode cX2_add 5 = .ok (.getfield 21, 3) := by decide +kernel
theorem dX2_add_8 : decode cX2_add 8 = .ok (.iload_n 1, 1) := by decide +kernel
theorem dX2_add_9 : decode cX2_add 9 = .ok (.iastore, 1) := by decide +kernel
theorem dX2_add_10 : decode cX2_add 10 = .ok (.aload_n 0, 1) := by decide +kernel
theorem dX2_add_11 : decode cX2_add 11 = .ok (.getfield 15, 3) := by decide +kernel
theorem dX2_add_14 : decode cX2_add 14 = .ok (.aload_n 0, 1) := by decide +kernel
theorem dX2_add_15 : decode cX2_add 15 = .ok (.getfield 21, 3) := by decide +kernel
theorem dX2_add_18 : decode cX2_add 18 = .ok (.iload_n 2, 1) := by decide +kernel
theorem dX2_add_19 : decode cX2_add 19 = .ok (.iastore, 1) := by decide +kernel
theorem dX2_add_20 : decode cX2_add 20 = .ok (.aload_n 0, 1) := by decide +kernel
theorem dX2_add_21 : decode cX2_add 21 = .ok (.getfield 18, 3) := by decide +kernel
theorem dX2_add_24 : decode cX2_add 24 = .ok (.aload_n 0, 1) := by decide +kernel
theorem dX2_add_25 : decode cX2_add 25 = .ok (.getfield 21, 3) := by decide +kernel
theorem dX2_add_28 : decode cX2_add 28 = .ok (.iload_n 3, 1) := by decide +kernel
theorem dX2_add_29 : decode cX2_add 29 = .ok (.iastore, 1) := by decide +kernel
theorem dX2_add_30 : decode cX2_add 30 = .ok (.aload_n 0, 1) := by decide +kernel
theorem dX2_add_31 : decode cX2_add 31 = .ok (.aload_n 0, 1) := by decide +kernel
theorem dX2_add_32 : decode cX2_add 32 = .ok (.getfield 25, 3) := by decide +kernel
theorem dX2_add_35 : decode cX2_add 35 = .ok (.aload_n 0, 1) := by decide +kernel
theorem dX2_add_36 : decode cX2_add 36 = .ok (.getfield 21, 3) := by decide +kernel
theorem dX2_add_39 : decode cX2_add 39 = .ok (.iload 4, 2) := by decide +kernel
theorem dX2_add_41 : decode cX2_add 41 = .ok (.invokestatic 28, 3) := by decide +kernel
theorem dX2_add_44 : decode cX2_add 44 = .ok (.putfield 25, 3) := by decide +kernel
theorem dX2_add_47 : decode cX2_add 47 = .ok (.aload_n 0, 1) := by decide +kernel
theorem dX2_add_48 : decode cX2_add 48 = .ok (.dup, 1) := by decide +kernel
theorem dX2_add_49 : decode cX2_add 49 = .ok (.getfield 21, 3) := by decide +kernel
theorem dX2_add_52 : decode cX2_add 52 = .ok (.iconst 1, 1) := by decide +kernel
theorem dX2_add_53 : decode cX2_add 53 = .ok (.iadd, 1) := by decide +kernel
theorem dX2_add_54 : decode cX2_add 54 = .ok (.putfield 21, 3) := by decide +kernel
theorem dX2_add_57 : decode cX2_add 57 = .ok (.aload_n 0, 1) := by decide +kernel
theorem dX2_add_58 : decode cX2_add 58 = .ok (.getfield 21, 3) := by decide +kernel
theorem dX2_add_61 : decode cX2_add 61 = .ok (.iconst 1, 1) := by decide +kernel
theorem dX2_add_62 : decode cX2_add 62 = .ok (.isub, 1) := by decide +kernel
theorem dX2_add_63 : decode cX2_add 63 = .ok (.ireturn, 1) := by decide +kernel
theorem dX3_init_0 : decode cX3_init 0 = .ok (.aload_n 0, 1) := by decide +kernel
theorem dX3_init_1 : decode cX3_init 1 = .ok (.invokespecial 3, 3) := by decide +kernel
theorem dX3_init_4 : decode cX3_init 4 = .ok (.aload_n 0, 1) := by decide +kernel
theorem dX3_init_5 : decode cX3_init 5 = .ok (.sipush 480, 3) := by decide +kernel
theorem dX3_init_8 : decode cX3_init 8 = .ok (.putfield 9, 3) := by decide +kernel
theorem dX3_init_11 : decode cX3_init 11 = .ok (.aload_n 0, 1) := by decide +kernel
theorem dX3_init_12 : decode cX3_init 12 = .ok (.sipush 360, 3) := by decide +kernel
theorem dX3_init_15 : decode cX3_init 15 = .ok (.putfield 15, 3) := by decide +kernel
theorem dX3_init_18 : decode cX3_init 18 = .ok (.aload_n 0, 1) := by decide +kernel
theorem dX3_init_19 : decode cX3_init 19 = .ok (.sipush 1080, 3) := by decide +kernel
theorem dX3_init_22 : decode cX3_init 22 = .ok (.putfield 18, 3) := by decide +kernel
theorem dX3_init_25 : decode cX3_init 25 = .ok (.aload_n 0, 1) := by decide +kernel
theorem dX3_init_26 : decode cX3_init 26 = .ok (.bipush 8, 2) := by decide +kernel
theorem dX3_init_28 : decode cX3_init 28 = .ok (.newarray .int, 2) := by decide +kernel
theorem dX3_init_30 : decode cX3_init 30 = .ok (.putfield 21, 3) := by decide +kernel
theorem dX3_init_33 : decode cX3_init 33 = .ok (.return_, 1) := by decide +kernel
theorem dX3_isFull_0 : decode cX3_isFull 0 = .ok (.aload_n 0, 1) := by decide +kernel
theorem dX3_isFull_1 : decode cX3_isFull 1 = .ok (.getfield 25, 3) := by decide +kernel
theorem dX3_isFull_4 : decode cX3_isFull 4 = .ok (.bipush 8, 2) := by decide +kernel
theorem dX3_isFull_6 : decode cX3_isFull 6 = .ok (.if_icmp .lt 7, 3) := by decide +kernel
theorem dX3_isFull_9 : decode cX3_isFull 9 = .ok (.iconst 1, 1) := by decide +kernel
theorem dX3_isFull_10 : decode cX3_isFull 10 = .ok (.goto 4, 3) := by decide +kernel
theorem dX3_isFull_13 : decode cX3_isFull 13 = .ok (.iconst 0, 1) := by decide +kernel
theorem dX3_isFull_14 : decode cX3_isFull 14 = .ok (.ireturn, 1) := by decide +kernel
theorem dX3_insert_0 : decode cX3_insert 0 = .ok (.aload_n 0, 1) := by decide +kernel
theorem dX3_insert_1 : decode cX3_insert 1 = .ok (.getfield 25, 3) := by decide +kernel
theorem dX3_insert_4 : decode cX3_insert 4 = .ok (.istore_n 3, 1) := by decide +kernel
theorem dX3_insert_5 : decode cX3_insert 5 = .ok (.iload_n 3, 1) := by decide +kernel
theorem dX3_insert_6 : decode cX3_insert 6 = .ok (.iload_n 2, 1) := by decide +kernel
theorem dX3_insert_7 : decode cX3_insert 7 = .ok (.if_icmp .le 23, 3) := by decide +kernel
theorem dX3_insert_10 : decode cX3_insert 10 = .ok (.aload_n 0, 1) := by decide +kernel
theorem dX3_insert_11 : decode cX3_insert 11 = .ok (.getfield 21, 3) := by decide +kernel
theorem dX3_insert_14 : decode cX3_insert 14 = .ok (.iload_n 3, 1) := by decide +kernel
theorem dX3_insert_15 : decode cX3_insert 15 = .ok (.aload_n 0, 1) := by decide +kernel
theorem dX3_insert_16 : decode cX3_insert 16 = .ok (.getfield 21, 3) := by decide +kernel
theorem dX3_insert_19 : decode cX3_insert 19 = .ok (.iload_n 3, 1) := by decide +kernel
theorem dX3_insert_20 : decode cX3_insert 20 = .ok (.iconst 1, 1) := by decide +kernel
theorem dX3_insert_21 : decode cX3_insert 21 = .ok (.isub, 1) := by decide +kernel
theorem dX3_insert_22 : decode cX3_insert 22 = .ok (.iaload, 1) := by decide +kernel
theorem dX3_insert_23 : decode cX3_insert 23 = .ok (.iastore, 1) := by decide +kernel
theorem dX3_insert_24 : decode cX3_insert 24 = .ok (.iinc 3 (-1), 3) := by decide +kernel
theorem dX3_insert_27 : decode cX3_insert 27 = .ok (.goto (-22), 3) := by decide +kernel
theorem dX3_insert_30 : decode cX3_insert 30 = .ok (.aload_n 0, 1) := by decide +kernel
theorem dX3_insert_31 : decode cX3_insert 31 = .ok (.getfield 21, 3) := by decide +kernel
theorem dX3_insert_34 : decode cX3_insert 34 = .ok (.iload_n 2, 1) := by decide +kernel
theorem dX3_insert_35 : decode cX3_insert 35 = .ok (.iload_n 1, 1) := by decide +kernel
theorem dX3_insert_36 : decode cX3_insert 36 = .ok (.iastore, 1) := by decide +kernel
theorem dX3_insert_37 : decode cX3_insert 37 = .ok (.aload_n 0, 1) := by decide +kernel
theorem dX3_insert_38 : decode cX3_insert 38 = .ok (.dup, 1) := by decide +kernel
theorem dX3_insert_39 : decode cX3_insert 39 = .ok (.getfield 25, 3) := by decide +kernel
theorem dX3_insert_42 : decode cX3_insert 42 = .ok (.iconst 1, 1) := by decide +kernel
theorem dX3_insert_43 : decode cX3_insert 43 = .ok (.iadd, 1) := by decide +kernel
theorem dX3_insert_44 : decode cX3_insert 44 = .ok (.putfield 25, 3) := by decide +kernel
theorem dX3_insert_47 : decode cX3_insert 47 = .ok (.return_, 1) := by decide +kernel
theorem dX3_remove_0 : decode cX3_remove 0 = .ok (.iconst 0, 1) := by decide +kernel
theorem dX3_remove_1 : decode cX3_remove 1 = .ok (.istore_n 2, 1) := by decide +kernel
theorem dX3_remove_2 : decode cX3_remove 2 = .ok (.iconst 0, 1) := by decide +kernel
theorem dX3_remove_3 : decode cX3_remove 3 = .ok (.istore_n 3, 1) := by decide +kernel
theorem dX3_remove_4 : decode cX3_remove 4 = .ok (.iload_n 3, 1) := by decide +kernel
theorem dX3_remove_5 : decode cX3_remove 5 = .ok (.aload_n 0, 1) := by decide +kernel
theorem dX3_remove_6 : decode cX3_remove 6 = .ok (.getfield 25, 3) := by decide +kernel
theorem dX3_remove_9 : decode cX3_remove 9 = .ok (.if_icmp .ge 34, 3) := by decide +kernel
theorem dX3_remove_12 : decode cX3_remove 12 = .ok (.aload_n 0, 1) := by decide +kernel
theorem dX3_remove_13 : decode cX3_remove 13 = .ok (.getfield 21, 3) := by decide +kernel
theorem dX3_remove_16 : decode cX3_remove 16 = .ok (.iload_n 3, 1) := by decide +kernel
theorem dX3_remove_17 : decode cX3_remove 17 = .ok (.iaload, 1) := by decide +kernel
theorem dX3_remove_18 : decode cX3_remove 18 = .ok (.iload_n 1, 1) := by decide +kernel
theorem dX3_remove_19 : decode cX3_remove 19 = .ok (.if_icmp .eq 18, 3) := by decide +kernel
theorem dX3_remove_22 : decode cX3_remove 22 = .ok (.aload_n 0, 1) := by decide +kernel
theorem dX3_remove_23 : decode cX3_remove 23 = .ok (.getfield 21, 3) := by decide +kernel
theorem dX3_remove_26 : decode cX3_remove 26 = .ok (.iload_n 2, 1) := by decide +kernel
theorem dX3_remove_27 : decode cX3_remove 27 = .ok (.aload_n 0, 1) := by decide +kernel
theorem dX3_remove_28 : decode cX3_remove 28 = .ok (.getfield 21, 3) := by decide +kernel
theorem dX3_remove_31 : decode cX3_remove 31 = .ok (.iload_n 3, 1) := by decide +kernel
theorem dX3_remove_32 : decode cX3_remove 32 = .ok (.iaload, 1) := by decide +kernel
theorem dX3_remove_33 : decode cX3_remove 33 = .ok (.iastore, 1) := by decide +kernel
theorem dX3_remove_34 : decode cX3_remove 34 = .ok (.iinc 2 1, 3) := by decide +kernel
theorem dX3_remove_37 : decode cX3_remove 37 = .ok (.iinc 3 1, 3) := by decide +kernel
theorem dX3_remove_40 : decode cX3_remove 40 = .ok (.goto (-36), 3) := by decide +kernel
theorem dX3_remove_43 : decode cX3_remove 43 = .ok (.aload_n 0, 1) := by decide +kernel
theorem dX3_remove_44 : decode cX3_remove 44 = .ok (.iload_n 2, 1) := by decide +kernel
theorem dX3_remove_45 : decode cX3_remove 45 = .ok (.putfield 25, 3) := by decide +kernel
theorem dX3_remove_48 : decode cX3_remove 48 = .ok (.return_, 1) := by decide +kernel
theorem dX3_spotOf_0 : decode cX3_spotOf 0 = .ok (.iconst 0, 1) := by decide +kernel
theorem dX3_spotOf_1 : decode cX3_spotOf 1 = .ok (.istore_n 2, 1) := by decide +kernel
theorem dX3_spotOf_2 : decode cX3_spotOf 2 = .ok (.iload_n 2, 1) := by decide +kernel
theorem dX3_spotOf_3 : decode cX3_spotOf 3 = .ok (.aload_n 0, 1) := by decide +kernel
theorem dX3_spotOf_4 : decode cX3_spotOf 4 = .ok (.getfield 25, 3) := by decide +kernel
theorem dX3_spotOf_7 : decode cX3_spotOf 7 = .ok (.if_icmp .ge 21, 3) := by decide +kernel
theorem dX3_spotOf_10 : decode cX3_spotOf 10 = .ok (.aload_n 0, 1) := by decide +kernel
theorem dX3_spotOf_11 : decode cX3_spotOf 11 = .ok (.getfield 21, 3) := by decide +kernel
theorem dX3_spotOf_14 : decode cX3_spotOf 14 = .ok (.iload_n 2, 1) := by decide +kernel
theorem dX3_spotOf_15 : decode cX3_spotOf 15 = .ok (.iaload, 1) := by decide +kernel
theorem dX3_spotOf_16 : decode cX3_spotOf 16 = .ok (.iload_n 1, 1) := by decide +kernel
theorem dX3_spotOf_17 : decode cX3_spotOf 17 = .ok (.if_icmp .ne 5, 3) := by decide +kernel
theorem dX3_spotOf_20 : decode cX3_spotOf 20 = .ok (.iload_n 2, 1) := by decide +kernel
theorem dX3_spotOf_21 : decode cX3_spotOf 21 = .ok (.ireturn, 1) := by decide +kernel
theorem dX3_spotOf_22 : decode cX3_spotOf 22 = .ok (.iinc 2 1, 3) := by decide +kernel
theorem dX3_spotOf_25 : decode cX3_spotOf 25 = .ok (.goto (-23), 3) := by decide +kernel
theorem dX3_spotOf_28 : decode cX3_spotOf 28 = .ok (.iconst 0, 1) := by decide +kernel
theorem dX3_spotOf_29 : decode cX3_spotOf 29 = .ok (.ireturn, 1) := by decide +kernel
theorem dX4_init_0 : decode cX4_init 0 = .ok (.aload_n 0, 1) := by decide +kernel
theorem dX4_init_1 : decode cX4_init 1 = .ok (.invokespecial 3, 3) := by decide +kernel
theorem dX4_init_4 : decode cX4_init 4 = .ok (.aload_n 0, 1) := by decide +kernel
theorem dX4_init_5 : decode cX4_init 5 = .ok (.bipush 8, 2) := by decide +kernel
theorem dX4_init_7 : decode cX4_init 7 = .ok (.newarray .int, 2) := by decide +kernel
theorem dX4_init_9 : decode cX4_init 9 = .ok (.putfield 9, 3) := by decide +kernel
theorem dX4_init_12 : decode cX4_init 12 = .ok (.aload_n 0, 1) := by decide +kernel
theorem dX4_init_13 : decode cX4_init 13 = .ok (.aload_n 1, 1) := by decide +kernel
theorem dX4_init_14 : decode cX4_init 14 = .ok (.putfield 15, 3) := by decide +kernel
theorem dX4_init_17 : decode cX4_init 17 = .ok (.aload_n 0, 1) := by decide +kernel
theorem dX4_init_18 : decode cX4_init 18 = .ok (.aload_n 2, 1) := by decide +kernel
theorem dX4_init_19 : decode cX4_init 19 = .ok (.putfield 19, 3) := by decide +kernel
theorem dX4_init_22 : decode cX4_init 22 = .ok (.return_, 1) := by decide +kernel
theorem dX4_takeIllOnes_0 : decode cX4_takeIllOnes 0 = .ok (.aload_n 0, 1) := by decide +kernel
theorem dX4_takeIllOnes_1 : decode cX4_takeIllOnes 1 = .ok (.getfield 19, 3) := by decide +kernel
theorem dX4_takeIllOnes_4 : decode cX4_takeIllOnes 4 = .ok (.getfield 23, 3) := by decide +kernel
theorem dX4_takeIllOnes_7 : decode cX4_takeIllOnes 7 = .ok (.iload_n 1, 1) := by decide +kernel
theorem dX4_takeIllOnes_8 : decode cX4_takeIllOnes 8 = .ok (.aaload, 1) := by decide +kernel
theorem dX4_takeIllOnes_9 : decode cX4_takeIllOnes 9 = .ok (.astore_n 2, 1) := by decide +kernel
theorem dX4_takeIllOnes_10 : decode cX4_takeIllOnes 10 = .ok (.iconst 0, 1) := by decide +kernel
theorem dX4_takeIllOnes_11 : decode cX4_takeIllOnes 11 = .ok (.istore_n 3, 1) := by decide +kernel
theorem dX4_takeIllOnes_12 : decode cX4_takeIllOnes 12 = .ok (.iconst 0, 1) := by decide +kernel
theorem dX4_takeIllOnes_13 : decode cX4_takeIllOnes 13 = .ok (.istore 4, 2) := by decide +kernel
theorem dX4_takeIllOnes_15 : decode cX4_takeIllOnes 15 = .ok (.iload 4, 2) := by decide +kernel
theorem dX4_takeIllOnes_17 : decode cX4_takeIllOnes 17 = .ok (.aload_n 2, 1) := by decide +kernel
theorem dX4_takeIllOnes_18 : decode cX4_takeIllOnes 18 = .ok (.getfield 29, 3) := by decide +kernel
theorem dX4_takeIllOnes_21 : decode cX4_takeIllOnes 21 = .ok (.if_icmp .ge 63, 3) := by decide +kernel
theorem dX4_takeIllOnes_24 : decode cX4_takeIllOnes 24 = .ok (.aload_n 0, 1) := by decide +kernel
theorem dX4_takeIllOnes_25 : decode cX4_takeIllOnes 25 = .ok (.getfield 15, 3) := by decide +kernel
theorem dX4_takeIllOnes_28 : decode cX4_takeIllOnes 28 = .ok (.getfield 35, 3) := by decide +kernel
theorem dX4_takeIllOnes_31 : decode cX4_takeIllOnes 31 = .ok (.aload_n 2, 1) := by decide +kernel
theorem dX4_takeIllOnes_32 : decode cX4_takeIllOnes 32 = .ok (.getfield 41, 3) := by decide +kernel
theorem dX4_takeIllOnes_35 : decode cX4_takeIllOnes 35 = .ok (.iload 4, 2) := by decide +kernel
theorem dX4_takeIllOnes_37 : decode cX4_takeIllOnes 37 = .ok (.iaload, 1) := by decide +kernel
theorem dX4_takeIllOnes_38 : decode cX4_takeIllOnes 38 = .ok (.aaload, 1) := by decide +kernel
theorem dX4_takeIllOnes_39 : decode cX4_takeIllOnes 39 = .ok (.astore 5, 2) := by decide +kernel
theorem dX4_takeIllOnes_41 : decode cX4_takeIllOnes 41 = .ok (.aload 5, 2) := by decide +kernel
theorem dX4_takeIllOnes_43 : decode cX4_takeIllOnes 43 = .ok (.getfield 44, 3) := by decide +kernel
theorem dX4_takeIllOnes_46 : decode cX4_takeIllOnes 46 = .ok (.ifCond .ne 32, 3) := by decide +kernel
theorem dX4_takeIllOnes_49 : decode cX4_takeIllOnes 49 = .ok (.aload 5, 2) := by decide +kernel
theorem dX4_takeIllOnes_51 : decode cX4_takeIllOnes 51 = .ok (.getfield 50, 3) := by decide +kernel
theorem dX4_takeIllOnes_54 : decode cX4_takeIllOnes 54 = .ok (.aload_n 2, 1) := by decide +kernel
theorem dX4_takeIllOnes_55 : decode cX4_takeIllOnes 55 = .ok (.getfield 53, 3) := by decide +kernel
theorem dX4_takeIllOnes_58 : decode cX4_takeIllOnes 58 = .ok (.iand, 1) := by decide +kernel
theorem dX4_takeIllOnes_59 : decode cX4_takeIllOnes 59 = .ok (.ifCond .eq 19, 3) := by decide +kernel
theorem dX4_takeIllOnes_62 : decode cX4_takeIllOnes 62 = .ok (.aload_n 0, 1) := by decide +kernel
theorem dX4_takeIllOnes_63 : decode cX4_takeIllOnes 63 = .ok (.getfield 9, 3) := by decide +kernel
theorem dX4_takeIllOnes_66 : decode cX4_takeIllOnes 66 = .ok (.iload_n 3, 1) := by decide +kernel
theorem dX4_takeIllOnes_67 : decode cX4_takeIllOnes 67 = .ok (.aload_n 2, 1) := by decide +kernel
theorem dX4_takeIllOnes_68 : decode cX4_takeIllOnes 68 = .ok (.getfield 41, 3) := by decide +kernel
theorem dX4_takeIllOnes_71 : decode cX4_takeIllOnes 71 = .ok (.iload 4, 2) := by decide +kernel
theorem dX4_takeIllOnes_73 : decode cX4_takeIllOnes 73 = .ok (.iaload, 1) := by decide +kernel
theorem dX4_takeIllOnes_74 : decode cX4_takeIllOnes 74 = .ok (.iastore, 1) := by decide +kernel
theorem dX4_takeIllOnes_75 : decode cX4_takeIllOnes 75 = .ok (.iinc 3 1, 3) := by decide +kernel
theorem dX4_takeIllOnes_78 : decode cX4_takeIllOnes 78 = .ok (.iinc 4 1, 3) := by decide +kernel
theorem dX4_takeIllOnes_81 : decode cX4_takeIllOnes 81 = .ok (.goto (-66), 3) := by decide +kernel
theorem dX4_takeIllOnes_84 : decode cX4_takeIllOnes 84 = .ok (.iconst 0, 1) := by decide +kernel
theorem dX4_takeIllOnes_85 : decode cX4_takeIllOnes 85 = .ok (.istore 4, 2) := by decide +kernel
theorem dX4_takeIllOnes_87 : decode cX4_takeIllOnes 87 = .ok (.iload 4, 2) := by decide +kernel
theorem dX4_takeIllOnes_89 : decode cX4_takeIllOnes 89 = .ok (.iload_n 3, 1) := by decide +kernel
theorem dX4_takeIllOnes_90 : decode cX4_takeIllOnes 90 = .ok (.if_icmp .ge 23, 3) := by decide +kernel
theorem dX4_takeIllOnes_93 : decode cX4_takeIllOnes 93 = .ok (.aload_n 0, 1) := by decide +kernel
theorem dX4_takeIllOnes_94 : decode cX4_takeIllOnes 94 = .ok (.getfield 19, 3) := by decide +kernel
theorem dX4_takeIllOnes_97 : decode cX4_takeIllOnes 97 = .ok (.aload_n 0, 1) := by decide +kernel
theorem dX4_takeIllOnes_98 : decode cX4_takeIllOnes 98 = .ok (.getfield 9, 3) := by decide +kernel
theorem dX4_takeIllOnes_101 : decode cX4_takeIllOnes 101 = .ok (.iload 4, 2) := by decide +kernel
theorem dX4_takeIllOnes_103 : decode cX4_takeIllOnes 103 = .ok (.iaload, 1) := by decide +kernel
theorem dX4_takeIllOnes_104 : decode cX4_takeIllOnes 104 = .ok (.invokevirtual 56, 3) := by decide +kernel
theorem dX4_takeIllOnes_107 : decode cX4_takeIllOnes 107 = .ok (.iinc 4 1, 3) := by decide +kernel
theorem dX4_takeIllOnes_110 : decode cX4_takeIllOnes 110 = .ok (.goto (-23), 3) := by decide +kernel
theorem dX4_takeIllOnes_113 : decode cX4_takeIllOnes 113 = .ok (.iload_n 3, 1) := by decide +kernel
theorem dX4_takeIllOnes_114 : decode cX4_takeIllOnes 114 = .ok (.ireturn, 1) := by decide +kernel
theorem dX4_findDay_0 : decode cX4_findDay 0 = .ok (.aload_n 0, 1) := by decide +kernel
theorem dX4_findDay_1 : decode cX4_findDay 1 = .ok (.getfield 19, 3) := by decide +kernel
theorem dX4_findDay_4 : decode cX4_findDay 4 = .ok (.getfield 60, 3) := by decide +kernel
theorem dX4_findDay_7 : decode cX4_findDay 7 = .ok (.istore_n 3, 1) := by decide +kernel
theorem dX4_findDay_8 : decode cX4_findDay 8 = .ok (.iload_n 3, 1) := by decide +kernel
theorem dX4_findDay_9 : decode cX4_findDay 9 = .ok (.bipush 30, 2) := by decide +kernel
theorem dX4_findDay_11 : decode cX4_findDay 11 = .ok (.if_icmp .ge 25, 3) := by decide +kernel
theorem dX4_findDay_14 : decode cX4_findDay 14 = .ok (.iload_n 3, 1) := by decide +kernel
theorem dX4_findDay_15 : decode cX4_findDay 15 = .ok (.iload_n 2, 1) := by decide +kernel
theorem dX4_findDay_16 : decode cX4_findDay 16 = .ok (.if_icmp .eq 14, 3) := by decide +kernel
theorem dX4_findDay_19 : decode cX4_findDay 19 = .ok (.aload_n 0, 1) := by decide +kernel
theorem dX4_findDay_20 : decode cX4_findDay 20 = .ok (.iload_n 1, 1) := by decide +kernel
theorem dX4_findDay_21 : decode cX4_findDay 21 = .ok (.iload_n 3, 1) := by decide +kernel
theorem dX4_findDay_22 : decode cX4_findDay 22 = .ok (.invokevirtual 63, 3) := by decide +kernel
theorem dX4_findDay_25 : decode cX4_findDay 25 = .ok (.ifCond .eq 5, 3) := by decide +kernel
theorem dX4_findDay_28 : decode cX4_findDay 28 = .ok (.iconst 1, 1) := by decide +kernel
theorem dX4_findDay_29 : decode cX4_findDay 29 = .ok (.ireturn, 1) := by decide +kernel
theorem dX4_findDay_30 : decode cX4_findDay 30 = .ok (.iinc 3 1, 3) := by decide +kernel
theorem dX4_findDay_33 : decode cX4_findDay 33 = .ok (.goto (-25), 3) := by decide +kernel
theorem dX4_findDay_36 : decode cX4_findDay 36 = .ok (.iconst 0, 1) := by decide +kernel
theorem dX4_findDay_37 : decode cX4_findDay 37 = .ok (.ireturn, 1) := by decide +kernel
theorem dX4_fits_0 : decode cX4_fits 0 = .ok (.aload_n 0, 1) := by decide +kernel
theorem dX4_fits_1 : decode cX4_fits 1 = .ok (.getfield 19, 3) := by decide +kernel
theorem dX4_fits_4 : decode cX4_fits 4 = .ok (.getfield 23, 3) := by decide +kernel
theorem dX4_fits_7 : decode cX4_fits 7 = .ok (.iload_n 2, 1) := by decide +kernel
theorem dX4_fits_8 : decode cX4_fits 8 = .ok (.aaload, 1) := by decide +kernel
theorem dX4_fits_9 : decode cX4_fits 9 = .ok (.astore_n 3, 1) := by decide +kernel
theorem dX4_fits_10 : decode cX4_fits 10 = .ok (.aload_n 3, 1) := by decide +kernel
theorem dX4_fits_11 : decode cX4_fits 11 = .ok (.invokevirtual 67, 3) := by decide +kernel
theorem dX4_fits_14 : decode cX4_fits 14 = .ok (.ifCond .eq 5, 3) := by decide +kernel
theorem dX4_fits_17 : decode cX4_fits 17 = .ok (.iconst 0, 1) := by decide +kernel
theorem dX4_fits_18 : decode cX4_fits 18 = .ok (.ireturn, 1) := by decide +kernel
theorem dX4_fits_19 : decode cX4_fits 19 = .ok (.aload_n 3, 1) := by decide +kernel
theorem dX4_fits_20 : decode cX4_fits 20 = .ok (.getfield 29, 3) := by decide +kernel
theorem dX4_fits_23 : decode cX4_fits 23 = .ok (.istore 4, 2) := by decide +kernel
theorem dX4_fits_25 : decode cX4_fits 25 = .ok (.aload_n 0, 1) := by decide +kernel
theorem dX4_fits_26 : decode cX4_fits 26 = .ok (.getfield 19, 3) := by decide +kernel
theorem dX4_fits_29 : decode cX4_fits 29 = .ok (.iload_n 2, 1) := by decide +kernel
theorem dX4_fits_30 : decode cX4_fits 30 = .ok (.invokevirtual 71, 3) := by decide +kernel
theorem dX4_fits_33 : decode cX4_fits 33 = .ok (.iconst 1, 1) := by decide +kernel
theorem dX4_fits_34 : decode cX4_fits 34 = .ok (.iload 4, 2) := by decide +kernel
theorem dX4_fits_36 : decode cX4_fits 36 = .ok (.ishl, 1) := by decide +kernel
theorem dX4_fits_37 : decode cX4_fits 37 = .ok (.ior, 1) := by decide +kernel
theorem dX4_fits_38 : decode cX4_fits 38 = .ok (.istore 5, 2) := by decide +kernel
theorem dX4_fits_40 : decode cX4_fits 40 = .ok (.aload_n 0, 1) := by decide +kernel
theorem dX4_fits_41 : decode cX4_fits 41 = .ok (.getfield 19, 3) := by decide +kernel
theorem dX4_fits_44 : decode cX4_fits 44 = .ok (.iload_n 1, 1) := by decide +kernel
theorem dX4_fits_45 : decode cX4_fits 45 = .ok (.iload_n 2, 1) := by decide +kernel
theorem dX4_fits_46 : decode cX4_fits 46 = .ok (.iload 4, 2) := by decide +kernel
theorem dX4_fits_48 : decode cX4_fits 48 = .ok (.invokevirtual 75, 3) := by decide +kernel
theorem dX4_fits_51 : decode cX4_fits 51 = .ok (.iload 5, 2) := by decide +kernel
theorem dX4_fits_53 : decode cX4_fits 53 = .ok (.aload_n 0, 1) := by decide +kernel
theorem dX4_fits_54 : decode cX4_fits 54 = .ok (.getfield 19, 3) := by decide +kernel
theorem dX4_fits_57 : decode cX4_fits 57 = .ok (.iload_n 2, 1) := by decide +kernel
theorem dX4_fits_58 : decode cX4_fits 58 = .ok (.invokevirtual 71, 3) := by decide +kernel
theorem dX4_fits_61 : decode cX4_fits 61 = .ok (.iconst (-1), 1) := by decide +kernel
theorem dX4_fits_62 : decode cX4_fits 62 = .ok (.ixor, 1) := by decide +kernel
theorem dX4_fits_63 : decode cX4_fits 63 = .ok (.iand, 1) := by decide +kernel
theorem dX4_fits_64 : decode cX4_fits 64 = .ok (.ifCond .ne 5, 3) := by decide +kernel
theorem dX4_fits_67 : decode cX4_fits 67 = .ok (.iconst 1, 1) := by decide +kernel
theorem dX4_fits_68 : decode cX4_fits 68 = .ok (.ireturn, 1) := by decide +kernel
theorem dX4_fits_69 : decode cX4_fits 69 = .ok (.aload_n 0, 1) := by decide +kernel
theorem dX4_fits_70 : decode cX4_fits 70 = .ok (.getfield 19, 3) := by decide +kernel
theorem dX4_fits_73 : decode cX4_fits 73 = .ok (.iload_n 1, 1) := by decide +kernel
theorem dX4_fits_74 : decode cX4_fits 74 = .ok (.invokevirtual 56, 3) := by decide +kernel
theorem dX4_fits_77 : decode cX4_fits 77 = .ok (.iconst 0, 1) := by decide +kernel
theorem dX4_fits_78 : decode cX4_fits 78 = .ok (.ireturn, 1) := by decide +kernel
theorem dX5_init_0 : decode cX5_init 0 = .ok (.aload_n 0, 1) := by decide +kernel
theorem dX5_init_1 : decode cX5_init 1 = .ok (.invokespecial 1, 3) := by decide +kernel
theorem dX5_init_4 : decode cX5_init 4 = .ok (.return_, 1) := by decide +kernel
theorem dX5_learn_0 : decode cX5_learn 0 = .ok (.aload_n 0, 1) := by decide +kernel
theorem dX5_learn_1 : decode cX5_learn 1 = .ok (.dup, 1) := by decide +kernel
theorem dX5_learn_2 : decode cX5_learn 2 = .ok (.getfield 7, 3) := by decide +kernel
theorem dX5_learn_5 : decode cX5_learn 5 = .ok (.iload_n 1, 1) := by decide +kernel
theorem dX5_learn_6 : decode cX5_learn 6 = .ok (.iadd, 1) := by decide +kernel
theorem dX5_learn_7 : decode cX5_learn 7 = .ok (.putfield 7, 3) := by decide +kernel
theorem dX5_learn_10 : decode cX5_learn 10 = .ok (.aload_n 0, 1) := by decide +kernel
theorem dX5_learn_11 : decode cX5_learn 11 = .ok (.dup, 1) := by decide +kernel
theorem dX5_learn_12 : decode cX5_learn 12 = .ok (.getfield 13, 3) := by decide +kernel
theorem dX5_learn_15 : decode cX5_learn 15 = .ok (.iload_n 2, 1) := by decide +kernel
theorem dX5_learn_16 : decode cX5_learn 16 = .ok (.iadd, 1) := by decide +kernel
theorem dX5_learn_17 : decode cX5_learn 17 = .ok (.putfield 13, 3) := by decide +kernel
theorem dX5_learn_20 : decode cX5_learn 20 = .ok (.aload_n 0, 1) := by decide +kernel
theorem dX5_learn_21 : decode cX5_learn 21 = .ok (.invokevirtual 16, 3) := by decide +kernel
theorem dX5_learn_24 : decode cX5_learn 24 = .ok (.ireturn, 1) := by decide +kernel
theorem dX5_ofEighth_0 : decode cX5_ofEighth 0 = .ok (.aload_n 0, 1) := by decide +kernel
theorem dX5_ofEighth_1 : decode cX5_ofEighth 1 = .ok (.getfield 13, 3) := by decide +kernel
theorem dX5_ofEighth_4 : decode cX5_ofEighth 4 = .ok (.ifCond .ne 8, 3) := by decide +kernel
theorem dX5_ofEighth_7 : decode cX5_ofEighth 7 = .ok (.bipush 15, 2) := by decide +kernel
theorem dX5_ofEighth_9 : decode cX5_ofEighth 9 = .ok (.goto 19, 3) := by decide +kernel
theorem dX5_ofEighth_12 : decode cX5_ofEighth 12 = .ok (.aload_n 0, 1) := by decide +kernel
theorem dX5_ofEighth_13 : decode cX5_ofEighth 13 = .ok (.getfield 7, 3) := by decide +kernel
theorem dX5_ofEighth_16 : decode cX5_ofEighth 16 = .ok (.aload_n 0, 1) := by decide +kernel
theorem dX5_ofEighth_17 : decode cX5_ofEighth 17 = .ok (.getfield 13, 3) := by decide +kernel
theorem dX5_ofEighth_20 : decode cX5_ofEighth 20 = .ok (.iadd, 1) := by decide +kernel
theorem dX5_ofEighth_21 : decode cX5_ofEighth 21 = .ok (.iconst 1, 1) := by decide +kernel
theorem dX5_ofEighth_22 : decode cX5_ofEighth 22 = .ok (.isub, 1) := by decide +kernel
theorem dX5_ofEighth_23 : decode cX5_ofEighth 23 = .ok (.aload_n 0, 1) := by decide +kernel
theorem dX5_ofEighth_24 : decode cX5_ofEighth 24 = .ok (.getfield 13, 3) := by decide +kernel
theorem dX5_ofEighth_27 : decode cX5_ofEighth 27 = .ok (.idiv, 1) := by decide +kernel
theorem dX5_ofEighth_28 : decode cX5_ofEighth 28 = .ok (.ireturn, 1) := by decide +kernel
theorem dX6_init_0 : decode cX6_init 0 = .ok (.aload_n 0, 1) := by decide +kernel
theorem dX6_init_1 : decode cX6_init 1 = .ok (.invokespecial 3, 3) := by decide +kernel
theorem dX6_init_4 : decode cX6_init 4 = .ok (.aload_n 0, 1) := by decide +kernel
theorem dX6_init_5 : decode cX6_init 5 = .ok (.aload_n 1, 1) := by decide +kernel
theorem dX6_init_6 : decode cX6_init 6 = .ok (.putfield 9, 3) := by decide +kernel
theorem dX6_init_9 : decode cX6_init 9 = .ok (.aload_n 0, 1) := by decide +kernel
theorem dX6_init_10 : decode cX6_init 10 = .ok (.aload_n 2, 1) := by decide +kernel
theorem dX6_init_11 : decode cX6_init 11 = .ok (.putfield 15, 3) := by decide +kernel
theorem dX6_init_14 : decode cX6_init 14 = .ok (.aload_n 0, 1) := by decide +kernel
theorem dX6_init_15 : decode cX6_init 15 = .ok (.aload_n 3, 1) := by decide +kernel
theorem dX6_init_16 : decode cX6_init 16 = .ok (.putfield 19, 3) := by decide +kernel
theorem dX6_init_19 : decode cX6_init 19 = .ok (.aload_n 0, 1) := by decide +kernel
theorem dX6_init_20 : decode cX6_init 20 = .ok (.aload 4, 2) := by decide +kernel
theorem dX6_init_22 : decode cX6_init 22 = .ok (.putfield 23, 3) := by decide +kernel
theorem dX6_init_25 : decode cX6_init 25 = .ok (.return_, 1) := by decide +kernel
theorem dX6_payOf_0 : decode cX6_payOf 0 = .ok (.aload_n 0, 1) := by decide +kernel
theorem dX6_payOf_1 : decode cX6_payOf 1 = .ok (.getfield 15, 3) := by decide +kernel
theorem dX6_payOf_4 : decode cX6_payOf 4 = .ok (.getfield 27, 3) := by decide +kernel
theorem dX6_payOf_7 : decode cX6_payOf 7 = .ok (.iload_n 1, 1) := by decide +kernel
theorem dX6_payOf_8 : decode cX6_payOf 8 = .ok (.iaload, 1) := by decide +kernel
theorem dX6_payOf_9 : decode cX6_payOf 9 = .ok (.istore_n 3, 1) := by decide +kernel
theorem dX6_payOf_10 : decode cX6_payOf 10 = .ok (.iconst 0, 1) := by decide +kernel
theorem dX6_payOf_11 : decode cX6_payOf 11 = .ok (.istore 4, 2) := by decide +kernel
theorem dX6_payOf_13 : decode cX6_payOf 13 = .ok (.iconst (-1), 1) := by decide +kernel
theorem dX6_payOf_14 : decode cX6_payOf 14 = .ok (.istore 5, 2) := by decide +kernel
theorem dX6_payOf_16 : decode cX6_payOf 16 = .ok (.iconst 0, 1) := by decide +kernel
theorem dX6_payOf_17 : decode cX6_payOf 17 = .ok (.istore 6, 2) := by decide +kernel
theorem dX6_payOf_19 : decode cX6_payOf 19 = .ok (.iconst 0, 1) := by decide +kernel
theorem dX6_payOf_20 : decode cX6_payOf 20 = .ok (.istore 7, 2) := by decide +kernel
theorem dX6_payOf_22 : decode cX6_payOf 22 = .ok (.iconst 0, 1) := by decide +kernel
theorem dX6_payOf_23 : decode cX6_payOf 23 = .ok (.istore 8, 2) := by decide +kernel
theorem dX6_payOf_25 : decode cX6_payOf 25 = .ok (.iload 8, 2) := by decide +kernel
theorem dX6_payOf_27 : decode cX6_payOf 27 = .ok (.bipush 30, 2) := by decide +kernel
theorem dX6_payOf_29 : decode cX6_payOf 29 = .ok (.if_icmp .ge 165, 3) := by decide +kernel
theorem dX6_payOf_32 : decode cX6_payOf 32 = .ok (.aload_n 0, 1) := by decide +kernel
theorem dX6_payOf_33 : decode cX6_payOf 33 = .ok (.getfield 23, 3) := by decide +kernel
theorem dX6_payOf_36 : decode cX6_payOf 36 = .ok (.iload 8, 2) := by decide +kernel
theorem dX6_payOf_38 : decode cX6_payOf 38 = .ok (.invokevirtual 33, 3) := by decide +kernel
theorem dX6_payOf_41 : decode cX6_payOf 41 = .ok (.astore 9, 2) := by decide +kernel
theorem dX6_payOf_43 : decode cX6_payOf 43 = .ok (.aload 9, 2) := by decide +kernel
theorem dX6_payOf_45 : decode cX6_payOf 45 = .ok (.iload_n 1, 1) := by decide +kernel
theorem dX6_payOf_46 : decode cX6_payOf 46 = .ok (.invokevirtual 39, 3) := by decide +kernel
theorem dX6_payOf_49 : decode cX6_payOf 49 = .ok (.ifCond .ne 9, 3) := by decide +kernel
theorem dX6_payOf_52 : decode cX6_payOf 52 = .ok (.iconst 0, 1) := by decide +kernel
theorem dX6_payOf_53 : decode cX6_payOf 53 = .ok (.istore 7, 2) := by decide +kernel
theorem dX6_payOf_55 : decode cX6_payOf 55 = .ok (.goto 133, 3) := by decide +kernel
theorem dX6_payOf_58 : decode cX6_payOf 58 = .ok (.aload 9, 2) := by decide +kernel
theorem dX6_payOf_60 : decode cX6_payOf 60 = .ok (.getfield 45, 3) := by decide +kernel
theorem dX6_payOf_63 : decode cX6_payOf 63 = .ok (.iload_n 1, 1) := by decide +kernel
theorem dX6_payOf_64 : decode cX6_payOf 64 = .ok (.iaload, 1) := by decide +kernel
theorem dX6_payOf_65 : decode cX6_payOf 65 = .ok (.istore 10, 2) := by decide +kernel
theorem dX6_payOf_67 : decode cX6_payOf 67 = .ok (.aload 9, 2) := by decide +kernel
theorem dX6_payOf_69 : decode cX6_payOf 69 = .ok (.getfield 48, 3) := by decide +kernel
theorem dX6_payOf_72 : decode cX6_payOf 72 = .ok (.iload_n 1, 1) := by decide +kernel
theorem dX6_payOf_73 : decode cX6_payOf 73 = .ok (.iaload, 1) := by decide +kernel
theorem dX6_payOf_74 : decode cX6_payOf 74 = .ok (.istore 11, 2) := by decide +kernel
theorem dX6_payOf_76 : decode cX6_payOf 76 = .ok (.iload_n 2, 1) := by decide +kernel
theorem dX6_payOf_77 : decode cX6_payOf 77 = .ok (.ifCond .ne 26, 3) := by decide +kernel
theorem dX6_payOf_80 : decode cX6_payOf 80 = .ok (.iload 4, 2) := by decide +kernel
theorem dX6_payOf_82 : decode cX6_payOf 82 = .ok (.iload_n 3, 1) := by decide +kernel
theorem dX6_payOf_83 : decode cX6_payOf 83 = .ok (.aload_n 0, 1) := by decide +kernel
theorem dX6_payOf_84 : decode cX6_payOf 84 = .ok (.getfield 15, 3) := by decide +kernel
theorem dX6_payOf_87 : decode cX6_payOf 87 = .ok (.getfield 51, 3) := by decide +kernel
theorem dX6_payOf_90 : decode cX6_payOf 90 = .ok (.iload_n 1, 1) := by decide +kernel
theorem dX6_payOf_91 : decode cX6_payOf 91 = .ok (.iaload, 1) := by decide +kernel
theorem dX6_payOf_92 : decode cX6_payOf 92 = .ok (.iload 8, 2) := by decide +kernel
theorem dX6_payOf_94 : decode cX6_payOf 94 = .ok (.iload 5, 2) := by decide +kernel
theorem dX6_payOf_96 : decode cX6_payOf 96 = .ok (.invokestatic 54, 3) := by decide +kernel
theorem dX6_payOf_99 : decode cX6_payOf 99 = .ok (.imul, 1) := by decide +kernel
theorem dX6_payOf_100 : decode cX6_payOf 100 = .ok (.iadd, 1) := by decide +kernel
theorem dX6_payOf_101 : decode cX6_payOf 101 = .ok (.istore 4, 2) := by decide +kernel
theorem dX6_payOf_103 : decode cX6_payOf 103 = .ok (.iload 4, 2) := by decide +kernel
theorem dX6_payOf_105 : decode cX6_payOf 105 = .ok (.iload 11, 2) := by decide +kernel
theorem dX6_payOf_107 : decode cX6_payOf 107 = .ok (.iload 10, 2) := by decide +kernel
theorem dX6_payOf_109 : decode cX6_payOf 109 = .ok (.isub, 1) := by decide +kernel
theorem dX6_payOf_110 : decode cX6_payOf 110 = .ok (.sipush 600, 3) := by decide +kernel
theorem dX6_payOf_113 : decode cX6_payOf 113 = .ok (.isub, 1) := by decide +kernel
theorem dX6_payOf_114 : decode cX6_payOf 114 = .ok (.invokestatic 58, 3) := by decide +kernel
theorem dX6_payOf_117 : decode cX6_payOf 117 = .ok (.iload 11, 2) := by decide +kernel
theorem dX6_payOf_119 : decode cX6_payOf 119 = .ok (.sipush 1320, 3) := by decide +kernel
theorem dX6_payOf_122 : decode cX6_payOf 122 = .ok (.isub, 1) := by decide +kernel
theorem dX6_payOf_123 : decode cX6_payOf 123 = .ok (.invokestatic 58, 3) := by decide +kernel
theorem dX6_payOf_126 : decode cX6_payOf 126 = .ok (.iadd, 1) := by decide +kernel
theorem dX6_payOf_127 : decode cX6_payOf 127 = .ok (.iload_n 3, 1) := by decide +kernel
theorem dX6_payOf_128 : decode cX6_payOf 128 = .ok (.bipush 10, 2) := by decide +kernel
theorem dX6_payOf_130 : decode cX6_payOf 130 = .ok (.idiv, 1) := by decide +kernel
theorem dX6_payOf_131 : decode cX6_payOf 131 = .ok (.imul, 1) := by decide +kernel
theorem dX6_payOf_132 : decode cX6_payOf 132 = .ok (.iadd, 1) := by decide +kernel
theorem dX6_payOf_133 : decode cX6_payOf 133 = .ok (.istore 4, 2) := by decide +kernel
theorem dX6_payOf_135 : decode cX6_payOf 135 = .ok (.iload 7, 2) := by decide +kernel
theorem dX6_payOf_137 : decode cX6_payOf 137 = .ok (.ifCond .le 26, 3) := by decide +kernel
theorem dX6_payOf_140 : decode cX6_payOf 140 = .ok (.iload 10, 2) := by decide +kernel
theorem dX6_payOf_142 : decode cX6_payOf 142 = .ok (.sipush 1440, 3) := by decide +kernel
theorem dX6_payOf_145 : decode cX6_payOf 145 = .ok (.iadd, 1) := by decide +kernel
theorem dX6_payOf_146 : decode cX6_payOf 146 = .ok (.iload 6, 2) := by decide +kernel
theorem dX6_payOf_148 : decode cX6_payOf 148 = .ok (.isub, 1) := by decide +kernel
theorem dX6_payOf_149 : decode cX6_payOf 149 = .ok (.sipush 660, 3) := by decide +kernel
theorem dX6_payOf_152 : decode cX6_payOf 152 = .ok (.if_icmp .ge 11, 3) := by decide +kernel
theorem dX6_payOf_155 : decode cX6_payOf 155 = .ok (.iload 4, 2) := by decide +kernel
theorem dX6_payOf_157 : decode cX6_payOf 157 = .ok (.iload_n 3, 1) := by decide +kernel
theorem dX6_payOf_158 : decode cX6_payOf 158 = .ok (.iconst 4, 1) := by decide +kernel
theorem dX6_payOf_159 : decode cX6_payOf 159 = .ok (.idiv, 1) := by decide +kernel
theorem dX6_payOf_160 : decode cX6_payOf 160 = .ok (.iadd, 1) := by decide +kernel
theorem dX6_payOf_161 : decode cX6_payOf 161 = .ok (.istore 4, 2) := by decide +kernel
theorem dX6_payOf_163 : decode cX6_payOf 163 = .ok (.iload 7, 2) := by decide +kernel
theorem dX6_payOf_165 : decode cX6_payOf 165 = .ok (.iconst 5, 1) := by decide +kernel
theorem dX6_payOf_166 : decode cX6_payOf 166 = .ok (.if_icmp .lt 11, 3) := by decide +kernel
theorem dX6_payOf_169 : decode cX6_payOf 169 = .ok (.iload 4, 2) := by decide +kernel
theorem dX6_payOf_171 : decode cX6_payOf 171 = .ok (.iload_n 3, 1) := by decide +kernel
theorem dX6_payOf_172 : decode cX6_payOf 172 = .ok (.iconst 2, 1) := by decide +kernel
theorem dX6_payOf_173 : decode cX6_payOf 173 = .ok (.idiv, 1) := by decide +kernel
theorem dX6_payOf_174 : decode cX6_payOf 174 = .ok (.iadd, 1) := by decide +kernel
theorem dX6_payOf_175 : decode cX6_payOf 175 = .ok (.istore 4, 2) := by decide +kernel
theorem dX6_payOf_177 : decode cX6_payOf 177 = .ok (.iinc 7 1, 3) := by decide +kernel
theorem dX6_payOf_180 : decode cX6_payOf 180 = .ok (.iload 8, 2) := by decide +kernel
theorem dX6_payOf_182 : decode cX6_payOf 182 = .ok (.istore 5, 2) := by decide +kernel
theorem dX6_payOf_184 : decode cX6_payOf 184 = .ok (.iload 11, 2) := by decide +kernel
theorem dX6_payOf_186 : decode cX6_payOf 186 = .ok (.istore 6, 2) := by decide +kernel
theorem dX6_payOf_188 : decode cX6_payOf 188 = .ok (.iinc 8 1, 3) := by decide +kernel
theorem dX6_payOf_191 : decode cX6_payOf 191 = .ok (.goto (-166), 3) := by decide +kernel
theorem dX6_payOf_194 : decode cX6_payOf 194 = .ok (.iload 4, 2) := by decide +kernel
theorem dX6_payOf_196 : decode cX6_payOf 196 = .ok (.ireturn, 1) := by decide +kernel
theorem dX6_dueTimes_0 : decode cX6_dueTimes 0 = .ok (.iload_n 2, 1) := by decide +kernel
theorem dX6_dueTimes_1 : decode cX6_dueTimes 1 = .ok (.iconst (-1), 1) := by decide +kernel
theorem dX6_dueTimes_2 : decode cX6_dueTimes 2 = .ok (.if_icmp .eq 7, 3) := by decide +kernel
theorem dX6_dueTimes_5 : decode cX6_dueTimes 5 = .ok (.iload_n 0, 1) := by decide +kernel
theorem dX6_dueTimes_6 : decode cX6_dueTimes 6 = .ok (.ifCond .ne 5, 3) := by decide +kernel
theorem dX6_dueTimes_9 : decode cX6_dueTimes 9 = .ok (.iconst 1, 1) := by decide +kernel
theorem dX6_dueTimes_10 : decode cX6_dueTimes 10 = .ok (.ireturn, 1) := by decide +kernel
theorem dX6_dueTimes_11 : decode cX6_dueTimes 11 = .ok (.iload_n 0, 1) := by decide +kernel
theorem dX6_dueTimes_12 : decode cX6_dueTimes 12 = .ok (.iconst 1, 1) := by decide +kernel
theorem dX6_dueTimes_13 : decode cX6_dueTimes 13 = .ok (.if_icmp .ne 20, 3) := by decide +kernel
theorem dX6_dueTimes_16 : decode cX6_dueTimes 16 = .ok (.iload_n 2, 1) := by decide +kernel
theorem dX6_dueTimes_17 : decode cX6_dueTimes 17 = .ok (.bipush 7, 2) := by decide +kernel
theorem dX6_dueTimes_19 : decode cX6_dueTimes 19 = .ok (.idiv, 1) := by decide +kernel
theorem dX6_dueTimes_20 : decode cX6_dueTimes 20 = .ok (.iload_n 1, 1) := by decide +kernel
theorem dX6_dueTimes_21 : decode cX6_dueTimes 21 = .ok (.bipush 7, 2) := by decide +kernel
theorem dX6_dueTimes_23 : decode cX6_dueTimes 23 = .ok (.idiv, 1) := by decide +kernel
theorem dX6_dueTimes_24 : decode cX6_dueTimes 24 = .ok (.if_icmp .ne 7, 3) := by decide +kernel
theorem dX6_dueTimes_27 : decode cX6_dueTimes 27 = .ok (.iconst 0, 1) := by decide +kernel
theorem dX6_dueTimes_28 : decode cX6_dueTimes 28 = .ok (.goto 4, 3) := by decide +kernel
theorem dX6_dueTimes_31 : decode cX6_dueTimes 31 = .ok (.iconst 1, 1) := by decide +kernel
theorem dX6_dueTimes_32 : decode cX6_dueTimes 32 = .ok (.ireturn, 1) := by decide +kernel
theorem dX6_dueTimes_33 : decode cX6_dueTimes 33 = .ok (.iload_n 1, 1) := by decide +kernel
theorem dX6_dueTimes_34 : decode cX6_dueTimes 34 = .ok (.iload_n 2, 1) := by decide +kernel
theorem dX6_dueTimes_35 : decode cX6_dueTimes 35 = .ok (.isub, 1) := by decide +kernel
theorem dX6_dueTimes_36 : decode cX6_dueTimes 36 = .ok (.bipush 10, 2) := by decide +kernel
theorem dX6_dueTimes_38 : decode cX6_dueTimes 38 = .ok (.if_icmp .le 7, 3) := by decide +kernel
theorem dX6_dueTimes_41 : decode cX6_dueTimes 41 = .ok (.iconst 1, 1) := by decide +kernel
theorem dX6_dueTimes_42 : decode cX6_dueTimes 42 = .ok (.goto 6, 3) := by decide +kernel
theorem dX6_dueTimes_45 : decode cX6_dueTimes 45 = .ok (.iload_n 1, 1) := by decide +kernel
theorem dX6_dueTimes_46 : decode cX6_dueTimes 46 = .ok (.iload_n 2, 1) := by decide +kernel
theorem dX6_dueTimes_47 : decode cX6_dueTimes 47 = .ok (.isub, 1) := by decide +kernel
theorem dX6_dueTimes_48 : decode cX6_dueTimes 48 = .ok (.ireturn, 1) := by decide +kernel
theorem dX6_begunHours_0 : decode cX6_begunHours 0 = .ok (.iload_n 0, 1) := by decide +kernel
theorem dX6_begunHours_1 : decode cX6_begunHours 1 = .ok (.ifCond .gt 7, 3) := by decide +kernel
theorem dX6_begunHours_4 : decode cX6_begunHours 4 = .ok (.iconst 0, 1) := by decide +kernel
theorem dX6_begunHours_5 : decode cX6_begunHours 5 = .ok (.goto 10, 3) := by decide +kernel
theorem dX6_begunHours_8 : decode cX6_begunHours 8 = .ok (.iload_n 0, 1) := by decide +kernel
theorem dX6_begunHours_9 : decode cX6_begunHours 9 = .ok (.bipush 59, 2) := by decide +kernel
theorem dX6_begunHours_11 : decode cX6_begunHours 11 = .ok (.iadd, 1) := by decide +kernel
theorem dX6_begunHours_12 : decode cX6_begunHours 12 = .ok (.bipush 60, 2) := by decide +kernel
theorem dX6_begunHours_14 : decode cX6_begunHours 14 = .ok (.idiv, 1) := by decide +kernel
theorem dX6_begunHours_15 : decode cX6_begunHours 15 = .ok (.ireturn, 1) := by decide +kernel
theorem dX6_costOfAll_0 : decode cX6_costOfAll 0 = .ok (.iconst 0, 1) := by decide +kernel
theorem dX6_costOfAll_1 : decode cX6_costOfAll 1 = .ok (.istore_n 1, 1) := by decide +kernel
theorem dX6_costOfAll_2 : decode cX6_costOfAll 2 = .ok (.iconst 0, 1) := by decide +kernel
theorem dX6_costOfAll_3 : decode cX6_costOfAll 3 = .ok (.istore_n 2, 1) := by decide +kernel
theorem dX6_costOfAll_4 : decode cX6_costOfAll 4 = .ok (.iload_n 2, 1) := by decide +kernel
theorem dX6_costOfAll_5 : decode cX6_costOfAll 5 = .ok (.aload_n 0, 1) := by decide +kernel
theorem dX6_costOfAll_6 : decode cX6_costOfAll 6 = .ok (.getfield 15, 3) := by decide +kernel
theorem dX6_costOfAll_9 : decode cX6_costOfAll 9 = .ok (.getfield 62, 3) := by decide +kernel
theorem dX6_costOfAll_12 : decode cX6_costOfAll 12 = .ok (.if_icmp .ge 18, 3) := by decide +kernel
theorem dX6_costOfAll_15 : decode cX6_costOfAll 15 = .ok (.iload_n 1, 1) := by decide +kernel
theorem dX6_costOfAll_16 : decode cX6_costOfAll 16 = .ok (.aload_n 0, 1) := by decide +kernel
theorem dX6_costOfAll_17 : decode cX6_costOfAll 17 = .ok (.iload_n 2, 1) := by decide +kernel
theorem dX6_costOfAll_18 : decode cX6_costOfAll 18 = .ok (.iconst 0, 1) := by decide +kernel
theorem dX6_costOfAll_19 : decode cX6_costOfAll 19 = .ok (.invokevirtual 66, 3) := by decide +kernel
theorem dX6_costOfAll_22 : decode cX6_costOfAll 22 = .ok (.iadd, 1) := by decide +kernel
theorem dX6_costOfAll_23 : decode cX6_costOfAll 23 = .ok (.istore_n 1, 1) := by decide +kernel
theorem dX6_costOfAll_24 : decode cX6_costOfAll 24 = .ok (.iinc 2 1, 3) := by decide +kernel
theorem dX6_costOfAll_27 : decode cX6_costOfAll 27 = .ok (.goto (-23), 3) := by decide +kernel
theorem dX6_costOfAll_30 : decode cX6_costOfAll 30 = .ok (.iconst 0, 1) := by decide +kernel
theorem dX6_costOfAll_31 : decode cX6_costOfAll 31 = .ok (.istore_n 2, 1) := by decide +kernel
theorem dX6_costOfAll_32 : decode cX6_costOfAll 32 = .ok (.iload_n 2, 1) := by decide +kernel
theorem dX6_costOfAll_33 : decode cX6_costOfAll 33 = .ok (.bipush 30, 2) := by decide +kernel
theorem dX6_costOfAll_35 : decode cX6_costOfAll 35 = .ok (.if_icmp .ge 25, 3) := by decide +kernel
theorem dX6_costOfAll_38 : decode cX6_costOfAll 38 = .ok (.iload_n 1, 1) := by decide +kernel
theorem dX6_costOfAll_39 : decode cX6_costOfAll 39 = .ok (.aload_n 0, 1) := by decide +kernel
theorem dX6_costOfAll_40 : decode cX6_costOfAll 40 = .ok (.aload_n 0, 1) := by decide +kernel
theorem dX6_costOfAll_41 : decode cX6_costOfAll 41 = .ok (.getfield 23, 3) := by decide +kernel
theorem dX6_costOfAll_44 : decode cX6_costOfAll 44 = .ok (.getfield 70, 3) := by decide +kernel
theorem dX6_costOfAll_47 : decode cX6_costOfAll 47 = .ok (.iload_n 2, 1) := by decide +kernel
theorem dX6_costOfAll_48 : decode cX6_costOfAll 48 = .ok (.aaload, 1) := by decide +kernel
theorem dX6_costOfAll_49 : decode cX6_costOfAll 49 = .ok (.invokevirtual 74, 3) := by decide +kernel
theorem dX6_costOfAll_52 : decode cX6_costOfAll 52 = .ok (.iadd, 1) := by decide +kernel
theorem dX6_costOfAll_53 : decode cX6_costOfAll 53 = .ok (.istore_n 1, 1) := by decide +kernel
theorem dX6_costOfAll_54 : decode cX6_costOfAll 54 = .ok (.iinc 2 1, 3) := by decide +kernel
theorem dX6_costOfAll_57 : decode cX6_costOfAll 57 = .ok (.goto (-25), 3) := by decide +kernel
theorem dX6_costOfAll_60 : decode cX6_costOfAll 60 = .ok (.iload_n 1, 1) := by decide +kernel
theorem dX6_costOfAll_61 : decode cX6_costOfAll 61 = .ok (.ireturn, 1) := by decide +kernel
theorem dX6_costOfPlaces_0 : decode cX6_costOfPlaces 0 = .ok (.iconst 0, 1) := by decide +kernel
theorem dX6_costOfPlaces_1 : decode cX6_costOfPlaces 1 = .ok (.istore_n 2, 1) := by decide +kernel
theorem dX6_costOfPlaces_2 : decode cX6_costOfPlaces 2 = .ok (.iconst 0, 1) := by decide +kernel
theorem dX6_costOfPlaces_3 : decode cX6_costOfPlaces 3 = .ok (.istore_n 3, 1) := by decide +kernel
theorem dX6_costOfPlaces_4 : decode cX6_costOfPlaces 4 = .ok (.iconst 0, 1) := by decide +kernel
theorem dX6_costOfPlaces_5 : decode cX6_costOfPlaces 5 = .ok (.istore 4, 2) := by decide +kernel
theorem dX6_costOfPlaces_7 : decode cX6_costOfPlaces 7 = .ok (.iload 4, 2) := by decide +kernel
theorem dX6_costOfPlaces_9 : decode cX6_costOfPlaces 9 = .ok (.aload_n 1, 1) := by decide +kernel
theorem dX6_costOfPlaces_10 : decode cX6_costOfPlaces 10 = .ok (.getfield 78, 3) := by decide +kernel
theorem dX6_costOfPlaces_13 : decode cX6_costOfPlaces 13 = .ok (.if_icmp .ge 58, 3) := by decide +kernel
theorem dX6_costOfPlaces_16 : decode cX6_costOfPlaces 16 = .ok (.aload_n 0, 1) := by decide +kernel
theorem dX6_costOfPlaces_17 : decode cX6_costOfPlaces 17 = .ok (.getfield 9, 3) := by decide +kernel
theorem dX6_costOfPlaces_20 : decode cX6_costOfPlaces 20 = .ok (.getfield 81, 3) := by decide +kernel
theorem dX6_costOfPlaces_23 : decode cX6_costOfPlaces 23 = .ok (.aload_n 1, 1) := by decide +kernel
theorem dX6_costOfPlaces_24 : decode cX6_costOfPlaces 24 = .ok (.getfield 87, 3) := by decide +kernel
theorem dX6_costOfPlaces_27 : decode cX6_costOfPlaces 27 = .ok (.iload 4, 2) := by decide +kernel
theorem dX6_costOfPlaces_29 : decode cX6_costOfPlaces 29 = .ok (.iaload, 1) := by decide +kernel
theorem dX6_costOfPlaces_30 : decode cX6_costOfPlaces 30 = .ok (.aaload, 1) := by decide +kernel
theorem dX6_costOfPlaces_31 : decode cX6_costOfPlaces 31 = .ok (.getfield 90, 3) := by decide +kernel
theorem dX6_costOfPlaces_34 : decode cX6_costOfPlaces 34 = .ok (.istore 5, 2) := by decide +kernel
theorem dX6_costOfPlaces_36 : decode cX6_costOfPlaces 36 = .ok (.iload_n 2, 1) := by decide +kernel
theorem dX6_costOfPlaces_37 : decode cX6_costOfPlaces 37 = .ok (.iload 5, 2) := by decide +kernel
theorem dX6_costOfPlaces_39 : decode cX6_costOfPlaces 39 = .ok (.invokestatic 95, 3) := by decide +kernel
theorem dX6_costOfPlaces_42 : decode cX6_costOfPlaces 42 = .ok (.ifCond .ne 16, 3) := by decide +kernel
theorem dX6_costOfPlaces_45 : decode cX6_costOfPlaces 45 = .ok (.iload_n 3, 1) := by decide +kernel
theorem dX6_costOfPlaces_46 : decode cX6_costOfPlaces 46 = .ok (.aload_n 0, 1) := by decide +kernel
theorem dX6_costOfPlaces_47 : decode cX6_costOfPlaces 47 = .ok (.getfield 19, 3) := by decide +kernel
theorem dX6_costOfPlaces_50 : decode cX6_costOfPlaces 50 = .ok (.getfield 99, 3) := by decide +kernel
theorem dX6_costOfPlaces_53 : decode cX6_costOfPlaces 53 = .ok (.iload 5, 2) := by decide +kernel
theorem dX6_costOfPlaces_55 : decode cX6_costOfPlaces 55 = .ok (.iaload, 1) := by decide +kernel
theorem dX6_costOfPlaces_56 : decode cX6_costOfPlaces 56 = .ok (.iadd, 1) := by decide +kernel
theorem dX6_costOfPlaces_57 : decode cX6_costOfPlaces 57 = .ok (.istore_n 3, 1) := by decide +kernel
theorem dX6_costOfPlaces_58 : decode cX6_costOfPlaces 58 = .ok (.iload_n 2, 1) := by decide +kernel
theorem dX6_costOfPlaces_59 : decode cX6_costOfPlaces 59 = .ok (.iconst 1, 1) := by decide +kernel
theorem dX6_costOfPlaces_60 : decode cX6_costOfPlaces 60 = .ok (.iload 5, 2) := by decide +kernel
theorem dX6_costOfPlaces_62 : decode cX6_costOfPlaces 62 = .ok (.ishl, 1) := by decide +kernel
theorem dX6_costOfPlaces_63 : decode cX6_costOfPlaces 63 = .ok (.ior, 1) := by decide +kernel
theorem dX6_costOfPlaces_64 : decode cX6_costOfPlaces 64 = .ok (.istore_n 2, 1) := by decide +kernel
theorem dX6_costOfPlaces_65 : decode cX6_costOfPlaces 65 = .ok (.iinc 4 1, 3) := by decide +kernel
theorem dX6_costOfPlaces_68 : decode cX6_costOfPlaces 68 = .ok (.goto (-61), 3) := by decide +kernel
theorem dX6_costOfPlaces_71 : decode cX6_costOfPlaces 71 = .ok (.iload_n 3, 1) := by decide +kernel
theorem dX6_costOfPlaces_72 : decode cX6_costOfPlaces 72 = .ok (.ireturn, 1) := by decide +kernel
theorem dX7_init_0 : decode cX7_init 0 = .ok (.aload_n 0, 1) := by decide +kernel
theorem dX7_init_1 : decode cX7_init 1 = .ok (.invokespecial 3, 3) := by decide +kernel
theorem dX7_init_4 : decode cX7_init 4 = .ok (.aload_n 0, 1) := by decide +kernel
theorem dX7_init_5 : decode cX7_init 5 = .ok (.bipush 6, 2) := by decide +kernel
theorem dX7_init_7 : decode cX7_init 7 = .ok (.newarray .int, 2) := by decide +kernel
end
section
theorem dX7_init_9 : decode cX7_init 9 = .ok (.putfield 9, 3) := by decide +kernel
theorem dX7_init_12 : decode cX7_init 12 = .ok (.aload_n 0, 1) := by decide +kernel
theorem dX7_init_13 : decode cX7_init 13 = .ok (.bipush 36, 2) := by decide +kernel
theorem dX7_init_15 : decode cX7_init 15 = .ok (.newarray .int, 2) := by decide +kernel
theorem dX7_init_17 : decode cX7_init 17 = .ok (.putfield 15, 3) := by decide +kernel
theorem dX7_init_20 : decode cX7_init 20 = .ok (.aload_n 0, 1) := by decide +kernel
theorem dX7_init_21 : decode cX7_init 21 = .ok (.getfield 15, 3) := by decide +kernel
theorem dX7_init_24 : decode cX7_init 24 = .ok (.bipush 60, 2) := by decide +kernel
theorem dX7_init_26 : decode cX7_init 26 = .ok (.invokestatic 18, 3) := by decide +kernel
theorem dX7_init_29 : decode cX7_init 29 = .ok (.return_, 1) := by decide +kernel
theorem dX7_add_0 : decode cX7_add 0 = .ok (.aload_n 0, 1) := by decide +kernel
theorem dX7_add_1 : decode cX7_add 1 = .ok (.getfield 9, 3) := by decide +kernel
theorem dX7_add_4 : decode cX7_add 4 = .ok (.aload_n 0, 1) := by decide +kernel
theorem dX7_add_5 : decode cX7_add 5 = .ok (.getfield 24, 3) := by decide +kernel
theorem dX7_add_8 : decode cX7_add 8 = .ok (.iload_n 1, 1) := by decide +kernel
theorem dX7_add_9 : decode cX7_add 9 = .ok (.iastore, 1) := by decide +kernel
theorem dX7_add_10 : decode cX7_add 10 = .ok (.aload_n 0, 1) := by decide +kernel
theorem dX7_add_11 : decode cX7_add 11 = .ok (.dup, 1) := by decide +kernel
theorem dX7_add_12 : decode cX7_add 12 = .ok (.getfield 24, 3) := by decide +kernel
theorem dX7_add_15 : decode cX7_add 15 = .ok (.iconst 1, 1) := by decide +kernel
theorem dX7_add_16 : decode cX7_add 16 = .ok (.iadd, 1) := by decide +kernel
theorem dX7_add_17 : decode cX7_add 17 = .ok (.putfield 24, 3) := by decide +kernel
theorem dX7_add_20 : decode cX7_add 20 = .ok (.aload_n 0, 1) := by decide +kernel
theorem dX7_add_21 : decode cX7_add 21 = .ok (.getfield 24, 3) := by decide +kernel
theorem dX7_add_24 : decode cX7_add 24 = .ok (.iconst 1, 1) := by decide +kernel
theorem dX7_add_25 : decode cX7_add 25 = .ok (.isub, 1) := by decide +kernel
theorem dX7_add_26 : decode cX7_add 26 = .ok (.ireturn, 1) := by decide +kernel
theorem dX7_moveBetween_0 : decode cX7_moveBetween 0 = .ok (.iload_n 1, 1) := by decide +kernel
theorem dX7_moveBetween_1 : decode cX7_moveBetween 1 = .ok (.iload_n 2, 1) := by decide +kernel
theorem dX7_moveBetween_2 : decode cX7_moveBetween 2 = .ok (.if_icmp .ne 7, 3) := by decide +kernel
theorem dX7_moveBetween_5 : decode cX7_moveBetween 5 = .ok (.iconst 0, 1) := by decide +kernel
theorem dX7_moveBetween_6 : decode cX7_moveBetween 6 = .ok (.goto 14, 3) := by decide +kernel
theorem dX7_moveBetween_9 : decode cX7_moveBetween 9 = .ok (.aload_n 0, 1) := by decide +kernel
theorem dX7_moveBetween_10 : decode cX7_moveBetween 10 = .ok (.getfield 15, 3) := by decide +kernel
theorem dX7_moveBetween_13 : decode cX7_moveBetween 13 = .ok (.iload_n 1, 1) := by decide +kernel
theorem dX7_moveBetween_14 : decode cX7_moveBetween 14 = .ok (.bipush 6, 2) := by decide +kernel
theorem dX7_moveBetween_16 : decode cX7_moveBetween 16 = .ok (.imul, 1) := by decide +kernel
theorem dX7_moveBetween_17 : decode cX7_moveBetween 17 = .ok (.iload_n 2, 1) := by decide +kernel
theorem dX7_moveBetween_18 : decode cX7_moveBetween 18 = .ok (.iadd, 1) := by decide +kernel
theorem dX7_moveBetween_19 : decode cX7_moveBetween 19 = .ok (.iaload, 1) := by decide +kernel
theorem dX7_moveBetween_20 : decode cX7_moveBetween 20 = .ok (.ireturn, 1) := by decide +kernel
theorem dX7_tellMove_0 : decode cX7_tellMove 0 = .ok (.aload_n 0, 1) := by decide +kernel
theorem dX7_tellMove_1 : decode cX7_tellMove 1 = .ok (.iload_n 1, 1) := by decide +kernel
theorem dX7_tellMove_2 : decode cX7_tellMove 2 = .ok (.iload_n 2, 1) := by decide +kernel
theorem dX7_tellMove_3 : decode cX7_tellMove 3 = .ok (.invokevirtual 28, 3) := by decide +kernel
theorem dX7_tellMove_6 : decode cX7_tellMove 6 = .ok (.istore 4, 2) := by decide +kernel
theorem dX7_tellMove_8 : decode cX7_tellMove 8 = .ok (.aload_n 0, 1) := by decide +kernel
theorem dX7_tellMove_9 : decode cX7_tellMove 9 = .ok (.getfield 15, 3) := by decide +kernel
theorem dX7_tellMove_12 : decode cX7_tellMove 12 = .ok (.iload_n 1, 1) := by decide +kernel
theorem dX7_tellMove_13 : decode cX7_tellMove 13 = .ok (.bipush 6, 2) := by decide +kernel
theorem dX7_tellMove_15 : decode cX7_tellMove 15 = .ok (.imul, 1) := by decide +kernel
theorem dX7_tellMove_16 : decode cX7_tellMove 16 = .ok (.iload_n 2, 1) := by decide +kernel
theorem dX7_tellMove_17 : decode cX7_tellMove 17 = .ok (.iadd, 1) := by decide +kernel
theorem dX7_tellMove_18 : decode cX7_tellMove 18 = .ok (.iload_n 3, 1) := by decide +kernel
theorem dX7_tellMove_19 : decode cX7_tellMove 19 = .ok (.iastore, 1) := by decide +kernel
theorem dX7_tellMove_20 : decode cX7_tellMove 20 = .ok (.aload_n 0, 1) := by decide +kernel
theorem dX7_tellMove_21 : decode cX7_tellMove 21 = .ok (.getfield 15, 3) := by decide +kernel
theorem dX7_tellMove_24 : decode cX7_tellMove 24 = .ok (.iload_n 2, 1) := by decide +kernel
theorem dX7_tellMove_25 : decode cX7_tellMove 25 = .ok (.bipush 6, 2) := by decide +kernel
theorem dX7_tellMove_27 : decode cX7_tellMove 27 = .ok (.imul, 1) := by decide +kernel
theorem dX7_tellMove_28 : decode cX7_tellMove 28 = .ok (.iload_n 1, 1) := by decide +kernel
theorem dX7_tellMove_29 : decode cX7_tellMove 29 = .ok (.iadd, 1) := by decide +kernel
theorem dX7_tellMove_30 : decode cX7_tellMove 30 = .ok (.iload_n 3, 1) := by decide +kernel
theorem dX7_tellMove_31 : decode cX7_tellMove 31 = .ok (.iastore, 1) := by decide +kernel
theorem dX7_tellMove_32 : decode cX7_tellMove 32 = .ok (.iload 4, 2) := by decide +kernel
theorem dX7_tellMove_34 : decode cX7_tellMove 34 = .ok (.ireturn, 1) := by decide +kernel
theorem dX8_init_0 : decode cX8_init 0 = .ok (.aload_n 0, 1) := by decide +kernel
theorem dX8_init_1 : decode cX8_init 1 = .ok (.invokespecial 3, 3) := by decide +kernel
theorem dX8_init_4 : decode cX8_init 4 = .ok (.aload_n 0, 1) := by decide +kernel
theorem dX8_init_5 : decode cX8_init 5 = .ok (.iconst 4, 1) := by decide +kernel
theorem dX8_init_6 : decode cX8_init 6 = .ok (.newarray .int, 2) := by decide +kernel
theorem dX8_init_8 : decode cX8_init 8 = .ok (.putfield 9, 3) := by decide +kernel
theorem dX8_init_11 : decode cX8_init 11 = .ok (.aload_n 0, 1) := by decide +kernel
theorem dX8_init_12 : decode cX8_init 12 = .ok (.iconst 4, 1) := by decide +kernel
theorem dX8_init_13 : decode cX8_init 13 = .ok (.newarray .int, 2) := by decide +kernel
theorem dX8_init_15 : decode cX8_init 15 = .ok (.putfield 15, 3) := by decide +kernel
theorem dX8_init_18 : decode cX8_init 18 = .ok (.aload_n 0, 1) := by decide +kernel
theorem dX8_init_19 : decode cX8_init 19 = .ok (.iconst (-1), 1) := by decide +kernel
theorem dX8_init_20 : decode cX8_init 20 = .ok (.putfield 18, 3) := by decide +kernel
theorem dX8_init_23 : decode cX8_init 23 = .ok (.aload_n 0, 1) := by decide +kernel
theorem dX8_init_24 : decode cX8_init 24 = .ok (.getfield 9, 3) := by decide +kernel
theorem dX8_init_27 : decode cX8_init 27 = .ok (.iconst (-1), 1) := by decide +kernel
theorem dX8_init_28 : decode cX8_init 28 = .ok (.invokestatic 22, 3) := by decide +kernel
theorem dX8_init_31 : decode cX8_init 31 = .ok (.aload_n 0, 1) := by decide +kernel
theorem dX8_init_32 : decode cX8_init 32 = .ok (.getfield 15, 3) := by decide +kernel
theorem dX8_init_35 : decode cX8_init 35 = .ok (.iconst (-1), 1) := by decide +kernel
theorem dX8_init_36 : decode cX8_init 36 = .ok (.invokestatic 22, 3) := by decide +kernel
theorem dX8_init_39 : decode cX8_init 39 = .ok (.return_, 1) := by decide +kernel
theorem dX8_status_0 : decode cX8_status 0 = .ok (.aload_n 0, 1) := by decide +kernel
theorem dX8_status_1 : decode cX8_status 1 = .ok (.getfield 28, 3) := by decide +kernel
theorem dX8_status_4 : decode cX8_status 4 = .ok (.ifCond .eq 5, 3) := by decide +kernel
theorem dX8_status_7 : decode cX8_status 7 = .ok (.iconst 4, 1) := by decide +kernel
theorem dX8_status_8 : decode cX8_status 8 = .ok (.ireturn, 1) := by decide +kernel
theorem dX8_status_9 : decode cX8_status 9 = .ok (.aload_n 0, 1) := by decide +kernel
theorem dX8_status_10 : decode cX8_status 10 = .ok (.getfield 32, 3) := by decide +kernel
theorem dX8_status_13 : decode cX8_status 13 = .ok (.ifCond .eq 5, 3) := by decide +kernel
theorem dX8_status_16 : decode cX8_status 16 = .ok (.iconst 2, 1) := by decide +kernel
theorem dX8_status_17 : decode cX8_status 17 = .ok (.ireturn, 1) := by decide +kernel
theorem dX8_status_18 : decode cX8_status 18 = .ok (.aload_n 0, 1) := by decide +kernel
theorem dX8_status_19 : decode cX8_status 19 = .ok (.getfield 18, 3) := by decide +kernel
theorem dX8_status_22 : decode cX8_status 22 = .ok (.iconst (-1), 1) := by decide +kernel
theorem dX8_status_23 : decode cX8_status 23 = .ok (.if_icmp .eq 5, 3) := by decide +kernel
theorem dX8_status_26 : decode cX8_status 26 = .ok (.iconst 1, 1) := by decide +kernel
theorem dX8_status_27 : decode cX8_status 27 = .ok (.ireturn, 1) := by decide +kernel
theorem dX8_status_28 : decode cX8_status 28 = .ok (.aload_n 0, 1) := by decide +kernel
theorem dX8_status_29 : decode cX8_status 29 = .ok (.getfield 35, 3) := by decide +kernel
theorem dX8_status_32 : decode cX8_status 32 = .ok (.ifCond .eq 7, 3) := by decide +kernel
theorem dX8_status_35 : decode cX8_status 35 = .ok (.iconst 3, 1) := by decide +kernel
theorem dX8_status_36 : decode cX8_status 36 = .ok (.goto 4, 3) := by decide +kernel
theorem dX8_status_39 : decode cX8_status 39 = .ok (.iconst 0, 1) := by decide +kernel
theorem dX8_status_40 : decode cX8_status 40 = .ok (.ireturn, 1) := by decide +kernel
theorem dX8_isLoose_0 : decode cX8_isLoose 0 = .ok (.aload_n 0, 1) := by decide +kernel
theorem dX8_isLoose_1 : decode cX8_isLoose 1 = .ok (.getfield 28, 3) := by decide +kernel
theorem dX8_isLoose_4 : decode cX8_isLoose 4 = .ok (.ifCond .ne 22, 3) := by decide +kernel
theorem dX8_isLoose_7 : decode cX8_isLoose 7 = .ok (.aload_n 0, 1) := by decide +kernel
theorem dX8_isLoose_8 : decode cX8_isLoose 8 = .ok (.getfield 32, 3) := by decide +kernel
theorem dX8_isLoose_11 : decode cX8_isLoose 11 = .ok (.ifCond .ne 15, 3) := by decide +kernel
theorem dX8_isLoose_14 : decode cX8_isLoose 14 = .ok (.aload_n 0, 1) := by decide +kernel
theorem dX8_isLoose_15 : decode cX8_isLoose 15 = .ok (.getfield 18, 3) := by decide +kernel
theorem dX8_isLoose_18 : decode cX8_isLoose 18 = .ok (.iconst (-1), 1) := by decide +kernel
theorem dX8_isLoose_19 : decode cX8_isLoose 19 = .ok (.if_icmp .ne 7, 3) := by decide +kernel
theorem dX8_isLoose_22 : decode cX8_isLoose 22 = .ok (.iconst 1, 1) := by decide +kernel
theorem dX8_isLoose_23 : decode cX8_isLoose 23 = .ok (.goto 4, 3) := by decide +kernel
theorem dX8_isLoose_26 : decode cX8_isLoose 26 = .ok (.iconst 0, 1) := by decide +kernel
theorem dX8_isLoose_27 : decode cX8_isLoose 27 = .ok (.ireturn, 1) := by decide +kernel
theorem dX8_isSettled_0 : decode cX8_isSettled 0 = .ok (.aload_n 0, 1) := by decide +kernel
theorem dX8_isSettled_1 : decode cX8_isSettled 1 = .ok (.getfield 28, 3) := by decide +kernel
theorem dX8_isSettled_4 : decode cX8_isSettled 4 = .ok (.ifCond .ne 18, 3) := by decide +kernel
theorem dX8_isSettled_7 : decode cX8_isSettled 7 = .ok (.aload_n 0, 1) := by decide +kernel
theorem dX8_isSettled_8 : decode cX8_isSettled 8 = .ok (.getfield 32, 3) := by decide +kernel
theorem dX8_isSettled_11 : decode cX8_isSettled 11 = .ok (.ifCond .ne 11, 3) := by decide +kernel
theorem dX8_isSettled_14 : decode cX8_isSettled 14 = .ok (.aload_n 0, 1) := by decide +kernel
theorem dX8_isSettled_15 : decode cX8_isSettled 15 = .ok (.getfield 18, 3) := by decide +kernel
theorem dX8_isSettled_18 : decode cX8_isSettled 18 = .ok (.iconst (-1), 1) := by decide +kernel
theorem dX8_isSettled_19 : decode cX8_isSettled 19 = .ok (.if_icmp .eq 7, 3) := by decide +kernel
theorem dX8_isSettled_22 : decode cX8_isSettled 22 = .ok (.iconst 1, 1) := by decide +kernel
theorem dX8_isSettled_23 : decode cX8_isSettled 23 = .ok (.goto 4, 3) := by decide +kernel
theorem dX8_isSettled_26 : decode cX8_isSettled 26 = .ok (.iconst 0, 1) := by decide +kernel
theorem dX8_isSettled_27 : decode cX8_isSettled 27 = .ok (.ireturn, 1) := by decide +kernel
theorem dX8_lasts_0 : decode cX8_lasts 0 = .ok (.aload_n 0, 1) := by decide +kernel
theorem dX8_lasts_1 : decode cX8_lasts 1 = .ok (.getfield 32, 3) := by decide +kernel
theorem dX8_lasts_4 : decode cX8_lasts 4 = .ok (.ifCond .eq 10, 3) := by decide +kernel
theorem dX8_lasts_7 : decode cX8_lasts 7 = .ok (.aload_n 0, 1) := by decide +kernel
theorem dX8_lasts_8 : decode cX8_lasts 8 = .ok (.getfield 38, 3) := by decide +kernel
theorem dX8_lasts_11 : decode cX8_lasts 11 = .ok (.goto 9, 3) := by decide +kernel
theorem dX8_lasts_14 : decode cX8_lasts 14 = .ok (.aload_n 0, 1) := by decide +kernel
theorem dX8_lasts_15 : decode cX8_lasts 15 = .ok (.getfield 41, 3) := by decide +kernel
theorem dX8_lasts_18 : decode cX8_lasts 18 = .ok (.iload_n 1, 1) := by decide +kernel
theorem dX8_lasts_19 : decode cX8_lasts 19 = .ok (.imul, 1) := by decide +kernel
theorem dX8_lasts_20 : decode cX8_lasts 20 = .ok (.ireturn, 1) := by decide +kernel
theorem dX8_wantsLight_0 : decode cX8_wantsLight 0 = .ok (.aload_n 0, 1) := by decide +kernel
theorem dX8_wantsLight_1 : decode cX8_wantsLight 1 = .ok (.getfield 44, 3) := by decide +kernel
theorem dX8_wantsLight_4 : decode cX8_wantsLight 4 = .ok (.ifCond .eq 14, 3) := by decide +kernel
theorem dX8_wantsLight_7 : decode cX8_wantsLight 7 = .ok (.aload_n 0, 1) := by decide +kernel
theorem dX8_wantsLight_8 : decode cX8_wantsLight 8 = .ok (.getfield 47, 3) := by decide +kernel
theorem dX8_wantsLight_11 : decode cX8_wantsLight 11 = .ok (.ifCond .ne 7, 3) := by decide +kernel
theorem dX8_wantsLight_14 : decode cX8_wantsLight 14 = .ok (.iconst 1, 1) := by decide +kernel
theorem dX8_wantsLight_15 : decode cX8_wantsLight 15 = .ok (.goto 4, 3) := by decide +kernel
theorem dX8_wantsLight_18 : decode cX8_wantsLight 18 = .ok (.iconst 0, 1) := by decide +kernel
theorem dX8_wantsLight_19 : decode cX8_wantsLight 19 = .ok (.ireturn, 1) := by decide +kernel
theorem dX8_keepTake_0 : decode cX8_keepTake 0 = .ok (.aload_n 0, 1) := by decide +kernel
theorem dX8_keepTake_1 : decode cX8_keepTake 1 = .ok (.iconst 1, 1) := by decide +kernel
theorem dX8_keepTake_2 : decode cX8_keepTake 2 = .ok (.putfield 32, 3) := by decide +kernel
theorem dX8_keepTake_5 : decode cX8_keepTake 5 = .ok (.aload_n 0, 1) := by decide +kernel
theorem dX8_keepTake_6 : decode cX8_keepTake 6 = .ok (.iconst 0, 1) := by decide +kernel
theorem dX8_keepTake_7 : decode cX8_keepTake 7 = .ok (.putfield 35, 3) := by decide +kernel
theorem dX8_keepTake_10 : decode cX8_keepTake 10 = .ok (.aload_n 0, 1) := by decide +kernel
theorem dX8_keepTake_11 : decode cX8_keepTake 11 = .ok (.iload_n 1, 1) := by decide +kernel
theorem dX8_keepTake_12 : decode cX8_keepTake 12 = .ok (.putfield 38, 3) := by decide +kernel
theorem dX8_keepTake_15 : decode cX8_keepTake 15 = .ok (.return_, 1) := by decide +kernel
theorem dX9_init_0 : decode cX9_init 0 = .ok (.aload_n 0, 1) := by decide +kernel
theorem dX9_init_1 : decode cX9_init 1 = .ok (.invokespecial 3, 3) := by decide +kernel
theorem dX9_init_4 : decode cX9_init 4 = .ok (.aload_n 0, 1) := by decide +kernel
theorem dX9_init_5 : decode cX9_init 5 = .ok (.bipush 20, 2) := by decide +kernel
theorem dX9_init_7 : decode cX9_init 7 = .ok (.anewarray 9, 3) := by decide +kernel
theorem dX9_init_10 : decode cX9_init 10 = .ok (.putfield 11, 3) := by decide +kernel
theorem dX9_init_13 : decode cX9_init 13 = .ok (.aload_n 0, 1) := by decide +kernel
theorem dX9_init_14 : decode cX9_init 14 = .ok (.bipush 20, 2) := by decide +kernel
theorem dX9_init_16 : decode cX9_init 16 = .ok (.newarray .int, 2) := by decide +kernel
theorem dX9_init_18 : decode cX9_init 18 = .ok (.putfield 17, 3) := by decide +kernel
theorem dX9_init_21 : decode cX9_init 21 = .ok (.aload_n 0, 1) := by decide +kernel
theorem dX9_init_22 : decode cX9_init 22 = .ok (.iconst 4, 1) := by decide +kernel
theorem dX9_init_23 : decode cX9_init 23 = .ok (.newarray .int, 2) := by decide +kernel
theorem dX9_init_25 : decode cX9_init 25 = .ok (.putfield 21, 3) := by decide +kernel
theorem dX9_init_28 : decode cX9_init 28 = .ok (.iconst 0, 1) := by decide +kernel
theorem dX9_init_29 : decode cX9_init 29 = .ok (.istore_n 1, 1) := by decide +kernel
theorem dX9_init_30 : decode cX9_init 30 = .ok (.iload_n 1, 1) := by decide +kernel
theorem dX9_init_31 : decode cX9_init 31 = .ok (.bipush 20, 2) := by decide +kernel
theorem dX9_init_33 : decode cX9_init 33 = .ok (.if_icmp .ge 22, 3) := by decide +kernel
theorem dX9_init_36 : decode cX9_init 36 = .ok (.aload_n 0, 1) := by decide +kernel
theorem dX9_init_37 : decode cX9_init 37 = .ok (.getfield 11, 3) := by decide +kernel
theorem dX9_init_40 : decode cX9_init 40 = .ok (.iload_n 1, 1) := by decide +kernel
theorem dX9_init_41 : decode cX9_init 41 = .ok (.new 9, 3) := by decide +kernel
theorem dX9_init_44 : decode cX9_init 44 = .ok (.dup, 1) := by decide +kernel
theorem dX9_init_45 : decode cX9_init 45 = .ok (.invokespecial 24, 3) := by decide +kernel
theorem dX9_init_48 : decode cX9_init 48 = .ok (.aastore, 1) := by decide +kernel
theorem dX9_init_49 : decode cX9_init 49 = .ok (.iinc 1 1, 3) := by decide +kernel
theorem dX9_init_52 : decode cX9_init 52 = .ok (.goto (-22), 3) := by decide +kernel
theorem dX9_init_55 : decode cX9_init 55 = .ok (.return_, 1) := by decide +kernel
theorem dX9_hasRoomBehind_0 : decode cX9_hasRoomBehind 0 = .ok (.aload_n 0, 1) := by decide +kernel
theorem dX9_hasRoomBehind_1 : decode cX9_hasRoomBehind 1 = .ok (.getfield 25, 3) := by decide +kernel
theorem dX9_hasRoomBehind_4 : decode cX9_hasRoomBehind 4 = .ok (.bipush 20, 2) := by decide +kernel
theorem dX9_hasRoomBehind_6 : decode cX9_hasRoomBehind 6 = .ok (.if_icmp .lt 5, 3) := by decide +kernel
theorem dX9_hasRoomBehind_9 : decode cX9_hasRoomBehind 9 = .ok (.iconst 0, 1) := by decide +kernel
theorem dX9_hasRoomBehind_10 : decode cX9_hasRoomBehind 10 = .ok (.ireturn, 1) := by decide +kernel
theorem dX9_hasRoomBehind_11 : decode cX9_hasRoomBehind 11 = .ok (.aload_n 0, 1) := by decide +kernel
theorem dX9_hasRoomBehind_12 : decode cX9_hasRoomBehind 12 = .ok (.getfield 29, 3) := by decide +kernel
theorem dX9_hasRoomBehind_15 : decode cX9_hasRoomBehind 15 = .ok (.ifCond .eq 20, 3) := by decide +kernel
theorem dX9_hasRoomBehind_18 : decode cX9_hasRoomBehind 18 = .ok (.aload_n 0, 1) := by decide +kernel
theorem dX9_hasRoomBehind_19 : decode cX9_hasRoomBehind 19 = .ok (.aload_n 0, 1) := by decide +kernel
theorem dX9_hasRoomBehind_20 : decode cX9_hasRoomBehind 20 = .ok (.aload_n 0, 1) := by decide +kernel
theorem dX9_hasRoomBehind_21 : decode cX9_hasRoomBehind 21 = .ok (.iload_n 1, 1) := by decide +kernel
theorem dX9_hasRoomBehind_22 : decode cX9_hasRoomBehind 22 = .ok (.invokevirtual 33, 3) := by decide +kernel
theorem dX9_hasRoomBehind_25 : decode cX9_hasRoomBehind 25 = .ok (.invokevirtual 37, 3) := by decide +kernel
theorem dX9_hasRoomBehind_28 : decode cX9_hasRoomBehind 28 = .ok (.invokevirtual 40, 3) := by decide +kernel
theorem dX9_hasRoomBehind_31 : decode cX9_hasRoomBehind 31 = .ok (.iconst (-1), 1) := by decide +kernel
theorem dX9_hasRoomBehind_32 : decode cX9_hasRoomBehind 32 = .ok (.if_icmp .eq 7, 3) := by decide +kernel
theorem dX9_hasRoomBehind_35 : decode cX9_hasRoomBehind 35 = .ok (.iconst 1, 1) := by decide +kernel
theorem dX9_hasRoomBehind_36 : decode cX9_hasRoomBehind 36 = .ok (.goto 4, 3) := by decide +kernel
theorem dX9_hasRoomBehind_39 : decode cX9_hasRoomBehind 39 = .ok (.iconst 0, 1) := by decide +kernel
theorem dX9_hasRoomBehind_40 : decode cX9_hasRoomBehind 40 = .ok (.ireturn, 1) := by decide +kernel
theorem dX9_add_0 : decode cX9_add 0 = .ok (.aload_n 0, 1) := by decide +kernel
theorem dX9_add_1 : decode cX9_add 1 = .ok (.iload_n 1, 1) := by decide +kernel
theorem dX9_add_2 : decode cX9_add 2 = .ok (.invokevirtual 33, 3) := by decide +kernel
theorem dX9_add_5 : decode cX9_add 5 = .ok (.istore 6, 2) := by decide +kernel
theorem dX9_add_7 : decode cX9_add 7 = .ok (.aload_n 0, 1) := by decide +kernel
theorem dX9_add_8 : decode cX9_add 8 = .ok (.getfield 11, 3) := by decide +kernel
theorem dX9_add_11 : decode cX9_add 11 = .ok (.aload_n 0, 1) := by decide +kernel
theorem dX9_add_12 : decode cX9_add 12 = .ok (.getfield 25, 3) := by decide +kernel
theorem dX9_add_15 : decode cX9_add 15 = .ok (.aaload, 1) := by decide +kernel
theorem dX9_add_16 : decode cX9_add 16 = .ok (.astore 7, 2) := by decide +kernel
theorem dX9_add_18 : decode cX9_add 18 = .ok (.aload 7, 2) := by decide +kernel
theorem dX9_add_20 : decode cX9_add 20 = .ok (.iload_n 2, 1) := by decide +kernel
theorem dX9_add_21 : decode cX9_add 21 = .ok (.putfield 43, 3) := by decide +kernel
theorem dX9_add_24 : decode cX9_add 24 = .ok (.aload 7, 2) := by decide +kernel
theorem dX9_add_26 : decode cX9_add 26 = .ok (.iload_n 3, 1) := by decide +kernel
theorem dX9_add_27 : decode cX9_add 27 = .ok (.putfield 46, 3) := by decide +kernel
theorem dX9_add_30 : decode cX9_add 30 = .ok (.aload 7, 2) := by decide +kernel
theorem dX9_add_32 : decode cX9_add 32 = .ok (.iload 4, 2) := by decide +kernel
theorem dX9_add_34 : decode cX9_add 34 = .ok (.putfield 49, 3) := by decide +kernel
theorem dX9_add_37 : decode cX9_add 37 = .ok (.aload 7, 2) := by decide +kernel
theorem dX9_add_39 : decode cX9_add 39 = .ok (.iload 5, 2) := by decide +kernel
theorem dX9_add_41 : decode cX9_add 41 = .ok (.putfield 52, 3) := by decide +kernel
theorem dX9_add_44 : decode cX9_add 44 = .ok (.aload_n 0, 1) := by decide +kernel
theorem dX9_add_45 : decode cX9_add 45 = .ok (.getfield 29, 3) := by decide +kernel
theorem dX9_add_48 : decode cX9_add 48 = .ok (.ifCond .eq 28, 3) := by decide +kernel
theorem dX9_add_51 : decode cX9_add 51 = .ok (.aload 7, 2) := by decide +kernel
theorem dX9_add_53 : decode cX9_add 53 = .ok (.aload_n 0, 1) := by decide +kernel
theorem dX9_add_54 : decode cX9_add 54 = .ok (.iload 6, 2) := by decide +kernel
theorem dX9_add_56 : decode cX9_add 56 = .ok (.invokevirtual 37, 3) := by decide +kernel
theorem dX9_add_59 : decode cX9_add 59 = .ok (.putfield 55, 3) := by decide +kernel
theorem dX9_add_62 : decode cX9_add 62 = .ok (.aload 7, 2) := by decide +kernel
theorem dX9_add_64 : decode cX9_add 64 = .ok (.aload_n 0, 1) := by decide +kernel
theorem dX9_add_65 : decode cX9_add 65 = .ok (.aload 7, 2) := by decide +kernel
theorem dX9_add_67 : decode cX9_add 67 = .ok (.getfield 55, 3) := by decide +kernel
theorem dX9_add_70 : decode cX9_add 70 = .ok (.invokevirtual 40, 3) := by decide +kernel
theorem dX9_add_73 : decode cX9_add 73 = .ok (.putfield 58, 3) := by decide +kernel
theorem dX9_add_76 : decode cX9_add 76 = .ok (.aload_n 0, 1) := by decide +kernel
theorem dX9_add_77 : decode cX9_add 77 = .ok (.getfield 25, 3) := by decide +kernel
theorem dX9_add_80 : decode cX9_add 80 = .ok (.istore 8, 2) := by decide +kernel
theorem dX9_add_82 : decode cX9_add 82 = .ok (.iload 8, 2) := by decide +kernel
theorem dX9_add_84 : decode cX9_add 84 = .ok (.iload 6, 2) := by decide +kernel
theorem dX9_add_86 : decode cX9_add 86 = .ok (.if_icmp .le 25, 3) := by decide +kernel
theorem dX9_add_89 : decode cX9_add 89 = .ok (.aload_n 0, 1) := by decide +kernel
theorem dX9_add_90 : decode cX9_add 90 = .ok (.getfield 17, 3) := by decide +kernel
theorem dX9_add_93 : decode cX9_add 93 = .ok (.iload 8, 2) := by decide +kernel
theorem dX9_add_95 : decode cX9_add 95 = .ok (.aload_n 0, 1) := by decide +kernel
theorem dX9_add_96 : decode cX9_add 96 = .ok (.getfield 17, 3) := by decide +kernel
theorem dX9_add_99 : decode cX9_add 99 = .ok (.iload 8, 2) := by decide +kernel
theorem dX9_add_101 : decode cX9_add 101 = .ok (.iconst 1, 1) := by decide +kernel
theorem dX9_add_102 : decode cX9_add 102 = .ok (.isub, 1) := by decide +kernel
theorem dX9_add_103 : decode cX9_add 103 = .ok (.iaload, 1) := by decide +kernel
theorem dX9_add_104 : decode cX9_add 104 = .ok (.iastore, 1) := by decide +kernel
theorem dX9_add_105 : decode cX9_add 105 = .ok (.iinc 8 (-1), 3) := by decide +kernel
theorem dX9_add_108 : decode cX9_add 108 = .ok (.goto (-26), 3) := by decide +kernel
theorem dX9_add_111 : decode cX9_add 111 = .ok (.aload_n 0, 1) := by decide +kernel
theorem dX9_add_112 : decode cX9_add 112 = .ok (.getfield 17, 3) := by decide +kernel
theorem dX9_add_115 : decode cX9_add 115 = .ok (.iload 6, 2) := by decide +kernel
theorem dX9_add_117 : decode cX9_add 117 = .ok (.aload_n 0, 1) := by decide +kernel
theorem dX9_add_118 : decode cX9_add 118 = .ok (.getfield 25, 3) := by decide +kernel
theorem dX9_add_121 : decode cX9_add 121 = .ok (.iastore, 1) := by decide +kernel
theorem dX9_add_122 : decode cX9_add 122 = .ok (.aload_n 0, 1) := by decide +kernel
theorem dX9_add_123 : decode cX9_add 123 = .ok (.dup, 1) := by decide +kernel
theorem dX9_add_124 : decode cX9_add 124 = .ok (.getfield 25, 3) := by decide +kernel
theorem dX9_add_127 : decode cX9_add 127 = .ok (.iconst 1, 1) := by decide +kernel
theorem dX9_add_128 : decode cX9_add 128 = .ok (.iadd, 1) := by decide +kernel
theorem dX9_add_129 : decode cX9_add 129 = .ok (.putfield 25, 3) := by decide +kernel
theorem dX9_add_132 : decode cX9_add 132 = .ok (.aload_n 0, 1) := by decide +kernel
theorem dX9_add_133 : decode cX9_add 133 = .ok (.getfield 25, 3) := by decide +kernel
theorem dX9_add_136 : decode cX9_add 136 = .ok (.iconst 1, 1) := by decide +kernel
theorem dX9_add_137 : decode cX9_add 137 = .ok (.isub, 1) := by decide +kernel
theorem dX9_add_138 : decode cX9_add 138 = .ok (.ireturn, 1) := by decide +kernel
theorem dX9_spotBehind_0 : decode cX9_spotBehind 0 = .ok (.iload_n 1, 1) := by decide +kernel
theorem dX9_spotBehind_1 : decode cX9_spotBehind 1 = .ok (.iconst (-1), 1) := by decide +kernel
theorem dX9_spotBehind_2 : decode cX9_spotBehind 2 = .ok (.if_icmp .ne 7, 3) := by decide +kernel
theorem dX9_spotBehind_5 : decode cX9_spotBehind 5 = .ok (.iconst 0, 1) := by decide +kernel
theorem dX9_spotBehind_6 : decode cX9_spotBehind 6 = .ok (.goto 10, 3) := by decide +kernel
theorem dX9_spotBehind_9 : decode cX9_spotBehind 9 = .ok (.aload_n 0, 1) := by decide +kernel
theorem dX9_spotBehind_10 : decode cX9_spotBehind 10 = .ok (.iload_n 1, 1) := by decide +kernel
theorem dX9_spotBehind_11 : decode cX9_spotBehind 11 = .ok (.invokevirtual 61, 3) := by decide +kernel
theorem dX9_spotBehind_14 : decode cX9_spotBehind 14 = .ok (.iconst 1, 1) := by decide +kernel
theorem dX9_spotBehind_15 : decode cX9_spotBehind 15 = .ok (.iadd, 1) := by decide +kernel
theorem dX9_spotBehind_16 : decode cX9_spotBehind 16 = .ok (.ireturn, 1) := by decide +kernel
theorem dX9_spotOf_0 : decode cX9_spotOf 0 = .ok (.iconst 0, 1) := by decide +kernel
theorem dX9_spotOf_1 : decode cX9_spotOf 1 = .ok (.istore_n 2, 1) := by decide +kernel
theorem dX9_spotOf_2 : decode cX9_spotOf 2 = .ok (.iload_n 2, 1) := by decide +kernel
theorem dX9_spotOf_3 : decode cX9_spotOf 3 = .ok (.aload_n 0, 1) := by decide +kernel
theorem dX9_spotOf_4 : decode cX9_spotOf 4 = .ok (.getfield 25, 3) := by decide +kernel
theorem dX9_spotOf_7 : decode cX9_spotOf 7 = .ok (.if_icmp .ge 21, 3) := by decide +kernel
theorem dX9_spotOf_10 : decode cX9_spotOf 10 = .ok (.aload_n 0, 1) := by decide +kernel
theorem dX9_spotOf_11 : decode cX9_spotOf 11 = .ok (.getfield 17, 3) := by decide +kernel
theorem dX9_spotOf_14 : decode cX9_spotOf 14 = .ok (.iload_n 2, 1) := by decide +kernel
theorem dX9_spotOf_15 : decode cX9_spotOf 15 = .ok (.iaload, 1) := by decide +kernel
theorem dX9_spotOf_16 : decode cX9_spotOf 16 = .ok (.iload_n 1, 1) := by decide +kernel
theorem dX9_spotOf_17 : decode cX9_spotOf 17 = .ok (.if_icmp .ne 5, 3) := by decide +kernel
theorem dX9_spotOf_20 : decode cX9_spotOf 20 = .ok (.iload_n 2, 1) := by decide +kernel
theorem dX9_spotOf_21 : decode cX9_spotOf 21 = .ok (.ireturn, 1) := by decide +kernel
theorem dX9_spotOf_22 : decode cX9_spotOf 22 = .ok (.iinc 2 1, 3) := by decide +kernel
theorem dX9_spotOf_25 : decode cX9_spotOf 25 = .ok (.goto (-23), 3) := by decide +kernel
theorem dX9_spotOf_28 : decode cX9_spotOf 28 = .ok (.iconst 0, 1) := by decide +kernel
theorem dX9_spotOf_29 : decode cX9_spotOf 29 = .ok (.ireturn, 1) := by decide +kernel
theorem dX9_numberAt_0 : decode cX9_numberAt 0 = .ok (.iload_n 1, 1) := by decide +kernel
theorem dX9_numberAt_1 : decode cX9_numberAt 1 = .ok (.iconst 1, 1) := by decide +kernel
theorem dX9_numberAt_2 : decode cX9_numberAt 2 = .ok (.isub, 1) := by decide +kernel
theorem dX9_numberAt_3 : decode cX9_numberAt 3 = .ok (.istore_n 2, 1) := by decide +kernel
theorem dX9_numberAt_4 : decode cX9_numberAt 4 = .ok (.iload_n 2, 1) := by decide +kernel
theorem dX9_numberAt_5 : decode cX9_numberAt 5 = .ok (.ifCond .lt 33, 3) := by decide +kernel
theorem dX9_numberAt_8 : decode cX9_numberAt 8 = .ok (.aload_n 0, 1) := by decide +kernel
theorem dX9_numberAt_9 : decode cX9_numberAt 9 = .ok (.getfield 11, 3) := by decide +kernel
theorem dX9_numberAt_12 : decode cX9_numberAt 12 = .ok (.aload_n 0, 1) := by decide +kernel
theorem dX9_numberAt_13 : decode cX9_numberAt 13 = .ok (.getfield 17, 3) := by decide +kernel
theorem dX9_numberAt_16 : decode cX9_numberAt 16 = .ok (.iload_n 2, 1) := by decide +kernel
theorem dX9_numberAt_17 : decode cX9_numberAt 17 = .ok (.iaload, 1) := by decide +kernel
theorem dX9_numberAt_18 : decode cX9_numberAt 18 = .ok (.aaload, 1) := by decide +kernel
theorem dX9_numberAt_19 : decode cX9_numberAt 19 = .ok (.astore_n 3, 1) := by decide +kernel
theorem dX9_numberAt_20 : decode cX9_numberAt 20 = .ok (.aload_n 3, 1) := by decide +kernel
theorem dX9_numberAt_21 : decode cX9_numberAt 21 = .ok (.getfield 58, 3) := by decide +kernel
theorem dX9_numberAt_24 : decode cX9_numberAt 24 = .ok (.ifCond .ne 8, 3) := by decide +kernel
theorem dX9_numberAt_27 : decode cX9_numberAt 27 = .ok (.aload_n 3, 1) := by decide +kernel
theorem dX9_numberAt_28 : decode cX9_numberAt 28 = .ok (.getfield 55, 3) := by decide +kernel
theorem dX9_numberAt_31 : decode cX9_numberAt 31 = .ok (.ireturn, 1) := by decide +kernel
theorem dX9_numberAt_32 : decode cX9_numberAt 32 = .ok (.iinc 2 (-1), 3) := by decide +kernel
theorem dX9_numberAt_35 : decode cX9_numberAt 35 = .ok (.goto (-31), 3) := by decide +kernel
theorem dX9_numberAt_38 : decode cX9_numberAt 38 = .ok (.iconst 0, 1) := by decide +kernel
theorem dX9_numberAt_39 : decode cX9_numberAt 39 = .ok (.ireturn, 1) := by decide +kernel
theorem dX9_lowestLetter_0 : decode cX9_lowestLetter 0 = .ok (.iconst 0, 1) := by decide +kernel
theorem dX9_lowestLetter_1 : decode cX9_lowestLetter 1 = .ok (.istore_n 2, 1) := by decide +kernel
theorem dX9_lowestLetter_2 : decode cX9_lowestLetter 2 = .ok (.iconst 0, 1) := by decide +kernel
theorem dX9_lowestLetter_3 : decode cX9_lowestLetter 3 = .ok (.istore_n 3, 1) := by decide +kernel
theorem dX9_lowestLetter_4 : decode cX9_lowestLetter 4 = .ok (.iload_n 3, 1) := by decide +kernel
theorem dX9_lowestLetter_5 : decode cX9_lowestLetter 5 = .ok (.aload_n 0, 1) := by decide +kernel
theorem dX9_lowestLetter_6 : decode cX9_lowestLetter 6 = .ok (.getfield 25, 3) := by decide +kernel
theorem dX9_lowestLetter_9 : decode cX9_lowestLetter 9 = .ok (.if_icmp .ge 36, 3) := by decide +kernel
theorem dX9_lowestLetter_12 : decode cX9_lowestLetter 12 = .ok (.aload_n 0, 1) := by decide +kernel
theorem dX9_lowestLetter_13 : decode cX9_lowestLetter 13 = .ok (.getfield 11, 3) := by decide +kernel
theorem dX9_lowestLetter_16 : decode cX9_lowestLetter 16 = .ok (.iload_n 3, 1) := by decide +kernel
theorem dX9_lowestLetter_17 : decode cX9_lowestLetter 17 = .ok (.aaload, 1) := by decide +kernel
theorem dX9_lowestLetter_18 : decode cX9_lowestLetter 18 = .ok (.getfield 55, 3) := by decide +kernel
theorem dX9_lowestLetter_21 : decode cX9_lowestLetter 21 = .ok (.iload_n 1, 1) := by decide +kernel
theorem dX9_lowestLetter_22 : decode cX9_lowestLetter 22 = .ok (.if_icmp .ne 17, 3) := by decide +kernel
theorem dX9_lowestLetter_25 : decode cX9_lowestLetter 25 = .ok (.iload_n 2, 1) := by decide +kernel
theorem dX9_lowestLetter_26 : decode cX9_lowestLetter 26 = .ok (.iconst 1, 1) := by decide +kernel
theorem dX9_lowestLetter_27 : decode cX9_lowestLetter 27 = .ok (.aload_n 0, 1) := by decide +kernel
theorem dX9_lowestLetter_28 : decode cX9_lowestLetter 28 = .ok (.getfield 11, 3) := by decide +kernel
theorem dX9_lowestLetter_31 : decode cX9_lowestLetter 31 = .ok (.iload_n 3, 1) := by decide +kernel
theorem dX9_lowestLetter_32 : decode cX9_lowestLetter 32 = .ok (.aaload, 1) := by decide +kernel
theorem dX9_lowestLetter_33 : decode cX9_lowestLetter 33 = .ok (.getfield 58, 3) := by decide +kernel
theorem dX9_lowestLetter_36 : decode cX9_lowestLetter 36 = .ok (.ishl, 1) := by decide +kernel
theorem dX9_lowestLetter_37 : decode cX9_lowestLetter 37 = .ok (.ior, 1) := by decide +kernel
theorem dX9_lowestLetter_38 : decode cX9_lowestLetter 38 = .ok (.istore_n 2, 1) := by decide +kernel
theorem dX9_lowestLetter_39 : decode cX9_lowestLetter 39 = .ok (.iinc 3 1, 3) := by decide +kernel
theorem dX9_lowestLetter_42 : decode cX9_lowestLetter 42 = .ok (.goto (-38), 3) := by decide +kernel
theorem dX9_lowestLetter_45 : decode cX9_lowestLetter 45 = .ok (.iconst 1, 1) := by decide +kernel
theorem dX9_lowestLetter_46 : decode cX9_lowestLetter 46 = .ok (.istore_n 3, 1) := by decide +kernel
theorem dX9_lowestLetter_47 : decode cX9_lowestLetter 47 = .ok (.iload_n 3, 1) := by decide +kernel
theorem dX9_lowestLetter_48 : decode cX9_lowestLetter 48 = .ok (.bipush 26, 2) := by decide +kernel
theorem dX9_lowestLetter_50 : decode cX9_lowestLetter 50 = .ok (.if_icmp .gt 19, 3) := by decide +kernel
theorem dX9_lowestLetter_53 : decode cX9_lowestLetter 53 = .ok (.iload_n 2, 1) := by decide +kernel
theorem dX9_lowestLetter_54 : decode cX9_lowestLetter 54 = .ok (.iload_n 3, 1) := by decide +kernel
theorem dX9_lowestLetter_55 : decode cX9_lowestLetter 55 = .ok (.invokestatic 64, 3) := by decide +kernel
theorem dX9_lowestLetter_58 : decode cX9_lowestLetter 58 = .ok (.ifCond .ne 5, 3) := by decide +kernel
theorem dX9_lowestLetter_61 : decode cX9_lowestLetter 61 = .ok (.iload_n 3, 1) := by decide +kernel
theorem dX9_lowestLetter_62 : decode cX9_lowestLetter 62 = .ok (.ireturn, 1) := by decide +kernel
theorem dX9_lowestLetter_63 : decode cX9_lowestLetter 63 = .ok (.iinc 3 1, 3) := by decide +kernel
theorem dX9_lowestLetter_66 : decode cX9_lowestLetter 66 = .ok (.goto (-19), 3) := by decide +kernel
theorem dX9_lowestLetter_69 : decode cX9_lowestLetter 69 = .ok (.iconst (-1), 1) := by decide +kernel
theorem dX9_lowestLetter_70 : decode cX9_lowestLetter 70 = .ok (.ireturn, 1) := by decide +kernel
theorem dX9_keepLabels_0 : decode cX9_keepLabels 0 = .ok (.iconst 0, 1) := by decide +kernel
theorem dX9_keepLabels_1 : decode cX9_keepLabels 1 = .ok (.istore_n 1, 1) := by decide +kernel
theorem dX9_keepLabels_2 : decode cX9_keepLabels 2 = .ok (.iload_n 1, 1) := by decide +kernel
theorem dX9_keepLabels_3 : decode cX9_keepLabels 3 = .ok (.aload_n 0, 1) := by decide +kernel
theorem dX9_keepLabels_4 : decode cX9_keepLabels 4 = .ok (.getfield 25, 3) := by decide +kernel
theorem dX9_keepLabels_7 : decode cX9_keepLabels 7 = .ok (.if_icmp .ge 26, 3) := by decide +kernel
theorem dX9_keepLabels_10 : decode cX9_keepLabels 10 = .ok (.aload_n 0, 1) := by decide +kernel
theorem dX9_keepLabels_11 : decode cX9_keepLabels 11 = .ok (.getfield 11, 3) := by decide +kernel
theorem dX9_keepLabels_14 : decode cX9_keepLabels 14 = .ok (.aload_n 0, 1) := by decide +kernel
theorem dX9_keepLabels_15 : decode cX9_keepLabels 15 = .ok (.getfield 17, 3) := by decide +kernel
theorem dX9_keepLabels_18 : decode cX9_keepLabels 18 = .ok (.iload_n 1, 1) := by decide +kernel
theorem dX9_keepLabels_19 : decode cX9_keepLabels 19 = .ok (.iaload, 1) := by decide +kernel
theorem dX9_keepLabels_20 : decode cX9_keepLabels 20 = .ok (.aaload, 1) := by decide +kernel
theorem dX9_keepLabels_21 : decode cX9_keepLabels 21 = .ok (.iload_n 1, 1) := by decide +kernel
theorem dX9_keepLabels_22 : decode cX9_keepLabels 22 = .ok (.iconst 1, 1) := by decide +kernel
theorem dX9_keepLabels_23 : decode cX9_keepLabels 23 = .ok (.iadd, 1) := by decide +kernel
theorem dX9_keepLabels_24 : decode cX9_keepLabels 24 = .ok (.putfield 55, 3) := by decide +kernel
theorem dX9_keepLabels_27 : decode cX9_keepLabels 27 = .ok (.iinc 1 1, 3) := by decide +kernel
theorem dX9_keepLabels_30 : decode cX9_keepLabels 30 = .ok (.goto (-28), 3) := by decide +kernel
theorem dX9_keepLabels_33 : decode cX9_keepLabels 33 = .ok (.aload_n 0, 1) := by decide +kernel
theorem dX9_keepLabels_34 : decode cX9_keepLabels 34 = .ok (.iconst 1, 1) := by decide +kernel
theorem dX9_keepLabels_35 : decode cX9_keepLabels 35 = .ok (.putfield 29, 3) := by decide +kernel
theorem dX9_keepLabels_38 : decode cX9_keepLabels 38 = .ok (.return_, 1) := by decide +kernel
theorem dX9_labelOf_0 : decode cX9_labelOf 0 = .ok (.aload_n 0, 1) := by decide +kernel
theorem dX9_labelOf_1 : decode cX9_labelOf 1 = .ok (.getfield 29, 3) := by decide +kernel
theorem dX9_labelOf_4 : decode cX9_labelOf 4 = .ok (.ifCond .ne 14, 3) := by decide +kernel
theorem dX9_labelOf_7 : decode cX9_labelOf 7 = .ok (.bipush 100, 2) := by decide +kernel
theorem dX9_labelOf_9 : decode cX9_labelOf 9 = .ok (.aload_n 0, 1) := by decide +kernel
theorem dX9_labelOf_10 : decode cX9_labelOf 10 = .ok (.iload_n 1, 1) := by decide +kernel
theorem dX9_labelOf_11 : decode cX9_labelOf 11 = .ok (.invokevirtual 61, 3) := by decide +kernel
theorem dX9_labelOf_14 : decode cX9_labelOf 14 = .ok (.iconst 1, 1) := by decide +kernel
theorem dX9_labelOf_15 : decode cX9_labelOf 15 = .ok (.iadd, 1) := by decide +kernel
theorem dX9_labelOf_16 : decode cX9_labelOf 16 = .ok (.imul, 1) := by decide +kernel
theorem dX9_labelOf_17 : decode cX9_labelOf 17 = .ok (.ireturn, 1) := by decide +kernel
theorem dX9_labelOf_18 : decode cX9_labelOf 18 = .ok (.bipush 100, 2) := by decide +kernel
theorem dX9_labelOf_20 : decode cX9_labelOf 20 = .ok (.aload_n 0, 1) := by decide +kernel
theorem dX9_labelOf_21 : decode cX9_labelOf 21 = .ok (.getfield 11, 3) := by decide +kernel
theorem dX9_labelOf_24 : decode cX9_labelOf 24 = .ok (.iload_n 1, 1) := by decide +kernel
theorem dX9_labelOf_25 : decode cX9_labelOf 25 = .ok (.aaload, 1) := by decide +kernel
theorem dX9_labelOf_26 : decode cX9_labelOf 26 = .ok (.getfield 55, 3) := by decide +kernel
theorem dX9_labelOf_29 : decode cX9_labelOf 29 = .ok (.imul, 1) := by decide +kernel
theorem dX9_labelOf_30 : decode cX9_labelOf 30 = .ok (.aload_n 0, 1) := by decide +kernel
theorem dX9_labelOf_31 : decode cX9_labelOf 31 = .ok (.getfield 11, 3) := by decide +kernel
theorem dX9_labelOf_34 : decode cX9_labelOf 34 = .ok (.iload_n 1, 1) := by decide +kernel
theorem dX9_labelOf_35 : decode cX9_labelOf 35 = .ok (.aaload, 1) := by decide +kernel
theorem dX9_labelOf_36 : decode cX9_labelOf 36 = .ok (.getfield 58, 3) := by decide +kernel
theorem dX9_labelOf_39 : decode cX9_labelOf 39 = .ok (.iadd, 1) := by decide +kernel
theorem dX9_labelOf_40 : decode cX9_labelOf 40 = .ok (.ireturn, 1) := by decide +kernel
theorem dX9_countOf_0 : decode cX9_countOf 0 = .ok (.iconst 0, 1) := by decide +kernel
theorem dX9_countOf_1 : decode cX9_countOf 1 = .ok (.istore_n 2, 1) := by decide +kernel
theorem dX9_countOf_2 : decode cX9_countOf 2 = .ok (.iconst 0, 1) := by decide +kernel
theorem dX9_countOf_3 : decode cX9_countOf 3 = .ok (.istore_n 3, 1) := by decide +kernel
theorem dX9_countOf_4 : decode cX9_countOf 4 = .ok (.iload_n 3, 1) := by decide +kernel
theorem dX9_countOf_5 : decode cX9_countOf 5 = .ok (.aload_n 0, 1) := by decide +kernel
theorem dX9_countOf_6 : decode cX9_countOf 6 = .ok (.getfield 25, 3) := by decide +kernel
theorem dX9_countOf_9 : decode cX9_countOf 9 = .ok (.if_icmp .ge 25, 3) := by decide +kernel
theorem dX9_countOf_12 : decode cX9_countOf 12 = .ok (.aload_n 0, 1) := by decide +kernel
theorem dX9_countOf_13 : decode cX9_countOf 13 = .ok (.getfield 11, 3) := by decide +kernel
theorem dX9_countOf_16 : decode cX9_countOf 16 = .ok (.iload_n 3, 1) := by decide +kernel
theorem dX9_countOf_17 : decode cX9_countOf 17 = .ok (.aaload, 1) := by decide +kernel
theorem dX9_countOf_18 : decode cX9_countOf 18 = .ok (.invokevirtual 68, 3) := by decide +kernel
theorem dX9_countOf_21 : decode cX9_countOf 21 = .ok (.iload_n 1, 1) := by decide +kernel
theorem dX9_countOf_22 : decode cX9_countOf 22 = .ok (.if_icmp .ne 6, 3) := by decide +kernel
theorem dX9_countOf_25 : decode cX9_countOf 25 = .ok (.iinc 2 1, 3) := by decide +kernel
theorem dX9_countOf_28 : decode cX9_countOf 28 = .ok (.iinc 3 1, 3) := by decide +kernel
theorem dX9_countOf_31 : decode cX9_countOf 31 = .ok (.goto (-27), 3) := by decide +kernel
theorem dX9_countOf_34 : decode cX9_countOf 34 = .ok (.iload_n 2, 1) := by decide +kernel
theorem dX9_countOf_35 : decode cX9_countOf 35 = .ok (.ireturn, 1) := by decide +kernel
theorem dX9_findClashes_0 : decode cX9_findClashes 0 = .ok (.aload_n 0, 1) := by decide +kernel
theorem dX9_findClashes_1 : decode cX9_findClashes 1 = .ok (.getfield 21, 3) := by decide +kernel
theorem dX9_findClashes_4 : decode cX9_findClashes 4 = .ok (.iconst 0, 1) := by decide +kernel
theorem dX9_findClashes_5 : decode cX9_findClashes 5 = .ok (.invokestatic 72, 3) := by decide +kernel
theorem dX9_findClashes_8 : decode cX9_findClashes 8 = .ok (.iconst 0, 1) := by decide +kernel
theorem dX9_findClashes_9 : decode cX9_findClashes 9 = .ok (.istore_n 1, 1) := by decide +kernel
theorem dX9_findClashes_10 : decode cX9_findClashes 10 = .ok (.iconst 0, 1) := by decide +kernel
theorem dX9_findClashes_11 : decode cX9_findClashes 11 = .ok (.istore_n 2, 1) := by decide +kernel
theorem dX9_findClashes_12 : decode cX9_findClashes 12 = .ok (.iload_n 2, 1) := by decide +kernel
theorem dX9_findClashes_13 : decode cX9_findClashes 13 = .ok (.aload_n 0, 1) := by decide +kernel
theorem dX9_findClashes_14 : decode cX9_findClashes 14 = .ok (.getfield 25, 3) := by decide +kernel
theorem dX9_findClashes_17 : decode cX9_findClashes 17 = .ok (.if_icmp .ge 67, 3) := by decide +kernel
theorem dX9_findClashes_20 : decode cX9_findClashes 20 = .ok (.aload_n 0, 1) := by decide +kernel
theorem dX9_findClashes_21 : decode cX9_findClashes 21 = .ok (.getfield 11, 3) := by decide +kernel
theorem dX9_findClashes_24 : decode cX9_findClashes 24 = .ok (.aload_n 0, 1) := by decide +kernel
theorem dX9_findClashes_25 : decode cX9_findClashes 25 = .ok (.getfield 17, 3) := by decide +kernel
theorem dX9_findClashes_28 : decode cX9_findClashes 28 = .ok (.iload_n 2, 1) := by decide +kernel
theorem dX9_findClashes_29 : decode cX9_findClashes 29 = .ok (.iaload, 1) := by decide +kernel
theorem dX9_findClashes_30 : decode cX9_findClashes 30 = .ok (.aaload, 1) := by decide +kernel
theorem dX9_findClashes_31 : decode cX9_findClashes 31 = .ok (.astore_n 3, 1) := by decide +kernel
theorem dX9_findClashes_32 : decode cX9_findClashes 32 = .ok (.aload_n 3, 1) := by decide +kernel
theorem dX9_findClashes_33 : decode cX9_findClashes 33 = .ok (.aload_n 3, 1) := by decide +kernel
theorem dX9_findClashes_34 : decode cX9_findClashes 34 = .ok (.getfield 78, 3) := by decide +kernel
theorem dX9_findClashes_37 : decode cX9_findClashes 37 = .ok (.ifCond .ne 15, 3) := by decide +kernel
theorem dX9_findClashes_40 : decode cX9_findClashes 40 = .ok (.aload_n 0, 1) := by decide +kernel
theorem dX9_findClashes_41 : decode cX9_findClashes 41 = .ok (.aload_n 3, 1) := by decide +kernel
theorem dX9_findClashes_42 : decode cX9_findClashes 42 = .ok (.invokevirtual 81, 3) := by decide +kernel
theorem dX9_findClashes_45 : decode cX9_findClashes 45 = .ok (.ifCond .eq 7, 3) := by decide +kernel
theorem dX9_findClashes_48 : decode cX9_findClashes 48 = .ok (.iconst 1, 1) := by decide +kernel
theorem dX9_findClashes_49 : decode cX9_findClashes 49 = .ok (.goto 4, 3) := by decide +kernel
theorem dX9_findClashes_52 : decode cX9_findClashes 52 = .ok (.iconst 0, 1) := by decide +kernel
theorem dX9_findClashes_53 : decode cX9_findClashes 53 = .ok (.putfield 85, 3) := by decide +kernel
theorem dX9_findClashes_56 : decode cX9_findClashes 56 = .ok (.aload_n 3, 1) := by decide +kernel
theorem dX9_findClashes_57 : decode cX9_findClashes 57 = .ok (.getfield 85, 3) := by decide +kernel
theorem dX9_findClashes_60 : decode cX9_findClashes 60 = .ok (.ifCond .eq 6, 3) := by decide +kernel
theorem dX9_findClashes_63 : decode cX9_findClashes 63 = .ok (.iinc 1 1, 3) := by decide +kernel
theorem dX9_findClashes_66 : decode cX9_findClashes 66 = .ok (.aload_n 3, 1) := by decide +kernel
theorem dX9_findClashes_67 : decode cX9_findClashes 67 = .ok (.getfield 78, 3) := by decide +kernel
theorem dX9_findClashes_70 : decode cX9_findClashes 70 = .ok (.ifCond .ne 8, 3) := by decide +kernel
theorem dX9_findClashes_73 : decode cX9_findClashes 73 = .ok (.aload_n 0, 1) := by decide +kernel
theorem dX9_findClashes_74 : decode cX9_findClashes 74 = .ok (.aload_n 3, 1) := by decide +kernel
theorem dX9_findClashes_75 : decode cX9_findClashes 75 = .ok (.invokevirtual 88, 3) := by decide +kernel
theorem dX9_findClashes_78 : decode cX9_findClashes 78 = .ok (.iinc 2 1, 3) := by decide +kernel
theorem dX9_findClashes_81 : decode cX9_findClashes 81 = .ok (.goto (-69), 3) := by decide +kernel
theorem dX9_findClashes_84 : decode cX9_findClashes 84 = .ok (.iload_n 1, 1) := by decide +kernel
theorem dX9_findClashes_85 : decode cX9_findClashes 85 = .ok (.ireturn, 1) := by decide +kernel
theorem dX9_wantsOther_0 : decode cX9_wantsOther 0 = .ok (.iconst 0, 1) := by decide +kernel
theorem dX9_wantsOther_1 : decode cX9_wantsOther 1 = .ok (.istore_n 2, 1) := by decide +kernel
theorem dX9_wantsOther_2 : decode cX9_wantsOther 2 = .ok (.iload_n 2, 1) := by decide +kernel
theorem dX9_wantsOther_3 : decode cX9_wantsOther 3 = .ok (.iconst 4, 1) := by decide +kernel
theorem dX9_wantsOther_4 : decode cX9_wantsOther 4 = .ok (.if_icmp .ge 36, 3) := by decide +kernel
theorem dX9_wantsOther_7 : decode cX9_wantsOther 7 = .ok (.aload_n 1, 1) := by decide +kernel
theorem dX9_wantsOther_8 : decode cX9_wantsOther 8 = .ok (.getfield 92, 3) := by decide +kernel
theorem dX9_wantsOther_11 : decode cX9_wantsOther 11 = .ok (.iload_n 2, 1) := by decide +kernel
theorem dX9_wantsOther_12 : decode cX9_wantsOther 12 = .ok (.iaload, 1) := by decide +kernel
theorem dX9_wantsOther_13 : decode cX9_wantsOther 13 = .ok (.iconst (-1), 1) := by decide +kernel
theorem dX9_wantsOther_14 : decode cX9_wantsOther 14 = .ok (.if_icmp .eq 20, 3) := by decide +kernel
theorem dX9_wantsOther_17 : decode cX9_wantsOther 17 = .ok (.aload_n 1, 1) := by decide +kernel
theorem dX9_wantsOther_18 : decode cX9_wantsOther 18 = .ok (.getfield 92, 3) := by decide +kernel
theorem dX9_wantsOther_21 : decode cX9_wantsOther 21 = .ok (.iload_n 2, 1) := by decide +kernel
theorem dX9_wantsOther_22 : decode cX9_wantsOther 22 = .ok (.iaload, 1) := by decide +kernel
theorem dX9_wantsOther_23 : decode cX9_wantsOther 23 = .ok (.aload_n 0, 1) := by decide +kernel
theorem dX9_wantsOther_24 : decode cX9_wantsOther 24 = .ok (.getfield 21, 3) := by decide +kernel
theorem dX9_wantsOther_27 : decode cX9_wantsOther 27 = .ok (.iload_n 2, 1) := by decide +kernel
theorem dX9_wantsOther_28 : decode cX9_wantsOther 28 = .ok (.iaload, 1) := by decide +kernel
theorem dX9_wantsOther_29 : decode cX9_wantsOther 29 = .ok (.if_icmp .eq 5, 3) := by decide +kernel
theorem dX9_wantsOther_32 : decode cX9_wantsOther 32 = .ok (.iconst 1, 1) := by decide +kernel
theorem dX9_wantsOther_33 : decode cX9_wantsOther 33 = .ok (.ireturn, 1) := by decide +kernel
theorem dX9_wantsOther_34 : decode cX9_wantsOther 34 = .ok (.iinc 2 1, 3) := by decide +kernel
theorem dX9_wantsOther_37 : decode cX9_wantsOther 37 = .ok (.goto (-35), 3) := by decide +kernel
theorem dX9_wantsOther_40 : decode cX9_wantsOther 40 = .ok (.iconst 0, 1) := by decide +kernel
theorem dX9_wantsOther_41 : decode cX9_wantsOther 41 = .ok (.ireturn, 1) := by decide +kernel
theorem dX9_leaveLooks_0 : decode cX9_leaveLooks 0 = .ok (.iconst 0, 1) := by decide +kernel
theorem dX9_leaveLooks_1 : decode cX9_leaveLooks 1 = .ok (.istore_n 2, 1) := by decide +kernel
theorem dX9_leaveLooks_2 : decode cX9_leaveLooks 2 = .ok (.iload_n 2, 1) := by decide +kernel
theorem dX9_leaveLooks_3 : decode cX9_leaveLooks 3 = .ok (.iconst 4, 1) := by decide +kernel
theorem dX9_leaveLooks_4 : decode cX9_leaveLooks 4 = .ok (.if_icmp .ge 31, 3) := by decide +kernel
theorem dX9_leaveLooks_7 : decode cX9_leaveLooks 7 = .ok (.aload_n 1, 1) := by decide +kernel
theorem dX9_leaveLooks_8 : decode cX9_leaveLooks 8 = .ok (.getfield 95, 3) := by decide +kernel
theorem dX9_leaveLooks_11 : decode cX9_leaveLooks 11 = .ok (.iload_n 2, 1) := by decide +kernel
theorem dX9_leaveLooks_12 : decode cX9_leaveLooks 12 = .ok (.iaload, 1) := by decide +kernel
theorem dX9_leaveLooks_13 : decode cX9_leaveLooks 13 = .ok (.iconst (-1), 1) := by decide +kernel
theorem dX9_leaveLooks_14 : decode cX9_leaveLooks 14 = .ok (.if_icmp .eq 15, 3) := by decide +kernel
theorem dX9_leaveLooks_17 : decode cX9_leaveLooks 17 = .ok (.aload_n 0, 1) := by decide +kernel
theorem dX9_leaveLooks_18 : decode cX9_leaveLooks 18 = .ok (.getfield 21, 3) := by decide +kernel
theorem dX9_leaveLooks_21 : decode cX9_leaveLooks 21 = .ok (.iload_n 2, 1) := by decide +kernel
theorem dX9_leaveLooks_22 : decode cX9_leaveLooks 22 = .ok (.aload_n 1, 1) := by decide +kernel
theorem dX9_leaveLooks_23 : decode cX9_leaveLooks 23 = .ok (.getfield 95, 3) := by decide +kernel
theorem dX9_leaveLooks_26 : decode cX9_leaveLooks 26 = .ok (.iload_n 2, 1) := by decide +kernel
theorem dX9_leaveLooks_27 : decode cX9_leaveLooks 27 = .ok (.iaload, 1) := by decide +kernel
theorem dX9_leaveLooks_28 : decode cX9_leaveLooks 28 = .ok (.iastore, 1) := by decide +kernel
theorem dX9_leaveLooks_29 : decode cX9_leaveLooks 29 = .ok (.iinc 2 1, 3) := by decide +kernel
theorem dX9_leaveLooks_32 : decode cX9_leaveLooks 32 = .ok (.goto (-30), 3) := by decide +kernel
theorem dX9_leaveLooks_35 : decode cX9_leaveLooks 35 = .ok (.return_, 1) := by decide +kernel
theorem dX9_leadsTo_0 : decode cX9_leadsTo 0 = .ok (.iconst 1, 1) := by decide +kernel
theorem dX9_leadsTo_1 : decode cX9_leadsTo 1 = .ok (.iload_n 1, 1) := by decide +kernel
theorem dX9_leadsTo_2 : decode cX9_leadsTo 2 = .ok (.ishl, 1) := by decide +kernel
theorem dX9_leadsTo_3 : decode cX9_leadsTo 3 = .ok (.istore_n 3, 1) := by decide +kernel
theorem dX9_leadsTo_4 : decode cX9_leadsTo 4 = .ok (.iconst 0, 1) := by decide +kernel
theorem dX9_leadsTo_5 : decode cX9_leadsTo 5 = .ok (.istore 4, 2) := by decide +kernel
theorem dX9_leadsTo_7 : decode cX9_leadsTo 7 = .ok (.iload 4, 2) := by decide +kernel
theorem dX9_leadsTo_9 : decode cX9_leadsTo 9 = .ok (.aload_n 0, 1) := by decide +kernel
theorem dX9_leadsTo_10 : decode cX9_leadsTo 10 = .ok (.getfield 25, 3) := by decide +kernel
theorem dX9_leadsTo_13 : decode cX9_leadsTo 13 = .ok (.if_icmp .ge 49, 3) := by decide +kernel
theorem dX9_leadsTo_16 : decode cX9_leadsTo 16 = .ok (.iconst 0, 1) := by decide +kernel
theorem dX9_leadsTo_17 : decode cX9_leadsTo 17 = .ok (.istore 5, 2) := by decide +kernel
theorem dX9_leadsTo_19 : decode cX9_leadsTo 19 = .ok (.iload 5, 2) := by decide +kernel
theorem dX9_leadsTo_21 : decode cX9_leadsTo 21 = .ok (.aload_n 0, 1) := by decide +kernel
theorem dX9_leadsTo_22 : decode cX9_leadsTo 22 = .ok (.getfield 25, 3) := by decide +kernel
theorem dX9_leadsTo_25 : decode cX9_leadsTo 25 = .ok (.if_icmp .ge 31, 3) := by decide +kernel
theorem dX9_leadsTo_28 : decode cX9_leadsTo 28 = .ok (.iload_n 3, 1) := by decide +kernel
theorem dX9_leadsTo_29 : decode cX9_leadsTo 29 = .ok (.iload 5, 2) := by decide +kernel
theorem dX9_leadsTo_31 : decode cX9_leadsTo 31 = .ok (.invokestatic 64, 3) := by decide +kernel
theorem dX9_leadsTo_34 : decode cX9_leadsTo 34 = .ok (.ifCond .eq 16, 3) := by decide +kernel
theorem dX9_leadsTo_37 : decode cX9_leadsTo 37 = .ok (.iload_n 3, 1) := by decide +kernel
theorem dX9_leadsTo_38 : decode cX9_leadsTo 38 = .ok (.aload_n 0, 1) := by decide +kernel
theorem dX9_leadsTo_39 : decode cX9_leadsTo 39 = .ok (.getfield 11, 3) := by decide +kernel
theorem dX9_leadsTo_42 : decode cX9_leadsTo 42 = .ok (.iload 5, 2) := by decide +kernel
theorem dX9_leadsTo_44 : decode cX9_leadsTo 44 = .ok (.aaload, 1) := by decide +kernel
theorem dX9_leadsTo_45 : decode cX9_leadsTo 45 = .ok (.getfield 98, 3) := by decide +kernel
theorem dX9_leadsTo_48 : decode cX9_leadsTo 48 = .ok (.ior, 1) := by decide +kernel
theorem dX9_leadsTo_49 : decode cX9_leadsTo 49 = .ok (.istore_n 3, 1) := by decide +kernel
theorem dX9_leadsTo_50 : decode cX9_leadsTo 50 = .ok (.iinc 5 1, 3) := by decide +kernel
theorem dX9_leadsTo_53 : decode cX9_leadsTo 53 = .ok (.goto (-34), 3) := by decide +kernel
theorem dX9_leadsTo_56 : decode cX9_leadsTo 56 = .ok (.iinc 4 1, 3) := by decide +kernel
theorem dX9_leadsTo_59 : decode cX9_leadsTo 59 = .ok (.goto (-52), 3) := by decide +kernel
theorem dX9_leadsTo_62 : decode cX9_leadsTo 62 = .ok (.iload_n 3, 1) := by decide +kernel
theorem dX9_leadsTo_63 : decode cX9_leadsTo 63 = .ok (.iload_n 2, 1) := by decide +kernel
theorem dX9_leadsTo_64 : decode cX9_leadsTo 64 = .ok (.invokestatic 64, 3) := by decide +kernel
theorem dX9_leadsTo_67 : decode cX9_leadsTo 67 = .ok (.ireturn, 1) := by decide +kernel
theorem dX9_firstToTry_0 : decode cX9_firstToTry 0 = .ok (.iconst 0, 1) := by decide +kernel
theorem dX9_firstToTry_1 : decode cX9_firstToTry 1 = .ok (.istore_n 2, 1) := by decide +kernel
theorem dX9_firstToTry_2 : decode cX9_firstToTry 2 = .ok (.iload_n 2, 1) := by decide +kernel
theorem dX9_firstToTry_3 : decode cX9_firstToTry 3 = .ok (.aload_n 0, 1) := by decide +kernel
theorem dX9_firstToTry_4 : decode cX9_firstToTry 4 = .ok (.getfield 25, 3) := by decide +kernel
theorem dX9_firstToTry_7 : decode cX9_firstToTry 7 = .ok (.if_icmp .ge 56, 3) := by decide +kernel
theorem dX9_firstToTry_10 : decode cX9_firstToTry 10 = .ok (.aload_n 0, 1) := by decide +kernel
theorem dX9_firstToTry_11 : decode cX9_firstToTry 11 = .ok (.getfield 11, 3) := by decide +kernel
theorem dX9_firstToTry_14 : decode cX9_firstToTry 14 = .ok (.aload_n 0, 1) := by decide +kernel
theorem dX9_firstToTry_15 : decode cX9_firstToTry 15 = .ok (.getfield 17, 3) := by decide +kernel
theorem dX9_firstToTry_18 : decode cX9_firstToTry 18 = .ok (.iload_n 2, 1) := by decide +kernel
theorem dX9_firstToTry_19 : decode cX9_firstToTry 19 = .ok (.iaload, 1) := by decide +kernel
theorem dX9_firstToTry_20 : decode cX9_firstToTry 20 = .ok (.aaload, 1) := by decide +kernel
theorem dX9_firstToTry_21 : decode cX9_firstToTry 21 = .ok (.astore_n 3, 1) := by decide +kernel
theorem dX9_firstToTry_22 : decode cX9_firstToTry 22 = .ok (.iload_n 1, 1) := by decide +kernel
theorem dX9_firstToTry_23 : decode cX9_firstToTry 23 = .ok (.aload_n 0, 1) := by decide +kernel
theorem dX9_firstToTry_24 : decode cX9_firstToTry 24 = .ok (.getfield 17, 3) := by decide +kernel
theorem dX9_firstToTry_27 : decode cX9_firstToTry 27 = .ok (.iload_n 2, 1) := by decide +kernel
theorem dX9_firstToTry_28 : decode cX9_firstToTry 28 = .ok (.iaload, 1) := by decide +kernel
theorem dX9_firstToTry_29 : decode cX9_firstToTry 29 = .ok (.invokestatic 64, 3) := by decide +kernel
theorem dX9_firstToTry_32 : decode cX9_firstToTry 32 = .ok (.ifCond .ne 25, 3) := by decide +kernel
theorem dX9_firstToTry_35 : decode cX9_firstToTry 35 = .ok (.aload_n 3, 1) := by decide +kernel
theorem dX9_firstToTry_36 : decode cX9_firstToTry 36 = .ok (.invokevirtual 101, 3) := by decide +kernel
theorem dX9_firstToTry_39 : decode cX9_firstToTry 39 = .ok (.ifCond .eq 18, 3) := by decide +kernel
theorem dX9_firstToTry_42 : decode cX9_firstToTry 42 = .ok (.aload_n 0, 1) := by decide +kernel
theorem dX9_firstToTry_43 : decode cX9_firstToTry 43 = .ok (.aload_n 3, 1) := by decide +kernel
theorem dX9_firstToTry_44 : decode cX9_firstToTry 44 = .ok (.invokevirtual 105, 3) := by decide +kernel
theorem dX9_firstToTry_47 : decode cX9_firstToTry 47 = .ok (.ifCond .eq 10, 3) := by decide +kernel
theorem dX9_firstToTry_50 : decode cX9_firstToTry 50 = .ok (.aload_n 0, 1) := by decide +kernel
theorem dX9_firstToTry_51 : decode cX9_firstToTry 51 = .ok (.getfield 17, 3) := by decide +kernel
theorem dX9_firstToTry_54 : decode cX9_firstToTry 54 = .ok (.iload_n 2, 1) := by decide +kernel
theorem dX9_firstToTry_55 : decode cX9_firstToTry 55 = .ok (.iaload, 1) := by decide +kernel
theorem dX9_firstToTry_56 : decode cX9_firstToTry 56 = .ok (.ireturn, 1) := by decide +kernel
theorem dX9_firstToTry_57 : decode cX9_firstToTry 57 = .ok (.iinc 2 1, 3) := by decide +kernel
theorem dX9_firstToTry_60 : decode cX9_firstToTry 60 = .ok (.goto (-58), 3) := by decide +kernel
theorem dX9_firstToTry_63 : decode cX9_firstToTry 63 = .ok (.iconst (-1), 1) := by decide +kernel
theorem dX9_firstToTry_64 : decode cX9_firstToTry 64 = .ok (.ireturn, 1) := by decide +kernel
theorem dX9_isFree_0 : decode cX9_isFree 0 = .ok (.iconst 0, 1) := by decide +kernel
theorem dX9_isFree_1 : decode cX9_isFree 1 = .ok (.istore_n 2, 1) := by decide +kernel
theorem dX9_isFree_2 : decode cX9_isFree 2 = .ok (.iload_n 2, 1) := by decide +kernel
theorem dX9_isFree_3 : decode cX9_isFree 3 = .ok (.aload_n 0, 1) := by decide +kernel
theorem dX9_isFree_4 : decode cX9_isFree 4 = .ok (.getfield 25, 3) := by decide +kernel
theorem dX9_isFree_7 : decode cX9_isFree 7 = .ok (.if_icmp .ge 34, 3) := by decide +kernel
theorem dX9_isFree_10 : decode cX9_isFree 10 = .ok (.aload_n 1, 1) := by decide +kernel
theorem dX9_isFree_11 : decode cX9_isFree 11 = .ok (.getfield 98, 3) := by decide +kernel
theorem dX9_isFree_14 : decode cX9_isFree 14 = .ok (.iload_n 2, 1) := by decide +kernel
theorem dX9_isFree_15 : decode cX9_isFree 15 = .ok (.invokestatic 64, 3) := by decide +kernel
theorem dX9_isFree_18 : decode cX9_isFree 18 = .ok (.ifCond .eq 17, 3) := by decide +kernel
theorem dX9_isFree_21 : decode cX9_isFree 21 = .ok (.aload_n 0, 1) := by decide +kernel
theorem dX9_isFree_22 : decode cX9_isFree 22 = .ok (.getfield 11, 3) := by decide +kernel
theorem dX9_isFree_25 : decode cX9_isFree 25 = .ok (.iload_n 2, 1) := by decide +kernel
theorem dX9_isFree_26 : decode cX9_isFree 26 = .ok (.aaload, 1) := by decide +kernel
theorem dX9_isFree_27 : decode cX9_isFree 27 = .ok (.invokevirtual 108, 3) := by decide +kernel
theorem dX9_isFree_30 : decode cX9_isFree 30 = .ok (.ifCond .ne 5, 3) := by decide +kernel
theorem dX9_isFree_33 : decode cX9_isFree 33 = .ok (.iconst 0, 1) := by decide +kernel
theorem dX9_isFree_34 : decode cX9_isFree 34 = .ok (.ireturn, 1) := by decide +kernel
theorem dX9_isFree_35 : decode cX9_isFree 35 = .ok (.iinc 2 1, 3) := by decide +kernel
theorem dX9_isFree_38 : decode cX9_isFree 38 = .ok (.goto (-36), 3) := by decide +kernel
theorem dX9_isFree_41 : decode cX9_isFree 41 = .ok (.iconst 1, 1) := by decide +kernel
theorem dX9_isFree_42 : decode cX9_isFree 42 = .ok (.ireturn, 1) := by decide +kernel
theorem dX10_init_0 : decode cX10_init 0 = .ok (.aload_n 0, 1) := by decide +kernel
theorem dX10_init_1 : decode cX10_init 1 = .ok (.invokespecial 1, 3) := by decide +kernel
theorem dX10_init_4 : decode cX10_init 4 = .ok (.aload_n 0, 1) := by decide +kernel
theorem dX10_init_5 : decode cX10_init 5 = .ok (.new 7, 3) := by decide +kernel
theorem dX10_init_8 : decode cX10_init 8 = .ok (.dup, 1) := by decide +kernel
theorem dX10_init_9 : decode cX10_init 9 = .ok (.invokespecial 9, 3) := by decide +kernel
theorem dX10_init_12 : decode cX10_init 12 = .ok (.putfield 10, 3) := by decide +kernel
theorem dX10_init_15 : decode cX10_init 15 = .ok (.aload_n 0, 1) := by decide +kernel
theorem dX10_init_16 : decode cX10_init 16 = .ok (.new 16, 3) := by decide +kernel
theorem dX10_init_19 : decode cX10_init 19 = .ok (.dup, 1) := by decide +kernel
theorem dX10_init_20 : decode cX10_init 20 = .ok (.invokespecial 18, 3) := by decide +kernel
theorem dX10_init_23 : decode cX10_init 23 = .ok (.putfield 19, 3) := by decide +kernel
theorem dX10_init_26 : decode cX10_init 26 = .ok (.aload_n 0, 1) := by decide +kernel
theorem dX10_init_27 : decode cX10_init 27 = .ok (.new 23, 3) := by decide +kernel
theorem dX10_init_30 : decode cX10_init 30 = .ok (.dup, 1) := by decide +kernel
theorem dX10_init_31 : decode cX10_init 31 = .ok (.invokespecial 25, 3) := by decide +kernel
theorem dX10_init_34 : decode cX10_init 34 = .ok (.putfield 26, 3) := by decide +kernel
theorem dX10_init_37 : decode cX10_init 37 = .ok (.aload_n 0, 1) := by decide +kernel
theorem dX10_init_38 : decode cX10_init 38 = .ok (.new 30, 3) := by decide +kernel
theorem dX10_init_41 : decode cX10_init 41 = .ok (.dup, 1) := by decide +kernel
theorem dX10_init_42 : decode cX10_init 42 = .ok (.aload_n 0, 1) := by decide +kernel
theorem dX10_init_43 : decode cX10_init 43 = .ok (.getfield 10, 3) := by decide +kernel
theorem dX10_init_46 : decode cX10_init 46 = .ok (.aload_n 0, 1) := by decide +kernel
theorem dX10_init_47 : decode cX10_init 47 = .ok (.getfield 19, 3) := by decide +kernel
theorem dX10_init_50 : decode cX10_init 50 = .ok (.aload_n 0, 1) := by decide +kernel
theorem dX10_init_51 : decode cX10_init 51 = .ok (.getfield 26, 3) := by decide +kernel
theorem dX10_init_54 : decode cX10_init 54 = .ok (.invokespecial 32, 3) := by decide +kernel
theorem dX10_init_57 : decode cX10_init 57 = .ok (.putfield 35, 3) := by decide +kernel
theorem dX10_init_60 : decode cX10_init 60 = .ok (.aload_n 0, 1) := by decide +kernel
theorem dX10_init_61 : decode cX10_init 61 = .ok (.new 39, 3) := by decide +kernel
theorem dX10_init_64 : decode cX10_init 64 = .ok (.dup, 1) := by decide +kernel
theorem dX10_init_65 : decode cX10_init 65 = .ok (.aload_n 0, 1) := by decide +kernel
theorem dX10_init_66 : decode cX10_init 66 = .ok (.getfield 10, 3) := by decide +kernel
theorem dX10_init_69 : decode cX10_init 69 = .ok (.aload_n 0, 1) := by decide +kernel
theorem dX10_init_70 : decode cX10_init 70 = .ok (.getfield 35, 3) := by decide +kernel
theorem dX10_init_73 : decode cX10_init 73 = .ok (.invokespecial 41, 3) := by decide +kernel
theorem dX10_init_76 : decode cX10_init 76 = .ok (.putfield 44, 3) := by decide +kernel
theorem dX10_init_79 : decode cX10_init 79 = .ok (.aload_n 0, 1) := by decide +kernel
theorem dX10_init_80 : decode cX10_init 80 = .ok (.new 48, 3) := by decide +kernel
theorem dX10_init_83 : decode cX10_init 83 = .ok (.dup, 1) := by decide +kernel
theorem dX10_init_84 : decode cX10_init 84 = .ok (.aload_n 0, 1) := by decide +kernel
theorem dX10_init_85 : decode cX10_init 85 = .ok (.getfield 10, 3) := by decide +kernel
theorem dX10_init_88 : decode cX10_init 88 = .ok (.aload_n 0, 1) := by decide +kernel
theorem dX10_init_89 : decode cX10_init 89 = .ok (.getfield 19, 3) := by decide +kernel
theorem dX10_init_92 : decode cX10_init 92 = .ok (.aload_n 0, 1) := by decide +kernel
theorem dX10_init_93 : decode cX10_init 93 = .ok (.getfield 26, 3) := by decide +kernel
theorem dX10_init_96 : decode cX10_init 96 = .ok (.aload_n 0, 1) := by decide +kernel
theorem dX10_init_97 : decode cX10_init 97 = .ok (.getfield 35, 3) := by decide +kernel
theorem dX10_init_100 : decode cX10_init 100 = .ok (.invokespecial 50, 3) := by decide +kernel
theorem dX10_init_103 : decode cX10_init 103 = .ok (.putfield 53, 3) := by decide +kernel
theorem dX10_init_106 : decode cX10_init 106 = .ok (.return_, 1) := by decide +kernel
theorem dX10_scene_0 : decode cX10_scene 0 = .ok (.iload_n 1, 1) := by decide +kernel
theorem dX10_scene_1 : decode cX10_scene 1 = .ok (.iconst (-1), 1) := by decide +kernel
theorem dX10_scene_2 : decode cX10_scene 2 = .ok (.if_icmp .eq 8, 3) := by decide +kernel
theorem dX10_scene_5 : decode cX10_scene 5 = .ok (.aload_n 0, 1) := by decide +kernel
theorem dX10_scene_6 : decode cX10_scene 6 = .ok (.iload_n 1, 1) := by decide +kernel
theorem dX10_scene_7 : decode cX10_scene 7 = .ok (.invokevirtual 57, 3) := by decide +kernel
theorem dX10_scene_10 : decode cX10_scene 10 = .ok (.aload_n 0, 1) := by decide +kernel
theorem dX10_scene_11 : decode cX10_scene 11 = .ok (.iload_n 2, 1) := by decide +kernel
theorem dX10_scene_12 : decode cX10_scene 12 = .ok (.invokevirtual 61, 3) := by decide +kernel
theorem dX10_scene_15 : decode cX10_scene 15 = .ok (.iload 5, 2) := by decide +kernel
theorem dX10_scene_17 : decode cX10_scene 17 = .ok (.iconst 1, 1) := by decide +kernel
theorem dX10_scene_18 : decode cX10_scene 18 = .ok (.bipush 32, 2) := by decide +kernel
theorem dX10_scene_20 : decode cX10_scene 20 = .ok (.invokestatic 64, 3) := by decide +kernel
theorem dX10_scene_23 : decode cX10_scene 23 = .ok (.aload_n 0, 1) := by decide +kernel
theorem dX10_scene_24 : decode cX10_scene 24 = .ok (.getfield 10, 3) := by decide +kernel
theorem dX10_scene_27 : decode cX10_scene 27 = .ok (.iload_n 1, 1) := by decide +kernel
theorem dX10_scene_28 : decode cX10_scene 28 = .ok (.invokevirtual 68, 3) := by decide +kernel
theorem dX10_scene_31 : decode cX10_scene 31 = .ok (.ifCond .ne 13, 3) := by decide +kernel
theorem dX10_scene_34 : decode cX10_scene 34 = .ok (.new 72, 3) := by decide +kernel
theorem dX10_scene_37 : decode cX10_scene 37 = .ok (.dup, 1) := by decide +kernel
theorem dX10_scene_38 : decode cX10_scene 38 = .ok (.ldc 74, 2) := by decide +kernel
theorem dX10_scene_40 : decode cX10_scene 40 = .ok (.invokespecial 76, 3) := by decide +kernel
theorem dX10_scene_43 : decode cX10_scene 43 = .ok (.athrow, 1) := by decide +kernel
theorem dX10_scene_44 : decode cX10_scene 44 = .ok (.aload_n 0, 1) := by decide +kernel
theorem dX10_scene_45 : decode cX10_scene 45 = .ok (.getfield 10, 3) := by decide +kernel
theorem dX10_scene_48 : decode cX10_scene 48 = .ok (.iload_n 1, 1) := by decide +kernel
theorem dX10_scene_49 : decode cX10_scene 49 = .ok (.iload_n 2, 1) := by decide +kernel
theorem dX10_scene_50 : decode cX10_scene 50 = .ok (.iload_n 3, 1) := by decide +kernel
theorem dX10_scene_51 : decode cX10_scene 51 = .ok (.iload 4, 2) := by decide +kernel
theorem dX10_scene_53 : decode cX10_scene 53 = .ok (.iload 5, 2) := by decide +kernel
theorem dX10_scene_55 : decode cX10_scene 55 = .ok (.invokevirtual 79, 3) := by decide +kernel
theorem dX10_scene_58 : decode cX10_scene 58 = .ok (.ireturn, 1) := by decide +kernel
theorem dX10_lock_0 : decode cX10_lock 0 = .ok (.aload_n 0, 1) := by decide +kernel
theorem dX10_lock_1 : decode cX10_lock 1 = .ok (.getfield 10, 3) := by decide +kernel
theorem dX10_lock_4 : decode cX10_lock 4 = .ok (.getfield 83, 3) := by decide +kernel
theorem dX10_lock_7 : decode cX10_lock 7 = .ok (.ifCond .eq 13, 3) := by decide +kernel
theorem dX10_lock_10 : decode cX10_lock 10 = .ok (.new 72, 3) := by decide +kernel
theorem dX10_lock_13 : decode cX10_lock 13 = .ok (.dup, 1) := by decide +kernel
theorem dX10_lock_14 : decode cX10_lock 14 = .ok (.ldc 87, 2) := by decide +kernel
theorem dX10_lock_16 : decode cX10_lock 16 = .ok (.invokespecial 76, 3) := by decide +kernel
theorem dX10_lock_19 : decode cX10_lock 19 = .ok (.athrow, 1) := by decide +kernel
theorem dX10_lock_20 : decode cX10_lock 20 = .ok (.aload_n 0, 1) := by decide +kernel
theorem dX10_lock_21 : decode cX10_lock 21 = .ok (.getfield 10, 3) := by decide +kernel
theorem dX10_lock_24 : decode cX10_lock 24 = .ok (.invokevirtual 89, 3) := by decide +kernel
theorem dX10_lock_27 : decode cX10_lock 27 = .ok (.aload_n 0, 1) := by decide +kernel
theorem dX10_lock_28 : decode cX10_lock 28 = .ok (.getfield 10, 3) := by decide +kernel
theorem dX10_lock_31 : decode cX10_lock 31 = .ok (.getfield 92, 3) := by decide +kernel
theorem dX10_lock_34 : decode cX10_lock 34 = .ok (.ireturn, 1) := by decide +kernel
theorem dX10_omit_0 : decode cX10_omit 0 = .ok (.aload_n 0, 1) := by decide +kernel
theorem dX10_omit_1 : decode cX10_omit 1 = .ok (.iload_n 1, 1) := by decide +kernel
theorem dX10_omit_2 : decode cX10_omit 2 = .ok (.invokevirtual 57, 3) := by decide +kernel
theorem dX10_omit_5 : decode cX10_omit 5 = .ok (.aload_n 0, 1) := by decide +kernel
theorem dX10_omit_6 : decode cX10_omit 6 = .ok (.getfield 10, 3) := by decide +kernel
theorem dX10_omit_9 : decode cX10_omit 9 = .ok (.getfield 96, 3) := by decide +kernel
theorem dX10_omit_12 : decode cX10_omit 12 = .ok (.iload_n 1, 1) := by decide +kernel
theorem dX10_omit_13 : decode cX10_omit 13 = .ok (.aaload, 1) := by decide +kernel
theorem dX10_omit_14 : decode cX10_omit 14 = .ok (.astore_n 2, 1) := by decide +kernel
theorem dX10_omit_15 : decode cX10_omit 15 = .ok (.aload_n 2, 1) := by decide +kernel
theorem dX10_omit_16 : decode cX10_omit 16 = .ok (.getfield 100, 3) := by decide +kernel
theorem dX10_omit_19 : decode cX10_omit 19 = .ok (.ifCond .ne 10, 3) := by decide +kernel
theorem dX10_omit_22 : decode cX10_omit 22 = .ok (.aload_n 2, 1) := by decide +kernel
theorem dX10_omit_23 : decode cX10_omit 23 = .ok (.getfield 105, 3) := by decide +kernel
theorem dX10_omit_26 : decode cX10_omit 26 = .ok (.ifCond .eq 13, 3) := by decide +kernel
theorem dX10_omit_29 : decode cX10_omit 29 = .ok (.new 72, 3) := by decide +kernel
theorem dX10_omit_32 : decode cX10_omit 32 = .ok (.dup, 1) := by decide +kernel
theorem dX10_omit_33 : decode cX10_omit 33 = .ok (.ldc 108, 2) := by decide +kernel
theorem dX10_omit_35 : decode cX10_omit 35 = .ok (.invokespecial 76, 3) := by decide +kernel
theorem dX10_omit_38 : decode cX10_omit 38 = .ok (.athrow, 1) := by decide +kernel
theorem dX10_omit_39 : decode cX10_omit 39 = .ok (.aload_n 0, 1) := by decide +kernel
theorem dX10_omit_40 : decode cX10_omit 40 = .ok (.getfield 35, 3) := by decide +kernel
theorem dX10_omit_43 : decode cX10_omit 43 = .ok (.iload_n 1, 1) := by decide +kernel
theorem dX10_omit_44 : decode cX10_omit 44 = .ok (.invokevirtual 110, 3) := by decide +kernel
theorem dX10_omit_47 : decode cX10_omit 47 = .ok (.aload_n 2, 1) := by decide +kernel
theorem dX10_omit_48 : decode cX10_omit 48 = .ok (.iconst 1, 1) := by decide +kernel
theorem dX10_omit_49 : decode cX10_omit 49 = .ok (.putfield 100, 3) := by decide +kernel
theorem dX10_omit_52 : decode cX10_omit 52 = .ok (.aload_n 0, 1) := by decide +kernel
theorem dX10_omit_53 : decode cX10_omit 53 = .ok (.getfield 10, 3) := by decide +kernel
theorem dX10_omit_56 : decode cX10_omit 56 = .ok (.getfield 92, 3) := by decide +kernel
theorem dX10_omit_59 : decode cX10_omit 59 = .ok (.aload_n 0, 1) := by decide +kernel
theorem dX10_omit_60 : decode cX10_omit 60 = .ok (.getfield 10, 3) := by decide +kernel
theorem dX10_omit_63 : decode cX10_omit 63 = .ok (.iconst 4, 1) := by decide +kernel
theorem dX10_omit_64 : decode cX10_omit 64 = .ok (.invokevirtual 113, 3) := by decide +kernel
theorem dX10_omit_67 : decode cX10_omit 67 = .ok (.isub, 1) := by decide +kernel
theorem dX10_omit_68 : decode cX10_omit 68 = .ok (.ireturn, 1) := by decide +kernel
theorem dX10_label_0 : decode cX10_label 0 = .ok (.aload_n 0, 1) := by decide +kernel
theorem dX10_label_1 : decode cX10_label 1 = .ok (.iload_n 1, 1) := by decide +kernel
theorem dX10_label_2 : decode cX10_label 2 = .ok (.invokevirtual 57, 3) := by decide +kernel
theorem dX10_label_5 : decode cX10_label 5 = .ok (.aload_n 0, 1) := by decide +kernel
theorem dX10_label_6 : decode cX10_label 6 = .ok (.getfield 10, 3) := by decide +kernel
theorem dX10_label_9 : decode cX10_label 9 = .ok (.iload_n 1, 1) := by decide +kernel
theorem dX10_label_10 : decode cX10_label 10 = .ok (.invokevirtual 117, 3) := by decide +kernel
theorem dX10_label_13 : decode cX10_label 13 = .ok (.ireturn, 1) := by decide +kernel
theorem dX10_needs_0 : decode cX10_needs 0 = .ok (.aload_n 0, 1) := by decide +kernel
theorem dX10_needs_1 : decode cX10_needs 1 = .ok (.iload_n 1, 1) := by decide +kernel
theorem dX10_needs_2 : decode cX10_needs 2 = .ok (.invokevirtual 57, 3) := by decide +kernel
theorem dX10_needs_5 : decode cX10_needs 5 = .ok (.iload_n 2, 1) := by decide +kernel
theorem dX10_needs_6 : decode cX10_needs 6 = .ok (.iconst 0, 1) := by decide +kernel
theorem dX10_needs_7 : decode cX10_needs 7 = .ok (.iconst 1, 1) := by decide +kernel
theorem dX10_needs_8 : decode cX10_needs 8 = .ok (.aload_n 0, 1) := by decide +kernel
theorem dX10_needs_9 : decode cX10_needs 9 = .ok (.getfield 19, 3) := by decide +kernel
theorem dX10_needs_12 : decode cX10_needs 12 = .ok (.getfield 120, 3) := by decide +kernel
theorem dX10_needs_15 : decode cX10_needs 15 = .ok (.ishl, 1) := by decide +kernel
theorem dX10_needs_16 : decode cX10_needs 16 = .ok (.iconst 1, 1) := by decide +kernel
theorem dX10_needs_17 : decode cX10_needs 17 = .ok (.isub, 1) := by decide +kernel
theorem dX10_needs_18 : decode cX10_needs 18 = .ok (.invokestatic 64, 3) := by decide +kernel
theorem dX10_needs_21 : decode cX10_needs 21 = .ok (.aload_n 0, 1) := by decide +kernel
theorem dX10_needs_22 : decode cX10_needs 22 = .ok (.getfield 10, 3) := by decide +kernel
theorem dX10_needs_25 : decode cX10_needs 25 = .ok (.getfield 96, 3) := by decide +kernel
theorem dX10_needs_28 : decode cX10_needs 28 = .ok (.iload_n 1, 1) := by decide +kernel
theorem dX10_needs_29 : decode cX10_needs 29 = .ok (.aaload, 1) := by decide +kernel
theorem dX10_needs_30 : decode cX10_needs 30 = .ok (.iload_n 2, 1) := by decide +kernel
theorem dX10_needs_31 : decode cX10_needs 31 = .ok (.putfield 123, 3) := by decide +kernel
theorem dX10_needs_34 : decode cX10_needs 34 = .ok (.iload_n 2, 1) := by decide +kernel
theorem dX10_needs_35 : decode cX10_needs 35 = .ok (.invokestatic 126, 3) := by decide +kernel
theorem dX10_needs_38 : decode cX10_needs 38 = .ok (.ireturn, 1) := by decide +kernel
theorem dX10_look_0 : decode cX10_look 0 = .ok (.aload_n 0, 1) := by decide +kernel
theorem dX10_look_1 : decode cX10_look 1 = .ok (.iload_n 1, 1) := by decide +kernel
theorem dX10_look_2 : decode cX10_look 2 = .ok (.invokevirtual 57, 3) := by decide +kernel
theorem dX10_look_5 : decode cX10_look 5 = .ok (.iload_n 2, 1) := by decide +kernel
theorem dX10_look_6 : decode cX10_look 6 = .ok (.iconst 4, 1) := by decide +kernel
theorem dX10_look_7 : decode cX10_look 7 = .ok (.invokestatic 131, 3) := by decide +kernel
theorem dX10_look_10 : decode cX10_look 10 = .ok (.iload 4, 2) := by decide +kernel
theorem dX10_look_12 : decode cX10_look 12 = .ok (.iconst (-1), 1) := by decide +kernel
theorem dX10_look_13 : decode cX10_look 13 = .ok (.bipush 9, 2) := by decide +kernel
theorem dX10_look_15 : decode cX10_look 15 = .ok (.invokestatic 64, 3) := by decide +kernel
theorem dX10_look_18 : decode cX10_look 18 = .ok (.aload_n 0, 1) := by decide +kernel
theorem dX10_look_19 : decode cX10_look 19 = .ok (.getfield 10, 3) := by decide +kernel
theorem dX10_look_22 : decode cX10_look 22 = .ok (.getfield 96, 3) := by decide +kernel
theorem dX10_look_25 : decode cX10_look 25 = .ok (.iload_n 1, 1) := by decide +kernel
theorem dX10_look_26 : decode cX10_look 26 = .ok (.aaload, 1) := by decide +kernel
theorem dX10_look_27 : decode cX10_look 27 = .ok (.astore 5, 2) := by decide +kernel
theorem dX10_look_29 : decode cX10_look 29 = .ok (.iload_n 3, 1) := by decide +kernel
theorem dX10_look_30 : decode cX10_look 30 = .ok (.ifCond .eq 11, 3) := by decide +kernel
theorem dX10_look_33 : decode cX10_look 33 = .ok (.aload 5, 2) := by decide +kernel
theorem dX10_look_35 : decode cX10_look 35 = .ok (.getfield 135, 3) := by decide +kernel
theorem dX10_look_38 : decode cX10_look 38 = .ok (.goto 8, 3) := by decide +kernel
theorem dX10_look_41 : decode cX10_look 41 = .ok (.aload 5, 2) := by decide +kernel
theorem dX10_look_43 : decode cX10_look 43 = .ok (.getfield 139, 3) := by decide +kernel
theorem dX10_look_46 : decode cX10_look 46 = .ok (.astore 6, 2) := by decide +kernel
theorem dX10_look_48 : decode cX10_look 48 = .ok (.aload 6, 2) := by decide +kernel
theorem dX10_look_50 : decode cX10_look 50 = .ok (.iload_n 2, 1) := by decide +kernel
theorem dX10_look_51 : decode cX10_look 51 = .ok (.iload 4, 2) := by decide +kernel
theorem dX10_look_53 : decode cX10_look 53 = .ok (.iastore, 1) := by decide +kernel
theorem dX10_look_54 : decode cX10_look 54 = .ok (.aload_n 0, 1) := by decide +kernel
theorem dX10_look_55 : decode cX10_look 55 = .ok (.getfield 10, 3) := by decide +kernel
theorem dX10_look_58 : decode cX10_look 58 = .ok (.invokevirtual 142, 3) := by decide +kernel
theorem dX10_look_61 : decode cX10_look 61 = .ok (.ireturn, 1) := by decide +kernel
theorem dX10_clashes_0 : decode cX10_clashes 0 = .ok (.aload_n 0, 1) := by decide +kernel
theorem dX10_clashes_1 : decode cX10_clashes 1 = .ok (.iload_n 1, 1) := by decide +kernel
theorem dX10_clashes_2 : decode cX10_clashes 2 = .ok (.invokevirtual 57, 3) := by decide +kernel
theorem dX10_clashes_5 : decode cX10_clashes 5 = .ok (.aload_n 0, 1) := by decide +kernel
theorem dX10_clashes_6 : decode cX10_clashes 6 = .ok (.getfield 10, 3) := by decide +kernel
theorem dX10_clashes_9 : decode cX10_clashes 9 = .ok (.invokevirtual 142, 3) := by decide +kernel
theorem dX10_clashes_12 : decode cX10_clashes 12 = .ok (.pop, 1) := by decide +kernel
theorem dX10_clashes_13 : decode cX10_clashes 13 = .ok (.aload_n 0, 1) := by decide +kernel
theorem dX10_clashes_14 : decode cX10_clashes 14 = .ok (.getfield 10, 3) := by decide +kernel
theorem dX10_clashes_17 : decode cX10_clashes 17 = .ok (.getfield 96, 3) := by decide +kernel
theorem dX10_clashes_20 : decode cX10_clashes 20 = .ok (.iload_n 1, 1) := by decide +kernel
theorem dX10_clashes_21 : decode cX10_clashes 21 = .ok (.aaload, 1) := by decide +kernel
theorem dX10_clashes_22 : decode cX10_clashes 22 = .ok (.getfield 146, 3) := by decide +kernel
theorem dX10_clashes_25 : decode cX10_clashes 25 = .ok (.ireturn, 1) := by decide +kernel
theorem dX10_bind_0 : decode cX10_bind 0 = .ok (.aload_n 0, 1) := by decide +kernel
theorem dX10_bind_1 : decode cX10_bind 1 = .ok (.iload_n 1, 1) := by decide +kernel
theorem dX10_bind_2 : decode cX10_bind 2 = .ok (.invokevirtual 57, 3) := by decide +kernel
theorem dX10_bind_5 : decode cX10_bind 5 = .ok (.aload_n 0, 1) := by decide +kernel
theorem dX10_bind_6 : decode cX10_bind 6 = .ok (.iload_n 2, 1) := by decide +kernel
theorem dX10_bind_7 : decode cX10_bind 7 = .ok (.invokevirtual 57, 3) := by decide +kernel
theorem dX10_bind_10 : decode cX10_bind 10 = .ok (.aload_n 0, 1) := by decide +kernel
theorem dX10_bind_11 : decode cX10_bind 11 = .ok (.getfield 10, 3) := by decide +kernel
theorem dX10_bind_14 : decode cX10_bind 14 = .ok (.iload_n 2, 1) := by decide +kernel
theorem dX10_bind_15 : decode cX10_bind 15 = .ok (.iload_n 1, 1) := by decide +kernel
theorem dX10_bind_16 : decode cX10_bind 16 = .ok (.invokevirtual 149, 3) := by decide +kernel
theorem dX10_bind_19 : decode cX10_bind 19 = .ok (.ifCond .eq 13, 3) := by decide +kernel
theorem dX10_bind_22 : decode cX10_bind 22 = .ok (.new 72, 3) := by decide +kernel
theorem dX10_bind_25 : decode cX10_bind 25 = .ok (.dup, 1) := by decide +kernel
theorem dX10_bind_26 : decode cX10_bind 26 = .ok (.ldc 153, 2) := by decide +kernel
theorem dX10_bind_28 : decode cX10_bind 28 = .ok (.invokespecial 76, 3) := by decide +kernel
theorem dX10_bind_31 : decode cX10_bind 31 = .ok (.athrow, 1) := by decide +kernel
theorem dX10_bind_32 : decode cX10_bind 32 = .ok (.aload_n 0, 1) := by decide +kernel
theorem dX10_bind_33 : decode cX10_bind 33 = .ok (.getfield 10, 3) := by decide +kernel
theorem dX10_bind_36 : decode cX10_bind 36 = .ok (.getfield 96, 3) := by decide +kernel
theorem dX10_bind_39 : decode cX10_bind 39 = .ok (.iload_n 1, 1) := by decide +kernel
theorem dX10_bind_40 : decode cX10_bind 40 = .ok (.aaload, 1) := by decide +kernel
theorem dX10_bind_41 : decode cX10_bind 41 = .ok (.astore_n 3, 1) := by decide +kernel
theorem dX10_bind_42 : decode cX10_bind 42 = .ok (.aload_n 3, 1) := by decide +kernel
theorem dX10_bind_43 : decode cX10_bind 43 = .ok (.dup, 1) := by decide +kernel
theorem dX10_bind_44 : decode cX10_bind 44 = .ok (.getfield 155, 3) := by decide +kernel
theorem dX10_bind_47 : decode cX10_bind 47 = .ok (.iconst 1, 1) := by decide +kernel
theorem dX10_bind_48 : decode cX10_bind 48 = .ok (.iload_n 2, 1) := by decide +kernel
theorem dX10_bind_49 : decode cX10_bind 49 = .ok (.ishl, 1) := by decide +kernel
theorem dX10_bind_50 : decode cX10_bind 50 = .ok (.ior, 1) := by decide +kernel
theorem dX10_bind_51 : decode cX10_bind 51 = .ok (.putfield 155, 3) := by decide +kernel
theorem dX10_bind_54 : decode cX10_bind 54 = .ok (.aload_n 3, 1) := by decide +kernel
theorem dX10_bind_55 : decode cX10_bind 55 = .ok (.getfield 155, 3) := by decide +kernel
theorem dX10_bind_58 : decode cX10_bind 58 = .ok (.invokestatic 126, 3) := by decide +kernel
theorem dX10_bind_61 : decode cX10_bind 61 = .ok (.ireturn, 1) := by decide +kernel
theorem dX10_person_0 : decode cX10_person 0 = .ok (.iload_n 1, 1) := by decide +kernel
theorem dX10_person_1 : decode cX10_person 1 = .ok (.iconst 0, 1) := by decide +kernel
theorem dX10_person_2 : decode cX10_person 2 = .ok (.iconst 2, 1) := by decide +kernel
theorem dX10_person_3 : decode cX10_person 3 = .ok (.invokestatic 64, 3) := by decide +kernel
theorem dX10_person_6 : decode cX10_person 6 = .ok (.iload_n 2, 1) := by decide +kernel
theorem dX10_person_7 : decode cX10_person 7 = .ok (.iconst 1, 1) := by decide +kernel
theorem dX10_person_8 : decode cX10_person 8 = .ok (.sipush 1000, 3) := by decide +kernel
theorem dX10_person_11 : decode cX10_person 11 = .ok (.invokestatic 64, 3) := by decide +kernel
theorem dX10_person_14 : decode cX10_person 14 = .ok (.iload_n 3, 1) := by decide +kernel
theorem dX10_person_15 : decode cX10_person 15 = .ok (.iconst 0, 1) := by decide +kernel
theorem dX10_person_16 : decode cX10_person 16 = .ok (.sipush 180, 3) := by decide +kernel
theorem dX10_person_19 : decode cX10_person 19 = .ok (.invokestatic 64, 3) := by decide +kernel
theorem dX10_person_22 : decode cX10_person 22 = .ok (.aload_n 0, 1) := by decide +kernel
theorem dX10_person_23 : decode cX10_person 23 = .ok (.getfield 19, 3) := by decide +kernel
theorem dX10_person_26 : decode cX10_person 26 = .ok (.getfield 120, 3) := by decide +kernel
theorem dX10_person_29 : decode cX10_person 29 = .ok (.bipush 8, 2) := by decide +kernel
theorem dX10_person_31 : decode cX10_person 31 = .ok (.if_icmp .lt 13, 3) := by decide +kernel
theorem dX10_person_34 : decode cX10_person 34 = .ok (.new 72, 3) := by decide +kernel
theorem dX10_person_37 : decode cX10_person 37 = .ok (.dup, 1) := by decide +kernel
theorem dX10_person_38 : decode cX10_person 38 = .ok (.ldc 158, 2) := by decide +kernel
theorem dX10_person_40 : decode cX10_person 40 = .ok (.invokespecial 76, 3) := by decide +kernel
theorem dX10_person_43 : decode cX10_person 43 = .ok (.athrow, 1) := by decide +kernel
theorem dX10_person_44 : decode cX10_person 44 = .ok (.aload_n 0, 1) := by decide +kernel
theorem dX10_person_45 : decode cX10_person 45 = .ok (.getfield 19, 3) := by decide +kernel
theorem dX10_person_48 : decode cX10_person 48 = .ok (.iload_n 1, 1) := by decide +kernel
theorem dX10_person_49 : decode cX10_person 49 = .ok (.iload_n 2, 1) := by decide +kernel
theorem dX10_person_50 : decode cX10_person 50 = .ok (.iload_n 3, 1) := by decide +kernel
theorem dX10_person_51 : decode cX10_person 51 = .ok (.iload 4, 2) := by decide +kernel
theorem dX10_person_53 : decode cX10_person 53 = .ok (.invokevirtual 160, 3) := by decide +kernel
theorem dX10_person_56 : decode cX10_person 56 = .ok (.ireturn, 1) := by decide +kernel
theorem dX10_ill_0 : decode cX10_ill 0 = .ok (.aload_n 0, 1) := by decide +kernel
theorem dX10_ill_1 : decode cX10_ill 1 = .ok (.iload_n 1, 1) := by decide +kernel
theorem dX10_ill_2 : decode cX10_ill 2 = .ok (.invokevirtual 163, 3) := by decide +kernel
theorem dX10_ill_5 : decode cX10_ill 5 = .ok (.iload_n 2, 1) := by decide +kernel
theorem dX10_ill_6 : decode cX10_ill 6 = .ok (.invokestatic 166, 3) := by decide +kernel
theorem dX10_ill_9 : decode cX10_ill 9 = .ok (.aload_n 0, 1) := by decide +kernel
theorem dX10_ill_10 : decode cX10_ill 10 = .ok (.getfield 35, 3) := by decide +kernel
theorem dX10_ill_13 : decode cX10_ill 13 = .ok (.iload_n 1, 1) := by decide +kernel
theorem dX10_ill_14 : decode cX10_ill 14 = .ok (.iload_n 2, 1) := by decide +kernel
theorem dX10_ill_15 : decode cX10_ill 15 = .ok (.iload_n 3, 1) := by decide +kernel
theorem dX10_ill_16 : decode cX10_ill 16 = .ok (.invokevirtual 169, 3) := by decide +kernel
theorem dX10_ill_19 : decode cX10_ill 19 = .ok (.ireturn, 1) := by decide +kernel
theorem dX10_place_0 : decode cX10_place 0 = .ok (.iload_n 1, 1) := by decide +kernel
theorem dX10_place_1 : decode cX10_place 1 = .ok (.iconst 0, 1) := by decide +kernel
theorem dX10_place_2 : decode cX10_place 2 = .ok (.sipush 1000, 3) := by decide +kernel
theorem dX10_place_5 : decode cX10_place 5 = .ok (.invokestatic 64, 3) := by decide +kernel
theorem dX10_place_8 : decode cX10_place 8 = .ok (.aload_n 0, 1) := by decide +kernel
theorem dX10_place_9 : decode cX10_place 9 = .ok (.getfield 26, 3) := by decide +kernel
theorem dX10_place_12 : decode cX10_place 12 = .ok (.getfield 173, 3) := by decide +kernel
theorem dX10_place_15 : decode cX10_place 15 = .ok (.bipush 6, 2) := by decide +kernel
theorem dX10_place_17 : decode cX10_place 17 = .ok (.if_icmp .lt 13, 3) := by decide +kernel
theorem dX10_place_20 : decode cX10_place 20 = .ok (.new 72, 3) := by decide +kernel
theorem dX10_place_23 : decode cX10_place 23 = .ok (.dup, 1) := by decide +kernel
theorem dX10_place_24 : decode cX10_place 24 = .ok (.ldc 174, 2) := by decide +kernel
theorem dX10_place_26 : decode cX10_place 26 = .ok (.invokespecial 76, 3) := by decide +kernel
theorem dX10_place_29 : decode cX10_place 29 = .ok (.athrow, 1) := by decide +kernel
theorem dX10_place_30 : decode cX10_place 30 = .ok (.aload_n 0, 1) := by decide +kernel
theorem dX10_place_31 : decode cX10_place 31 = .ok (.getfield 26, 3) := by decide +kernel
theorem dX10_place_34 : decode cX10_place 34 = .ok (.iload_n 1, 1) := by decide +kernel
theorem dX10_place_35 : decode cX10_place 35 = .ok (.invokevirtual 176, 3) := by decide +kernel
theorem dX10_place_38 : decode cX10_place 38 = .ok (.ireturn, 1) := by decide +kernel
theorem dX10_permit_0 : decode cX10_permit 0 = .ok (.aload_n 0, 1) := by decide +kernel
theorem dX10_permit_1 : decode cX10_permit 1 = .ok (.iload_n 1, 1) := by decide +kernel
theorem dX10_permit_2 : decode cX10_permit 2 = .ok (.invokevirtual 61, 3) := by decide +kernel
theorem dX10_permit_5 : decode cX10_permit 5 = .ok (.iload_n 2, 1) := by decide +kernel
theorem dX10_permit_6 : decode cX10_permit 6 = .ok (.invokestatic 166, 3) := by decide +kernel
theorem dX10_permit_9 : decode cX10_permit 9 = .ok (.aload_n 0, 1) := by decide +kernel
theorem dX10_permit_10 : decode cX10_permit 10 = .ok (.getfield 35, 3) := by decide +kernel
theorem dX10_permit_13 : decode cX10_permit 13 = .ok (.iload_n 1, 1) := by decide +kernel
theorem dX10_permit_14 : decode cX10_permit 14 = .ok (.iload_n 2, 1) := by decide +kernel
theorem dX10_permit_15 : decode cX10_permit 15 = .ok (.iload_n 3, 1) := by decide +kernel
theorem dX10_permit_16 : decode cX10_permit 16 = .ok (.invokevirtual 178, 3) := by decide +kernel
theorem dX10_permit_19 : decode cX10_permit 19 = .ok (.ireturn, 1) := by decide +kernel
theorem dX10_move_0 : decode cX10_move 0 = .ok (.aload_n 0, 1) := by decide +kernel
theorem dX10_move_1 : decode cX10_move 1 = .ok (.iload_n 1, 1) := by decide +kernel
theorem dX10_move_2 : decode cX10_move 2 = .ok (.invokevirtual 61, 3) := by decide +kernel
theorem dX10_move_5 : decode cX10_move 5 = .ok (.aload_n 0, 1) := by decide +kernel
theorem dX10_move_6 : decode cX10_move 6 = .ok (.iload_n 2, 1) := by decide +kernel
theorem dX10_move_7 : decode cX10_move 7 = .ok (.invokevirtual 61, 3) := by decide +kernel
theorem dX10_move_10 : decode cX10_move 10 = .ok (.iload_n 3, 1) := by decide +kernel
theorem dX10_move_11 : decode cX10_move 11 = .ok (.iconst 0, 1) := by decide +kernel
theorem dX10_move_12 : decode cX10_move 12 = .ok (.sipush 300, 3) := by decide +kernel
theorem dX10_move_15 : decode cX10_move 15 = .ok (.invokestatic 64, 3) := by decide +kernel
theorem dX10_move_18 : decode cX10_move 18 = .ok (.iload_n 1, 1) := by decide +kernel
theorem dX10_move_19 : decode cX10_move 19 = .ok (.iload_n 2, 1) := by decide +kernel
theorem dX10_move_20 : decode cX10_move 20 = .ok (.if_icmp .ne 13, 3) := by decide +kernel
theorem dX10_move_23 : decode cX10_move 23 = .ok (.new 181, 3) := by decide +kernel
theorem dX10_move_26 : decode cX10_move 26 = .ok (.dup, 1) := by decide +kernel
theorem dX10_move_27 : decode cX10_move 27 = .ok (.ldc 183, 2) := by decide +kernel
theorem dX10_move_29 : decode cX10_move 29 = .ok (.invokespecial 185, 3) := by decide +kernel
theorem dX10_move_32 : decode cX10_move 32 = .ok (.athrow, 1) := by decide +kernel
theorem dX10_move_33 : decode cX10_move 33 = .ok (.aload_n 0, 1) := by decide +kernel
theorem dX10_move_34 : decode cX10_move 34 = .ok (.getfield 26, 3) := by decide +kernel
theorem dX10_move_37 : decode cX10_move 37 = .ok (.iload_n 1, 1) := by decide +kernel
theorem dX10_move_38 : decode cX10_move 38 = .ok (.iload_n 2, 1) := by decide +kernel
theorem dX10_move_39 : decode cX10_move 39 = .ok (.iload_n 3, 1) := by decide +kernel
theorem dX10_move_40 : decode cX10_move 40 = .ok (.invokevirtual 186, 3) := by decide +kernel
theorem dX10_move_43 : decode cX10_move 43 = .ok (.ireturn, 1) := by decide +kernel
theorem dX10_light_0 : decode cX10_light 0 = .ok (.iload_n 1, 1) := by decide +kernel
theorem dX10_light_1 : decode cX10_light 1 = .ok (.invokestatic 166, 3) := by decide +kernel
theorem dX10_light_4 : decode cX10_light 4 = .ok (.iload_n 2, 1) := by decide +kernel
theorem dX10_light_5 : decode cX10_light 5 = .ok (.iconst 0, 1) := by decide +kernel
theorem dX10_light_6 : decode cX10_light 6 = .ok (.sipush 1200, 3) := by decide +kernel
theorem dX10_light_9 : decode cX10_light 9 = .ok (.invokestatic 64, 3) := by decide +kernel
theorem dX10_light_12 : decode cX10_light 12 = .ok (.iload_n 3, 1) := by decide +kernel
theorem dX10_light_13 : decode cX10_light 13 = .ok (.iconst 0, 1) := by decide +kernel
theorem dX10_light_14 : decode cX10_light 14 = .ok (.sipush 1440, 3) := by decide +kernel
theorem dX10_light_17 : decode cX10_light 17 = .ok (.invokestatic 64, 3) := by decide +kernel
theorem dX10_light_20 : decode cX10_light 20 = .ok (.iload 4, 2) := by decide +kernel
theorem dX10_light_22 : decode cX10_light 22 = .ok (.iload_n 3, 1) := by decide +kernel
theorem dX10_light_23 : decode cX10_light 23 = .ok (.sipush 1440, 3) := by decide +kernel
theorem dX10_light_26 : decode cX10_light 26 = .ok (.invokestatic 64, 3) := by decide +kernel
theorem dX10_light_29 : decode cX10_light 29 = .ok (.aload_n 0, 1) := by decide +kernel
theorem dX10_light_30 : decode cX10_light 30 = .ok (.getfield 35, 3) := by decide +kernel
theorem dX10_light_33 : decode cX10_light 33 = .ok (.getfield 190, 3) := by decide +kernel
theorem dX10_light_36 : decode cX10_light 36 = .ok (.iload_n 1, 1) := by decide +kernel
theorem dX10_light_37 : decode cX10_light 37 = .ok (.aaload, 1) := by decide +kernel
theorem dX10_light_38 : decode cX10_light 38 = .ok (.astore 5, 2) := by decide +kernel
theorem dX10_light_40 : decode cX10_light 40 = .ok (.aload 5, 2) := by decide +kernel
theorem dX10_light_42 : decode cX10_light 42 = .ok (.iload_n 2, 1) := by decide +kernel
theorem dX10_light_43 : decode cX10_light 43 = .ok (.putfield 194, 3) := by decide +kernel
theorem dX10_light_46 : decode cX10_light 46 = .ok (.aload 5, 2) := by decide +kernel
theorem dX10_light_48 : decode cX10_light 48 = .ok (.iload_n 3, 1) := by decide +kernel
theorem dX10_light_49 : decode cX10_light 49 = .ok (.putfield 199, 3) := by decide +kernel
theorem dX10_light_52 : decode cX10_light 52 = .ok (.aload 5, 2) := by decide +kernel
theorem dX10_light_54 : decode cX10_light 54 = .ok (.iload 4, 2) := by decide +kernel
theorem dX10_light_56 : decode cX10_light 56 = .ok (.putfield 202, 3) := by decide +kernel
theorem dX10_light_59 : decode cX10_light 59 = .ok (.return_, 1) := by decide +kernel
theorem dX10_put_0 : decode cX10_put 0 = .ok (.aload_n 0, 1) := by decide +kernel
theorem dX10_put_1 : decode cX10_put 1 = .ok (.iload_n 1, 1) := by decide +kernel
theorem dX10_put_2 : decode cX10_put 2 = .ok (.invokevirtual 57, 3) := by decide +kernel
theorem dX10_put_5 : decode cX10_put 5 = .ok (.iload_n 2, 1) := by decide +kernel
theorem dX10_put_6 : decode cX10_put 6 = .ok (.invokestatic 166, 3) := by decide +kernel
theorem dX10_put_9 : decode cX10_put 9 = .ok (.aload_n 0, 1) := by decide +kernel
theorem dX10_put_10 : decode cX10_put 10 = .ok (.getfield 35, 3) := by decide +kernel
theorem dX10_put_13 : decode cX10_put 13 = .ok (.getfield 190, 3) := by decide +kernel
theorem dX10_put_16 : decode cX10_put 16 = .ok (.iload_n 2, 1) := by decide +kernel
theorem dX10_put_17 : decode cX10_put 17 = .ok (.aaload, 1) := by decide +kernel
theorem dX10_put_18 : decode cX10_put 18 = .ok (.astore 4, 2) := by decide +kernel
theorem dX10_put_20 : decode cX10_put 20 = .ok (.iload_n 3, 1) := by decide +kernel
theorem dX10_put_21 : decode cX10_put 21 = .ok (.aload 4, 2) := by decide +kernel
theorem dX10_put_23 : decode cX10_put 23 = .ok (.getfield 205, 3) := by decide +kernel
theorem dX10_put_26 : decode cX10_put 26 = .ok (.iconst 1, 1) := by decide +kernel
theorem dX10_put_27 : decode cX10_put 27 = .ok (.iadd, 1) := by decide +kernel
theorem dX10_put_28 : decode cX10_put 28 = .ok (.invokestatic 131, 3) := by decide +kernel
theorem dX10_put_31 : decode cX10_put 31 = .ok (.aload_n 0, 1) := by decide +kernel
theorem dX10_put_32 : decode cX10_put 32 = .ok (.getfield 10, 3) := by decide +kernel
theorem dX10_put_35 : decode cX10_put 35 = .ok (.getfield 96, 3) := by decide +kernel
theorem dX10_put_38 : decode cX10_put 38 = .ok (.iload_n 1, 1) := by decide +kernel
theorem dX10_put_39 : decode cX10_put 39 = .ok (.aaload, 1) := by decide +kernel
theorem dX10_put_40 : decode cX10_put 40 = .ok (.invokevirtual 206, 3) := by decide +kernel
theorem dX10_put_43 : decode cX10_put 43 = .ok (.ifCond .ne 13, 3) := by decide +kernel
theorem dX10_put_46 : decode cX10_put 46 = .ok (.new 72, 3) := by decide +kernel
theorem dX10_put_49 : decode cX10_put 49 = .ok (.dup, 1) := by decide +kernel
theorem dX10_put_50 : decode cX10_put 50 = .ok (.ldc 210, 2) := by decide +kernel
theorem dX10_put_52 : decode cX10_put 52 = .ok (.invokespecial 76, 3) := by decide +kernel
theorem dX10_put_55 : decode cX10_put 55 = .ok (.athrow, 1) := by decide +kernel
theorem dX10_put_56 : decode cX10_put 56 = .ok (.iload_n 2, 1) := by decide +kernel
theorem dX10_put_57 : decode cX10_put 57 = .ok (.aload_n 0, 1) := by decide +kernel
theorem dX10_put_58 : decode cX10_put 58 = .ok (.getfield 35, 3) := by decide +kernel
theorem dX10_put_61 : decode cX10_put 61 = .ok (.getfield 212, 3) := by decide +kernel
theorem dX10_put_64 : decode cX10_put 64 = .ok (.if_icmp .lt 11, 3) := by decide +kernel
theorem dX10_put_67 : decode cX10_put 67 = .ok (.aload 4, 2) := by decide +kernel
theorem dX10_put_69 : decode cX10_put 69 = .ok (.invokevirtual 215, 3) := by decide +kernel
theorem dX10_put_72 : decode cX10_put 72 = .ok (.ifCond .eq 13, 3) := by decide +kernel
theorem dX10_put_75 : decode cX10_put 75 = .ok (.new 72, 3) := by decide +kernel
theorem dX10_put_78 : decode cX10_put 78 = .ok (.dup, 1) := by decide +kernel
theorem dX10_put_79 : decode cX10_put 79 = .ok (.ldc 218, 2) := by decide +kernel
theorem dX10_put_81 : decode cX10_put 81 = .ok (.invokespecial 76, 3) := by decide +kernel
theorem dX10_put_84 : decode cX10_put 84 = .ok (.athrow, 1) := by decide +kernel
theorem dX10_put_85 : decode cX10_put 85 = .ok (.aload_n 0, 1) := by decide +kernel
theorem dX10_put_86 : decode cX10_put 86 = .ok (.getfield 35, 3) := by decide +kernel
theorem dX10_put_89 : decode cX10_put 89 = .ok (.iload_n 1, 1) := by decide +kernel
theorem dX10_put_90 : decode cX10_put 90 = .ok (.iload_n 2, 1) := by decide +kernel
theorem dX10_put_91 : decode cX10_put 91 = .ok (.iload_n 3, 1) := by decide +kernel
theorem dX10_put_92 : decode cX10_put 92 = .ok (.invokevirtual 220, 3) := by decide +kernel
theorem dX10_put_95 : decode cX10_put 95 = .ok (.aload_n 0, 1) := by decide +kernel
theorem dX10_put_96 : decode cX10_put 96 = .ok (.getfield 35, 3) := by decide +kernel
theorem dX10_put_99 : decode cX10_put 99 = .ok (.iload_n 1, 1) := by decide +kernel
theorem dX10_put_100 : decode cX10_put 100 = .ok (.invokevirtual 223, 3) := by decide +kernel
theorem dX10_put_103 : decode cX10_put 103 = .ok (.ireturn, 1) := by decide +kernel
theorem dX10_take_0 : decode cX10_take 0 = .ok (.aload_n 0, 1) := by decide +kernel
theorem dX10_take_1 : decode cX10_take 1 = .ok (.iload_n 1, 1) := by decide +kernel
theorem dX10_take_2 : decode cX10_take 2 = .ok (.invokevirtual 57, 3) := by decide +kernel
theorem dX10_take_5 : decode cX10_take 5 = .ok (.aload_n 0, 1) := by decide +kernel
theorem dX10_take_6 : decode cX10_take 6 = .ok (.getfield 10, 3) := by decide +kernel
theorem dX10_take_9 : decode cX10_take 9 = .ok (.getfield 96, 3) := by decide +kernel
theorem dX10_take_12 : decode cX10_take 12 = .ok (.iload_n 1, 1) := by decide +kernel
theorem dX10_take_13 : decode cX10_take 13 = .ok (.aaload, 1) := by decide +kernel
theorem dX10_take_14 : decode cX10_take 14 = .ok (.astore_n 2, 1) := by decide +kernel
theorem dX10_take_15 : decode cX10_take 15 = .ok (.aload_n 2, 1) := by decide +kernel
theorem dX10_take_16 : decode cX10_take 16 = .ok (.invokevirtual 226, 3) := by decide +kernel
theorem dX10_take_19 : decode cX10_take 19 = .ok (.iconst 1, 1) := by decide +kernel
theorem dX10_take_20 : decode cX10_take 20 = .ok (.if_icmp .eq 13, 3) := by decide +kernel
theorem dX10_take_23 : decode cX10_take 23 = .ok (.new 72, 3) := by decide +kernel
theorem dX10_take_26 : decode cX10_take 26 = .ok (.dup, 1) := by decide +kernel
theorem dX10_take_27 : decode cX10_take 27 = .ok (.ldc 229, 2) := by decide +kernel
theorem dX10_take_29 : decode cX10_take 29 = .ok (.invokespecial 76, 3) := by decide +kernel
theorem dX10_take_32 : decode cX10_take 32 = .ok (.athrow, 1) := by decide +kernel
theorem dX10_take_33 : decode cX10_take 33 = .ok (.aload_n 2, 1) := by decide +kernel
theorem dX10_take_34 : decode cX10_take 34 = .ok (.getfield 231, 3) := by decide +kernel
theorem dX10_take_37 : decode cX10_take 37 = .ok (.istore_n 3, 1) := by decide +kernel
theorem dX10_take_38 : decode cX10_take 38 = .ok (.aload_n 0, 1) := by decide +kernel
theorem dX10_take_39 : decode cX10_take 39 = .ok (.getfield 35, 3) := by decide +kernel
theorem dX10_take_42 : decode cX10_take 42 = .ok (.iload_n 1, 1) := by decide +kernel
theorem dX10_take_43 : decode cX10_take 43 = .ok (.invokevirtual 110, 3) := by decide +kernel
theorem dX10_take_46 : decode cX10_take 46 = .ok (.iload_n 3, 1) := by decide +kernel
theorem dX10_take_47 : decode cX10_take 47 = .ok (.ireturn, 1) := by decide +kernel
theorem dX10_fill_0 : decode cX10_fill 0 = .ok (.iconst 0, 1) := by decide +kernel
theorem dX10_fill_1 : decode cX10_fill 1 = .ok (.istore_n 1, 1) := by decide +kernel
theorem dX10_fill_2 : decode cX10_fill 2 = .ok (.iconst 0, 1) := by decide +kernel
theorem dX10_fill_3 : decode cX10_fill 3 = .ok (.istore_n 2, 1) := by decide +kernel
theorem dX10_fill_4 : decode cX10_fill 4 = .ok (.iconst 0, 1) := by decide +kernel
theorem dX10_fill_5 : decode cX10_fill 5 = .ok (.istore_n 3, 1) := by decide +kernel
theorem dX10_fill_6 : decode cX10_fill 6 = .ok (.iload_n 3, 1) := by decide +kernel
theorem dX10_fill_7 : decode cX10_fill 7 = .ok (.aload_n 0, 1) := by decide +kernel
theorem dX10_fill_8 : decode cX10_fill 8 = .ok (.getfield 10, 3) := by decide +kernel
theorem dX10_fill_11 : decode cX10_fill 11 = .ok (.getfield 92, 3) := by decide +kernel
theorem dX10_fill_14 : decode cX10_fill 14 = .ok (.if_icmp .ge 50, 3) := by decide +kernel
theorem dX10_fill_17 : decode cX10_fill 17 = .ok (.aload_n 0, 1) := by decide +kernel
theorem dX10_fill_18 : decode cX10_fill 18 = .ok (.getfield 10, 3) := by decide +kernel
theorem dX10_fill_21 : decode cX10_fill 21 = .ok (.iload_n 1, 1) := by decide +kernel
theorem dX10_fill_22 : decode cX10_fill 22 = .ok (.invokevirtual 234, 3) := by decide +kernel
theorem dX10_fill_25 : decode cX10_fill 25 = .ok (.istore 4, 2) := by decide +kernel
theorem dX10_fill_27 : decode cX10_fill 27 = .ok (.iload 4, 2) := by decide +kernel
theorem dX10_fill_29 : decode cX10_fill 29 = .ok (.iconst (-1), 1) := by decide +kernel
theorem dX10_fill_30 : decode cX10_fill 30 = .ok (.if_icmp .ne 5, 3) := by decide +kernel
theorem dX10_fill_33 : decode cX10_fill 33 = .ok (.iload_n 2, 1) := by decide +kernel
theorem dX10_fill_34 : decode cX10_fill 34 = .ok (.ireturn, 1) := by decide +kernel
theorem dX10_fill_35 : decode cX10_fill 35 = .ok (.iload_n 1, 1) := by decide +kernel
theorem dX10_fill_36 : decode cX10_fill 36 = .ok (.iconst 1, 1) := by decide +kernel
theorem dX10_fill_37 : decode cX10_fill 37 = .ok (.iload 4, 2) := by decide +kernel
theorem dX10_fill_39 : decode cX10_fill 39 = .ok (.ishl, 1) := by decide +kernel
theorem dX10_fill_40 : decode cX10_fill 40 = .ok (.ior, 1) := by decide +kernel
theorem dX10_fill_41 : decode cX10_fill 41 = .ok (.istore_n 1, 1) := by decide +kernel
theorem dX10_fill_42 : decode cX10_fill 42 = .ok (.aload_n 0, 1) := by decide +kernel
theorem dX10_fill_43 : decode cX10_fill 43 = .ok (.getfield 44, 3) := by decide +kernel
theorem dX10_fill_46 : decode cX10_fill 46 = .ok (.iload 4, 2) := by decide +kernel
theorem dX10_fill_48 : decode cX10_fill 48 = .ok (.iconst (-1), 1) := by decide +kernel
theorem dX10_fill_49 : decode cX10_fill 49 = .ok (.invokevirtual 237, 3) := by decide +kernel
theorem dX10_fill_52 : decode cX10_fill 52 = .ok (.ifCond .eq 6, 3) := by decide +kernel
theorem dX10_fill_55 : decode cX10_fill 55 = .ok (.iinc 2 1, 3) := by decide +kernel
theorem dX10_fill_58 : decode cX10_fill 58 = .ok (.iinc 3 1, 3) := by decide +kernel
theorem dX10_fill_61 : decode cX10_fill 61 = .ok (.goto (-55), 3) := by decide +kernel
theorem dX10_fill_64 : decode cX10_fill 64 = .ok (.iload_n 2, 1) := by decide +kernel
theorem dX10_fill_65 : decode cX10_fill 65 = .ok (.ireturn, 1) := by decide +kernel
theorem dX10_mend_0 : decode cX10_mend 0 = .ok (.iload_n 1, 1) := by decide +kernel
theorem dX10_mend_1 : decode cX10_mend 1 = .ok (.invokestatic 166, 3) := by decide +kernel
theorem dX10_mend_4 : decode cX10_mend 4 = .ok (.iload_n 1, 1) := by decide +kernel
theorem dX10_mend_5 : decode cX10_mend 5 = .ok (.aload_n 0, 1) := by decide +kernel
theorem dX10_mend_6 : decode cX10_mend 6 = .ok (.getfield 35, 3) := by decide +kernel
theorem dX10_mend_9 : decode cX10_mend 9 = .ok (.getfield 212, 3) := by decide +kernel
theorem dX10_mend_12 : decode cX10_mend 12 = .ok (.if_icmp .ge 13, 3) := by decide +kernel
theorem dX10_mend_15 : decode cX10_mend 15 = .ok (.new 72, 3) := by decide +kernel
theorem dX10_mend_18 : decode cX10_mend 18 = .ok (.dup, 1) := by decide +kernel
theorem dX10_mend_19 : decode cX10_mend 19 = .ok (.ldc 240, 2) := by decide +kernel
theorem dX10_mend_21 : decode cX10_mend 21 = .ok (.invokespecial 76, 3) := by decide +kernel
theorem dX10_mend_24 : decode cX10_mend 24 = .ok (.athrow, 1) := by decide +kernel
theorem dX10_mend_25 : decode cX10_mend 25 = .ok (.aload_n 0, 1) := by decide +kernel
theorem dX10_mend_26 : decode cX10_mend 26 = .ok (.getfield 44, 3) := by decide +kernel
theorem dX10_mend_29 : decode cX10_mend 29 = .ok (.iload_n 1, 1) := by decide +kernel
theorem dX10_mend_30 : decode cX10_mend 30 = .ok (.invokevirtual 242, 3) := by decide +kernel
theorem dX10_mend_33 : decode cX10_mend 33 = .ok (.istore_n 2, 1) := by decide +kernel
theorem dX10_mend_34 : decode cX10_mend 34 = .ok (.iconst 0, 1) := by decide +kernel
theorem dX10_mend_35 : decode cX10_mend 35 = .ok (.istore_n 3, 1) := by decide +kernel
theorem dX10_mend_36 : decode cX10_mend 36 = .ok (.iconst 0, 1) := by decide +kernel
theorem dX10_mend_37 : decode cX10_mend 37 = .ok (.istore 4, 2) := by decide +kernel
theorem dX10_mend_39 : decode cX10_mend 39 = .ok (.iload 4, 2) := by decide +kernel
theorem dX10_mend_41 : decode cX10_mend 41 = .ok (.iload_n 2, 1) := by decide +kernel
theorem dX10_mend_42 : decode cX10_mend 42 = .ok (.if_icmp .ge 33, 3) := by decide +kernel
theorem dX10_mend_45 : decode cX10_mend 45 = .ok (.aload_n 0, 1) := by decide +kernel
theorem dX10_mend_46 : decode cX10_mend 46 = .ok (.getfield 44, 3) := by decide +kernel
theorem dX10_mend_49 : decode cX10_mend 49 = .ok (.aload_n 0, 1) := by decide +kernel
theorem dX10_mend_50 : decode cX10_mend 50 = .ok (.getfield 44, 3) := by decide +kernel
theorem dX10_mend_53 : decode cX10_mend 53 = .ok (.getfield 245, 3) := by decide +kernel
theorem dX10_mend_56 : decode cX10_mend 56 = .ok (.iload 4, 2) := by decide +kernel
theorem dX10_mend_58 : decode cX10_mend 58 = .ok (.iaload, 1) := by decide +kernel
theorem dX10_mend_59 : decode cX10_mend 59 = .ok (.iload_n 1, 1) := by decide +kernel
theorem dX10_mend_60 : decode cX10_mend 60 = .ok (.invokevirtual 237, 3) := by decide +kernel
theorem dX10_mend_63 : decode cX10_mend 63 = .ok (.ifCond .eq 6, 3) := by decide +kernel
theorem dX10_mend_66 : decode cX10_mend 66 = .ok (.iinc 3 1, 3) := by decide +kernel
theorem dX10_mend_69 : decode cX10_mend 69 = .ok (.iinc 4 1, 3) := by decide +kernel
theorem dX10_mend_72 : decode cX10_mend 72 = .ok (.goto (-33), 3) := by decide +kernel
theorem dX10_mend_75 : decode cX10_mend 75 = .ok (.iload_n 3, 1) := by decide +kernel
theorem dX10_mend_76 : decode cX10_mend 76 = .ok (.ireturn, 1) := by decide +kernel
theorem dX10_strip_0 : decode cX10_strip 0 = .ok (.iload_n 1, 1) := by decide +kernel
theorem dX10_strip_1 : decode cX10_strip 1 = .ok (.invokestatic 166, 3) := by decide +kernel
theorem dX10_strip_4 : decode cX10_strip 4 = .ok (.iload_n 2, 1) := by decide +kernel
theorem dX10_strip_5 : decode cX10_strip 5 = .ok (.ifCond .ge 13, 3) := by decide +kernel
theorem dX10_strip_8 : decode cX10_strip 8 = .ok (.new 248, 3) := by decide +kernel
theorem dX10_strip_11 : decode cX10_strip 11 = .ok (.dup, 1) := by decide +kernel
theorem dX10_strip_12 : decode cX10_strip 12 = .ok (.ldc 250, 2) := by decide +kernel
theorem dX10_strip_14 : decode cX10_strip 14 = .ok (.invokespecial 252, 3) := by decide +kernel
theorem dX10_strip_17 : decode cX10_strip 17 = .ok (.athrow, 1) := by decide +kernel
theorem dX10_strip_18 : decode cX10_strip 18 = .ok (.aload_n 0, 1) := by decide +kernel
theorem dX10_strip_19 : decode cX10_strip 19 = .ok (.getfield 35, 3) := by decide +kernel
theorem dX10_strip_22 : decode cX10_strip 22 = .ok (.getfield 190, 3) := by decide +kernel
theorem dX10_strip_25 : decode cX10_strip 25 = .ok (.iload_n 1, 1) := by decide +kernel
theorem dX10_strip_26 : decode cX10_strip 26 = .ok (.aaload, 1) := by decide +kernel
theorem dX10_strip_27 : decode cX10_strip 27 = .ok (.astore_n 3, 1) := by decide +kernel
theorem dX10_strip_28 : decode cX10_strip 28 = .ok (.iload_n 2, 1) := by decide +kernel
theorem dX10_strip_29 : decode cX10_strip 29 = .ok (.aload_n 3, 1) := by decide +kernel
theorem dX10_strip_30 : decode cX10_strip 30 = .ok (.getfield 205, 3) := by decide +kernel
theorem dX10_strip_33 : decode cX10_strip 33 = .ok (.if_icmp .ge 12, 3) := by decide +kernel
theorem dX10_strip_36 : decode cX10_strip 36 = .ok (.aload_n 3, 1) := by decide +kernel
theorem dX10_strip_37 : decode cX10_strip 37 = .ok (.getfield 253, 3) := by decide +kernel
theorem dX10_strip_40 : decode cX10_strip 40 = .ok (.iload_n 2, 1) := by decide +kernel
theorem dX10_strip_41 : decode cX10_strip 41 = .ok (.iaload, 1) := by decide +kernel
theorem dX10_strip_42 : decode cX10_strip 42 = .ok (.goto 4, 3) := by decide +kernel
theorem dX10_strip_45 : decode cX10_strip 45 = .ok (.iconst (-1), 1) := by decide +kernel
theorem dX10_strip_46 : decode cX10_strip 46 = .ok (.ireturn, 1) := by decide +kernel
theorem dX10_ofScene_0 : decode cX10_ofScene 0 = .ok (.aload_n 0, 1) := by decide +kernel
theorem dX10_ofScene_1 : decode cX10_ofScene 1 = .ok (.iload_n 1, 1) := by decide +kernel
theorem dX10_ofScene_2 : decode cX10_ofScene 2 = .ok (.invokevirtual 57, 3) := by decide +kernel
theorem dX10_ofScene_5 : decode cX10_ofScene 5 = .ok (.iload_n 2, 1) := by decide +kernel
theorem dX10_ofScene_6 : decode cX10_ofScene 6 = .ok (.iconst 0, 1) := by decide +kernel
theorem dX10_ofScene_7 : decode cX10_ofScene 7 = .ok (.iconst 4, 1) := by decide +kernel
theorem dX10_ofScene_8 : decode cX10_ofScene 8 = .ok (.invokestatic 64, 3) := by decide +kernel
theorem dX10_ofScene_11 : decode cX10_ofScene 11 = .ok (.aload_n 0, 1) := by decide +kernel
theorem dX10_ofScene_12 : decode cX10_ofScene 12 = .ok (.getfield 10, 3) := by decide +kernel
theorem dX10_ofScene_15 : decode cX10_ofScene 15 = .ok (.getfield 96, 3) := by decide +kernel
theorem dX10_ofScene_18 : decode cX10_ofScene 18 = .ok (.iload_n 1, 1) := by decide +kernel
theorem dX10_ofScene_19 : decode cX10_ofScene 19 = .ok (.aaload, 1) := by decide +kernel
theorem dX10_ofScene_20 : decode cX10_ofScene 20 = .ok (.astore_n 3, 1) := by decide +kernel
theorem dX10_ofScene_21 : decode cX10_ofScene 21 = .ok (.iload_n 2, 1) := by decide +kernel
theorem dX10_ofScene_22 : decode cX10_ofScene 22 = .ok (.ifCond .ne 8, 3) := by decide +kernel
theorem dX10_ofScene_25 : decode cX10_ofScene 25 = .ok (.aload_n 3, 1) := by decide +kernel
theorem dX10_ofScene_26 : decode cX10_ofScene 26 = .ok (.invokevirtual 226, 3) := by decide +kernel
theorem dX10_ofScene_29 : decode cX10_ofScene 29 = .ok (.ireturn, 1) := by decide +kernel
theorem dX10_ofScene_30 : decode cX10_ofScene 30 = .ok (.aload_n 3, 1) := by decide +kernel
theorem dX10_ofScene_31 : decode cX10_ofScene 31 = .ok (.getfield 231, 3) := by decide +kernel
theorem dX10_ofScene_34 : decode cX10_ofScene 34 = .ok (.iconst (-1), 1) := by decide +kernel
theorem dX10_ofScene_35 : decode cX10_ofScene 35 = .ok (.if_icmp .ne 5, 3) := by decide +kernel
theorem dX10_ofScene_38 : decode cX10_ofScene 38 = .ok (.iconst (-1), 1) := by decide +kernel
theorem dX10_ofScene_39 : decode cX10_ofScene 39 = .ok (.ireturn, 1) := by decide +kernel
theorem dX10_ofScene_40 : decode cX10_ofScene 40 = .ok (.iload_n 2, 1) := by decide +kernel
theorem dX10_ofScene_41 : decode cX10_ofScene 41 = .ok (.iconst 1, 1) := by decide +kernel
theorem dX10_ofScene_42 : decode cX10_ofScene 42 = .ok (.if_icmp .ne 8, 3) := by decide +kernel
theorem dX10_ofScene_45 : decode cX10_ofScene 45 = .ok (.aload_n 3, 1) := by decide +kernel
theorem dX10_ofScene_46 : decode cX10_ofScene 46 = .ok (.getfield 231, 3) := by decide +kernel
theorem dX10_ofScene_49 : decode cX10_ofScene 49 = .ok (.ireturn, 1) := by decide +kernel
theorem dX10_ofScene_50 : decode cX10_ofScene 50 = .ok (.iload_n 2, 1) := by decide +kernel
theorem dX10_ofScene_51 : decode cX10_ofScene 51 = .ok (.iconst 4, 1) := by decide +kernel
theorem dX10_ofScene_52 : decode cX10_ofScene 52 = .ok (.if_icmp .ne 12, 3) := by decide +kernel
theorem dX10_ofScene_55 : decode cX10_ofScene 55 = .ok (.aload_n 0, 1) := by decide +kernel
theorem dX10_ofScene_56 : decode cX10_ofScene 56 = .ok (.getfield 35, 3) := by decide +kernel
theorem dX10_ofScene_59 : decode cX10_ofScene 59 = .ok (.iload_n 1, 1) := by decide +kernel
theorem dX10_ofScene_60 : decode cX10_ofScene 60 = .ok (.invokevirtual 223, 3) := by decide +kernel
theorem dX10_ofScene_63 : decode cX10_ofScene 63 = .ok (.ireturn, 1) := by decide +kernel
theorem dX10_ofScene_64 : decode cX10_ofScene 64 = .ok (.aload_n 0, 1) := by decide +kernel
theorem dX10_ofScene_65 : decode cX10_ofScene 65 = .ok (.getfield 35, 3) := by decide +kernel
theorem dX10_ofScene_68 : decode cX10_ofScene 68 = .ok (.iload_n 1, 1) := by decide +kernel
theorem dX10_ofScene_69 : decode cX10_ofScene 69 = .ok (.iload_n 2, 1) := by decide +kernel
theorem dX10_ofScene_70 : decode cX10_ofScene 70 = .ok (.iconst 3, 1) := by decide +kernel
theorem dX10_ofScene_71 : decode cX10_ofScene 71 = .ok (.if_icmp .ne 7, 3) := by decide +kernel
theorem dX10_ofScene_74 : decode cX10_ofScene 74 = .ok (.iconst 1, 1) := by decide +kernel
theorem dX10_ofScene_75 : decode cX10_ofScene 75 = .ok (.goto 4, 3) := by decide +kernel
theorem dX10_ofScene_78 : decode cX10_ofScene 78 = .ok (.iconst 0, 1) := by decide +kernel
end
section
theorem dX10_ofScene_79 : decode cX10_ofScene 79 = .ok (.invokevirtual 256, 3) := by decide +kernel
theorem dX10_ofScene_82 : decode cX10_ofScene 82 = .ok (.ireturn, 1) := by decide +kernel
theorem dX10_call_0 : decode cX10_call 0 = .ok (.aload_n 0, 1) := by decide +kernel
theorem dX10_call_1 : decode cX10_call 1 = .ok (.iload_n 1, 1) := by decide +kernel
theorem dX10_call_2 : decode cX10_call 2 = .ok (.invokevirtual 163, 3) := by decide +kernel
theorem dX10_call_5 : decode cX10_call 5 = .ok (.iload_n 2, 1) := by decide +kernel
theorem dX10_call_6 : decode cX10_call 6 = .ok (.invokestatic 166, 3) := by decide +kernel
theorem dX10_call_9 : decode cX10_call 9 = .ok (.aload_n 0, 1) := by decide +kernel
theorem dX10_call_10 : decode cX10_call 10 = .ok (.getfield 35, 3) := by decide +kernel
theorem dX10_call_13 : decode cX10_call 13 = .ok (.iload_n 2, 1) := by decide +kernel
theorem dX10_call_14 : decode cX10_call 14 = .ok (.invokevirtual 260, 3) := by decide +kernel
theorem dX10_call_17 : decode cX10_call 17 = .ok (.astore 4, 2) := by decide +kernel
theorem dX10_call_19 : decode cX10_call 19 = .ok (.aload 4, 2) := by decide +kernel
theorem dX10_call_21 : decode cX10_call 21 = .ok (.iload_n 1, 1) := by decide +kernel
theorem dX10_call_22 : decode cX10_call 22 = .ok (.invokevirtual 264, 3) := by decide +kernel
theorem dX10_call_25 : decode cX10_call 25 = .ok (.ifCond .ne 7, 3) := by decide +kernel
theorem dX10_call_28 : decode cX10_call 28 = .ok (.sipush (-10000), 3) := by decide +kernel
theorem dX10_call_31 : decode cX10_call 31 = .ok (.ireturn, 1) := by decide +kernel
theorem dX10_call_32 : decode cX10_call 32 = .ok (.iload_n 3, 1) := by decide +kernel
theorem dX10_call_33 : decode cX10_call 33 = .ok (.ifCond .eq 13, 3) := by decide +kernel
theorem dX10_call_36 : decode cX10_call 36 = .ok (.aload 4, 2) := by decide +kernel
theorem dX10_call_38 : decode cX10_call 38 = .ok (.getfield 269, 3) := by decide +kernel
theorem dX10_call_41 : decode cX10_call 41 = .ok (.iload_n 1, 1) := by decide +kernel
theorem dX10_call_42 : decode cX10_call 42 = .ok (.iaload, 1) := by decide +kernel
theorem dX10_call_43 : decode cX10_call 43 = .ok (.goto 10, 3) := by decide +kernel
theorem dX10_call_46 : decode cX10_call 46 = .ok (.aload 4, 2) := by decide +kernel
theorem dX10_call_48 : decode cX10_call 48 = .ok (.getfield 272, 3) := by decide +kernel
theorem dX10_call_51 : decode cX10_call 51 = .ok (.iload_n 1, 1) := by decide +kernel
theorem dX10_call_52 : decode cX10_call 52 = .ok (.iaload, 1) := by decide +kernel
theorem dX10_call_53 : decode cX10_call 53 = .ok (.ireturn, 1) := by decide +kernel
theorem dX10_shoot_0 : decode cX10_shoot 0 = .ok (.aload_n 0, 1) := by decide +kernel
theorem dX10_shoot_1 : decode cX10_shoot 1 = .ok (.iload_n 1, 1) := by decide +kernel
theorem dX10_shoot_2 : decode cX10_shoot 2 = .ok (.invokevirtual 57, 3) := by decide +kernel
theorem dX10_shoot_5 : decode cX10_shoot 5 = .ok (.iload_n 2, 1) := by decide +kernel
theorem dX10_shoot_6 : decode cX10_shoot 6 = .ok (.iconst 1, 1) := by decide +kernel
theorem dX10_shoot_7 : decode cX10_shoot 7 = .ok (.sipush 1000, 3) := by decide +kernel
theorem dX10_shoot_10 : decode cX10_shoot 10 = .ok (.invokestatic 64, 3) := by decide +kernel
theorem dX10_shoot_13 : decode cX10_shoot 13 = .ok (.aload_n 0, 1) := by decide +kernel
theorem dX10_shoot_14 : decode cX10_shoot 14 = .ok (.getfield 10, 3) := by decide +kernel
theorem dX10_shoot_17 : decode cX10_shoot 17 = .ok (.getfield 96, 3) := by decide +kernel
theorem dX10_shoot_20 : decode cX10_shoot 20 = .ok (.iload_n 1, 1) := by decide +kernel
theorem dX10_shoot_21 : decode cX10_shoot 21 = .ok (.aaload, 1) := by decide +kernel
theorem dX10_shoot_22 : decode cX10_shoot 22 = .ok (.astore_n 3, 1) := by decide +kernel
theorem dX10_shoot_23 : decode cX10_shoot 23 = .ok (.aload_n 3, 1) := by decide +kernel
theorem dX10_shoot_24 : decode cX10_shoot 24 = .ok (.getfield 231, 3) := by decide +kernel
theorem dX10_shoot_27 : decode cX10_shoot 27 = .ok (.aload_n 0, 1) := by decide +kernel
theorem dX10_shoot_28 : decode cX10_shoot 28 = .ok (.getfield 35, 3) := by decide +kernel
theorem dX10_shoot_31 : decode cX10_shoot 31 = .ok (.getfield 212, 3) := by decide +kernel
theorem dX10_shoot_34 : decode cX10_shoot 34 = .ok (.if_icmp .ne 10, 3) := by decide +kernel
theorem dX10_shoot_37 : decode cX10_shoot 37 = .ok (.aload_n 3, 1) := by decide +kernel
theorem dX10_shoot_38 : decode cX10_shoot 38 = .ok (.getfield 105, 3) := by decide +kernel
theorem dX10_shoot_41 : decode cX10_shoot 41 = .ok (.ifCond .eq 14, 3) := by decide +kernel
theorem dX10_shoot_44 : decode cX10_shoot 44 = .ok (.new 72, 3) := by decide +kernel
theorem dX10_shoot_47 : decode cX10_shoot 47 = .ok (.dup, 1) := by decide +kernel
theorem dX10_shoot_48 : decode cX10_shoot 48 = .ok (.ldc_w 275, 3) := by decide +kernel
theorem dX10_shoot_51 : decode cX10_shoot 51 = .ok (.invokespecial 76, 3) := by decide +kernel
theorem dX10_shoot_54 : decode cX10_shoot 54 = .ok (.athrow, 1) := by decide +kernel
theorem dX10_shoot_55 : decode cX10_shoot 55 = .ok (.aload_n 3, 1) := by decide +kernel
theorem dX10_shoot_56 : decode cX10_shoot 56 = .ok (.iload_n 2, 1) := by decide +kernel
theorem dX10_shoot_57 : decode cX10_shoot 57 = .ok (.invokevirtual 277, 3) := by decide +kernel
theorem dX10_shoot_60 : decode cX10_shoot 60 = .ok (.aload_n 0, 1) := by decide +kernel
theorem dX10_shoot_61 : decode cX10_shoot 61 = .ok (.getfield 35, 3) := by decide +kernel
theorem dX10_shoot_64 : decode cX10_shoot 64 = .ok (.getfield 280, 3) := by decide +kernel
theorem dX10_shoot_67 : decode cX10_shoot 67 = .ok (.iload_n 2, 1) := by decide +kernel
theorem dX10_shoot_68 : decode cX10_shoot 68 = .ok (.aload_n 3, 1) := by decide +kernel
theorem dX10_shoot_69 : decode cX10_shoot 69 = .ok (.getfield 284, 3) := by decide +kernel
theorem dX10_shoot_72 : decode cX10_shoot 72 = .ok (.invokevirtual 287, 3) := by decide +kernel
theorem dX10_shoot_75 : decode cX10_shoot 75 = .ok (.ireturn, 1) := by decide +kernel
theorem dX10_lose_0 : decode cX10_lose 0 = .ok (.aload_n 0, 1) := by decide +kernel
theorem dX10_lose_1 : decode cX10_lose 1 = .ok (.iload_n 1, 1) := by decide +kernel
theorem dX10_lose_2 : decode cX10_lose 2 = .ok (.invokevirtual 57, 3) := by decide +kernel
theorem dX10_lose_5 : decode cX10_lose 5 = .ok (.aload_n 0, 1) := by decide +kernel
theorem dX10_lose_6 : decode cX10_lose 6 = .ok (.getfield 10, 3) := by decide +kernel
theorem dX10_lose_9 : decode cX10_lose 9 = .ok (.getfield 96, 3) := by decide +kernel
theorem dX10_lose_12 : decode cX10_lose 12 = .ok (.iload_n 1, 1) := by decide +kernel
theorem dX10_lose_13 : decode cX10_lose 13 = .ok (.aaload, 1) := by decide +kernel
theorem dX10_lose_14 : decode cX10_lose 14 = .ok (.astore_n 2, 1) := by decide +kernel
theorem dX10_lose_15 : decode cX10_lose 15 = .ok (.aload_n 2, 1) := by decide +kernel
theorem dX10_lose_16 : decode cX10_lose 16 = .ok (.getfield 105, 3) := by decide +kernel
theorem dX10_lose_19 : decode cX10_lose 19 = .ok (.ifCond .ne 14, 3) := by decide +kernel
theorem dX10_lose_22 : decode cX10_lose 22 = .ok (.new 72, 3) := by decide +kernel
theorem dX10_lose_25 : decode cX10_lose 25 = .ok (.dup, 1) := by decide +kernel
theorem dX10_lose_26 : decode cX10_lose 26 = .ok (.ldc_w 293, 3) := by decide +kernel
theorem dX10_lose_29 : decode cX10_lose 29 = .ok (.invokespecial 76, 3) := by decide +kernel
theorem dX10_lose_32 : decode cX10_lose 32 = .ok (.athrow, 1) := by decide +kernel
theorem dX10_lose_33 : decode cX10_lose 33 = .ok (.aload_n 2, 1) := by decide +kernel
theorem dX10_lose_34 : decode cX10_lose 34 = .ok (.iconst 0, 1) := by decide +kernel
theorem dX10_lose_35 : decode cX10_lose 35 = .ok (.putfield 105, 3) := by decide +kernel
theorem dX10_lose_38 : decode cX10_lose 38 = .ok (.aload_n 2, 1) := by decide +kernel
theorem dX10_lose_39 : decode cX10_lose 39 = .ok (.iconst 1, 1) := by decide +kernel
theorem dX10_lose_40 : decode cX10_lose 40 = .ok (.putfield 295, 3) := by decide +kernel
theorem dX10_lose_43 : decode cX10_lose 43 = .ok (.aload_n 0, 1) := by decide +kernel
theorem dX10_lose_44 : decode cX10_lose 44 = .ok (.getfield 35, 3) := by decide +kernel
theorem dX10_lose_47 : decode cX10_lose 47 = .ok (.iload_n 1, 1) := by decide +kernel
theorem dX10_lose_48 : decode cX10_lose 48 = .ok (.invokevirtual 110, 3) := by decide +kernel
theorem dX10_lose_51 : decode cX10_lose 51 = .ok (.aload_n 0, 1) := by decide +kernel
theorem dX10_lose_52 : decode cX10_lose 52 = .ok (.getfield 10, 3) := by decide +kernel
theorem dX10_lose_55 : decode cX10_lose 55 = .ok (.iconst 3, 1) := by decide +kernel
theorem dX10_lose_56 : decode cX10_lose 56 = .ok (.invokevirtual 113, 3) := by decide +kernel
theorem dX10_lose_59 : decode cX10_lose 59 = .ok (.ireturn, 1) := by decide +kernel
theorem dX10_next_0 : decode cX10_next 0 = .ok (.aload_n 0, 1) := by decide +kernel
theorem dX10_next_1 : decode cX10_next 1 = .ok (.getfield 35, 3) := by decide +kernel
theorem dX10_next_4 : decode cX10_next 4 = .ok (.getfield 212, 3) := by decide +kernel
theorem dX10_next_7 : decode cX10_next 7 = .ok (.bipush 29, 2) := by decide +kernel
theorem dX10_next_9 : decode cX10_next 9 = .ok (.if_icmp .lt 14, 3) := by decide +kernel
theorem dX10_next_12 : decode cX10_next 12 = .ok (.new 72, 3) := by decide +kernel
theorem dX10_next_15 : decode cX10_next 15 = .ok (.dup, 1) := by decide +kernel
theorem dX10_next_16 : decode cX10_next 16 = .ok (.ldc_w 298, 3) := by decide +kernel
theorem dX10_next_19 : decode cX10_next 19 = .ok (.invokespecial 76, 3) := by decide +kernel
theorem dX10_next_22 : decode cX10_next 22 = .ok (.athrow, 1) := by decide +kernel
theorem dX10_next_23 : decode cX10_next 23 = .ok (.aload_n 0, 1) := by decide +kernel
theorem dX10_next_24 : decode cX10_next 24 = .ok (.getfield 35, 3) := by decide +kernel
theorem dX10_next_27 : decode cX10_next 27 = .ok (.invokevirtual 300, 3) := by decide +kernel
theorem dX10_next_30 : decode cX10_next 30 = .ok (.aload_n 0, 1) := by decide +kernel
theorem dX10_next_31 : decode cX10_next 31 = .ok (.getfield 10, 3) := by decide +kernel
theorem dX10_next_34 : decode cX10_next 34 = .ok (.iconst 3, 1) := by decide +kernel
theorem dX10_next_35 : decode cX10_next 35 = .ok (.invokevirtual 113, 3) := by decide +kernel
theorem dX10_next_38 : decode cX10_next 38 = .ok (.ireturn, 1) := by decide +kernel
theorem dX10_pay_0 : decode cX10_pay 0 = .ok (.aload_n 0, 1) := by decide +kernel
theorem dX10_pay_1 : decode cX10_pay 1 = .ok (.iload_n 1, 1) := by decide +kernel
theorem dX10_pay_2 : decode cX10_pay 2 = .ok (.invokevirtual 163, 3) := by decide +kernel
theorem dX10_pay_5 : decode cX10_pay 5 = .ok (.aload_n 0, 1) := by decide +kernel
theorem dX10_pay_6 : decode cX10_pay 6 = .ok (.getfield 53, 3) := by decide +kernel
theorem dX10_pay_9 : decode cX10_pay 9 = .ok (.iload_n 1, 1) := by decide +kernel
theorem dX10_pay_10 : decode cX10_pay 10 = .ok (.iload_n 2, 1) := by decide +kernel
theorem dX10_pay_11 : decode cX10_pay 11 = .ok (.invokevirtual 303, 3) := by decide +kernel
theorem dX10_pay_14 : decode cX10_pay 14 = .ok (.ireturn, 1) := by decide +kernel
theorem dX10_cost_0 : decode cX10_cost 0 = .ok (.aload_n 0, 1) := by decide +kernel
theorem dX10_cost_1 : decode cX10_cost 1 = .ok (.getfield 53, 3) := by decide +kernel
theorem dX10_cost_4 : decode cX10_cost 4 = .ok (.invokevirtual 306, 3) := by decide +kernel
theorem dX10_cost_7 : decode cX10_cost 7 = .ok (.ireturn, 1) := by decide +kernel
theorem dX10_checkScene_0 : decode cX10_checkScene 0 = .ok (.iload_n 1, 1) := by decide +kernel
theorem dX10_checkScene_1 : decode cX10_checkScene 1 = .ok (.aload_n 0, 1) := by decide +kernel
theorem dX10_checkScene_2 : decode cX10_checkScene 2 = .ok (.getfield 10, 3) := by decide +kernel
theorem dX10_checkScene_5 : decode cX10_checkScene 5 = .ok (.getfield 92, 3) := by decide +kernel
theorem dX10_checkScene_8 : decode cX10_checkScene 8 = .ok (.invokestatic 131, 3) := by decide +kernel
theorem dX10_checkScene_11 : decode cX10_checkScene 11 = .ok (.return_, 1) := by decide +kernel
theorem dX10_checkPerson_0 : decode cX10_checkPerson 0 = .ok (.iload_n 1, 1) := by decide +kernel
theorem dX10_checkPerson_1 : decode cX10_checkPerson 1 = .ok (.aload_n 0, 1) := by decide +kernel
theorem dX10_checkPerson_2 : decode cX10_checkPerson 2 = .ok (.getfield 19, 3) := by decide +kernel
theorem dX10_checkPerson_5 : decode cX10_checkPerson 5 = .ok (.getfield 120, 3) := by decide +kernel
theorem dX10_checkPerson_8 : decode cX10_checkPerson 8 = .ok (.invokestatic 131, 3) := by decide +kernel
theorem dX10_checkPerson_11 : decode cX10_checkPerson 11 = .ok (.return_, 1) := by decide +kernel
theorem dX10_checkPlace_0 : decode cX10_checkPlace 0 = .ok (.iload_n 1, 1) := by decide +kernel
theorem dX10_checkPlace_1 : decode cX10_checkPlace 1 = .ok (.aload_n 0, 1) := by decide +kernel
theorem dX10_checkPlace_2 : decode cX10_checkPlace 2 = .ok (.getfield 26, 3) := by decide +kernel
theorem dX10_checkPlace_5 : decode cX10_checkPlace 5 = .ok (.getfield 173, 3) := by decide +kernel
theorem dX10_checkPlace_8 : decode cX10_checkPlace 8 = .ok (.invokestatic 131, 3) := by decide +kernel
theorem dX10_checkPlace_11 : decode cX10_checkPlace 11 = .ok (.return_, 1) := by decide +kernel
theorem dX10_checkDay_0 : decode cX10_checkDay 0 = .ok (.iload_n 0, 1) := by decide +kernel
theorem dX10_checkDay_1 : decode cX10_checkDay 1 = .ok (.bipush 30, 2) := by decide +kernel
theorem dX10_checkDay_3 : decode cX10_checkDay 3 = .ok (.invokestatic 131, 3) := by decide +kernel
theorem dX10_checkDay_6 : decode cX10_checkDay 6 = .ok (.return_, 1) := by decide +kernel
theorem dX10_checkIndex_0 : decode cX10_checkIndex 0 = .ok (.iload_n 0, 1) := by decide +kernel
theorem dX10_checkIndex_1 : decode cX10_checkIndex 1 = .ok (.ifCond .lt 8, 3) := by decide +kernel
theorem dX10_checkIndex_4 : decode cX10_checkIndex 4 = .ok (.iload_n 0, 1) := by decide +kernel
theorem dX10_checkIndex_5 : decode cX10_checkIndex 5 = .ok (.iload_n 1, 1) := by decide +kernel
theorem dX10_checkIndex_6 : decode cX10_checkIndex 6 = .ok (.if_icmp .lt 14, 3) := by decide +kernel
theorem dX10_checkIndex_9 : decode cX10_checkIndex 9 = .ok (.new 248, 3) := by decide +kernel
theorem dX10_checkIndex_12 : decode cX10_checkIndex 12 = .ok (.dup, 1) := by decide +kernel
theorem dX10_checkIndex_13 : decode cX10_checkIndex 13 = .ok (.ldc_w 309, 3) := by decide +kernel
theorem dX10_checkIndex_16 : decode cX10_checkIndex 16 = .ok (.invokespecial 252, 3) := by decide +kernel
theorem dX10_checkIndex_19 : decode cX10_checkIndex 19 = .ok (.athrow, 1) := by decide +kernel
theorem dX10_checkIndex_20 : decode cX10_checkIndex 20 = .ok (.return_, 1) := by decide +kernel
theorem dX10_checkRange_0 : decode cX10_checkRange 0 = .ok (.iload_n 0, 1) := by decide +kernel
theorem dX10_checkRange_1 : decode cX10_checkRange 1 = .ok (.iload_n 1, 1) := by decide +kernel
theorem dX10_checkRange_2 : decode cX10_checkRange 2 = .ok (.if_icmp .lt 8, 3) := by decide +kernel
theorem dX10_checkRange_5 : decode cX10_checkRange 5 = .ok (.iload_n 0, 1) := by decide +kernel
theorem dX10_checkRange_6 : decode cX10_checkRange 6 = .ok (.iload_n 2, 1) := by decide +kernel
theorem dX10_checkRange_7 : decode cX10_checkRange 7 = .ok (.if_icmp .le 14, 3) := by decide +kernel
theorem dX10_checkRange_10 : decode cX10_checkRange 10 = .ok (.new 181, 3) := by decide +kernel
theorem dX10_checkRange_13 : decode cX10_checkRange 13 = .ok (.dup, 1) := by decide +kernel
theorem dX10_checkRange_14 : decode cX10_checkRange 14 = .ok (.ldc_w 311, 3) := by decide +kernel
theorem dX10_checkRange_17 : decode cX10_checkRange 17 = .ok (.invokespecial 185, 3) := by decide +kernel
theorem dX10_checkRange_20 : decode cX10_checkRange 20 = .ok (.athrow, 1) := by decide +kernel
theorem dX10_checkRange_21 : decode cX10_checkRange 21 = .ok (.return_, 1) := by decide +kernel
theorem dX10_hasBit_0 : decode cX10_hasBit 0 = .ok (.iload_n 0, 1) := by decide +kernel
theorem dX10_hasBit_1 : decode cX10_hasBit 1 = .ok (.iload_n 1, 1) := by decide +kernel
theorem dX10_hasBit_2 : decode cX10_hasBit 2 = .ok (.ishr, 1) := by decide +kernel
theorem dX10_hasBit_3 : decode cX10_hasBit 3 = .ok (.iconst 1, 1) := by decide +kernel
theorem dX10_hasBit_4 : decode cX10_hasBit 4 = .ok (.iand, 1) := by decide +kernel
theorem dX10_hasBit_5 : decode cX10_hasBit 5 = .ok (.ifCond .eq 7, 3) := by decide +kernel
theorem dX10_hasBit_8 : decode cX10_hasBit 8 = .ok (.iconst 1, 1) := by decide +kernel
theorem dX10_hasBit_9 : decode cX10_hasBit 9 = .ok (.goto 4, 3) := by decide +kernel
theorem dX10_hasBit_12 : decode cX10_hasBit 12 = .ok (.iconst 0, 1) := by decide +kernel
theorem dX10_hasBit_13 : decode cX10_hasBit 13 = .ok (.ireturn, 1) := by decide +kernel
theorem dX10_withBit_0 : decode cX10_withBit 0 = .ok (.iload_n 2, 1) := by decide +kernel
theorem dX10_withBit_1 : decode cX10_withBit 1 = .ok (.ifCond .eq 11, 3) := by decide +kernel
theorem dX10_withBit_4 : decode cX10_withBit 4 = .ok (.iload_n 0, 1) := by decide +kernel
theorem dX10_withBit_5 : decode cX10_withBit 5 = .ok (.iconst 1, 1) := by decide +kernel
theorem dX10_withBit_6 : decode cX10_withBit 6 = .ok (.iload_n 1, 1) := by decide +kernel
theorem dX10_withBit_7 : decode cX10_withBit 7 = .ok (.ishl, 1) := by decide +kernel
theorem dX10_withBit_8 : decode cX10_withBit 8 = .ok (.ior, 1) := by decide +kernel
theorem dX10_withBit_9 : decode cX10_withBit 9 = .ok (.goto 10, 3) := by decide +kernel
theorem dX10_withBit_12 : decode cX10_withBit 12 = .ok (.iload_n 0, 1) := by decide +kernel
theorem dX10_withBit_13 : decode cX10_withBit 13 = .ok (.iconst 1, 1) := by decide +kernel
theorem dX10_withBit_14 : decode cX10_withBit 14 = .ok (.iload_n 1, 1) := by decide +kernel
theorem dX10_withBit_15 : decode cX10_withBit 15 = .ok (.ishl, 1) := by decide +kernel
theorem dX10_withBit_16 : decode cX10_withBit 16 = .ok (.iconst (-1), 1) := by decide +kernel
theorem dX10_withBit_17 : decode cX10_withBit 17 = .ok (.ixor, 1) := by decide +kernel
theorem dX10_withBit_18 : decode cX10_withBit 18 = .ok (.iand, 1) := by decide +kernel
theorem dX10_withBit_19 : decode cX10_withBit 19 = .ok (.ireturn, 1) := by decide +kernel
theorem dX11_init_0 : decode cX11_init 0 = .ok (.aload_n 0, 1) := by decide +kernel
theorem dX11_init_1 : decode cX11_init 1 = .ok (.invokespecial 1, 3) := by decide +kernel
theorem dX11_init_4 : decode cX11_init 4 = .ok (.aload_n 0, 1) := by decide +kernel
theorem dX11_init_5 : decode cX11_init 5 = .ok (.bipush 20, 2) := by decide +kernel
theorem dX11_init_7 : decode cX11_init 7 = .ok (.newarray .int, 2) := by decide +kernel
theorem dX11_init_9 : decode cX11_init 9 = .ok (.putfield 7, 3) := by decide +kernel
theorem dX11_init_12 : decode cX11_init 12 = .ok (.aload_n 0, 1) := by decide +kernel
theorem dX11_init_13 : decode cX11_init 13 = .ok (.bipush 20, 2) := by decide +kernel
theorem dX11_init_15 : decode cX11_init 15 = .ok (.newarray .int, 2) := by decide +kernel
theorem dX11_init_17 : decode cX11_init 17 = .ok (.putfield 13, 3) := by decide +kernel
theorem dX11_init_20 : decode cX11_init 20 = .ok (.aload_n 0, 1) := by decide +kernel
theorem dX11_init_21 : decode cX11_init 21 = .ok (.bipush 20, 2) := by decide +kernel
theorem dX11_init_23 : decode cX11_init 23 = .ok (.newarray .int, 2) := by decide +kernel
theorem dX11_init_25 : decode cX11_init 25 = .ok (.putfield 16, 3) := by decide +kernel
theorem dX11_init_28 : decode cX11_init 28 = .ok (.aload_n 0, 1) := by decide +kernel
theorem dX11_init_29 : decode cX11_init 29 = .ok (.bipush 20, 2) := by decide +kernel
theorem dX11_init_31 : decode cX11_init 31 = .ok (.newarray .int, 2) := by decide +kernel
theorem dX11_init_33 : decode cX11_init 33 = .ok (.putfield 19, 3) := by decide +kernel
theorem dX11_init_36 : decode cX11_init 36 = .ok (.aload_n 0, 1) := by decide +kernel
theorem dX11_init_37 : decode cX11_init 37 = .ok (.bipush 20, 2) := by decide +kernel
theorem dX11_init_39 : decode cX11_init 39 = .ok (.newarray .boolean, 2) := by decide +kernel
theorem dX11_init_41 : decode cX11_init 41 = .ok (.putfield 22, 3) := by decide +kernel
theorem dX11_init_44 : decode cX11_init 44 = .ok (.aload_n 0, 1) := by decide +kernel
theorem dX11_init_45 : decode cX11_init 45 = .ok (.bipush 20, 2) := by decide +kernel
theorem dX11_init_47 : decode cX11_init 47 = .ok (.newarray .boolean, 2) := by decide +kernel
theorem dX11_init_49 : decode cX11_init 49 = .ok (.putfield 26, 3) := by decide +kernel
theorem dX11_init_52 : decode cX11_init 52 = .ok (.aload_n 0, 1) := by decide +kernel
theorem dX11_init_53 : decode cX11_init 53 = .ok (.bipush 20, 2) := by decide +kernel
theorem dX11_init_55 : decode cX11_init 55 = .ok (.newarray .int, 2) := by decide +kernel
theorem dX11_init_57 : decode cX11_init 57 = .ok (.putfield 29, 3) := by decide +kernel
theorem dX11_init_60 : decode cX11_init 60 = .ok (.aload_n 0, 1) := by decide +kernel
theorem dX11_init_61 : decode cX11_init 61 = .ok (.bipush 20, 2) := by decide +kernel
theorem dX11_init_63 : decode cX11_init 63 = .ok (.newarray .int, 2) := by decide +kernel
theorem dX11_init_65 : decode cX11_init 65 = .ok (.putfield 32, 3) := by decide +kernel
theorem dX11_init_68 : decode cX11_init 68 = .ok (.aload_n 0, 1) := by decide +kernel
theorem dX11_init_69 : decode cX11_init 69 = .ok (.bipush 80, 2) := by decide +kernel
theorem dX11_init_71 : decode cX11_init 71 = .ok (.newarray .int, 2) := by decide +kernel
theorem dX11_init_73 : decode cX11_init 73 = .ok (.putfield 35, 3) := by decide +kernel
theorem dX11_init_76 : decode cX11_init 76 = .ok (.aload_n 0, 1) := by decide +kernel
theorem dX11_init_77 : decode cX11_init 77 = .ok (.bipush 80, 2) := by decide +kernel
theorem dX11_init_79 : decode cX11_init 79 = .ok (.newarray .int, 2) := by decide +kernel
theorem dX11_init_81 : decode cX11_init 81 = .ok (.putfield 38, 3) := by decide +kernel
theorem dX11_init_84 : decode cX11_init 84 = .ok (.aload_n 0, 1) := by decide +kernel
theorem dX11_init_85 : decode cX11_init 85 = .ok (.bipush 20, 2) := by decide +kernel
theorem dX11_init_87 : decode cX11_init 87 = .ok (.newarray .int, 2) := by decide +kernel
theorem dX11_init_89 : decode cX11_init 89 = .ok (.putfield 41, 3) := by decide +kernel
theorem dX11_init_92 : decode cX11_init 92 = .ok (.aload_n 0, 1) := by decide +kernel
theorem dX11_init_93 : decode cX11_init 93 = .ok (.bipush 20, 2) := by decide +kernel
theorem dX11_init_95 : decode cX11_init 95 = .ok (.newarray .boolean, 2) := by decide +kernel
theorem dX11_init_97 : decode cX11_init 97 = .ok (.putfield 44, 3) := by decide +kernel
theorem dX11_init_100 : decode cX11_init 100 = .ok (.aload_n 0, 1) := by decide +kernel
theorem dX11_init_101 : decode cX11_init 101 = .ok (.bipush 20, 2) := by decide +kernel
theorem dX11_init_103 : decode cX11_init 103 = .ok (.newarray .boolean, 2) := by decide +kernel
theorem dX11_init_105 : decode cX11_init 105 = .ok (.putfield 47, 3) := by decide +kernel
theorem dX11_init_108 : decode cX11_init 108 = .ok (.aload_n 0, 1) := by decide +kernel
theorem dX11_init_109 : decode cX11_init 109 = .ok (.bipush 20, 2) := by decide +kernel
theorem dX11_init_111 : decode cX11_init 111 = .ok (.newarray .boolean, 2) := by decide +kernel
theorem dX11_init_113 : decode cX11_init 113 = .ok (.putfield 50, 3) := by decide +kernel
theorem dX11_init_116 : decode cX11_init 116 = .ok (.aload_n 0, 1) := by decide +kernel
theorem dX11_init_117 : decode cX11_init 117 = .ok (.bipush 20, 2) := by decide +kernel
theorem dX11_init_119 : decode cX11_init 119 = .ok (.newarray .int, 2) := by decide +kernel
theorem dX11_init_121 : decode cX11_init 121 = .ok (.putfield 53, 3) := by decide +kernel
theorem dX11_init_124 : decode cX11_init 124 = .ok (.aload_n 0, 1) := by decide +kernel
theorem dX11_init_125 : decode cX11_init 125 = .ok (.bipush 20, 2) := by decide +kernel
theorem dX11_init_127 : decode cX11_init 127 = .ok (.newarray .int, 2) := by decide +kernel
theorem dX11_init_129 : decode cX11_init 129 = .ok (.putfield 56, 3) := by decide +kernel
theorem dX11_init_132 : decode cX11_init 132 = .ok (.aload_n 0, 1) := by decide +kernel
theorem dX11_init_133 : decode cX11_init 133 = .ok (.bipush 8, 2) := by decide +kernel
theorem dX11_init_135 : decode cX11_init 135 = .ok (.newarray .int, 2) := by decide +kernel
theorem dX11_init_137 : decode cX11_init 137 = .ok (.putfield 59, 3) := by decide +kernel
theorem dX11_init_140 : decode cX11_init 140 = .ok (.aload_n 0, 1) := by decide +kernel
theorem dX11_init_141 : decode cX11_init 141 = .ok (.bipush 8, 2) := by decide +kernel
theorem dX11_init_143 : decode cX11_init 143 = .ok (.newarray .int, 2) := by decide +kernel
theorem dX11_init_145 : decode cX11_init 145 = .ok (.putfield 62, 3) := by decide +kernel
theorem dX11_init_148 : decode cX11_init 148 = .ok (.aload_n 0, 1) := by decide +kernel
theorem dX11_init_149 : decode cX11_init 149 = .ok (.bipush 8, 2) := by decide +kernel
theorem dX11_init_151 : decode cX11_init 151 = .ok (.newarray .int, 2) := by decide +kernel
theorem dX11_init_153 : decode cX11_init 153 = .ok (.putfield 65, 3) := by decide +kernel
theorem dX11_init_156 : decode cX11_init 156 = .ok (.aload_n 0, 1) := by decide +kernel
theorem dX11_init_157 : decode cX11_init 157 = .ok (.bipush 8, 2) := by decide +kernel
theorem dX11_init_159 : decode cX11_init 159 = .ok (.newarray .boolean, 2) := by decide +kernel
theorem dX11_init_161 : decode cX11_init 161 = .ok (.putfield 68, 3) := by decide +kernel
theorem dX11_init_164 : decode cX11_init 164 = .ok (.aload_n 0, 1) := by decide +kernel
theorem dX11_init_165 : decode cX11_init 165 = .ok (.bipush 8, 2) := by decide +kernel
theorem dX11_init_167 : decode cX11_init 167 = .ok (.newarray .int, 2) := by decide +kernel
theorem dX11_init_169 : decode cX11_init 169 = .ok (.putfield 71, 3) := by decide +kernel
theorem dX11_init_172 : decode cX11_init 172 = .ok (.aload_n 0, 1) := by decide +kernel
theorem dX11_init_173 : decode cX11_init 173 = .ok (.bipush 6, 2) := by decide +kernel
theorem dX11_init_175 : decode cX11_init 175 = .ok (.newarray .int, 2) := by decide +kernel
theorem dX11_init_177 : decode cX11_init 177 = .ok (.putfield 74, 3) := by decide +kernel
theorem dX11_init_180 : decode cX11_init 180 = .ok (.aload_n 0, 1) := by decide +kernel
theorem dX11_init_181 : decode cX11_init 181 = .ok (.bipush 6, 2) := by decide +kernel
theorem dX11_init_183 : decode cX11_init 183 = .ok (.newarray .int, 2) := by decide +kernel
theorem dX11_init_185 : decode cX11_init 185 = .ok (.putfield 77, 3) := by decide +kernel
theorem dX11_init_188 : decode cX11_init 188 = .ok (.aload_n 0, 1) := by decide +kernel
theorem dX11_init_189 : decode cX11_init 189 = .ok (.bipush 36, 2) := by decide +kernel
theorem dX11_init_191 : decode cX11_init 191 = .ok (.newarray .int, 2) := by decide +kernel
theorem dX11_init_193 : decode cX11_init 193 = .ok (.putfield 80, 3) := by decide +kernel
theorem dX11_init_196 : decode cX11_init 196 = .ok (.aload_n 0, 1) := by decide +kernel
theorem dX11_init_197 : decode cX11_init 197 = .ok (.bipush 30, 2) := by decide +kernel
theorem dX11_init_199 : decode cX11_init 199 = .ok (.newarray .int, 2) := by decide +kernel
theorem dX11_init_201 : decode cX11_init 201 = .ok (.putfield 83, 3) := by decide +kernel
theorem dX11_init_204 : decode cX11_init 204 = .ok (.aload_n 0, 1) := by decide +kernel
theorem dX11_init_205 : decode cX11_init 205 = .ok (.bipush 30, 2) := by decide +kernel
theorem dX11_init_207 : decode cX11_init 207 = .ok (.newarray .int, 2) := by decide +kernel
theorem dX11_init_209 : decode cX11_init 209 = .ok (.putfield 86, 3) := by decide +kernel
theorem dX11_init_212 : decode cX11_init 212 = .ok (.aload_n 0, 1) := by decide +kernel
theorem dX11_init_213 : decode cX11_init 213 = .ok (.bipush 30, 2) := by decide +kernel
theorem dX11_init_215 : decode cX11_init 215 = .ok (.newarray .int, 2) := by decide +kernel
theorem dX11_init_217 : decode cX11_init 217 = .ok (.putfield 89, 3) := by decide +kernel
theorem dX11_init_220 : decode cX11_init 220 = .ok (.aload_n 0, 1) := by decide +kernel
theorem dX11_init_221 : decode cX11_init 221 = .ok (.sipush 240, 3) := by decide +kernel
theorem dX11_init_224 : decode cX11_init 224 = .ok (.newarray .int, 2) := by decide +kernel
theorem dX11_init_226 : decode cX11_init 226 = .ok (.putfield 92, 3) := by decide +kernel
theorem dX11_init_229 : decode cX11_init 229 = .ok (.aload_n 0, 1) := by decide +kernel
theorem dX11_init_230 : decode cX11_init 230 = .ok (.bipush 30, 2) := by decide +kernel
theorem dX11_init_232 : decode cX11_init 232 = .ok (.newarray .int, 2) := by decide +kernel
theorem dX11_init_234 : decode cX11_init 234 = .ok (.putfield 95, 3) := by decide +kernel
theorem dX11_init_237 : decode cX11_init 237 = .ok (.aload_n 0, 1) := by decide +kernel
theorem dX11_init_238 : decode cX11_init 238 = .ok (.iconst 4, 1) := by decide +kernel
theorem dX11_init_239 : decode cX11_init 239 = .ok (.newarray .int, 2) := by decide +kernel
theorem dX11_init_241 : decode cX11_init 241 = .ok (.putfield 98, 3) := by decide +kernel
theorem dX11_init_244 : decode cX11_init 244 = .ok (.aload_n 0, 1) := by decide +kernel
theorem dX11_init_245 : decode cX11_init 245 = .ok (.bipush 8, 2) := by decide +kernel
theorem dX11_init_247 : decode cX11_init 247 = .ok (.newarray .int, 2) := by decide +kernel
theorem dX11_init_249 : decode cX11_init 249 = .ok (.putfield 101, 3) := by decide +kernel
theorem dX11_init_252 : decode cX11_init 252 = .ok (.aload_n 0, 1) := by decide +kernel
theorem dX11_init_253 : decode cX11_init 253 = .ok (.bipush 8, 2) := by decide +kernel
theorem dX11_init_255 : decode cX11_init 255 = .ok (.newarray .int, 2) := by decide +kernel
theorem dX11_init_257 : decode cX11_init 257 = .ok (.putfield 104, 3) := by decide +kernel
theorem dX11_init_260 : decode cX11_init 260 = .ok (.aload_n 0, 1) := by decide +kernel
theorem dX11_init_261 : decode cX11_init 261 = .ok (.bipush 8, 2) := by decide +kernel
theorem dX11_init_263 : decode cX11_init 263 = .ok (.newarray .int, 2) := by decide +kernel
theorem dX11_init_265 : decode cX11_init 265 = .ok (.putfield 107, 3) := by decide +kernel
theorem dX11_init_268 : decode cX11_init 268 = .ok (.iconst 0, 1) := by decide +kernel
theorem dX11_init_269 : decode cX11_init 269 = .ok (.istore_n 1, 1) := by decide +kernel
theorem dX11_init_270 : decode cX11_init 270 = .ok (.iload_n 1, 1) := by decide +kernel
theorem dX11_init_271 : decode cX11_init 271 = .ok (.bipush 30, 2) := by decide +kernel
theorem dX11_init_273 : decode cX11_init 273 = .ok (.if_icmp .ge 36, 3) := by decide +kernel
theorem dX11_init_276 : decode cX11_init 276 = .ok (.aload_n 0, 1) := by decide +kernel
theorem dX11_init_277 : decode cX11_init 277 = .ok (.getfield 83, 3) := by decide +kernel
theorem dX11_init_280 : decode cX11_init 280 = .ok (.iload_n 1, 1) := by decide +kernel
theorem dX11_init_281 : decode cX11_init 281 = .ok (.sipush 480, 3) := by decide +kernel
theorem dX11_init_284 : decode cX11_init 284 = .ok (.iastore, 1) := by decide +kernel
theorem dX11_init_285 : decode cX11_init 285 = .ok (.aload_n 0, 1) := by decide +kernel
theorem dX11_init_286 : decode cX11_init 286 = .ok (.getfield 86, 3) := by decide +kernel
theorem dX11_init_289 : decode cX11_init 289 = .ok (.iload_n 1, 1) := by decide +kernel
theorem dX11_init_290 : decode cX11_init 290 = .ok (.sipush 360, 3) := by decide +kernel
theorem dX11_init_293 : decode cX11_init 293 = .ok (.iastore, 1) := by decide +kernel
theorem dX11_init_294 : decode cX11_init 294 = .ok (.aload_n 0, 1) := by decide +kernel
theorem dX11_init_295 : decode cX11_init 295 = .ok (.getfield 89, 3) := by decide +kernel
theorem dX11_init_298 : decode cX11_init 298 = .ok (.iload_n 1, 1) := by decide +kernel
theorem dX11_init_299 : decode cX11_init 299 = .ok (.sipush 1080, 3) := by decide +kernel
theorem dX11_init_302 : decode cX11_init 302 = .ok (.iastore, 1) := by decide +kernel
theorem dX11_init_303 : decode cX11_init 303 = .ok (.iinc 1 1, 3) := by decide +kernel
theorem dX11_init_306 : decode cX11_init 306 = .ok (.goto (-36), 3) := by decide +kernel
theorem dX11_init_309 : decode cX11_init 309 = .ok (.iconst 0, 1) := by decide +kernel
theorem dX11_init_310 : decode cX11_init 310 = .ok (.istore_n 1, 1) := by decide +kernel
theorem dX11_init_311 : decode cX11_init 311 = .ok (.iload_n 1, 1) := by decide +kernel
theorem dX11_init_312 : decode cX11_init 312 = .ok (.bipush 36, 2) := by decide +kernel
theorem dX11_init_314 : decode cX11_init 314 = .ok (.if_icmp .ge 17, 3) := by decide +kernel
theorem dX11_init_317 : decode cX11_init 317 = .ok (.aload_n 0, 1) := by decide +kernel
theorem dX11_init_318 : decode cX11_init 318 = .ok (.getfield 80, 3) := by decide +kernel
theorem dX11_init_321 : decode cX11_init 321 = .ok (.iload_n 1, 1) := by decide +kernel
theorem dX11_init_322 : decode cX11_init 322 = .ok (.bipush 60, 2) := by decide +kernel
theorem dX11_init_324 : decode cX11_init 324 = .ok (.iastore, 1) := by decide +kernel
theorem dX11_init_325 : decode cX11_init 325 = .ok (.iinc 1 1, 3) := by decide +kernel
theorem dX11_init_328 : decode cX11_init 328 = .ok (.goto (-17), 3) := by decide +kernel
theorem dX11_init_331 : decode cX11_init 331 = .ok (.return_, 1) := by decide +kernel
theorem dX11_thrown_0 : decode cX11_thrown 0 = .ok (.aload_n 0, 1) := by decide +kernel
theorem dX11_thrown_1 : decode cX11_thrown 1 = .ok (.getfield 110, 3) := by decide +kernel
theorem dX11_thrown_4 : decode cX11_thrown 4 = .ok (.ireturn, 1) := by decide +kernel
theorem dX11_goesWell_0 : decode cX11_goesWell 0 = .ok (.aload_n 0, 1) := by decide +kernel
theorem dX11_goesWell_1 : decode cX11_goesWell 1 = .ok (.iload_n 1, 1) := by decide +kernel
theorem dX11_goesWell_2 : decode cX11_goesWell 2 = .ok (.putfield 110, 3) := by decide +kernel
theorem dX11_goesWell_5 : decode cX11_goesWell 5 = .ok (.iload_n 1, 1) := by decide +kernel
theorem dX11_goesWell_6 : decode cX11_goesWell 6 = .ok (.ifCond .ne 7, 3) := by decide +kernel
theorem dX11_goesWell_9 : decode cX11_goesWell 9 = .ok (.iconst 1, 1) := by decide +kernel
theorem dX11_goesWell_10 : decode cX11_goesWell 10 = .ok (.goto 4, 3) := by decide +kernel
theorem dX11_goesWell_13 : decode cX11_goesWell 13 = .ok (.iconst 0, 1) := by decide +kernel
theorem dX11_goesWell_14 : decode cX11_goesWell 14 = .ok (.ireturn, 1) := by decide +kernel
theorem dX11_in_0 : decode cX11_in 0 = .ok (.iload_n 0, 1) := by decide +kernel
theorem dX11_in_1 : decode cX11_in 1 = .ok (.iload_n 1, 1) := by decide +kernel
theorem dX11_in_2 : decode cX11_in 2 = .ok (.if_icmp .lt 12, 3) := by decide +kernel
theorem dX11_in_5 : decode cX11_in 5 = .ok (.iload_n 0, 1) := by decide +kernel
theorem dX11_in_6 : decode cX11_in 6 = .ok (.iload_n 2, 1) := by decide +kernel
theorem dX11_in_7 : decode cX11_in 7 = .ok (.if_icmp .gt 7, 3) := by decide +kernel
theorem dX11_in_10 : decode cX11_in 10 = .ok (.iconst 1, 1) := by decide +kernel
theorem dX11_in_11 : decode cX11_in 11 = .ok (.goto 4, 3) := by decide +kernel
theorem dX11_in_14 : decode cX11_in 14 = .ok (.iconst 0, 1) := by decide +kernel
theorem dX11_in_15 : decode cX11_in 15 = .ok (.ireturn, 1) := by decide +kernel
theorem dX11_has_0 : decode cX11_has 0 = .ok (.iload_n 0, 1) := by decide +kernel
theorem dX11_has_1 : decode cX11_has 1 = .ok (.iload_n 1, 1) := by decide +kernel
theorem dX11_has_2 : decode cX11_has 2 = .ok (.ishr, 1) := by decide +kernel
theorem dX11_has_3 : decode cX11_has 3 = .ok (.iconst 1, 1) := by decide +kernel
theorem dX11_has_4 : decode cX11_has 4 = .ok (.iand, 1) := by decide +kernel
theorem dX11_has_5 : decode cX11_has 5 = .ok (.iconst 1, 1) := by decide +kernel
theorem dX11_has_6 : decode cX11_has 6 = .ok (.if_icmp .ne 7, 3) := by decide +kernel
theorem dX11_has_9 : decode cX11_has 9 = .ok (.iconst 1, 1) := by decide +kernel
theorem dX11_has_10 : decode cX11_has 10 = .ok (.goto 4, 3) := by decide +kernel
theorem dX11_has_13 : decode cX11_has 13 = .ok (.iconst 0, 1) := by decide +kernel
theorem dX11_has_14 : decode cX11_has 14 = .ok (.ireturn, 1) := by decide +kernel
theorem dX11_size_0 : decode cX11_size 0 = .ok (.iconst 0, 1) := by decide +kernel
theorem dX11_size_1 : decode cX11_size 1 = .ok (.istore_n 1, 1) := by decide +kernel
theorem dX11_size_2 : decode cX11_size 2 = .ok (.iconst 0, 1) := by decide +kernel
theorem dX11_size_3 : decode cX11_size 3 = .ok (.istore_n 2, 1) := by decide +kernel
theorem dX11_size_4 : decode cX11_size 4 = .ok (.iload_n 2, 1) := by decide +kernel
theorem dX11_size_5 : decode cX11_size 5 = .ok (.bipush 30, 2) := by decide +kernel
theorem dX11_size_7 : decode cX11_size 7 = .ok (.if_icmp .ge 17, 3) := by decide +kernel
theorem dX11_size_10 : decode cX11_size 10 = .ok (.iload_n 1, 1) := by decide +kernel
theorem dX11_size_11 : decode cX11_size 11 = .ok (.iload_n 0, 1) := by decide +kernel
theorem dX11_size_12 : decode cX11_size 12 = .ok (.iload_n 2, 1) := by decide +kernel
theorem dX11_size_13 : decode cX11_size 13 = .ok (.ishr, 1) := by decide +kernel
theorem dX11_size_14 : decode cX11_size 14 = .ok (.iconst 1, 1) := by decide +kernel
theorem dX11_size_15 : decode cX11_size 15 = .ok (.iand, 1) := by decide +kernel
theorem dX11_size_16 : decode cX11_size 16 = .ok (.iadd, 1) := by decide +kernel
theorem dX11_size_17 : decode cX11_size 17 = .ok (.istore_n 1, 1) := by decide +kernel
theorem dX11_size_18 : decode cX11_size 18 = .ok (.iinc 2 1, 3) := by decide +kernel
theorem dX11_size_21 : decode cX11_size 21 = .ok (.goto (-17), 3) := by decide +kernel
theorem dX11_size_24 : decode cX11_size 24 = .ok (.iload_n 1, 1) := by decide +kernel
theorem dX11_size_25 : decode cX11_size 25 = .ok (.ireturn, 1) := by decide +kernel
theorem dX11_isScene_0 : decode cX11_isScene 0 = .ok (.iload_n 1, 1) := by decide +kernel
theorem dX11_isScene_1 : decode cX11_isScene 1 = .ok (.iconst 0, 1) := by decide +kernel
theorem dX11_isScene_2 : decode cX11_isScene 2 = .ok (.aload_n 0, 1) := by decide +kernel
theorem dX11_isScene_3 : decode cX11_isScene 3 = .ok (.getfield 114, 3) := by decide +kernel
theorem dX11_isScene_6 : decode cX11_isScene 6 = .ok (.iconst 1, 1) := by decide +kernel
theorem dX11_isScene_7 : decode cX11_isScene 7 = .ok (.isub, 1) := by decide +kernel
theorem dX11_isScene_8 : decode cX11_isScene 8 = .ok (.invokestatic 117, 3) := by decide +kernel
theorem dX11_isScene_11 : decode cX11_isScene 11 = .ok (.ireturn, 1) := by decide +kernel
theorem dX11_isPerson_0 : decode cX11_isPerson 0 = .ok (.iload_n 1, 1) := by decide +kernel
theorem dX11_isPerson_1 : decode cX11_isPerson 1 = .ok (.iconst 0, 1) := by decide +kernel
theorem dX11_isPerson_2 : decode cX11_isPerson 2 = .ok (.aload_n 0, 1) := by decide +kernel
theorem dX11_isPerson_3 : decode cX11_isPerson 3 = .ok (.getfield 121, 3) := by decide +kernel
theorem dX11_isPerson_6 : decode cX11_isPerson 6 = .ok (.iconst 1, 1) := by decide +kernel
theorem dX11_isPerson_7 : decode cX11_isPerson 7 = .ok (.isub, 1) := by decide +kernel
theorem dX11_isPerson_8 : decode cX11_isPerson 8 = .ok (.invokestatic 117, 3) := by decide +kernel
theorem dX11_isPerson_11 : decode cX11_isPerson 11 = .ok (.ireturn, 1) := by decide +kernel
theorem dX11_isPlace_0 : decode cX11_isPlace 0 = .ok (.iload_n 1, 1) := by decide +kernel
theorem dX11_isPlace_1 : decode cX11_isPlace 1 = .ok (.iconst 0, 1) := by decide +kernel
theorem dX11_isPlace_2 : decode cX11_isPlace 2 = .ok (.aload_n 0, 1) := by decide +kernel
theorem dX11_isPlace_3 : decode cX11_isPlace 3 = .ok (.getfield 124, 3) := by decide +kernel
theorem dX11_isPlace_6 : decode cX11_isPlace 6 = .ok (.iconst 1, 1) := by decide +kernel
theorem dX11_isPlace_7 : decode cX11_isPlace 7 = .ok (.isub, 1) := by decide +kernel
theorem dX11_isPlace_8 : decode cX11_isPlace 8 = .ok (.invokestatic 117, 3) := by decide +kernel
theorem dX11_isPlace_11 : decode cX11_isPlace 11 = .ok (.ireturn, 1) := by decide +kernel
theorem dX11_isDay_0 : decode cX11_isDay 0 = .ok (.iload_n 0, 1) := by decide +kernel
theorem dX11_isDay_1 : decode cX11_isDay 1 = .ok (.iconst 0, 1) := by decide +kernel
theorem dX11_isDay_2 : decode cX11_isDay 2 = .ok (.bipush 29, 2) := by decide +kernel
theorem dX11_isDay_4 : decode cX11_isDay 4 = .ok (.invokestatic 117, 3) := by decide +kernel
theorem dX11_isDay_7 : decode cX11_isDay 7 = .ok (.ireturn, 1) := by decide +kernel
theorem dX11_placeIn_0 : decode cX11_placeIn 0 = .ok (.iconst 0, 1) := by decide +kernel
theorem dX11_placeIn_1 : decode cX11_placeIn 1 = .ok (.istore_n 2, 1) := by decide +kernel
theorem dX11_placeIn_2 : decode cX11_placeIn 2 = .ok (.aload_n 0, 1) := by decide +kernel
theorem dX11_placeIn_3 : decode cX11_placeIn 3 = .ok (.getfield 7, 3) := by decide +kernel
theorem dX11_placeIn_6 : decode cX11_placeIn 6 = .ok (.iload_n 2, 1) := by decide +kernel
theorem dX11_placeIn_7 : decode cX11_placeIn 7 = .ok (.iaload, 1) := by decide +kernel
theorem dX11_placeIn_8 : decode cX11_placeIn 8 = .ok (.iload_n 1, 1) := by decide +kernel
theorem dX11_placeIn_9 : decode cX11_placeIn 9 = .ok (.if_icmp .eq 9, 3) := by decide +kernel
theorem dX11_placeIn_12 : decode cX11_placeIn 12 = .ok (.iinc 2 1, 3) := by decide +kernel
theorem dX11_placeIn_15 : decode cX11_placeIn 15 = .ok (.goto (-13), 3) := by decide +kernel
theorem dX11_placeIn_18 : decode cX11_placeIn 18 = .ok (.iload_n 2, 1) := by decide +kernel
theorem dX11_placeIn_19 : decode cX11_placeIn 19 = .ok (.ireturn, 1) := by decide +kernel
theorem dX11_letter_0 : decode cX11_letter 0 = .ok (.iconst 0, 1) := by decide +kernel
theorem dX11_letter_1 : decode cX11_letter 1 = .ok (.istore_n 2, 1) := by decide +kernel
theorem dX11_letter_2 : decode cX11_letter 2 = .ok (.iconst 0, 1) := by decide +kernel
theorem dX11_letter_3 : decode cX11_letter 3 = .ok (.istore_n 3, 1) := by decide +kernel
theorem dX11_letter_4 : decode cX11_letter 4 = .ok (.iload_n 3, 1) := by decide +kernel
theorem dX11_letter_5 : decode cX11_letter 5 = .ok (.aload_n 0, 1) := by decide +kernel
theorem dX11_letter_6 : decode cX11_letter 6 = .ok (.iload_n 1, 1) := by decide +kernel
theorem dX11_letter_7 : decode cX11_letter 7 = .ok (.invokevirtual 127, 3) := by decide +kernel
theorem dX11_letter_10 : decode cX11_letter 10 = .ok (.if_icmp .ge 39, 3) := by decide +kernel
theorem dX11_letter_13 : decode cX11_letter 13 = .ok (.aload_n 0, 1) := by decide +kernel
theorem dX11_letter_14 : decode cX11_letter 14 = .ok (.getfield 16, 3) := by decide +kernel
theorem dX11_letter_17 : decode cX11_letter 17 = .ok (.aload_n 0, 1) := by decide +kernel
theorem dX11_letter_18 : decode cX11_letter 18 = .ok (.getfield 7, 3) := by decide +kernel
theorem dX11_letter_21 : decode cX11_letter 21 = .ok (.iload_n 3, 1) := by decide +kernel
theorem dX11_letter_22 : decode cX11_letter 22 = .ok (.iaload, 1) := by decide +kernel
theorem dX11_letter_23 : decode cX11_letter 23 = .ok (.iaload, 1) := by decide +kernel
theorem dX11_letter_24 : decode cX11_letter 24 = .ok (.ifCond .ne 17, 3) := by decide +kernel
theorem dX11_letter_27 : decode cX11_letter 27 = .ok (.aload_n 0, 1) := by decide +kernel
theorem dX11_letter_28 : decode cX11_letter 28 = .ok (.getfield 13, 3) := by decide +kernel
theorem dX11_letter_31 : decode cX11_letter 31 = .ok (.aload_n 0, 1) := by decide +kernel
theorem dX11_letter_32 : decode cX11_letter 32 = .ok (.getfield 7, 3) := by decide +kernel
theorem dX11_letter_35 : decode cX11_letter 35 = .ok (.iload_n 3, 1) := by decide +kernel
theorem dX11_letter_36 : decode cX11_letter 36 = .ok (.iaload, 1) := by decide +kernel
theorem dX11_letter_37 : decode cX11_letter 37 = .ok (.iaload, 1) := by decide +kernel
theorem dX11_letter_38 : decode cX11_letter 38 = .ok (.goto 4, 3) := by decide +kernel
theorem dX11_letter_41 : decode cX11_letter 41 = .ok (.iload_n 2, 1) := by decide +kernel
theorem dX11_letter_42 : decode cX11_letter 42 = .ok (.istore_n 2, 1) := by decide +kernel
theorem dX11_letter_43 : decode cX11_letter 43 = .ok (.iinc 3 1, 3) := by decide +kernel
theorem dX11_letter_46 : decode cX11_letter 46 = .ok (.goto (-42), 3) := by decide +kernel
theorem dX11_letter_49 : decode cX11_letter 49 = .ok (.aload_n 0, 1) := by decide +kernel
theorem dX11_letter_50 : decode cX11_letter 50 = .ok (.getfield 13, 3) := by decide +kernel
theorem dX11_letter_53 : decode cX11_letter 53 = .ok (.iload_n 1, 1) := by decide +kernel
theorem dX11_letter_54 : decode cX11_letter 54 = .ok (.iload_n 2, 1) := by decide +kernel
theorem dX11_letter_55 : decode cX11_letter 55 = .ok (.iastore, 1) := by decide +kernel
theorem dX11_letter_56 : decode cX11_letter 56 = .ok (.iconst 0, 1) := by decide +kernel
theorem dX11_letter_57 : decode cX11_letter 57 = .ok (.istore_n 3, 1) := by decide +kernel
theorem dX11_letter_58 : decode cX11_letter 58 = .ok (.iload_n 3, 1) := by decide +kernel
theorem dX11_letter_59 : decode cX11_letter 59 = .ok (.ifCond .ne 79, 3) := by decide +kernel
theorem dX11_letter_62 : decode cX11_letter 62 = .ok (.aload_n 0, 1) := by decide +kernel
theorem dX11_letter_63 : decode cX11_letter 63 = .ok (.getfield 16, 3) := by decide +kernel
theorem dX11_letter_66 : decode cX11_letter 66 = .ok (.iload_n 1, 1) := by decide +kernel
theorem dX11_letter_67 : decode cX11_letter 67 = .ok (.dup2, 1) := by decide +kernel
theorem dX11_letter_68 : decode cX11_letter 68 = .ok (.iaload, 1) := by decide +kernel
theorem dX11_letter_69 : decode cX11_letter 69 = .ok (.iconst 1, 1) := by decide +kernel
theorem dX11_letter_70 : decode cX11_letter 70 = .ok (.iadd, 1) := by decide +kernel
theorem dX11_letter_71 : decode cX11_letter 71 = .ok (.iastore, 1) := by decide +kernel
theorem dX11_letter_72 : decode cX11_letter 72 = .ok (.iconst 1, 1) := by decide +kernel
theorem dX11_letter_73 : decode cX11_letter 73 = .ok (.istore_n 3, 1) := by decide +kernel
theorem dX11_letter_74 : decode cX11_letter 74 = .ok (.iconst 0, 1) := by decide +kernel
theorem dX11_letter_75 : decode cX11_letter 75 = .ok (.istore 4, 2) := by decide +kernel
theorem dX11_letter_77 : decode cX11_letter 77 = .ok (.iload 4, 2) := by decide +kernel
theorem dX11_letter_79 : decode cX11_letter 79 = .ok (.aload_n 0, 1) := by decide +kernel
theorem dX11_letter_80 : decode cX11_letter 80 = .ok (.getfield 114, 3) := by decide +kernel
theorem dX11_letter_83 : decode cX11_letter 83 = .ok (.if_icmp .ge 52, 3) := by decide +kernel
theorem dX11_letter_86 : decode cX11_letter 86 = .ok (.iload_n 3, 1) := by decide +kernel
theorem dX11_letter_87 : decode cX11_letter 87 = .ok (.ifCond .eq 40, 3) := by decide +kernel
theorem dX11_letter_90 : decode cX11_letter 90 = .ok (.iload 4, 2) := by decide +kernel
theorem dX11_letter_92 : decode cX11_letter 92 = .ok (.iload_n 1, 1) := by decide +kernel
theorem dX11_letter_93 : decode cX11_letter 93 = .ok (.if_icmp .eq 30, 3) := by decide +kernel
theorem dX11_letter_96 : decode cX11_letter 96 = .ok (.aload_n 0, 1) := by decide +kernel
theorem dX11_letter_97 : decode cX11_letter 97 = .ok (.getfield 13, 3) := by decide +kernel
theorem dX11_letter_100 : decode cX11_letter 100 = .ok (.iload 4, 2) := by decide +kernel
theorem dX11_letter_102 : decode cX11_letter 102 = .ok (.iaload, 1) := by decide +kernel
theorem dX11_letter_103 : decode cX11_letter 103 = .ok (.iload_n 2, 1) := by decide +kernel
theorem dX11_letter_104 : decode cX11_letter 104 = .ok (.if_icmp .ne 19, 3) := by decide +kernel
theorem dX11_letter_107 : decode cX11_letter 107 = .ok (.aload_n 0, 1) := by decide +kernel
theorem dX11_letter_108 : decode cX11_letter 108 = .ok (.getfield 16, 3) := by decide +kernel
theorem dX11_letter_111 : decode cX11_letter 111 = .ok (.iload 4, 2) := by decide +kernel
theorem dX11_letter_113 : decode cX11_letter 113 = .ok (.iaload, 1) := by decide +kernel
theorem dX11_letter_114 : decode cX11_letter 114 = .ok (.aload_n 0, 1) := by decide +kernel
theorem dX11_letter_115 : decode cX11_letter 115 = .ok (.getfield 16, 3) := by decide +kernel
theorem dX11_letter_118 : decode cX11_letter 118 = .ok (.iload_n 1, 1) := by decide +kernel
theorem dX11_letter_119 : decode cX11_letter 119 = .ok (.iaload, 1) := by decide +kernel
theorem dX11_letter_120 : decode cX11_letter 120 = .ok (.if_icmp .eq 7, 3) := by decide +kernel
theorem dX11_letter_123 : decode cX11_letter 123 = .ok (.iconst 1, 1) := by decide +kernel
theorem dX11_letter_124 : decode cX11_letter 124 = .ok (.goto 4, 3) := by decide +kernel
theorem dX11_letter_127 : decode cX11_letter 127 = .ok (.iconst 0, 1) := by decide +kernel
theorem dX11_letter_128 : decode cX11_letter 128 = .ok (.istore_n 3, 1) := by decide +kernel
theorem dX11_letter_129 : decode cX11_letter 129 = .ok (.iinc 4 1, 3) := by decide +kernel
theorem dX11_letter_132 : decode cX11_letter 132 = .ok (.goto (-55), 3) := by decide +kernel
theorem dX11_letter_135 : decode cX11_letter 135 = .ok (.goto (-77), 3) := by decide +kernel
theorem dX11_letter_138 : decode cX11_letter 138 = .ok (.return_, 1) := by decide +kernel
theorem dX11_scene_0 : decode cX11_scene 0 = .ok (.iload_n 1, 1) := by decide +kernel
theorem dX11_scene_1 : decode cX11_scene 1 = .ok (.iconst (-1), 1) := by decide +kernel
theorem dX11_scene_2 : decode cX11_scene 2 = .ok (.if_icmp .eq 11, 3) := by decide +kernel
theorem dX11_scene_5 : decode cX11_scene 5 = .ok (.aload_n 0, 1) := by decide +kernel
theorem dX11_scene_6 : decode cX11_scene 6 = .ok (.iload_n 1, 1) := by decide +kernel
theorem dX11_scene_7 : decode cX11_scene 7 = .ok (.invokevirtual 131, 3) := by decide +kernel
theorem dX11_scene_10 : decode cX11_scene 10 = .ok (.ifCond .eq 15, 3) := by decide +kernel
theorem dX11_scene_13 : decode cX11_scene 13 = .ok (.aload_n 0, 1) := by decide +kernel
theorem dX11_scene_14 : decode cX11_scene 14 = .ok (.iload_n 2, 1) := by decide +kernel
theorem dX11_scene_15 : decode cX11_scene 15 = .ok (.invokevirtual 135, 3) := by decide +kernel
theorem dX11_scene_18 : decode cX11_scene 18 = .ok (.ifCond .eq 7, 3) := by decide +kernel
theorem dX11_scene_21 : decode cX11_scene 21 = .ok (.iconst 1, 1) := by decide +kernel
theorem dX11_scene_22 : decode cX11_scene 22 = .ok (.goto 4, 3) := by decide +kernel
theorem dX11_scene_25 : decode cX11_scene 25 = .ok (.iconst 0, 1) := by decide +kernel
theorem dX11_scene_26 : decode cX11_scene 26 = .ok (.istore 6, 2) := by decide +kernel
theorem dX11_scene_28 : decode cX11_scene 28 = .ok (.aload_n 0, 1) := by decide +kernel
theorem dX11_scene_29 : decode cX11_scene 29 = .ok (.iload 6, 2) := by decide +kernel
theorem dX11_scene_31 : decode cX11_scene 31 = .ok (.ifCond .ne 7, 3) := by decide +kernel
theorem dX11_scene_34 : decode cX11_scene 34 = .ok (.iconst 1, 1) := by decide +kernel
theorem dX11_scene_35 : decode cX11_scene 35 = .ok (.goto 32, 3) := by decide +kernel
theorem dX11_scene_38 : decode cX11_scene 38 = .ok (.iload 5, 2) := by decide +kernel
theorem dX11_scene_40 : decode cX11_scene 40 = .ok (.iconst 1, 1) := by decide +kernel
theorem dX11_scene_41 : decode cX11_scene 41 = .ok (.bipush 32, 2) := by decide +kernel
theorem dX11_scene_43 : decode cX11_scene 43 = .ok (.invokestatic 117, 3) := by decide +kernel
theorem dX11_scene_46 : decode cX11_scene 46 = .ok (.ifCond .ne 7, 3) := by decide +kernel
theorem dX11_scene_49 : decode cX11_scene 49 = .ok (.iconst 2, 1) := by decide +kernel
theorem dX11_scene_50 : decode cX11_scene 50 = .ok (.goto 17, 3) := by decide +kernel
theorem dX11_scene_53 : decode cX11_scene 53 = .ok (.aload_n 0, 1) := by decide +kernel
theorem dX11_scene_54 : decode cX11_scene 54 = .ok (.getfield 114, 3) := by decide +kernel
theorem dX11_scene_57 : decode cX11_scene 57 = .ok (.bipush 20, 2) := by decide +kernel
theorem dX11_scene_59 : decode cX11_scene 59 = .ok (.if_icmp .ne 7, 3) := by decide +kernel
theorem dX11_scene_62 : decode cX11_scene 62 = .ok (.iconst 3, 1) := by decide +kernel
theorem dX11_scene_63 : decode cX11_scene 63 = .ok (.goto 4, 3) := by decide +kernel
theorem dX11_scene_66 : decode cX11_scene 66 = .ok (.iconst 0, 1) := by decide +kernel
theorem dX11_scene_67 : decode cX11_scene 67 = .ok (.invokevirtual 138, 3) := by decide +kernel
theorem dX11_scene_70 : decode cX11_scene 70 = .ok (.ifCond .ne 5, 3) := by decide +kernel
theorem dX11_scene_73 : decode cX11_scene 73 = .ok (.iconst 0, 1) := by decide +kernel
theorem dX11_scene_74 : decode cX11_scene 74 = .ok (.ireturn, 1) := by decide +kernel
theorem dX11_scene_75 : decode cX11_scene 75 = .ok (.iload_n 1, 1) := by decide +kernel
theorem dX11_scene_76 : decode cX11_scene 76 = .ok (.iconst (-1), 1) := by decide +kernel
theorem dX11_scene_77 : decode cX11_scene 77 = .ok (.if_icmp .ne 7, 3) := by decide +kernel
theorem dX11_scene_80 : decode cX11_scene 80 = .ok (.iconst 0, 1) := by decide +kernel
theorem dX11_scene_81 : decode cX11_scene 81 = .ok (.goto 10, 3) := by decide +kernel
theorem dX11_scene_84 : decode cX11_scene 84 = .ok (.aload_n 0, 1) := by decide +kernel
theorem dX11_scene_85 : decode cX11_scene 85 = .ok (.iload_n 1, 1) := by decide +kernel
theorem dX11_scene_86 : decode cX11_scene 86 = .ok (.invokevirtual 127, 3) := by decide +kernel
theorem dX11_scene_89 : decode cX11_scene 89 = .ok (.iconst 1, 1) := by decide +kernel
theorem dX11_scene_90 : decode cX11_scene 90 = .ok (.iadd, 1) := by decide +kernel
theorem dX11_scene_91 : decode cX11_scene 91 = .ok (.istore 7, 2) := by decide +kernel
theorem dX11_scene_93 : decode cX11_scene 93 = .ok (.aload_n 0, 1) := by decide +kernel
theorem dX11_scene_94 : decode cX11_scene 94 = .ok (.getfield 114, 3) := by decide +kernel
theorem dX11_scene_97 : decode cX11_scene 97 = .ok (.istore 8, 2) := by decide +kernel
theorem dX11_scene_99 : decode cX11_scene 99 = .ok (.iload 8, 2) := by decide +kernel
theorem dX11_scene_101 : decode cX11_scene 101 = .ok (.iload 7, 2) := by decide +kernel
theorem dX11_scene_103 : decode cX11_scene 103 = .ok (.if_icmp .le 25, 3) := by decide +kernel
theorem dX11_scene_106 : decode cX11_scene 106 = .ok (.aload_n 0, 1) := by decide +kernel
theorem dX11_scene_107 : decode cX11_scene 107 = .ok (.getfield 7, 3) := by decide +kernel
theorem dX11_scene_110 : decode cX11_scene 110 = .ok (.iload 8, 2) := by decide +kernel
theorem dX11_scene_112 : decode cX11_scene 112 = .ok (.aload_n 0, 1) := by decide +kernel
theorem dX11_scene_113 : decode cX11_scene 113 = .ok (.getfield 7, 3) := by decide +kernel
theorem dX11_scene_116 : decode cX11_scene 116 = .ok (.iload 8, 2) := by decide +kernel
theorem dX11_scene_118 : decode cX11_scene 118 = .ok (.iconst 1, 1) := by decide +kernel
theorem dX11_scene_119 : decode cX11_scene 119 = .ok (.isub, 1) := by decide +kernel
theorem dX11_scene_120 : decode cX11_scene 120 = .ok (.iaload, 1) := by decide +kernel
theorem dX11_scene_121 : decode cX11_scene 121 = .ok (.iastore, 1) := by decide +kernel
theorem dX11_scene_122 : decode cX11_scene 122 = .ok (.iinc 8 (-1), 3) := by decide +kernel
theorem dX11_scene_125 : decode cX11_scene 125 = .ok (.goto (-26), 3) := by decide +kernel
theorem dX11_scene_128 : decode cX11_scene 128 = .ok (.aload_n 0, 1) := by decide +kernel
theorem dX11_scene_129 : decode cX11_scene 129 = .ok (.getfield 114, 3) := by decide +kernel
theorem dX11_scene_132 : decode cX11_scene 132 = .ok (.istore 8, 2) := by decide +kernel
theorem dX11_scene_134 : decode cX11_scene 134 = .ok (.aload_n 0, 1) := by decide +kernel
theorem dX11_scene_135 : decode cX11_scene 135 = .ok (.getfield 7, 3) := by decide +kernel
theorem dX11_scene_138 : decode cX11_scene 138 = .ok (.iload 7, 2) := by decide +kernel
theorem dX11_scene_140 : decode cX11_scene 140 = .ok (.iload 8, 2) := by decide +kernel
theorem dX11_scene_142 : decode cX11_scene 142 = .ok (.iastore, 1) := by decide +kernel
theorem dX11_scene_143 : decode cX11_scene 143 = .ok (.aload_n 0, 1) := by decide +kernel
theorem dX11_scene_144 : decode cX11_scene 144 = .ok (.getfield 19, 3) := by decide +kernel
theorem dX11_scene_147 : decode cX11_scene 147 = .ok (.iload 8, 2) := by decide +kernel
theorem dX11_scene_149 : decode cX11_scene 149 = .ok (.iload_n 2, 1) := by decide +kernel
theorem dX11_scene_150 : decode cX11_scene 150 = .ok (.iastore, 1) := by decide +kernel
theorem dX11_scene_151 : decode cX11_scene 151 = .ok (.aload_n 0, 1) := by decide +kernel
theorem dX11_scene_152 : decode cX11_scene 152 = .ok (.getfield 22, 3) := by decide +kernel
theorem dX11_scene_155 : decode cX11_scene 155 = .ok (.iload 8, 2) := by decide +kernel
theorem dX11_scene_157 : decode cX11_scene 157 = .ok (.iload_n 3, 1) := by decide +kernel
theorem dX11_scene_158 : decode cX11_scene 158 = .ok (.bastore, 1) := by decide +kernel
theorem dX11_scene_159 : decode cX11_scene 159 = .ok (.aload_n 0, 1) := by decide +kernel
theorem dX11_scene_160 : decode cX11_scene 160 = .ok (.getfield 26, 3) := by decide +kernel
theorem dX11_scene_163 : decode cX11_scene 163 = .ok (.iload 8, 2) := by decide +kernel
theorem dX11_scene_165 : decode cX11_scene 165 = .ok (.iload 4, 2) := by decide +kernel
theorem dX11_scene_167 : decode cX11_scene 167 = .ok (.bastore, 1) := by decide +kernel
theorem dX11_scene_168 : decode cX11_scene 168 = .ok (.aload_n 0, 1) := by decide +kernel
theorem dX11_scene_169 : decode cX11_scene 169 = .ok (.getfield 29, 3) := by decide +kernel
theorem dX11_scene_172 : decode cX11_scene 172 = .ok (.iload 8, 2) := by decide +kernel
theorem dX11_scene_174 : decode cX11_scene 174 = .ok (.iload 5, 2) := by decide +kernel
theorem dX11_scene_176 : decode cX11_scene 176 = .ok (.iastore, 1) := by decide +kernel
theorem dX11_scene_177 : decode cX11_scene 177 = .ok (.aload_n 0, 1) := by decide +kernel
theorem dX11_scene_178 : decode cX11_scene 178 = .ok (.getfield 56, 3) := by decide +kernel
theorem dX11_scene_181 : decode cX11_scene 181 = .ok (.iload 8, 2) := by decide +kernel
theorem dX11_scene_183 : decode cX11_scene 183 = .ok (.iconst (-1), 1) := by decide +kernel
theorem dX11_scene_184 : decode cX11_scene 184 = .ok (.iastore, 1) := by decide +kernel
theorem dX11_scene_185 : decode cX11_scene 185 = .ok (.iconst 0, 1) := by decide +kernel
theorem dX11_scene_186 : decode cX11_scene 186 = .ok (.istore 9, 2) := by decide +kernel
theorem dX11_scene_188 : decode cX11_scene 188 = .ok (.iload 9, 2) := by decide +kernel
theorem dX11_scene_190 : decode cX11_scene 190 = .ok (.iconst 4, 1) := by decide +kernel
theorem dX11_scene_191 : decode cX11_scene 191 = .ok (.if_icmp .ge 35, 3) := by decide +kernel
theorem dX11_scene_194 : decode cX11_scene 194 = .ok (.aload_n 0, 1) := by decide +kernel
theorem dX11_scene_195 : decode cX11_scene 195 = .ok (.getfield 35, 3) := by decide +kernel
theorem dX11_scene_198 : decode cX11_scene 198 = .ok (.iconst 4, 1) := by decide +kernel
theorem dX11_scene_199 : decode cX11_scene 199 = .ok (.iload 8, 2) := by decide +kernel
theorem dX11_scene_201 : decode cX11_scene 201 = .ok (.imul, 1) := by decide +kernel
theorem dX11_scene_202 : decode cX11_scene 202 = .ok (.iload 9, 2) := by decide +kernel
theorem dX11_scene_204 : decode cX11_scene 204 = .ok (.iadd, 1) := by decide +kernel
theorem dX11_scene_205 : decode cX11_scene 205 = .ok (.iconst (-1), 1) := by decide +kernel
theorem dX11_scene_206 : decode cX11_scene 206 = .ok (.iastore, 1) := by decide +kernel
theorem dX11_scene_207 : decode cX11_scene 207 = .ok (.aload_n 0, 1) := by decide +kernel
theorem dX11_scene_208 : decode cX11_scene 208 = .ok (.getfield 38, 3) := by decide +kernel
theorem dX11_scene_211 : decode cX11_scene 211 = .ok (.iconst 4, 1) := by decide +kernel
theorem dX11_scene_212 : decode cX11_scene 212 = .ok (.iload 8, 2) := by decide +kernel
theorem dX11_scene_214 : decode cX11_scene 214 = .ok (.imul, 1) := by decide +kernel
theorem dX11_scene_215 : decode cX11_scene 215 = .ok (.iload 9, 2) := by decide +kernel
theorem dX11_scene_217 : decode cX11_scene 217 = .ok (.iadd, 1) := by decide +kernel
theorem dX11_scene_218 : decode cX11_scene 218 = .ok (.iconst (-1), 1) := by decide +kernel
theorem dX11_scene_219 : decode cX11_scene 219 = .ok (.iastore, 1) := by decide +kernel
theorem dX11_scene_220 : decode cX11_scene 220 = .ok (.iinc 9 1, 3) := by decide +kernel
theorem dX11_scene_223 : decode cX11_scene 223 = .ok (.goto (-35), 3) := by decide +kernel
theorem dX11_scene_226 : decode cX11_scene 226 = .ok (.aload_n 0, 1) := by decide +kernel
theorem dX11_scene_227 : decode cX11_scene 227 = .ok (.dup, 1) := by decide +kernel
theorem dX11_scene_228 : decode cX11_scene 228 = .ok (.getfield 114, 3) := by decide +kernel
theorem dX11_scene_231 : decode cX11_scene 231 = .ok (.iconst 1, 1) := by decide +kernel
theorem dX11_scene_232 : decode cX11_scene 232 = .ok (.iadd, 1) := by decide +kernel
theorem dX11_scene_233 : decode cX11_scene 233 = .ok (.putfield 114, 3) := by decide +kernel
theorem dX11_scene_236 : decode cX11_scene 236 = .ok (.aload_n 0, 1) := by decide +kernel
theorem dX11_scene_237 : decode cX11_scene 237 = .ok (.getfield 141, 3) := by decide +kernel
theorem dX11_scene_240 : decode cX11_scene 240 = .ok (.ifCond .eq 9, 3) := by decide +kernel
theorem dX11_scene_243 : decode cX11_scene 243 = .ok (.aload_n 0, 1) := by decide +kernel
theorem dX11_scene_244 : decode cX11_scene 244 = .ok (.iload 8, 2) := by decide +kernel
theorem dX11_scene_246 : decode cX11_scene 246 = .ok (.invokevirtual 145, 3) := by decide +kernel
theorem dX11_scene_249 : decode cX11_scene 249 = .ok (.iload 8, 2) := by decide +kernel
theorem dX11_scene_251 : decode cX11_scene 251 = .ok (.ireturn, 1) := by decide +kernel
theorem dX11_lock_0 : decode cX11_lock 0 = .ok (.aload_n 0, 1) := by decide +kernel
theorem dX11_lock_1 : decode cX11_lock 1 = .ok (.aload_n 0, 1) := by decide +kernel
theorem dX11_lock_2 : decode cX11_lock 2 = .ok (.getfield 141, 3) := by decide +kernel
theorem dX11_lock_5 : decode cX11_lock 5 = .ok (.ifCond .eq 7, 3) := by decide +kernel
theorem dX11_lock_8 : decode cX11_lock 8 = .ok (.iconst 1, 1) := by decide +kernel
theorem dX11_lock_9 : decode cX11_lock 9 = .ok (.goto 4, 3) := by decide +kernel
theorem dX11_lock_12 : decode cX11_lock 12 = .ok (.iconst 0, 1) := by decide +kernel
theorem dX11_lock_13 : decode cX11_lock 13 = .ok (.invokevirtual 138, 3) := by decide +kernel
theorem dX11_lock_16 : decode cX11_lock 16 = .ok (.ifCond .ne 5, 3) := by decide +kernel
theorem dX11_lock_19 : decode cX11_lock 19 = .ok (.iconst 0, 1) := by decide +kernel
theorem dX11_lock_20 : decode cX11_lock 20 = .ok (.ireturn, 1) := by decide +kernel
theorem dX11_lock_21 : decode cX11_lock 21 = .ok (.aload_n 0, 1) := by decide +kernel
theorem dX11_lock_22 : decode cX11_lock 22 = .ok (.iconst 1, 1) := by decide +kernel
theorem dX11_lock_23 : decode cX11_lock 23 = .ok (.putfield 141, 3) := by decide +kernel
theorem dX11_lock_26 : decode cX11_lock 26 = .ok (.iconst 0, 1) := by decide +kernel
theorem dX11_lock_27 : decode cX11_lock 27 = .ok (.istore_n 1, 1) := by decide +kernel
theorem dX11_lock_28 : decode cX11_lock 28 = .ok (.iload_n 1, 1) := by decide +kernel
theorem dX11_lock_29 : decode cX11_lock 29 = .ok (.aload_n 0, 1) := by decide +kernel
theorem dX11_lock_30 : decode cX11_lock 30 = .ok (.getfield 114, 3) := by decide +kernel
theorem dX11_lock_33 : decode cX11_lock 33 = .ok (.if_icmp .ge 23, 3) := by decide +kernel
theorem dX11_lock_36 : decode cX11_lock 36 = .ok (.aload_n 0, 1) := by decide +kernel
theorem dX11_lock_37 : decode cX11_lock 37 = .ok (.getfield 13, 3) := by decide +kernel
theorem dX11_lock_40 : decode cX11_lock 40 = .ok (.aload_n 0, 1) := by decide +kernel
theorem dX11_lock_41 : decode cX11_lock 41 = .ok (.getfield 7, 3) := by decide +kernel
theorem dX11_lock_44 : decode cX11_lock 44 = .ok (.iload_n 1, 1) := by decide +kernel
theorem dX11_lock_45 : decode cX11_lock 45 = .ok (.iaload, 1) := by decide +kernel
theorem dX11_lock_46 : decode cX11_lock 46 = .ok (.iload_n 1, 1) := by decide +kernel
theorem dX11_lock_47 : decode cX11_lock 47 = .ok (.iconst 1, 1) := by decide +kernel
theorem dX11_lock_48 : decode cX11_lock 48 = .ok (.iadd, 1) := by decide +kernel
theorem dX11_lock_49 : decode cX11_lock 49 = .ok (.iastore, 1) := by decide +kernel
theorem dX11_lock_50 : decode cX11_lock 50 = .ok (.iinc 1 1, 3) := by decide +kernel
theorem dX11_lock_53 : decode cX11_lock 53 = .ok (.goto (-25), 3) := by decide +kernel
theorem dX11_lock_56 : decode cX11_lock 56 = .ok (.aload_n 0, 1) := by decide +kernel
theorem dX11_lock_57 : decode cX11_lock 57 = .ok (.getfield 114, 3) := by decide +kernel
theorem dX11_lock_60 : decode cX11_lock 60 = .ok (.ireturn, 1) := by decide +kernel
theorem dX11_omit_0 : decode cX11_omit 0 = .ok (.aload_n 0, 1) := by decide +kernel
theorem dX11_omit_1 : decode cX11_omit 1 = .ok (.iload_n 1, 1) := by decide +kernel
theorem dX11_omit_2 : decode cX11_omit 2 = .ok (.invokevirtual 131, 3) := by decide +kernel
theorem dX11_omit_5 : decode cX11_omit 5 = .ok (.istore_n 2, 1) := by decide +kernel
theorem dX11_omit_6 : decode cX11_omit 6 = .ok (.aload_n 0, 1) := by decide +kernel
theorem dX11_omit_7 : decode cX11_omit 7 = .ok (.iload_n 2, 1) := by decide +kernel
theorem dX11_omit_8 : decode cX11_omit 8 = .ok (.ifCond .ne 7, 3) := by decide +kernel
theorem dX11_omit_11 : decode cX11_omit 11 = .ok (.iconst 1, 1) := by decide +kernel
theorem dX11_omit_12 : decode cX11_omit 12 = .ok (.goto 26, 3) := by decide +kernel
theorem dX11_omit_15 : decode cX11_omit 15 = .ok (.aload_n 0, 1) := by decide +kernel
theorem dX11_omit_16 : decode cX11_omit 16 = .ok (.getfield 44, 3) := by decide +kernel
theorem dX11_omit_19 : decode cX11_omit 19 = .ok (.iload_n 1, 1) := by decide +kernel
theorem dX11_omit_20 : decode cX11_omit 20 = .ok (.baload, 1) := by decide +kernel
theorem dX11_omit_21 : decode cX11_omit 21 = .ok (.ifCond .ne 12, 3) := by decide +kernel
theorem dX11_omit_24 : decode cX11_omit 24 = .ok (.aload_n 0, 1) := by decide +kernel
theorem dX11_omit_25 : decode cX11_omit 25 = .ok (.getfield 47, 3) := by decide +kernel
theorem dX11_omit_28 : decode cX11_omit 28 = .ok (.iload_n 1, 1) := by decide +kernel
theorem dX11_omit_29 : decode cX11_omit 29 = .ok (.baload, 1) := by decide +kernel
theorem dX11_omit_30 : decode cX11_omit 30 = .ok (.ifCond .eq 7, 3) := by decide +kernel
theorem dX11_omit_33 : decode cX11_omit 33 = .ok (.iconst 2, 1) := by decide +kernel
theorem dX11_omit_34 : decode cX11_omit 34 = .ok (.goto 4, 3) := by decide +kernel
theorem dX11_omit_37 : decode cX11_omit 37 = .ok (.iconst 0, 1) := by decide +kernel
theorem dX11_omit_38 : decode cX11_omit 38 = .ok (.invokevirtual 138, 3) := by decide +kernel
theorem dX11_omit_41 : decode cX11_omit 41 = .ok (.ifCond .ne 5, 3) := by decide +kernel
theorem dX11_omit_44 : decode cX11_omit 44 = .ok (.iconst 0, 1) := by decide +kernel
theorem dX11_omit_45 : decode cX11_omit 45 = .ok (.ireturn, 1) := by decide +kernel
theorem dX11_omit_46 : decode cX11_omit 46 = .ok (.aload_n 0, 1) := by decide +kernel
theorem dX11_omit_47 : decode cX11_omit 47 = .ok (.getfield 44, 3) := by decide +kernel
theorem dX11_omit_50 : decode cX11_omit 50 = .ok (.iload_n 1, 1) := by decide +kernel
theorem dX11_omit_51 : decode cX11_omit 51 = .ok (.iconst 1, 1) := by decide +kernel
theorem dX11_omit_52 : decode cX11_omit 52 = .ok (.bastore, 1) := by decide +kernel
theorem dX11_omit_53 : decode cX11_omit 53 = .ok (.aload_n 0, 1) := by decide +kernel
theorem dX11_omit_54 : decode cX11_omit 54 = .ok (.iload_n 1, 1) := by decide +kernel
theorem dX11_omit_55 : decode cX11_omit 55 = .ok (.invokevirtual 148, 3) := by decide +kernel
theorem dX11_omit_58 : decode cX11_omit 58 = .ok (.iconst 0, 1) := by decide +kernel
theorem dX11_omit_59 : decode cX11_omit 59 = .ok (.istore_n 3, 1) := by decide +kernel
theorem dX11_omit_60 : decode cX11_omit 60 = .ok (.iconst 0, 1) := by decide +kernel
theorem dX11_omit_61 : decode cX11_omit 61 = .ok (.istore 4, 2) := by decide +kernel
theorem dX11_omit_63 : decode cX11_omit 63 = .ok (.iload 4, 2) := by decide +kernel
theorem dX11_omit_65 : decode cX11_omit 65 = .ok (.aload_n 0, 1) := by decide +kernel
theorem dX11_omit_66 : decode cX11_omit 66 = .ok (.getfield 114, 3) := by decide +kernel
theorem dX11_omit_69 : decode cX11_omit 69 = .ok (.if_icmp .ge 27, 3) := by decide +kernel
theorem dX11_omit_72 : decode cX11_omit 72 = .ok (.iload_n 3, 1) := by decide +kernel
theorem dX11_omit_73 : decode cX11_omit 73 = .ok (.aload_n 0, 1) := by decide +kernel
theorem dX11_omit_74 : decode cX11_omit 74 = .ok (.getfield 44, 3) := by decide +kernel
theorem dX11_omit_77 : decode cX11_omit 77 = .ok (.iload 4, 2) := by decide +kernel
theorem dX11_omit_79 : decode cX11_omit 79 = .ok (.baload, 1) := by decide +kernel
theorem dX11_omit_80 : decode cX11_omit 80 = .ok (.ifCond .eq 7, 3) := by decide +kernel
theorem dX11_omit_83 : decode cX11_omit 83 = .ok (.iconst 0, 1) := by decide +kernel
theorem dX11_omit_84 : decode cX11_omit 84 = .ok (.goto 4, 3) := by decide +kernel
theorem dX11_omit_87 : decode cX11_omit 87 = .ok (.iconst 1, 1) := by decide +kernel
theorem dX11_omit_88 : decode cX11_omit 88 = .ok (.iadd, 1) := by decide +kernel
theorem dX11_omit_89 : decode cX11_omit 89 = .ok (.istore_n 3, 1) := by decide +kernel
theorem dX11_omit_90 : decode cX11_omit 90 = .ok (.iinc 4 1, 3) := by decide +kernel
theorem dX11_omit_93 : decode cX11_omit 93 = .ok (.goto (-30), 3) := by decide +kernel
theorem dX11_omit_96 : decode cX11_omit 96 = .ok (.iload_n 3, 1) := by decide +kernel
theorem dX11_omit_97 : decode cX11_omit 97 = .ok (.ireturn, 1) := by decide +kernel
theorem dX11_label_0 : decode cX11_label 0 = .ok (.aload_n 0, 1) := by decide +kernel
theorem dX11_label_1 : decode cX11_label 1 = .ok (.aload_n 0, 1) := by decide +kernel
theorem dX11_label_2 : decode cX11_label 2 = .ok (.iload_n 1, 1) := by decide +kernel
theorem dX11_label_3 : decode cX11_label 3 = .ok (.invokevirtual 131, 3) := by decide +kernel
theorem dX11_label_6 : decode cX11_label 6 = .ok (.ifCond .eq 7, 3) := by decide +kernel
theorem dX11_label_9 : decode cX11_label 9 = .ok (.iconst 0, 1) := by decide +kernel
theorem dX11_label_10 : decode cX11_label 10 = .ok (.goto 4, 3) := by decide +kernel
theorem dX11_label_13 : decode cX11_label 13 = .ok (.iconst 1, 1) := by decide +kernel
theorem dX11_label_14 : decode cX11_label 14 = .ok (.invokevirtual 138, 3) := by decide +kernel
theorem dX11_label_17 : decode cX11_label 17 = .ok (.ifCond .ne 5, 3) := by decide +kernel
theorem dX11_label_20 : decode cX11_label 20 = .ok (.iconst 0, 1) := by decide +kernel
theorem dX11_label_21 : decode cX11_label 21 = .ok (.ireturn, 1) := by decide +kernel
theorem dX11_label_22 : decode cX11_label 22 = .ok (.aload_n 0, 1) := by decide +kernel
theorem dX11_label_23 : decode cX11_label 23 = .ok (.getfield 141, 3) := by decide +kernel
theorem dX11_label_26 : decode cX11_label 26 = .ok (.ifCond .eq 22, 3) := by decide +kernel
theorem dX11_label_29 : decode cX11_label 29 = .ok (.bipush 100, 2) := by decide +kernel
theorem dX11_label_31 : decode cX11_label 31 = .ok (.aload_n 0, 1) := by decide +kernel
theorem dX11_label_32 : decode cX11_label 32 = .ok (.getfield 13, 3) := by decide +kernel
theorem dX11_label_35 : decode cX11_label 35 = .ok (.iload_n 1, 1) := by decide +kernel
theorem dX11_label_36 : decode cX11_label 36 = .ok (.iaload, 1) := by decide +kernel
theorem dX11_label_37 : decode cX11_label 37 = .ok (.imul, 1) := by decide +kernel
theorem dX11_label_38 : decode cX11_label 38 = .ok (.aload_n 0, 1) := by decide +kernel
theorem dX11_label_39 : decode cX11_label 39 = .ok (.getfield 16, 3) := by decide +kernel
theorem dX11_label_42 : decode cX11_label 42 = .ok (.iload_n 1, 1) := by decide +kernel
theorem dX11_label_43 : decode cX11_label 43 = .ok (.iaload, 1) := by decide +kernel
theorem dX11_label_44 : decode cX11_label 44 = .ok (.iadd, 1) := by decide +kernel
theorem dX11_label_45 : decode cX11_label 45 = .ok (.goto 13, 3) := by decide +kernel
theorem dX11_label_48 : decode cX11_label 48 = .ok (.bipush 100, 2) := by decide +kernel
theorem dX11_label_50 : decode cX11_label 50 = .ok (.aload_n 0, 1) := by decide +kernel
theorem dX11_label_51 : decode cX11_label 51 = .ok (.iload_n 1, 1) := by decide +kernel
theorem dX11_label_52 : decode cX11_label 52 = .ok (.invokevirtual 127, 3) := by decide +kernel
theorem dX11_label_55 : decode cX11_label 55 = .ok (.iconst 1, 1) := by decide +kernel
theorem dX11_label_56 : decode cX11_label 56 = .ok (.iadd, 1) := by decide +kernel
theorem dX11_label_57 : decode cX11_label 57 = .ok (.imul, 1) := by decide +kernel
theorem dX11_label_58 : decode cX11_label 58 = .ok (.ireturn, 1) := by decide +kernel
theorem dX11_needs_0 : decode cX11_needs 0 = .ok (.aload_n 0, 1) := by decide +kernel
theorem dX11_needs_1 : decode cX11_needs 1 = .ok (.iload_n 1, 1) := by decide +kernel
theorem dX11_needs_2 : decode cX11_needs 2 = .ok (.invokevirtual 131, 3) := by decide +kernel
theorem dX11_needs_5 : decode cX11_needs 5 = .ok (.istore_n 3, 1) := by decide +kernel
theorem dX11_needs_6 : decode cX11_needs 6 = .ok (.aload_n 0, 1) := by decide +kernel
theorem dX11_needs_7 : decode cX11_needs 7 = .ok (.iload_n 3, 1) := by decide +kernel
theorem dX11_needs_8 : decode cX11_needs 8 = .ok (.ifCond .ne 7, 3) := by decide +kernel
theorem dX11_needs_11 : decode cX11_needs 11 = .ok (.iconst 1, 1) := by decide +kernel
theorem dX11_needs_12 : decode cX11_needs 12 = .ok (.goto 24, 3) := by decide +kernel
theorem dX11_needs_15 : decode cX11_needs 15 = .ok (.iload_n 2, 1) := by decide +kernel
theorem dX11_needs_16 : decode cX11_needs 16 = .ok (.iconst 0, 1) := by decide +kernel
theorem dX11_needs_17 : decode cX11_needs 17 = .ok (.iconst 1, 1) := by decide +kernel
theorem dX11_needs_18 : decode cX11_needs 18 = .ok (.aload_n 0, 1) := by decide +kernel
theorem dX11_needs_19 : decode cX11_needs 19 = .ok (.getfield 121, 3) := by decide +kernel
theorem dX11_needs_22 : decode cX11_needs 22 = .ok (.ishl, 1) := by decide +kernel
theorem dX11_needs_23 : decode cX11_needs 23 = .ok (.iconst 1, 1) := by decide +kernel
theorem dX11_needs_24 : decode cX11_needs 24 = .ok (.isub, 1) := by decide +kernel
theorem dX11_needs_25 : decode cX11_needs 25 = .ok (.invokestatic 117, 3) := by decide +kernel
theorem dX11_needs_28 : decode cX11_needs 28 = .ok (.ifCond .eq 7, 3) := by decide +kernel
theorem dX11_needs_31 : decode cX11_needs 31 = .ok (.iconst 0, 1) := by decide +kernel
theorem dX11_needs_32 : decode cX11_needs 32 = .ok (.goto 4, 3) := by decide +kernel
theorem dX11_needs_35 : decode cX11_needs 35 = .ok (.iconst 2, 1) := by decide +kernel
theorem dX11_needs_36 : decode cX11_needs 36 = .ok (.invokevirtual 138, 3) := by decide +kernel
theorem dX11_needs_39 : decode cX11_needs 39 = .ok (.ifCond .ne 5, 3) := by decide +kernel
theorem dX11_needs_42 : decode cX11_needs 42 = .ok (.iconst 0, 1) := by decide +kernel
theorem dX11_needs_43 : decode cX11_needs 43 = .ok (.ireturn, 1) := by decide +kernel
theorem dX11_needs_44 : decode cX11_needs 44 = .ok (.aload_n 0, 1) := by decide +kernel
theorem dX11_needs_45 : decode cX11_needs 45 = .ok (.getfield 32, 3) := by decide +kernel
theorem dX11_needs_48 : decode cX11_needs 48 = .ok (.iload_n 1, 1) := by decide +kernel
theorem dX11_needs_49 : decode cX11_needs 49 = .ok (.iload_n 2, 1) := by decide +kernel
theorem dX11_needs_50 : decode cX11_needs 50 = .ok (.iastore, 1) := by decide +kernel
theorem dX11_needs_51 : decode cX11_needs 51 = .ok (.iload_n 2, 1) := by decide +kernel
theorem dX11_needs_52 : decode cX11_needs 52 = .ok (.invokestatic 151, 3) := by decide +kernel
theorem dX11_needs_55 : decode cX11_needs 55 = .ok (.ireturn, 1) := by decide +kernel
theorem dX11_clashing_0 : decode cX11_clashing 0 = .ok (.iconst 0, 1) := by decide +kernel
theorem dX11_clashing_1 : decode cX11_clashing 1 = .ok (.istore_n 1, 1) := by decide +kernel
theorem dX11_clashing_2 : decode cX11_clashing 2 = .ok (.iconst 0, 1) := by decide +kernel
theorem dX11_clashing_3 : decode cX11_clashing 3 = .ok (.istore_n 2, 1) := by decide +kernel
theorem dX11_clashing_4 : decode cX11_clashing 4 = .ok (.iload_n 2, 1) := by decide +kernel
theorem dX11_clashing_5 : decode cX11_clashing 5 = .ok (.iconst 4, 1) := by decide +kernel
theorem dX11_clashing_6 : decode cX11_clashing 6 = .ok (.if_icmp .ge 16, 3) := by decide +kernel
theorem dX11_clashing_9 : decode cX11_clashing 9 = .ok (.aload_n 0, 1) := by decide +kernel
theorem dX11_clashing_10 : decode cX11_clashing 10 = .ok (.getfield 98, 3) := by decide +kernel
theorem dX11_clashing_13 : decode cX11_clashing 13 = .ok (.iload_n 2, 1) := by decide +kernel
theorem dX11_clashing_14 : decode cX11_clashing 14 = .ok (.iconst 0, 1) := by decide +kernel
theorem dX11_clashing_15 : decode cX11_clashing 15 = .ok (.iastore, 1) := by decide +kernel
theorem dX11_clashing_16 : decode cX11_clashing 16 = .ok (.iinc 2 1, 3) := by decide +kernel
theorem dX11_clashing_19 : decode cX11_clashing 19 = .ok (.goto (-15), 3) := by decide +kernel
theorem dX11_clashing_22 : decode cX11_clashing 22 = .ok (.iconst 0, 1) := by decide +kernel
theorem dX11_clashing_23 : decode cX11_clashing 23 = .ok (.istore_n 2, 1) := by decide +kernel
theorem dX11_clashing_24 : decode cX11_clashing 24 = .ok (.iload_n 2, 1) := by decide +kernel
theorem dX11_clashing_25 : decode cX11_clashing 25 = .ok (.aload_n 0, 1) := by decide +kernel
theorem dX11_clashing_26 : decode cX11_clashing 26 = .ok (.getfield 114, 3) := by decide +kernel
theorem dX11_clashing_29 : decode cX11_clashing 29 = .ok (.if_icmp .ge 124, 3) := by decide +kernel
theorem dX11_clashing_32 : decode cX11_clashing 32 = .ok (.aload_n 0, 1) := by decide +kernel
theorem dX11_clashing_33 : decode cX11_clashing 33 = .ok (.getfield 7, 3) := by decide +kernel
theorem dX11_clashing_36 : decode cX11_clashing 36 = .ok (.iload_n 2, 1) := by decide +kernel
theorem dX11_clashing_37 : decode cX11_clashing 37 = .ok (.iaload, 1) := by decide +kernel
theorem dX11_clashing_38 : decode cX11_clashing 38 = .ok (.istore_n 3, 1) := by decide +kernel
theorem dX11_clashing_39 : decode cX11_clashing 39 = .ok (.iconst 0, 1) := by decide +kernel
theorem dX11_clashing_40 : decode cX11_clashing 40 = .ok (.istore 4, 2) := by decide +kernel
theorem dX11_clashing_42 : decode cX11_clashing 42 = .ok (.iload 4, 2) := by decide +kernel
theorem dX11_clashing_44 : decode cX11_clashing 44 = .ok (.iconst 4, 1) := by decide +kernel
theorem dX11_clashing_45 : decode cX11_clashing 45 = .ok (.if_icmp .ge 102, 3) := by decide +kernel
theorem dX11_clashing_48 : decode cX11_clashing 48 = .ok (.aload_n 0, 1) := by decide +kernel
theorem dX11_clashing_49 : decode cX11_clashing 49 = .ok (.getfield 44, 3) := by decide +kernel
theorem dX11_clashing_52 : decode cX11_clashing 52 = .ok (.iload_n 3, 1) := by decide +kernel
theorem dX11_clashing_53 : decode cX11_clashing 53 = .ok (.baload, 1) := by decide +kernel
theorem dX11_clashing_54 : decode cX11_clashing 54 = .ok (.ifCond .ne 93, 3) := by decide +kernel
theorem dX11_clashing_57 : decode cX11_clashing 57 = .ok (.aload_n 0, 1) := by decide +kernel
theorem dX11_clashing_58 : decode cX11_clashing 58 = .ok (.getfield 35, 3) := by decide +kernel
theorem dX11_clashing_61 : decode cX11_clashing 61 = .ok (.iconst 4, 1) := by decide +kernel
theorem dX11_clashing_62 : decode cX11_clashing 62 = .ok (.iload_n 3, 1) := by decide +kernel
theorem dX11_clashing_63 : decode cX11_clashing 63 = .ok (.imul, 1) := by decide +kernel
theorem dX11_clashing_64 : decode cX11_clashing 64 = .ok (.iload 4, 2) := by decide +kernel
theorem dX11_clashing_66 : decode cX11_clashing 66 = .ok (.iadd, 1) := by decide +kernel
theorem dX11_clashing_67 : decode cX11_clashing 67 = .ok (.iaload, 1) := by decide +kernel
theorem dX11_clashing_68 : decode cX11_clashing 68 = .ok (.istore 5, 2) := by decide +kernel
theorem dX11_clashing_70 : decode cX11_clashing 70 = .ok (.iload_n 1, 1) := by decide +kernel
theorem dX11_clashing_71 : decode cX11_clashing 71 = .ok (.iload 5, 2) := by decide +kernel
theorem dX11_clashing_73 : decode cX11_clashing 73 = .ok (.iconst (-1), 1) := by decide +kernel
theorem dX11_clashing_74 : decode cX11_clashing 74 = .ok (.if_icmp .eq 21, 3) := by decide +kernel
theorem dX11_clashing_77 : decode cX11_clashing 77 = .ok (.iload 5, 2) := by decide +kernel
theorem dX11_clashing_79 : decode cX11_clashing 79 = .ok (.aload_n 0, 1) := by decide +kernel
theorem dX11_clashing_80 : decode cX11_clashing 80 = .ok (.getfield 98, 3) := by decide +kernel
theorem dX11_clashing_83 : decode cX11_clashing 83 = .ok (.iload 4, 2) := by decide +kernel
theorem dX11_clashing_85 : decode cX11_clashing 85 = .ok (.iaload, 1) := by decide +kernel
theorem dX11_clashing_86 : decode cX11_clashing 86 = .ok (.if_icmp .eq 9, 3) := by decide +kernel
theorem dX11_clashing_89 : decode cX11_clashing 89 = .ok (.iconst 1, 1) := by decide +kernel
theorem dX11_clashing_90 : decode cX11_clashing 90 = .ok (.iload_n 3, 1) := by decide +kernel
theorem dX11_clashing_91 : decode cX11_clashing 91 = .ok (.ishl, 1) := by decide +kernel
theorem dX11_clashing_92 : decode cX11_clashing 92 = .ok (.goto 4, 3) := by decide +kernel
theorem dX11_clashing_95 : decode cX11_clashing 95 = .ok (.iconst 0, 1) := by decide +kernel
theorem dX11_clashing_96 : decode cX11_clashing 96 = .ok (.ior, 1) := by decide +kernel
theorem dX11_clashing_97 : decode cX11_clashing 97 = .ok (.istore_n 1, 1) := by decide +kernel
theorem dX11_clashing_98 : decode cX11_clashing 98 = .ok (.aload_n 0, 1) := by decide +kernel
theorem dX11_clashing_99 : decode cX11_clashing 99 = .ok (.getfield 98, 3) := by decide +kernel
theorem dX11_clashing_102 : decode cX11_clashing 102 = .ok (.iload 4, 2) := by decide +kernel
theorem dX11_clashing_104 : decode cX11_clashing 104 = .ok (.aload_n 0, 1) := by decide +kernel
theorem dX11_clashing_105 : decode cX11_clashing 105 = .ok (.getfield 38, 3) := by decide +kernel
theorem dX11_clashing_108 : decode cX11_clashing 108 = .ok (.iconst 4, 1) := by decide +kernel
theorem dX11_clashing_109 : decode cX11_clashing 109 = .ok (.iload_n 3, 1) := by decide +kernel
theorem dX11_clashing_110 : decode cX11_clashing 110 = .ok (.imul, 1) := by decide +kernel
theorem dX11_clashing_111 : decode cX11_clashing 111 = .ok (.iload 4, 2) := by decide +kernel
theorem dX11_clashing_113 : decode cX11_clashing 113 = .ok (.iadd, 1) := by decide +kernel
theorem dX11_clashing_114 : decode cX11_clashing 114 = .ok (.iaload, 1) := by decide +kernel
theorem dX11_clashing_115 : decode cX11_clashing 115 = .ok (.iconst (-1), 1) := by decide +kernel
theorem dX11_clashing_116 : decode cX11_clashing 116 = .ok (.if_icmp .eq 17, 3) := by decide +kernel
theorem dX11_clashing_119 : decode cX11_clashing 119 = .ok (.aload_n 0, 1) := by decide +kernel
theorem dX11_clashing_120 : decode cX11_clashing 120 = .ok (.getfield 38, 3) := by decide +kernel
theorem dX11_clashing_123 : decode cX11_clashing 123 = .ok (.iconst 4, 1) := by decide +kernel
theorem dX11_clashing_124 : decode cX11_clashing 124 = .ok (.iload_n 3, 1) := by decide +kernel
theorem dX11_clashing_125 : decode cX11_clashing 125 = .ok (.imul, 1) := by decide +kernel
theorem dX11_clashing_126 : decode cX11_clashing 126 = .ok (.iload 4, 2) := by decide +kernel
theorem dX11_clashing_128 : decode cX11_clashing 128 = .ok (.iadd, 1) := by decide +kernel
theorem dX11_clashing_129 : decode cX11_clashing 129 = .ok (.iaload, 1) := by decide +kernel
theorem dX11_clashing_130 : decode cX11_clashing 130 = .ok (.goto 10, 3) := by decide +kernel
theorem dX11_clashing_133 : decode cX11_clashing 133 = .ok (.aload_n 0, 1) := by decide +kernel
theorem dX11_clashing_134 : decode cX11_clashing 134 = .ok (.getfield 98, 3) := by decide +kernel
theorem dX11_clashing_137 : decode cX11_clashing 137 = .ok (.iload 4, 2) := by decide +kernel
theorem dX11_clashing_139 : decode cX11_clashing 139 = .ok (.iaload, 1) := by decide +kernel
theorem dX11_clashing_140 : decode cX11_clashing 140 = .ok (.iastore, 1) := by decide +kernel
theorem dX11_clashing_141 : decode cX11_clashing 141 = .ok (.iinc 4 1, 3) := by decide +kernel
theorem dX11_clashing_144 : decode cX11_clashing 144 = .ok (.goto (-102), 3) := by decide +kernel
theorem dX11_clashing_147 : decode cX11_clashing 147 = .ok (.iinc 2 1, 3) := by decide +kernel
theorem dX11_clashing_150 : decode cX11_clashing 150 = .ok (.goto (-126), 3) := by decide +kernel
theorem dX11_clashing_153 : decode cX11_clashing 153 = .ok (.iload_n 1, 1) := by decide +kernel
theorem dX11_clashing_154 : decode cX11_clashing 154 = .ok (.ireturn, 1) := by decide +kernel
theorem dX11_look_0 : decode cX11_look 0 = .ok (.aload_n 0, 1) := by decide +kernel
theorem dX11_look_1 : decode cX11_look 1 = .ok (.iload_n 1, 1) := by decide +kernel
theorem dX11_look_2 : decode cX11_look 2 = .ok (.invokevirtual 131, 3) := by decide +kernel
theorem dX11_look_5 : decode cX11_look 5 = .ok (.ifCond .eq 16, 3) := by decide +kernel
theorem dX11_look_8 : decode cX11_look 8 = .ok (.iload_n 2, 1) := by decide +kernel
theorem dX11_look_9 : decode cX11_look 9 = .ok (.iconst 0, 1) := by decide +kernel
theorem dX11_look_10 : decode cX11_look 10 = .ok (.iconst 3, 1) := by decide +kernel
theorem dX11_look_11 : decode cX11_look 11 = .ok (.invokestatic 117, 3) := by decide +kernel
theorem dX11_look_14 : decode cX11_look 14 = .ok (.ifCond .eq 7, 3) := by decide +kernel
theorem dX11_look_17 : decode cX11_look 17 = .ok (.iconst 1, 1) := by decide +kernel
theorem dX11_look_18 : decode cX11_look 18 = .ok (.goto 4, 3) := by decide +kernel
theorem dX11_look_21 : decode cX11_look 21 = .ok (.iconst 0, 1) := by decide +kernel
theorem dX11_look_22 : decode cX11_look 22 = .ok (.istore 5, 2) := by decide +kernel
theorem dX11_look_24 : decode cX11_look 24 = .ok (.aload_n 0, 1) := by decide +kernel
theorem dX11_look_25 : decode cX11_look 25 = .ok (.iload 5, 2) := by decide +kernel
theorem dX11_look_27 : decode cX11_look 27 = .ok (.ifCond .ne 7, 3) := by decide +kernel
theorem dX11_look_30 : decode cX11_look 30 = .ok (.iconst 1, 1) := by decide +kernel
theorem dX11_look_31 : decode cX11_look 31 = .ok (.goto 19, 3) := by decide +kernel
theorem dX11_look_34 : decode cX11_look 34 = .ok (.iload 4, 2) := by decide +kernel
theorem dX11_look_36 : decode cX11_look 36 = .ok (.iconst (-1), 1) := by decide +kernel
theorem dX11_look_37 : decode cX11_look 37 = .ok (.bipush 9, 2) := by decide +kernel
theorem dX11_look_39 : decode cX11_look 39 = .ok (.invokestatic 117, 3) := by decide +kernel
theorem dX11_look_42 : decode cX11_look 42 = .ok (.ifCond .eq 7, 3) := by decide +kernel
theorem dX11_look_45 : decode cX11_look 45 = .ok (.iconst 0, 1) := by decide +kernel
theorem dX11_look_46 : decode cX11_look 46 = .ok (.goto 4, 3) := by decide +kernel
theorem dX11_look_49 : decode cX11_look 49 = .ok (.iconst 2, 1) := by decide +kernel
theorem dX11_look_50 : decode cX11_look 50 = .ok (.invokevirtual 138, 3) := by decide +kernel
theorem dX11_look_53 : decode cX11_look 53 = .ok (.ifCond .ne 5, 3) := by decide +kernel
theorem dX11_look_56 : decode cX11_look 56 = .ok (.iconst 0, 1) := by decide +kernel
theorem dX11_look_57 : decode cX11_look 57 = .ok (.ireturn, 1) := by decide +kernel
theorem dX11_look_58 : decode cX11_look 58 = .ok (.iload_n 3, 1) := by decide +kernel
theorem dX11_look_59 : decode cX11_look 59 = .ok (.ifCond .eq 18, 3) := by decide +kernel
theorem dX11_look_62 : decode cX11_look 62 = .ok (.aload_n 0, 1) := by decide +kernel
theorem dX11_look_63 : decode cX11_look 63 = .ok (.getfield 35, 3) := by decide +kernel
theorem dX11_look_66 : decode cX11_look 66 = .ok (.iconst 4, 1) := by decide +kernel
theorem dX11_look_67 : decode cX11_look 67 = .ok (.iload_n 1, 1) := by decide +kernel
theorem dX11_look_68 : decode cX11_look 68 = .ok (.imul, 1) := by decide +kernel
theorem dX11_look_69 : decode cX11_look 69 = .ok (.iload_n 2, 1) := by decide +kernel
theorem dX11_look_70 : decode cX11_look 70 = .ok (.iadd, 1) := by decide +kernel
theorem dX11_look_71 : decode cX11_look 71 = .ok (.iload 4, 2) := by decide +kernel
theorem dX11_look_73 : decode cX11_look 73 = .ok (.iastore, 1) := by decide +kernel
theorem dX11_look_74 : decode cX11_look 74 = .ok (.goto 15, 3) := by decide +kernel
theorem dX11_look_77 : decode cX11_look 77 = .ok (.aload_n 0, 1) := by decide +kernel
theorem dX11_look_78 : decode cX11_look 78 = .ok (.getfield 38, 3) := by decide +kernel
theorem dX11_look_81 : decode cX11_look 81 = .ok (.iconst 4, 1) := by decide +kernel
theorem dX11_look_82 : decode cX11_look 82 = .ok (.iload_n 1, 1) := by decide +kernel
theorem dX11_look_83 : decode cX11_look 83 = .ok (.imul, 1) := by decide +kernel
theorem dX11_look_84 : decode cX11_look 84 = .ok (.iload_n 2, 1) := by decide +kernel
theorem dX11_look_85 : decode cX11_look 85 = .ok (.iadd, 1) := by decide +kernel
theorem dX11_look_86 : decode cX11_look 86 = .ok (.iload 4, 2) := by decide +kernel
theorem dX11_look_88 : decode cX11_look 88 = .ok (.iastore, 1) := by decide +kernel
theorem dX11_look_89 : decode cX11_look 89 = .ok (.aload_n 0, 1) := by decide +kernel
theorem dX11_look_90 : decode cX11_look 90 = .ok (.invokevirtual 154, 3) := by decide +kernel
theorem dX11_look_93 : decode cX11_look 93 = .ok (.invokestatic 151, 3) := by decide +kernel
theorem dX11_look_96 : decode cX11_look 96 = .ok (.ireturn, 1) := by decide +kernel
theorem dX11_clashes_0 : decode cX11_clashes 0 = .ok (.aload_n 0, 1) := by decide +kernel
theorem dX11_clashes_1 : decode cX11_clashes 1 = .ok (.aload_n 0, 1) := by decide +kernel
theorem dX11_clashes_2 : decode cX11_clashes 2 = .ok (.iload_n 1, 1) := by decide +kernel
theorem dX11_clashes_3 : decode cX11_clashes 3 = .ok (.invokevirtual 131, 3) := by decide +kernel
theorem dX11_clashes_6 : decode cX11_clashes 6 = .ok (.ifCond .eq 7, 3) := by decide +kernel
theorem dX11_clashes_9 : decode cX11_clashes 9 = .ok (.iconst 0, 1) := by decide +kernel
theorem dX11_clashes_10 : decode cX11_clashes 10 = .ok (.goto 4, 3) := by decide +kernel
theorem dX11_clashes_13 : decode cX11_clashes 13 = .ok (.iconst 1, 1) := by decide +kernel
theorem dX11_clashes_14 : decode cX11_clashes 14 = .ok (.invokevirtual 138, 3) := by decide +kernel
theorem dX11_clashes_17 : decode cX11_clashes 17 = .ok (.ifCond .eq 18, 3) := by decide +kernel
theorem dX11_clashes_20 : decode cX11_clashes 20 = .ok (.aload_n 0, 1) := by decide +kernel
theorem dX11_clashes_21 : decode cX11_clashes 21 = .ok (.invokevirtual 154, 3) := by decide +kernel
theorem dX11_clashes_24 : decode cX11_clashes 24 = .ok (.iload_n 1, 1) := by decide +kernel
theorem dX11_clashes_25 : decode cX11_clashes 25 = .ok (.invokestatic 158, 3) := by decide +kernel
theorem dX11_clashes_28 : decode cX11_clashes 28 = .ok (.ifCond .eq 7, 3) := by decide +kernel
theorem dX11_clashes_31 : decode cX11_clashes 31 = .ok (.iconst 1, 1) := by decide +kernel
theorem dX11_clashes_32 : decode cX11_clashes 32 = .ok (.goto 4, 3) := by decide +kernel
theorem dX11_clashes_35 : decode cX11_clashes 35 = .ok (.iconst 0, 1) := by decide +kernel
theorem dX11_clashes_36 : decode cX11_clashes 36 = .ok (.ireturn, 1) := by decide +kernel
theorem dX11_isBound_0 : decode cX11_isBound 0 = .ok (.aload_n 0, 1) := by decide +kernel
theorem dX11_isBound_1 : decode cX11_isBound 1 = .ok (.getfield 41, 3) := by decide +kernel
theorem dX11_isBound_4 : decode cX11_isBound 4 = .ok (.iload_n 1, 1) := by decide +kernel
theorem dX11_isBound_5 : decode cX11_isBound 5 = .ok (.iaload, 1) := by decide +kernel
theorem dX11_isBound_6 : decode cX11_isBound 6 = .ok (.istore_n 3, 1) := by decide +kernel
theorem dX11_isBound_7 : decode cX11_isBound 7 = .ok (.iconst 0, 1) := by decide +kernel
theorem dX11_isBound_8 : decode cX11_isBound 8 = .ok (.istore 4, 2) := by decide +kernel
theorem dX11_isBound_10 : decode cX11_isBound 10 = .ok (.iload_n 3, 1) := by decide +kernel
theorem dX11_isBound_11 : decode cX11_isBound 11 = .ok (.iload 4, 2) := by decide +kernel
theorem dX11_isBound_13 : decode cX11_isBound 13 = .ok (.if_icmp .eq 51, 3) := by decide +kernel
theorem dX11_isBound_16 : decode cX11_isBound 16 = .ok (.iload_n 3, 1) := by decide +kernel
theorem dX11_isBound_17 : decode cX11_isBound 17 = .ok (.istore 4, 2) := by decide +kernel
theorem dX11_isBound_19 : decode cX11_isBound 19 = .ok (.iconst 0, 1) := by decide +kernel
theorem dX11_isBound_20 : decode cX11_isBound 20 = .ok (.istore 5, 2) := by decide +kernel
theorem dX11_isBound_22 : decode cX11_isBound 22 = .ok (.iload 5, 2) := by decide +kernel
theorem dX11_isBound_24 : decode cX11_isBound 24 = .ok (.aload_n 0, 1) := by decide +kernel
theorem dX11_isBound_25 : decode cX11_isBound 25 = .ok (.getfield 114, 3) := by decide +kernel
theorem dX11_isBound_28 : decode cX11_isBound 28 = .ok (.if_icmp .ge 33, 3) := by decide +kernel
theorem dX11_isBound_31 : decode cX11_isBound 31 = .ok (.iload_n 3, 1) := by decide +kernel
theorem dX11_isBound_32 : decode cX11_isBound 32 = .ok (.iload 4, 2) := by decide +kernel
theorem dX11_isBound_34 : decode cX11_isBound 34 = .ok (.iload 5, 2) := by decide +kernel
theorem dX11_isBound_36 : decode cX11_isBound 36 = .ok (.invokestatic 158, 3) := by decide +kernel
theorem dX11_isBound_39 : decode cX11_isBound 39 = .ok (.ifCond .eq 13, 3) := by decide +kernel
theorem dX11_isBound_42 : decode cX11_isBound 42 = .ok (.aload_n 0, 1) := by decide +kernel
theorem dX11_isBound_43 : decode cX11_isBound 43 = .ok (.getfield 41, 3) := by decide +kernel
theorem dX11_isBound_46 : decode cX11_isBound 46 = .ok (.iload 5, 2) := by decide +kernel
theorem dX11_isBound_48 : decode cX11_isBound 48 = .ok (.iaload, 1) := by decide +kernel
theorem dX11_isBound_49 : decode cX11_isBound 49 = .ok (.goto 4, 3) := by decide +kernel
theorem dX11_isBound_52 : decode cX11_isBound 52 = .ok (.iconst 0, 1) := by decide +kernel
theorem dX11_isBound_53 : decode cX11_isBound 53 = .ok (.ior, 1) := by decide +kernel
theorem dX11_isBound_54 : decode cX11_isBound 54 = .ok (.istore_n 3, 1) := by decide +kernel
theorem dX11_isBound_55 : decode cX11_isBound 55 = .ok (.iinc 5 1, 3) := by decide +kernel
theorem dX11_isBound_58 : decode cX11_isBound 58 = .ok (.goto (-36), 3) := by decide +kernel
theorem dX11_isBound_61 : decode cX11_isBound 61 = .ok (.goto (-51), 3) := by decide +kernel
theorem dX11_isBound_64 : decode cX11_isBound 64 = .ok (.iload_n 3, 1) := by decide +kernel
theorem dX11_isBound_65 : decode cX11_isBound 65 = .ok (.iload_n 2, 1) := by decide +kernel
theorem dX11_isBound_66 : decode cX11_isBound 66 = .ok (.invokestatic 158, 3) := by decide +kernel
theorem dX11_isBound_69 : decode cX11_isBound 69 = .ok (.ireturn, 1) := by decide +kernel
theorem dX11_bind_0 : decode cX11_bind 0 = .ok (.aload_n 0, 1) := by decide +kernel
theorem dX11_bind_1 : decode cX11_bind 1 = .ok (.iload_n 1, 1) := by decide +kernel
theorem dX11_bind_2 : decode cX11_bind 2 = .ok (.invokevirtual 131, 3) := by decide +kernel
theorem dX11_bind_5 : decode cX11_bind 5 = .ok (.ifCond .eq 15, 3) := by decide +kernel
theorem dX11_bind_8 : decode cX11_bind 8 = .ok (.aload_n 0, 1) := by decide +kernel
theorem dX11_bind_9 : decode cX11_bind 9 = .ok (.iload_n 2, 1) := by decide +kernel
theorem dX11_bind_10 : decode cX11_bind 10 = .ok (.invokevirtual 131, 3) := by decide +kernel
theorem dX11_bind_13 : decode cX11_bind 13 = .ok (.ifCond .eq 7, 3) := by decide +kernel
theorem dX11_bind_16 : decode cX11_bind 16 = .ok (.iconst 1, 1) := by decide +kernel
theorem dX11_bind_17 : decode cX11_bind 17 = .ok (.goto 4, 3) := by decide +kernel
theorem dX11_bind_20 : decode cX11_bind 20 = .ok (.iconst 0, 1) := by decide +kernel
theorem dX11_bind_21 : decode cX11_bind 21 = .ok (.istore_n 3, 1) := by decide +kernel
theorem dX11_bind_22 : decode cX11_bind 22 = .ok (.aload_n 0, 1) := by decide +kernel
theorem dX11_bind_23 : decode cX11_bind 23 = .ok (.iload_n 3, 1) := by decide +kernel
theorem dX11_bind_24 : decode cX11_bind 24 = .ok (.ifCond .ne 7, 3) := by decide +kernel
theorem dX11_bind_27 : decode cX11_bind 27 = .ok (.iconst 1, 1) := by decide +kernel
theorem dX11_bind_28 : decode cX11_bind 28 = .ok (.goto 22, 3) := by decide +kernel
theorem dX11_bind_31 : decode cX11_bind 31 = .ok (.iload_n 1, 1) := by decide +kernel
theorem dX11_bind_32 : decode cX11_bind 32 = .ok (.iload_n 2, 1) := by decide +kernel
theorem dX11_bind_33 : decode cX11_bind 33 = .ok (.if_icmp .eq 12, 3) := by decide +kernel
theorem dX11_bind_36 : decode cX11_bind 36 = .ok (.aload_n 0, 1) := by decide +kernel
theorem dX11_bind_37 : decode cX11_bind 37 = .ok (.iload_n 2, 1) := by decide +kernel
theorem dX11_bind_38 : decode cX11_bind 38 = .ok (.iload_n 1, 1) := by decide +kernel
theorem dX11_bind_39 : decode cX11_bind 39 = .ok (.invokevirtual 162, 3) := by decide +kernel
theorem dX11_bind_42 : decode cX11_bind 42 = .ok (.ifCond .eq 7, 3) := by decide +kernel
theorem dX11_bind_45 : decode cX11_bind 45 = .ok (.iconst 2, 1) := by decide +kernel
theorem dX11_bind_46 : decode cX11_bind 46 = .ok (.goto 4, 3) := by decide +kernel
theorem dX11_bind_49 : decode cX11_bind 49 = .ok (.iconst 0, 1) := by decide +kernel
theorem dX11_bind_50 : decode cX11_bind 50 = .ok (.invokevirtual 138, 3) := by decide +kernel
theorem dX11_bind_53 : decode cX11_bind 53 = .ok (.ifCond .ne 5, 3) := by decide +kernel
theorem dX11_bind_56 : decode cX11_bind 56 = .ok (.iconst 0, 1) := by decide +kernel
theorem dX11_bind_57 : decode cX11_bind 57 = .ok (.ireturn, 1) := by decide +kernel
theorem dX11_bind_58 : decode cX11_bind 58 = .ok (.aload_n 0, 1) := by decide +kernel
theorem dX11_bind_59 : decode cX11_bind 59 = .ok (.getfield 41, 3) := by decide +kernel
theorem dX11_bind_62 : decode cX11_bind 62 = .ok (.iload_n 1, 1) := by decide +kernel
theorem dX11_bind_63 : decode cX11_bind 63 = .ok (.dup2, 1) := by decide +kernel
theorem dX11_bind_64 : decode cX11_bind 64 = .ok (.iaload, 1) := by decide +kernel
theorem dX11_bind_65 : decode cX11_bind 65 = .ok (.iconst 1, 1) := by decide +kernel
theorem dX11_bind_66 : decode cX11_bind 66 = .ok (.iload_n 2, 1) := by decide +kernel
theorem dX11_bind_67 : decode cX11_bind 67 = .ok (.ishl, 1) := by decide +kernel
theorem dX11_bind_68 : decode cX11_bind 68 = .ok (.ior, 1) := by decide +kernel
theorem dX11_bind_69 : decode cX11_bind 69 = .ok (.iastore, 1) := by decide +kernel
theorem dX11_bind_70 : decode cX11_bind 70 = .ok (.aload_n 0, 1) := by decide +kernel
theorem dX11_bind_71 : decode cX11_bind 71 = .ok (.getfield 41, 3) := by decide +kernel
theorem dX11_bind_74 : decode cX11_bind 74 = .ok (.iload_n 1, 1) := by decide +kernel
theorem dX11_bind_75 : decode cX11_bind 75 = .ok (.iaload, 1) := by decide +kernel
theorem dX11_bind_76 : decode cX11_bind 76 = .ok (.invokestatic 151, 3) := by decide +kernel
theorem dX11_bind_79 : decode cX11_bind 79 = .ok (.ireturn, 1) := by decide +kernel
theorem dX11_person_0 : decode cX11_person 0 = .ok (.iload_n 1, 1) := by decide +kernel
theorem dX11_person_1 : decode cX11_person 1 = .ok (.iconst 0, 1) := by decide +kernel
theorem dX11_person_2 : decode cX11_person 2 = .ok (.iconst 2, 1) := by decide +kernel
theorem dX11_person_3 : decode cX11_person 3 = .ok (.invokestatic 117, 3) := by decide +kernel
theorem dX11_person_6 : decode cX11_person 6 = .ok (.ifCond .eq 29, 3) := by decide +kernel
theorem dX11_person_9 : decode cX11_person 9 = .ok (.iload_n 2, 1) := by decide +kernel
theorem dX11_person_10 : decode cX11_person 10 = .ok (.iconst 1, 1) := by decide +kernel
theorem dX11_person_11 : decode cX11_person 11 = .ok (.sipush 1000, 3) := by decide +kernel
theorem dX11_person_14 : decode cX11_person 14 = .ok (.invokestatic 117, 3) := by decide +kernel
theorem dX11_person_17 : decode cX11_person 17 = .ok (.ifCond .eq 18, 3) := by decide +kernel
theorem dX11_person_20 : decode cX11_person 20 = .ok (.iload_n 3, 1) := by decide +kernel
theorem dX11_person_21 : decode cX11_person 21 = .ok (.iconst 0, 1) := by decide +kernel
theorem dX11_person_22 : decode cX11_person 22 = .ok (.sipush 180, 3) := by decide +kernel
theorem dX11_person_25 : decode cX11_person 25 = .ok (.invokestatic 117, 3) := by decide +kernel
theorem dX11_person_28 : decode cX11_person 28 = .ok (.ifCond .eq 7, 3) := by decide +kernel
theorem dX11_person_31 : decode cX11_person 31 = .ok (.iconst 1, 1) := by decide +kernel
theorem dX11_person_32 : decode cX11_person 32 = .ok (.goto 4, 3) := by decide +kernel
theorem dX11_person_35 : decode cX11_person 35 = .ok (.iconst 0, 1) := by decide +kernel
theorem dX11_person_36 : decode cX11_person 36 = .ok (.istore 5, 2) := by decide +kernel
theorem dX11_person_38 : decode cX11_person 38 = .ok (.aload_n 0, 1) := by decide +kernel
theorem dX11_person_39 : decode cX11_person 39 = .ok (.iload 5, 2) := by decide +kernel
theorem dX11_person_41 : decode cX11_person 41 = .ok (.ifCond .ne 7, 3) := by decide +kernel
theorem dX11_person_44 : decode cX11_person 44 = .ok (.iconst 1, 1) := by decide +kernel
theorem dX11_person_45 : decode cX11_person 45 = .ok (.goto 17, 3) := by decide +kernel
theorem dX11_person_48 : decode cX11_person 48 = .ok (.aload_n 0, 1) := by decide +kernel
theorem dX11_person_49 : decode cX11_person 49 = .ok (.getfield 121, 3) := by decide +kernel
theorem dX11_person_52 : decode cX11_person 52 = .ok (.bipush 8, 2) := by decide +kernel
theorem dX11_person_54 : decode cX11_person 54 = .ok (.if_icmp .ne 7, 3) := by decide +kernel
theorem dX11_person_57 : decode cX11_person 57 = .ok (.iconst 2, 1) := by decide +kernel
theorem dX11_person_58 : decode cX11_person 58 = .ok (.goto 4, 3) := by decide +kernel
theorem dX11_person_61 : decode cX11_person 61 = .ok (.iconst 0, 1) := by decide +kernel
theorem dX11_person_62 : decode cX11_person 62 = .ok (.invokevirtual 138, 3) := by decide +kernel
theorem dX11_person_65 : decode cX11_person 65 = .ok (.ifCond .ne 5, 3) := by decide +kernel
theorem dX11_person_68 : decode cX11_person 68 = .ok (.iconst 0, 1) := by decide +kernel
theorem dX11_person_69 : decode cX11_person 69 = .ok (.ireturn, 1) := by decide +kernel
theorem dX11_person_70 : decode cX11_person 70 = .ok (.aload_n 0, 1) := by decide +kernel
theorem dX11_person_71 : decode cX11_person 71 = .ok (.getfield 59, 3) := by decide +kernel
theorem dX11_person_74 : decode cX11_person 74 = .ok (.aload_n 0, 1) := by decide +kernel
theorem dX11_person_75 : decode cX11_person 75 = .ok (.getfield 121, 3) := by decide +kernel
theorem dX11_person_78 : decode cX11_person 78 = .ok (.iload_n 1, 1) := by decide +kernel
theorem dX11_person_79 : decode cX11_person 79 = .ok (.iastore, 1) := by decide +kernel
theorem dX11_person_80 : decode cX11_person 80 = .ok (.aload_n 0, 1) := by decide +kernel
theorem dX11_person_81 : decode cX11_person 81 = .ok (.getfield 62, 3) := by decide +kernel
theorem dX11_person_84 : decode cX11_person 84 = .ok (.aload_n 0, 1) := by decide +kernel
theorem dX11_person_85 : decode cX11_person 85 = .ok (.getfield 121, 3) := by decide +kernel
theorem dX11_person_88 : decode cX11_person 88 = .ok (.iload_n 2, 1) := by decide +kernel
theorem dX11_person_89 : decode cX11_person 89 = .ok (.iastore, 1) := by decide +kernel
theorem dX11_person_90 : decode cX11_person 90 = .ok (.aload_n 0, 1) := by decide +kernel
theorem dX11_person_91 : decode cX11_person 91 = .ok (.getfield 65, 3) := by decide +kernel
theorem dX11_person_94 : decode cX11_person 94 = .ok (.aload_n 0, 1) := by decide +kernel
theorem dX11_person_95 : decode cX11_person 95 = .ok (.getfield 121, 3) := by decide +kernel
theorem dX11_person_98 : decode cX11_person 98 = .ok (.iload_n 3, 1) := by decide +kernel
theorem dX11_person_99 : decode cX11_person 99 = .ok (.iastore, 1) := by decide +kernel
theorem dX11_person_100 : decode cX11_person 100 = .ok (.aload_n 0, 1) := by decide +kernel
theorem dX11_person_101 : decode cX11_person 101 = .ok (.getfield 68, 3) := by decide +kernel
theorem dX11_person_104 : decode cX11_person 104 = .ok (.aload_n 0, 1) := by decide +kernel
theorem dX11_person_105 : decode cX11_person 105 = .ok (.getfield 121, 3) := by decide +kernel
theorem dX11_person_108 : decode cX11_person 108 = .ok (.iload 4, 2) := by decide +kernel
theorem dX11_person_110 : decode cX11_person 110 = .ok (.bastore, 1) := by decide +kernel
theorem dX11_person_111 : decode cX11_person 111 = .ok (.aload_n 0, 1) := by decide +kernel
theorem dX11_person_112 : decode cX11_person 112 = .ok (.dup, 1) := by decide +kernel
theorem dX11_person_113 : decode cX11_person 113 = .ok (.getfield 121, 3) := by decide +kernel
theorem dX11_person_116 : decode cX11_person 116 = .ok (.iconst 1, 1) := by decide +kernel
theorem dX11_person_117 : decode cX11_person 117 = .ok (.iadd, 1) := by decide +kernel
theorem dX11_person_118 : decode cX11_person 118 = .ok (.putfield 121, 3) := by decide +kernel
theorem dX11_person_121 : decode cX11_person 121 = .ok (.aload_n 0, 1) := by decide +kernel
theorem dX11_person_122 : decode cX11_person 122 = .ok (.getfield 121, 3) := by decide +kernel
theorem dX11_person_125 : decode cX11_person 125 = .ok (.iconst 1, 1) := by decide +kernel
theorem dX11_person_126 : decode cX11_person 126 = .ok (.isub, 1) := by decide +kernel
theorem dX11_person_127 : decode cX11_person 127 = .ok (.ireturn, 1) := by decide +kernel
theorem dX11_ill_0 : decode cX11_ill 0 = .ok (.aload_n 0, 1) := by decide +kernel
theorem dX11_ill_1 : decode cX11_ill 1 = .ok (.aload_n 0, 1) := by decide +kernel
theorem dX11_ill_2 : decode cX11_ill 2 = .ok (.iload_n 1, 1) := by decide +kernel
theorem dX11_ill_3 : decode cX11_ill 3 = .ok (.invokevirtual 165, 3) := by decide +kernel
theorem dX11_ill_6 : decode cX11_ill 6 = .ok (.ifCond .eq 14, 3) := by decide +kernel
theorem dX11_ill_9 : decode cX11_ill 9 = .ok (.iload_n 2, 1) := by decide +kernel
theorem dX11_ill_10 : decode cX11_ill 10 = .ok (.invokestatic 168, 3) := by decide +kernel
theorem dX11_ill_13 : decode cX11_ill 13 = .ok (.ifCond .eq 7, 3) := by decide +kernel
theorem dX11_ill_16 : decode cX11_ill 16 = .ok (.iconst 0, 1) := by decide +kernel
theorem dX11_ill_17 : decode cX11_ill 17 = .ok (.goto 4, 3) := by decide +kernel
theorem dX11_ill_20 : decode cX11_ill 20 = .ok (.iconst 1, 1) := by decide +kernel
theorem dX11_ill_21 : decode cX11_ill 21 = .ok (.invokevirtual 138, 3) := by decide +kernel
theorem dX11_ill_24 : decode cX11_ill 24 = .ok (.ifCond .ne 5, 3) := by decide +kernel
theorem dX11_ill_27 : decode cX11_ill 27 = .ok (.iconst 0, 1) := by decide +kernel
theorem dX11_ill_28 : decode cX11_ill 28 = .ok (.ireturn, 1) := by decide +kernel
theorem dX11_ill_29 : decode cX11_ill 29 = .ok (.aload_n 0, 1) := by decide +kernel
theorem dX11_ill_30 : decode cX11_ill 30 = .ok (.getfield 71, 3) := by decide +kernel
theorem dX11_ill_33 : decode cX11_ill 33 = .ok (.iload_n 1, 1) := by decide +kernel
theorem dX11_ill_34 : decode cX11_ill 34 = .ok (.iload_n 3, 1) := by decide +kernel
theorem dX11_ill_35 : decode cX11_ill 35 = .ok (.ifCond .eq 16, 3) := by decide +kernel
theorem dX11_ill_38 : decode cX11_ill 38 = .ok (.aload_n 0, 1) := by decide +kernel
theorem dX11_ill_39 : decode cX11_ill 39 = .ok (.getfield 71, 3) := by decide +kernel
theorem dX11_ill_42 : decode cX11_ill 42 = .ok (.iload_n 1, 1) := by decide +kernel
theorem dX11_ill_43 : decode cX11_ill 43 = .ok (.iaload, 1) := by decide +kernel
theorem dX11_ill_44 : decode cX11_ill 44 = .ok (.iconst 1, 1) := by decide +kernel
theorem dX11_ill_45 : decode cX11_ill 45 = .ok (.iload_n 2, 1) := by decide +kernel
theorem dX11_ill_46 : decode cX11_ill 46 = .ok (.ishl, 1) := by decide +kernel
theorem dX11_ill_47 : decode cX11_ill 47 = .ok (.ior, 1) := by decide +kernel
theorem dX11_ill_48 : decode cX11_ill 48 = .ok (.goto 15, 3) := by decide +kernel
theorem dX11_ill_51 : decode cX11_ill 51 = .ok (.aload_n 0, 1) := by decide +kernel
theorem dX11_ill_52 : decode cX11_ill 52 = .ok (.getfield 71, 3) := by decide +kernel
theorem dX11_ill_55 : decode cX11_ill 55 = .ok (.iload_n 1, 1) := by decide +kernel
theorem dX11_ill_56 : decode cX11_ill 56 = .ok (.iaload, 1) := by decide +kernel
theorem dX11_ill_57 : decode cX11_ill 57 = .ok (.iconst 1, 1) := by decide +kernel
theorem dX11_ill_58 : decode cX11_ill 58 = .ok (.iload_n 2, 1) := by decide +kernel
theorem dX11_ill_59 : decode cX11_ill 59 = .ok (.ishl, 1) := by decide +kernel
theorem dX11_ill_60 : decode cX11_ill 60 = .ok (.iconst (-1), 1) := by decide +kernel
theorem dX11_ill_61 : decode cX11_ill 61 = .ok (.ixor, 1) := by decide +kernel
theorem dX11_ill_62 : decode cX11_ill 62 = .ok (.iand, 1) := by decide +kernel
theorem dX11_ill_63 : decode cX11_ill 63 = .ok (.iastore, 1) := by decide +kernel
theorem dX11_ill_64 : decode cX11_ill 64 = .ok (.aload_n 0, 1) := by decide +kernel
theorem dX11_ill_65 : decode cX11_ill 65 = .ok (.getfield 71, 3) := by decide +kernel
theorem dX11_ill_68 : decode cX11_ill 68 = .ok (.iload_n 1, 1) := by decide +kernel
theorem dX11_ill_69 : decode cX11_ill 69 = .ok (.iaload, 1) := by decide +kernel
theorem dX11_ill_70 : decode cX11_ill 70 = .ok (.invokestatic 151, 3) := by decide +kernel
theorem dX11_ill_73 : decode cX11_ill 73 = .ok (.ireturn, 1) := by decide +kernel
theorem dX11_place_0 : decode cX11_place 0 = .ok (.aload_n 0, 1) := by decide +kernel
theorem dX11_place_1 : decode cX11_place 1 = .ok (.iload_n 1, 1) := by decide +kernel
theorem dX11_place_2 : decode cX11_place 2 = .ok (.iconst 0, 1) := by decide +kernel
theorem dX11_place_3 : decode cX11_place 3 = .ok (.sipush 1000, 3) := by decide +kernel
theorem dX11_place_6 : decode cX11_place 6 = .ok (.invokestatic 117, 3) := by decide +kernel
theorem dX11_place_9 : decode cX11_place 9 = .ok (.ifCond .ne 7, 3) := by decide +kernel
theorem dX11_place_12 : decode cX11_place 12 = .ok (.iconst 1, 1) := by decide +kernel
theorem dX11_place_13 : decode cX11_place 13 = .ok (.goto 17, 3) := by decide +kernel
theorem dX11_place_16 : decode cX11_place 16 = .ok (.aload_n 0, 1) := by decide +kernel
theorem dX11_place_17 : decode cX11_place 17 = .ok (.getfield 124, 3) := by decide +kernel
theorem dX11_place_20 : decode cX11_place 20 = .ok (.bipush 6, 2) := by decide +kernel
theorem dX11_place_22 : decode cX11_place 22 = .ok (.if_icmp .ne 7, 3) := by decide +kernel
theorem dX11_place_25 : decode cX11_place 25 = .ok (.iconst 2, 1) := by decide +kernel
theorem dX11_place_26 : decode cX11_place 26 = .ok (.goto 4, 3) := by decide +kernel
theorem dX11_place_29 : decode cX11_place 29 = .ok (.iconst 0, 1) := by decide +kernel
theorem dX11_place_30 : decode cX11_place 30 = .ok (.invokevirtual 138, 3) := by decide +kernel
theorem dX11_place_33 : decode cX11_place 33 = .ok (.ifCond .ne 5, 3) := by decide +kernel
theorem dX11_place_36 : decode cX11_place 36 = .ok (.iconst 0, 1) := by decide +kernel
theorem dX11_place_37 : decode cX11_place 37 = .ok (.ireturn, 1) := by decide +kernel
theorem dX11_place_38 : decode cX11_place 38 = .ok (.aload_n 0, 1) := by decide +kernel
theorem dX11_place_39 : decode cX11_place 39 = .ok (.getfield 74, 3) := by decide +kernel
theorem dX11_place_42 : decode cX11_place 42 = .ok (.aload_n 0, 1) := by decide +kernel
theorem dX11_place_43 : decode cX11_place 43 = .ok (.getfield 124, 3) := by decide +kernel
theorem dX11_place_46 : decode cX11_place 46 = .ok (.iload_n 1, 1) := by decide +kernel
theorem dX11_place_47 : decode cX11_place 47 = .ok (.iastore, 1) := by decide +kernel
theorem dX11_place_48 : decode cX11_place 48 = .ok (.aload_n 0, 1) := by decide +kernel
theorem dX11_place_49 : decode cX11_place 49 = .ok (.getfield 77, 3) := by decide +kernel
theorem dX11_place_52 : decode cX11_place 52 = .ok (.aload_n 0, 1) := by decide +kernel
theorem dX11_place_53 : decode cX11_place 53 = .ok (.getfield 124, 3) := by decide +kernel
theorem dX11_place_56 : decode cX11_place 56 = .ok (.ldc 171, 2) := by decide +kernel
theorem dX11_place_58 : decode cX11_place 58 = .ok (.iastore, 1) := by decide +kernel
theorem dX11_place_59 : decode cX11_place 59 = .ok (.aload_n 0, 1) := by decide +kernel
theorem dX11_place_60 : decode cX11_place 60 = .ok (.dup, 1) := by decide +kernel
theorem dX11_place_61 : decode cX11_place 61 = .ok (.getfield 124, 3) := by decide +kernel
end
section
theorem dX11_place_64 : decode cX11_place 64 = .ok (.iconst 1, 1) := by decide +kernel
theorem dX11_place_65 : decode cX11_place 65 = .ok (.iadd, 1) := by decide +kernel
theorem dX11_place_66 : decode cX11_place 66 = .ok (.putfield 124, 3) := by decide +kernel
theorem dX11_place_69 : decode cX11_place 69 = .ok (.aload_n 0, 1) := by decide +kernel
theorem dX11_place_70 : decode cX11_place 70 = .ok (.getfield 124, 3) := by decide +kernel
theorem dX11_place_73 : decode cX11_place 73 = .ok (.iconst 1, 1) := by decide +kernel
theorem dX11_place_74 : decode cX11_place 74 = .ok (.isub, 1) := by decide +kernel
theorem dX11_place_75 : decode cX11_place 75 = .ok (.ireturn, 1) := by decide +kernel
theorem dX11_permit_0 : decode cX11_permit 0 = .ok (.aload_n 0, 1) := by decide +kernel
theorem dX11_permit_1 : decode cX11_permit 1 = .ok (.aload_n 0, 1) := by decide +kernel
theorem dX11_permit_2 : decode cX11_permit 2 = .ok (.iload_n 1, 1) := by decide +kernel
theorem dX11_permit_3 : decode cX11_permit 3 = .ok (.invokevirtual 135, 3) := by decide +kernel
theorem dX11_permit_6 : decode cX11_permit 6 = .ok (.ifCond .eq 14, 3) := by decide +kernel
theorem dX11_permit_9 : decode cX11_permit 9 = .ok (.iload_n 2, 1) := by decide +kernel
theorem dX11_permit_10 : decode cX11_permit 10 = .ok (.invokestatic 168, 3) := by decide +kernel
theorem dX11_permit_13 : decode cX11_permit 13 = .ok (.ifCond .eq 7, 3) := by decide +kernel
theorem dX11_permit_16 : decode cX11_permit 16 = .ok (.iconst 0, 1) := by decide +kernel
theorem dX11_permit_17 : decode cX11_permit 17 = .ok (.goto 4, 3) := by decide +kernel
theorem dX11_permit_20 : decode cX11_permit 20 = .ok (.iconst 1, 1) := by decide +kernel
theorem dX11_permit_21 : decode cX11_permit 21 = .ok (.invokevirtual 138, 3) := by decide +kernel
theorem dX11_permit_24 : decode cX11_permit 24 = .ok (.ifCond .ne 5, 3) := by decide +kernel
theorem dX11_permit_27 : decode cX11_permit 27 = .ok (.iconst 0, 1) := by decide +kernel
theorem dX11_permit_28 : decode cX11_permit 28 = .ok (.ireturn, 1) := by decide +kernel
theorem dX11_permit_29 : decode cX11_permit 29 = .ok (.aload_n 0, 1) := by decide +kernel
theorem dX11_permit_30 : decode cX11_permit 30 = .ok (.getfield 77, 3) := by decide +kernel
theorem dX11_permit_33 : decode cX11_permit 33 = .ok (.iload_n 1, 1) := by decide +kernel
theorem dX11_permit_34 : decode cX11_permit 34 = .ok (.iload_n 3, 1) := by decide +kernel
theorem dX11_permit_35 : decode cX11_permit 35 = .ok (.ifCond .eq 16, 3) := by decide +kernel
theorem dX11_permit_38 : decode cX11_permit 38 = .ok (.aload_n 0, 1) := by decide +kernel
theorem dX11_permit_39 : decode cX11_permit 39 = .ok (.getfield 77, 3) := by decide +kernel
theorem dX11_permit_42 : decode cX11_permit 42 = .ok (.iload_n 1, 1) := by decide +kernel
theorem dX11_permit_43 : decode cX11_permit 43 = .ok (.iaload, 1) := by decide +kernel
theorem dX11_permit_44 : decode cX11_permit 44 = .ok (.iconst 1, 1) := by decide +kernel
theorem dX11_permit_45 : decode cX11_permit 45 = .ok (.iload_n 2, 1) := by decide +kernel
theorem dX11_permit_46 : decode cX11_permit 46 = .ok (.ishl, 1) := by decide +kernel
theorem dX11_permit_47 : decode cX11_permit 47 = .ok (.ior, 1) := by decide +kernel
theorem dX11_permit_48 : decode cX11_permit 48 = .ok (.goto 15, 3) := by decide +kernel
theorem dX11_permit_51 : decode cX11_permit 51 = .ok (.aload_n 0, 1) := by decide +kernel
theorem dX11_permit_52 : decode cX11_permit 52 = .ok (.getfield 77, 3) := by decide +kernel
theorem dX11_permit_55 : decode cX11_permit 55 = .ok (.iload_n 1, 1) := by decide +kernel
theorem dX11_permit_56 : decode cX11_permit 56 = .ok (.iaload, 1) := by decide +kernel
theorem dX11_permit_57 : decode cX11_permit 57 = .ok (.iconst 1, 1) := by decide +kernel
theorem dX11_permit_58 : decode cX11_permit 58 = .ok (.iload_n 2, 1) := by decide +kernel
theorem dX11_permit_59 : decode cX11_permit 59 = .ok (.ishl, 1) := by decide +kernel
theorem dX11_permit_60 : decode cX11_permit 60 = .ok (.iconst (-1), 1) := by decide +kernel
theorem dX11_permit_61 : decode cX11_permit 61 = .ok (.ixor, 1) := by decide +kernel
theorem dX11_permit_62 : decode cX11_permit 62 = .ok (.iand, 1) := by decide +kernel
theorem dX11_permit_63 : decode cX11_permit 63 = .ok (.iastore, 1) := by decide +kernel
theorem dX11_permit_64 : decode cX11_permit 64 = .ok (.aload_n 0, 1) := by decide +kernel
theorem dX11_permit_65 : decode cX11_permit 65 = .ok (.getfield 77, 3) := by decide +kernel
theorem dX11_permit_68 : decode cX11_permit 68 = .ok (.iload_n 1, 1) := by decide +kernel
theorem dX11_permit_69 : decode cX11_permit 69 = .ok (.iaload, 1) := by decide +kernel
theorem dX11_permit_70 : decode cX11_permit 70 = .ok (.invokestatic 151, 3) := by decide +kernel
theorem dX11_permit_73 : decode cX11_permit 73 = .ok (.ireturn, 1) := by decide +kernel
theorem dX11_move_0 : decode cX11_move 0 = .ok (.aload_n 0, 1) := by decide +kernel
theorem dX11_move_1 : decode cX11_move 1 = .ok (.iload_n 1, 1) := by decide +kernel
theorem dX11_move_2 : decode cX11_move 2 = .ok (.invokevirtual 135, 3) := by decide +kernel
theorem dX11_move_5 : decode cX11_move 5 = .ok (.ifCond .eq 15, 3) := by decide +kernel
theorem dX11_move_8 : decode cX11_move 8 = .ok (.aload_n 0, 1) := by decide +kernel
theorem dX11_move_9 : decode cX11_move 9 = .ok (.iload_n 2, 1) := by decide +kernel
theorem dX11_move_10 : decode cX11_move 10 = .ok (.invokevirtual 135, 3) := by decide +kernel
theorem dX11_move_13 : decode cX11_move 13 = .ok (.ifCond .eq 7, 3) := by decide +kernel
theorem dX11_move_16 : decode cX11_move 16 = .ok (.iconst 1, 1) := by decide +kernel
theorem dX11_move_17 : decode cX11_move 17 = .ok (.goto 4, 3) := by decide +kernel
theorem dX11_move_20 : decode cX11_move 20 = .ok (.iconst 0, 1) := by decide +kernel
theorem dX11_move_21 : decode cX11_move 21 = .ok (.istore 4, 2) := by decide +kernel
theorem dX11_move_23 : decode cX11_move 23 = .ok (.aload_n 0, 1) := by decide +kernel
theorem dX11_move_24 : decode cX11_move 24 = .ok (.iload 4, 2) := by decide +kernel
theorem dX11_move_26 : decode cX11_move 26 = .ok (.ifCond .ne 7, 3) := by decide +kernel
theorem dX11_move_29 : decode cX11_move 29 = .ok (.iconst 1, 1) := by decide +kernel
theorem dX11_move_30 : decode cX11_move 30 = .ok (.goto 24, 3) := by decide +kernel
theorem dX11_move_33 : decode cX11_move 33 = .ok (.iload_n 1, 1) := by decide +kernel
theorem dX11_move_34 : decode cX11_move 34 = .ok (.iload_n 2, 1) := by decide +kernel
theorem dX11_move_35 : decode cX11_move 35 = .ok (.if_icmp .eq 14, 3) := by decide +kernel
theorem dX11_move_38 : decode cX11_move 38 = .ok (.iload_n 3, 1) := by decide +kernel
theorem dX11_move_39 : decode cX11_move 39 = .ok (.iconst 0, 1) := by decide +kernel
theorem dX11_move_40 : decode cX11_move 40 = .ok (.sipush 300, 3) := by decide +kernel
theorem dX11_move_43 : decode cX11_move 43 = .ok (.invokestatic 117, 3) := by decide +kernel
theorem dX11_move_46 : decode cX11_move 46 = .ok (.ifCond .ne 7, 3) := by decide +kernel
theorem dX11_move_49 : decode cX11_move 49 = .ok (.iconst 2, 1) := by decide +kernel
theorem dX11_move_50 : decode cX11_move 50 = .ok (.goto 4, 3) := by decide +kernel
theorem dX11_move_53 : decode cX11_move 53 = .ok (.iconst 0, 1) := by decide +kernel
theorem dX11_move_54 : decode cX11_move 54 = .ok (.invokevirtual 138, 3) := by decide +kernel
theorem dX11_move_57 : decode cX11_move 57 = .ok (.ifCond .ne 5, 3) := by decide +kernel
theorem dX11_move_60 : decode cX11_move 60 = .ok (.iconst 0, 1) := by decide +kernel
theorem dX11_move_61 : decode cX11_move 61 = .ok (.ireturn, 1) := by decide +kernel
theorem dX11_move_62 : decode cX11_move 62 = .ok (.aload_n 0, 1) := by decide +kernel
theorem dX11_move_63 : decode cX11_move 63 = .ok (.getfield 80, 3) := by decide +kernel
theorem dX11_move_66 : decode cX11_move 66 = .ok (.bipush 6, 2) := by decide +kernel
theorem dX11_move_68 : decode cX11_move 68 = .ok (.iload_n 1, 1) := by decide +kernel
theorem dX11_move_69 : decode cX11_move 69 = .ok (.imul, 1) := by decide +kernel
theorem dX11_move_70 : decode cX11_move 70 = .ok (.iload_n 2, 1) := by decide +kernel
theorem dX11_move_71 : decode cX11_move 71 = .ok (.iadd, 1) := by decide +kernel
theorem dX11_move_72 : decode cX11_move 72 = .ok (.iaload, 1) := by decide +kernel
theorem dX11_move_73 : decode cX11_move 73 = .ok (.istore 5, 2) := by decide +kernel
theorem dX11_move_75 : decode cX11_move 75 = .ok (.aload_n 0, 1) := by decide +kernel
theorem dX11_move_76 : decode cX11_move 76 = .ok (.getfield 80, 3) := by decide +kernel
theorem dX11_move_79 : decode cX11_move 79 = .ok (.bipush 6, 2) := by decide +kernel
theorem dX11_move_81 : decode cX11_move 81 = .ok (.iload_n 1, 1) := by decide +kernel
theorem dX11_move_82 : decode cX11_move 82 = .ok (.imul, 1) := by decide +kernel
theorem dX11_move_83 : decode cX11_move 83 = .ok (.iload_n 2, 1) := by decide +kernel
theorem dX11_move_84 : decode cX11_move 84 = .ok (.iadd, 1) := by decide +kernel
theorem dX11_move_85 : decode cX11_move 85 = .ok (.iload_n 3, 1) := by decide +kernel
theorem dX11_move_86 : decode cX11_move 86 = .ok (.iastore, 1) := by decide +kernel
theorem dX11_move_87 : decode cX11_move 87 = .ok (.aload_n 0, 1) := by decide +kernel
theorem dX11_move_88 : decode cX11_move 88 = .ok (.getfield 80, 3) := by decide +kernel
theorem dX11_move_91 : decode cX11_move 91 = .ok (.bipush 6, 2) := by decide +kernel
theorem dX11_move_93 : decode cX11_move 93 = .ok (.iload_n 2, 1) := by decide +kernel
theorem dX11_move_94 : decode cX11_move 94 = .ok (.imul, 1) := by decide +kernel
theorem dX11_move_95 : decode cX11_move 95 = .ok (.iload_n 1, 1) := by decide +kernel
theorem dX11_move_96 : decode cX11_move 96 = .ok (.iadd, 1) := by decide +kernel
theorem dX11_move_97 : decode cX11_move 97 = .ok (.iload_n 3, 1) := by decide +kernel
theorem dX11_move_98 : decode cX11_move 98 = .ok (.iastore, 1) := by decide +kernel
theorem dX11_move_99 : decode cX11_move 99 = .ok (.iload 5, 2) := by decide +kernel
theorem dX11_move_101 : decode cX11_move 101 = .ok (.ireturn, 1) := by decide +kernel
theorem dX11_light_0 : decode cX11_light 0 = .ok (.iload_n 1, 1) := by decide +kernel
theorem dX11_light_1 : decode cX11_light 1 = .ok (.invokestatic 168, 3) := by decide +kernel
theorem dX11_light_4 : decode cX11_light 4 = .ok (.istore 5, 2) := by decide +kernel
theorem dX11_light_6 : decode cX11_light 6 = .ok (.iload_n 2, 1) := by decide +kernel
theorem dX11_light_7 : decode cX11_light 7 = .ok (.iconst 0, 1) := by decide +kernel
theorem dX11_light_8 : decode cX11_light 8 = .ok (.sipush 1200, 3) := by decide +kernel
theorem dX11_light_11 : decode cX11_light 11 = .ok (.invokestatic 117, 3) := by decide +kernel
theorem dX11_light_14 : decode cX11_light 14 = .ok (.ifCond .eq 30, 3) := by decide +kernel
theorem dX11_light_17 : decode cX11_light 17 = .ok (.iload_n 3, 1) := by decide +kernel
theorem dX11_light_18 : decode cX11_light 18 = .ok (.iconst 0, 1) := by decide +kernel
theorem dX11_light_19 : decode cX11_light 19 = .ok (.sipush 1440, 3) := by decide +kernel
theorem dX11_light_22 : decode cX11_light 22 = .ok (.invokestatic 117, 3) := by decide +kernel
theorem dX11_light_25 : decode cX11_light 25 = .ok (.ifCond .eq 19, 3) := by decide +kernel
theorem dX11_light_28 : decode cX11_light 28 = .ok (.iload 4, 2) := by decide +kernel
theorem dX11_light_30 : decode cX11_light 30 = .ok (.iload_n 3, 1) := by decide +kernel
theorem dX11_light_31 : decode cX11_light 31 = .ok (.sipush 1440, 3) := by decide +kernel
theorem dX11_light_34 : decode cX11_light 34 = .ok (.invokestatic 117, 3) := by decide +kernel
theorem dX11_light_37 : decode cX11_light 37 = .ok (.ifCond .eq 7, 3) := by decide +kernel
theorem dX11_light_40 : decode cX11_light 40 = .ok (.iconst 1, 1) := by decide +kernel
theorem dX11_light_41 : decode cX11_light 41 = .ok (.goto 4, 3) := by decide +kernel
theorem dX11_light_44 : decode cX11_light 44 = .ok (.iconst 0, 1) := by decide +kernel
theorem dX11_light_45 : decode cX11_light 45 = .ok (.istore 6, 2) := by decide +kernel
theorem dX11_light_47 : decode cX11_light 47 = .ok (.aload_n 0, 1) := by decide +kernel
theorem dX11_light_48 : decode cX11_light 48 = .ok (.iload 5, 2) := by decide +kernel
theorem dX11_light_50 : decode cX11_light 50 = .ok (.ifCond .ne 7, 3) := by decide +kernel
theorem dX11_light_53 : decode cX11_light 53 = .ok (.iconst 1, 1) := by decide +kernel
theorem dX11_light_54 : decode cX11_light 54 = .ok (.goto 13, 3) := by decide +kernel
theorem dX11_light_57 : decode cX11_light 57 = .ok (.iload 6, 2) := by decide +kernel
theorem dX11_light_59 : decode cX11_light 59 = .ok (.ifCond .eq 7, 3) := by decide +kernel
theorem dX11_light_62 : decode cX11_light 62 = .ok (.iconst 0, 1) := by decide +kernel
theorem dX11_light_63 : decode cX11_light 63 = .ok (.goto 4, 3) := by decide +kernel
theorem dX11_light_66 : decode cX11_light 66 = .ok (.iconst 2, 1) := by decide +kernel
theorem dX11_light_67 : decode cX11_light 67 = .ok (.invokevirtual 138, 3) := by decide +kernel
theorem dX11_light_70 : decode cX11_light 70 = .ok (.ifCond .eq 25, 3) := by decide +kernel
theorem dX11_light_73 : decode cX11_light 73 = .ok (.aload_n 0, 1) := by decide +kernel
theorem dX11_light_74 : decode cX11_light 74 = .ok (.getfield 83, 3) := by decide +kernel
theorem dX11_light_77 : decode cX11_light 77 = .ok (.iload_n 1, 1) := by decide +kernel
theorem dX11_light_78 : decode cX11_light 78 = .ok (.iload_n 2, 1) := by decide +kernel
theorem dX11_light_79 : decode cX11_light 79 = .ok (.iastore, 1) := by decide +kernel
theorem dX11_light_80 : decode cX11_light 80 = .ok (.aload_n 0, 1) := by decide +kernel
theorem dX11_light_81 : decode cX11_light 81 = .ok (.getfield 86, 3) := by decide +kernel
theorem dX11_light_84 : decode cX11_light 84 = .ok (.iload_n 1, 1) := by decide +kernel
theorem dX11_light_85 : decode cX11_light 85 = .ok (.iload_n 3, 1) := by decide +kernel
theorem dX11_light_86 : decode cX11_light 86 = .ok (.iastore, 1) := by decide +kernel
theorem dX11_light_87 : decode cX11_light 87 = .ok (.aload_n 0, 1) := by decide +kernel
theorem dX11_light_88 : decode cX11_light 88 = .ok (.getfield 89, 3) := by decide +kernel
theorem dX11_light_91 : decode cX11_light 91 = .ok (.iload_n 1, 1) := by decide +kernel
theorem dX11_light_92 : decode cX11_light 92 = .ok (.iload 4, 2) := by decide +kernel
theorem dX11_light_94 : decode cX11_light 94 = .ok (.iastore, 1) := by decide +kernel
theorem dX11_light_95 : decode cX11_light 95 = .ok (.return_, 1) := by decide +kernel
theorem dX11_eighth_0 : decode cX11_eighth 0 = .ok (.aload_n 0, 1) := by decide +kernel
theorem dX11_eighth_1 : decode cX11_eighth 1 = .ok (.getfield 172, 3) := by decide +kernel
theorem dX11_eighth_4 : decode cX11_eighth 4 = .ok (.ifCond .ne 8, 3) := by decide +kernel
theorem dX11_eighth_7 : decode cX11_eighth 7 = .ok (.bipush 15, 2) := by decide +kernel
theorem dX11_eighth_9 : decode cX11_eighth 9 = .ok (.goto 19, 3) := by decide +kernel
theorem dX11_eighth_12 : decode cX11_eighth 12 = .ok (.aload_n 0, 1) := by decide +kernel
theorem dX11_eighth_13 : decode cX11_eighth 13 = .ok (.getfield 175, 3) := by decide +kernel
theorem dX11_eighth_16 : decode cX11_eighth 16 = .ok (.aload_n 0, 1) := by decide +kernel
theorem dX11_eighth_17 : decode cX11_eighth 17 = .ok (.getfield 172, 3) := by decide +kernel
theorem dX11_eighth_20 : decode cX11_eighth 20 = .ok (.iadd, 1) := by decide +kernel
theorem dX11_eighth_21 : decode cX11_eighth 21 = .ok (.iconst 1, 1) := by decide +kernel
theorem dX11_eighth_22 : decode cX11_eighth 22 = .ok (.isub, 1) := by decide +kernel
theorem dX11_eighth_23 : decode cX11_eighth 23 = .ok (.aload_n 0, 1) := by decide +kernel
theorem dX11_eighth_24 : decode cX11_eighth 24 = .ok (.getfield 172, 3) := by decide +kernel
theorem dX11_eighth_27 : decode cX11_eighth 27 = .ok (.idiv, 1) := by decide +kernel
theorem dX11_eighth_28 : decode cX11_eighth 28 = .ok (.ireturn, 1) := by decide +kernel
theorem dX11_clock_0 : decode cX11_clock 0 = .ok (.iconst 0, 1) := by decide +kernel
theorem dX11_clock_1 : decode cX11_clock 1 = .ok (.istore_n 2, 1) := by decide +kernel
theorem dX11_clock_2 : decode cX11_clock 2 = .ok (.aload_n 0, 1) := by decide +kernel
theorem dX11_clock_3 : decode cX11_clock 3 = .ok (.getfield 83, 3) := by decide +kernel
theorem dX11_clock_6 : decode cX11_clock 6 = .ok (.iload_n 1, 1) := by decide +kernel
theorem dX11_clock_7 : decode cX11_clock 7 = .ok (.iaload, 1) := by decide +kernel
theorem dX11_clock_8 : decode cX11_clock 8 = .ok (.istore_n 3, 1) := by decide +kernel
theorem dX11_clock_9 : decode cX11_clock 9 = .ok (.iconst 0, 1) := by decide +kernel
theorem dX11_clock_10 : decode cX11_clock 10 = .ok (.istore 4, 2) := by decide +kernel
theorem dX11_clock_12 : decode cX11_clock 12 = .ok (.iload 4, 2) := by decide +kernel
theorem dX11_clock_14 : decode cX11_clock 14 = .ok (.aload_n 0, 1) := by decide +kernel
theorem dX11_clock_15 : decode cX11_clock 15 = .ok (.getfield 95, 3) := by decide +kernel
theorem dX11_clock_18 : decode cX11_clock 18 = .ok (.iload_n 1, 1) := by decide +kernel
theorem dX11_clock_19 : decode cX11_clock 19 = .ok (.iaload, 1) := by decide +kernel
theorem dX11_clock_20 : decode cX11_clock 20 = .ok (.if_icmp .ge 177, 3) := by decide +kernel
theorem dX11_clock_23 : decode cX11_clock 23 = .ok (.aload_n 0, 1) := by decide +kernel
theorem dX11_clock_24 : decode cX11_clock 24 = .ok (.getfield 92, 3) := by decide +kernel
theorem dX11_clock_27 : decode cX11_clock 27 = .ok (.bipush 8, 2) := by decide +kernel
theorem dX11_clock_29 : decode cX11_clock 29 = .ok (.iload_n 1, 1) := by decide +kernel
theorem dX11_clock_30 : decode cX11_clock 30 = .ok (.imul, 1) := by decide +kernel
theorem dX11_clock_31 : decode cX11_clock 31 = .ok (.iload 4, 2) := by decide +kernel
theorem dX11_clock_33 : decode cX11_clock 33 = .ok (.iadd, 1) := by decide +kernel
theorem dX11_clock_34 : decode cX11_clock 34 = .ok (.iaload, 1) := by decide +kernel
theorem dX11_clock_35 : decode cX11_clock 35 = .ok (.istore 5, 2) := by decide +kernel
theorem dX11_clock_37 : decode cX11_clock 37 = .ok (.iload 4, 2) := by decide +kernel
theorem dX11_clock_39 : decode cX11_clock 39 = .ok (.ifCond .ne 8, 3) := by decide +kernel
theorem dX11_clock_42 : decode cX11_clock 42 = .ok (.iload 5, 2) := by decide +kernel
theorem dX11_clock_44 : decode cX11_clock 44 = .ok (.goto 17, 3) := by decide +kernel
theorem dX11_clock_47 : decode cX11_clock 47 = .ok (.aload_n 0, 1) := by decide +kernel
theorem dX11_clock_48 : decode cX11_clock 48 = .ok (.getfield 92, 3) := by decide +kernel
theorem dX11_clock_51 : decode cX11_clock 51 = .ok (.bipush 8, 2) := by decide +kernel
theorem dX11_clock_53 : decode cX11_clock 53 = .ok (.iload_n 1, 1) := by decide +kernel
theorem dX11_clock_54 : decode cX11_clock 54 = .ok (.imul, 1) := by decide +kernel
theorem dX11_clock_55 : decode cX11_clock 55 = .ok (.iload 4, 2) := by decide +kernel
theorem dX11_clock_57 : decode cX11_clock 57 = .ok (.iadd, 1) := by decide +kernel
theorem dX11_clock_58 : decode cX11_clock 58 = .ok (.iconst 1, 1) := by decide +kernel
theorem dX11_clock_59 : decode cX11_clock 59 = .ok (.isub, 1) := by decide +kernel
theorem dX11_clock_60 : decode cX11_clock 60 = .ok (.iaload, 1) := by decide +kernel
theorem dX11_clock_61 : decode cX11_clock 61 = .ok (.istore 6, 2) := by decide +kernel
theorem dX11_clock_63 : decode cX11_clock 63 = .ok (.iload_n 3, 1) := by decide +kernel
theorem dX11_clock_64 : decode cX11_clock 64 = .ok (.aload_n 0, 1) := by decide +kernel
theorem dX11_clock_65 : decode cX11_clock 65 = .ok (.getfield 19, 3) := by decide +kernel
theorem dX11_clock_68 : decode cX11_clock 68 = .ok (.iload 6, 2) := by decide +kernel
theorem dX11_clock_70 : decode cX11_clock 70 = .ok (.iaload, 1) := by decide +kernel
theorem dX11_clock_71 : decode cX11_clock 71 = .ok (.aload_n 0, 1) := by decide +kernel
theorem dX11_clock_72 : decode cX11_clock 72 = .ok (.getfield 19, 3) := by decide +kernel
theorem dX11_clock_75 : decode cX11_clock 75 = .ok (.iload 5, 2) := by decide +kernel
theorem dX11_clock_77 : decode cX11_clock 77 = .ok (.iaload, 1) := by decide +kernel
theorem dX11_clock_78 : decode cX11_clock 78 = .ok (.if_icmp .ne 7, 3) := by decide +kernel
theorem dX11_clock_81 : decode cX11_clock 81 = .ok (.iconst 0, 1) := by decide +kernel
theorem dX11_clock_82 : decode cX11_clock 82 = .ok (.goto 26, 3) := by decide +kernel
theorem dX11_clock_85 : decode cX11_clock 85 = .ok (.aload_n 0, 1) := by decide +kernel
theorem dX11_clock_86 : decode cX11_clock 86 = .ok (.getfield 80, 3) := by decide +kernel
theorem dX11_clock_89 : decode cX11_clock 89 = .ok (.bipush 6, 2) := by decide +kernel
theorem dX11_clock_91 : decode cX11_clock 91 = .ok (.aload_n 0, 1) := by decide +kernel
theorem dX11_clock_92 : decode cX11_clock 92 = .ok (.getfield 19, 3) := by decide +kernel
theorem dX11_clock_95 : decode cX11_clock 95 = .ok (.iload 6, 2) := by decide +kernel
theorem dX11_clock_97 : decode cX11_clock 97 = .ok (.iaload, 1) := by decide +kernel
theorem dX11_clock_98 : decode cX11_clock 98 = .ok (.imul, 1) := by decide +kernel
theorem dX11_clock_99 : decode cX11_clock 99 = .ok (.aload_n 0, 1) := by decide +kernel
theorem dX11_clock_100 : decode cX11_clock 100 = .ok (.getfield 19, 3) := by decide +kernel
theorem dX11_clock_103 : decode cX11_clock 103 = .ok (.iload 5, 2) := by decide +kernel
theorem dX11_clock_105 : decode cX11_clock 105 = .ok (.iaload, 1) := by decide +kernel
theorem dX11_clock_106 : decode cX11_clock 106 = .ok (.iadd, 1) := by decide +kernel
theorem dX11_clock_107 : decode cX11_clock 107 = .ok (.iaload, 1) := by decide +kernel
theorem dX11_clock_108 : decode cX11_clock 108 = .ok (.iadd, 1) := by decide +kernel
theorem dX11_clock_109 : decode cX11_clock 109 = .ok (.istore_n 3, 1) := by decide +kernel
theorem dX11_clock_110 : decode cX11_clock 110 = .ok (.aload_n 0, 1) := by decide +kernel
theorem dX11_clock_111 : decode cX11_clock 111 = .ok (.getfield 47, 3) := by decide +kernel
theorem dX11_clock_114 : decode cX11_clock 114 = .ok (.iload 5, 2) := by decide +kernel
theorem dX11_clock_116 : decode cX11_clock 116 = .ok (.baload, 1) := by decide +kernel
theorem dX11_clock_117 : decode cX11_clock 117 = .ok (.ifCond .eq 13, 3) := by decide +kernel
theorem dX11_clock_120 : decode cX11_clock 120 = .ok (.aload_n 0, 1) := by decide +kernel
theorem dX11_clock_121 : decode cX11_clock 121 = .ok (.getfield 53, 3) := by decide +kernel
theorem dX11_clock_124 : decode cX11_clock 124 = .ok (.iload 5, 2) := by decide +kernel
theorem dX11_clock_126 : decode cX11_clock 126 = .ok (.iaload, 1) := by decide +kernel
theorem dX11_clock_127 : decode cX11_clock 127 = .ok (.goto 15, 3) := by decide +kernel
theorem dX11_clock_130 : decode cX11_clock 130 = .ok (.aload_n 0, 1) := by decide +kernel
theorem dX11_clock_131 : decode cX11_clock 131 = .ok (.getfield 29, 3) := by decide +kernel
theorem dX11_clock_134 : decode cX11_clock 134 = .ok (.iload 5, 2) := by decide +kernel
theorem dX11_clock_136 : decode cX11_clock 136 = .ok (.iaload, 1) := by decide +kernel
theorem dX11_clock_137 : decode cX11_clock 137 = .ok (.aload_n 0, 1) := by decide +kernel
theorem dX11_clock_138 : decode cX11_clock 138 = .ok (.invokevirtual 178, 3) := by decide +kernel
theorem dX11_clock_141 : decode cX11_clock 141 = .ok (.imul, 1) := by decide +kernel
theorem dX11_clock_142 : decode cX11_clock 142 = .ok (.istore 7, 2) := by decide +kernel
theorem dX11_clock_144 : decode cX11_clock 144 = .ok (.iload_n 2, 1) := by decide +kernel
theorem dX11_clock_145 : decode cX11_clock 145 = .ok (.ifCond .ne 25, 3) := by decide +kernel
theorem dX11_clock_148 : decode cX11_clock 148 = .ok (.iload_n 3, 1) := by decide +kernel
theorem dX11_clock_149 : decode cX11_clock 149 = .ok (.iload 7, 2) := by decide +kernel
theorem dX11_clock_151 : decode cX11_clock 151 = .ok (.iadd, 1) := by decide +kernel
theorem dX11_clock_152 : decode cX11_clock 152 = .ok (.aload_n 0, 1) := by decide +kernel
theorem dX11_clock_153 : decode cX11_clock 153 = .ok (.getfield 83, 3) := by decide +kernel
theorem dX11_clock_156 : decode cX11_clock 156 = .ok (.iload_n 1, 1) := by decide +kernel
theorem dX11_clock_157 : decode cX11_clock 157 = .ok (.iaload, 1) := by decide +kernel
theorem dX11_clock_158 : decode cX11_clock 158 = .ok (.sipush 360, 3) := by decide +kernel
theorem dX11_clock_161 : decode cX11_clock 161 = .ok (.iadd, 1) := by decide +kernel
theorem dX11_clock_162 : decode cX11_clock 162 = .ok (.if_icmp .le 8, 3) := by decide +kernel
theorem dX11_clock_165 : decode cX11_clock 165 = .ok (.iconst 1, 1) := by decide +kernel
theorem dX11_clock_166 : decode cX11_clock 166 = .ok (.istore_n 2, 1) := by decide +kernel
theorem dX11_clock_167 : decode cX11_clock 167 = .ok (.iinc 3 30, 3) := by decide +kernel
theorem dX11_clock_170 : decode cX11_clock 170 = .ok (.aload_n 0, 1) := by decide +kernel
theorem dX11_clock_171 : decode cX11_clock 171 = .ok (.getfield 101, 3) := by decide +kernel
theorem dX11_clock_174 : decode cX11_clock 174 = .ok (.iload 4, 2) := by decide +kernel
theorem dX11_clock_176 : decode cX11_clock 176 = .ok (.iload_n 3, 1) := by decide +kernel
theorem dX11_clock_177 : decode cX11_clock 177 = .ok (.iastore, 1) := by decide +kernel
theorem dX11_clock_178 : decode cX11_clock 178 = .ok (.iload_n 3, 1) := by decide +kernel
theorem dX11_clock_179 : decode cX11_clock 179 = .ok (.iload 7, 2) := by decide +kernel
theorem dX11_clock_181 : decode cX11_clock 181 = .ok (.iadd, 1) := by decide +kernel
theorem dX11_clock_182 : decode cX11_clock 182 = .ok (.istore_n 3, 1) := by decide +kernel
theorem dX11_clock_183 : decode cX11_clock 183 = .ok (.aload_n 0, 1) := by decide +kernel
theorem dX11_clock_184 : decode cX11_clock 184 = .ok (.getfield 104, 3) := by decide +kernel
theorem dX11_clock_187 : decode cX11_clock 187 = .ok (.iload 4, 2) := by decide +kernel
theorem dX11_clock_189 : decode cX11_clock 189 = .ok (.iload_n 3, 1) := by decide +kernel
theorem dX11_clock_190 : decode cX11_clock 190 = .ok (.iastore, 1) := by decide +kernel
theorem dX11_clock_191 : decode cX11_clock 191 = .ok (.iinc 4 1, 3) := by decide +kernel
theorem dX11_clock_194 : decode cX11_clock 194 = .ok (.goto (-182), 3) := by decide +kernel
theorem dX11_clock_197 : decode cX11_clock 197 = .ok (.return_, 1) := by decide +kernel
theorem dX11_callOf_0 : decode cX11_callOf 0 = .ok (.sipush (-10000), 3) := by decide +kernel
theorem dX11_callOf_3 : decode cX11_callOf 3 = .ok (.istore 4, 2) := by decide +kernel
theorem dX11_callOf_5 : decode cX11_callOf 5 = .ok (.sipush (-10000), 3) := by decide +kernel
theorem dX11_callOf_8 : decode cX11_callOf 8 = .ok (.istore 5, 2) := by decide +kernel
theorem dX11_callOf_10 : decode cX11_callOf 10 = .ok (.aload_n 0, 1) := by decide +kernel
theorem dX11_callOf_11 : decode cX11_callOf 11 = .ok (.getfield 95, 3) := by decide +kernel
theorem dX11_callOf_14 : decode cX11_callOf 14 = .ok (.iload_n 2, 1) := by decide +kernel
theorem dX11_callOf_15 : decode cX11_callOf 15 = .ok (.iaload, 1) := by decide +kernel
theorem dX11_callOf_16 : decode cX11_callOf 16 = .ok (.iconst 1, 1) := by decide +kernel
theorem dX11_callOf_17 : decode cX11_callOf 17 = .ok (.isub, 1) := by decide +kernel
theorem dX11_callOf_18 : decode cX11_callOf 18 = .ok (.istore 6, 2) := by decide +kernel
theorem dX11_callOf_20 : decode cX11_callOf 20 = .ok (.iload 6, 2) := by decide +kernel
theorem dX11_callOf_22 : decode cX11_callOf 22 = .ok (.ifCond .lt 85, 3) := by decide +kernel
theorem dX11_callOf_25 : decode cX11_callOf 25 = .ok (.aload_n 0, 1) := by decide +kernel
theorem dX11_callOf_26 : decode cX11_callOf 26 = .ok (.getfield 32, 3) := by decide +kernel
theorem dX11_callOf_29 : decode cX11_callOf 29 = .ok (.aload_n 0, 1) := by decide +kernel
theorem dX11_callOf_30 : decode cX11_callOf 30 = .ok (.getfield 92, 3) := by decide +kernel
theorem dX11_callOf_33 : decode cX11_callOf 33 = .ok (.bipush 8, 2) := by decide +kernel
theorem dX11_callOf_35 : decode cX11_callOf 35 = .ok (.iload_n 2, 1) := by decide +kernel
theorem dX11_callOf_36 : decode cX11_callOf 36 = .ok (.imul, 1) := by decide +kernel
theorem dX11_callOf_37 : decode cX11_callOf 37 = .ok (.iload 6, 2) := by decide +kernel
theorem dX11_callOf_39 : decode cX11_callOf 39 = .ok (.iadd, 1) := by decide +kernel
theorem dX11_callOf_40 : decode cX11_callOf 40 = .ok (.iaload, 1) := by decide +kernel
theorem dX11_callOf_41 : decode cX11_callOf 41 = .ok (.iaload, 1) := by decide +kernel
theorem dX11_callOf_42 : decode cX11_callOf 42 = .ok (.iload_n 1, 1) := by decide +kernel
theorem dX11_callOf_43 : decode cX11_callOf 43 = .ok (.invokestatic 158, 3) := by decide +kernel
theorem dX11_callOf_46 : decode cX11_callOf 46 = .ok (.istore 7, 2) := by decide +kernel
theorem dX11_callOf_48 : decode cX11_callOf 48 = .ok (.iload 7, 2) := by decide +kernel
theorem dX11_callOf_50 : decode cX11_callOf 50 = .ok (.ifCond .eq 21, 3) := by decide +kernel
theorem dX11_callOf_53 : decode cX11_callOf 53 = .ok (.iload 5, 2) := by decide +kernel
theorem dX11_callOf_55 : decode cX11_callOf 55 = .ok (.sipush (-10000), 3) := by decide +kernel
theorem dX11_callOf_58 : decode cX11_callOf 58 = .ok (.if_icmp .ne 13, 3) := by decide +kernel
theorem dX11_callOf_61 : decode cX11_callOf 61 = .ok (.aload_n 0, 1) := by decide +kernel
theorem dX11_callOf_62 : decode cX11_callOf 62 = .ok (.getfield 104, 3) := by decide +kernel
theorem dX11_callOf_65 : decode cX11_callOf 65 = .ok (.iload 6, 2) := by decide +kernel
theorem dX11_callOf_67 : decode cX11_callOf 67 = .ok (.iaload, 1) := by decide +kernel
theorem dX11_callOf_68 : decode cX11_callOf 68 = .ok (.goto 5, 3) := by decide +kernel
theorem dX11_callOf_71 : decode cX11_callOf 71 = .ok (.iload 5, 2) := by decide +kernel
theorem dX11_callOf_73 : decode cX11_callOf 73 = .ok (.istore 5, 2) := by decide +kernel
theorem dX11_callOf_75 : decode cX11_callOf 75 = .ok (.iload 7, 2) := by decide +kernel
theorem dX11_callOf_77 : decode cX11_callOf 77 = .ok (.ifCond .eq 20, 3) := by decide +kernel
theorem dX11_callOf_80 : decode cX11_callOf 80 = .ok (.aload_n 0, 1) := by decide +kernel
theorem dX11_callOf_81 : decode cX11_callOf 81 = .ok (.getfield 101, 3) := by decide +kernel
theorem dX11_callOf_84 : decode cX11_callOf 84 = .ok (.iload 6, 2) := by decide +kernel
theorem dX11_callOf_86 : decode cX11_callOf 86 = .ok (.iaload, 1) := by decide +kernel
theorem dX11_callOf_87 : decode cX11_callOf 87 = .ok (.aload_n 0, 1) := by decide +kernel
theorem dX11_callOf_88 : decode cX11_callOf 88 = .ok (.getfield 65, 3) := by decide +kernel
theorem dX11_callOf_91 : decode cX11_callOf 91 = .ok (.iload_n 1, 1) := by decide +kernel
theorem dX11_callOf_92 : decode cX11_callOf 92 = .ok (.iaload, 1) := by decide +kernel
theorem dX11_callOf_93 : decode cX11_callOf 93 = .ok (.isub, 1) := by decide +kernel
theorem dX11_callOf_94 : decode cX11_callOf 94 = .ok (.goto 5, 3) := by decide +kernel
theorem dX11_callOf_97 : decode cX11_callOf 97 = .ok (.iload 4, 2) := by decide +kernel
theorem dX11_callOf_99 : decode cX11_callOf 99 = .ok (.istore 4, 2) := by decide +kernel
theorem dX11_callOf_101 : decode cX11_callOf 101 = .ok (.iinc 6 (-1), 3) := by decide +kernel
theorem dX11_callOf_104 : decode cX11_callOf 104 = .ok (.goto (-84), 3) := by decide +kernel
theorem dX11_callOf_107 : decode cX11_callOf 107 = .ok (.iload_n 3, 1) := by decide +kernel
theorem dX11_callOf_108 : decode cX11_callOf 108 = .ok (.ifCond .eq 8, 3) := by decide +kernel
theorem dX11_callOf_111 : decode cX11_callOf 111 = .ok (.iload 5, 2) := by decide +kernel
theorem dX11_callOf_113 : decode cX11_callOf 113 = .ok (.goto 5, 3) := by decide +kernel
theorem dX11_callOf_116 : decode cX11_callOf 116 = .ok (.iload 4, 2) := by decide +kernel
theorem dX11_callOf_118 : decode cX11_callOf 118 = .ok (.ireturn, 1) := by decide +kernel
theorem dX11_placeOn_0 : decode cX11_placeOn 0 = .ok (.iconst 0, 1) := by decide +kernel
theorem dX11_placeOn_1 : decode cX11_placeOn 1 = .ok (.istore_n 3, 1) := by decide +kernel
theorem dX11_placeOn_2 : decode cX11_placeOn 2 = .ok (.aload_n 0, 1) := by decide +kernel
theorem dX11_placeOn_3 : decode cX11_placeOn 3 = .ok (.getfield 92, 3) := by decide +kernel
theorem dX11_placeOn_6 : decode cX11_placeOn 6 = .ok (.bipush 8, 2) := by decide +kernel
theorem dX11_placeOn_8 : decode cX11_placeOn 8 = .ok (.iload_n 2, 1) := by decide +kernel
theorem dX11_placeOn_9 : decode cX11_placeOn 9 = .ok (.imul, 1) := by decide +kernel
theorem dX11_placeOn_10 : decode cX11_placeOn 10 = .ok (.iload_n 3, 1) := by decide +kernel
theorem dX11_placeOn_11 : decode cX11_placeOn 11 = .ok (.iadd, 1) := by decide +kernel
theorem dX11_placeOn_12 : decode cX11_placeOn 12 = .ok (.iaload, 1) := by decide +kernel
theorem dX11_placeOn_13 : decode cX11_placeOn 13 = .ok (.iload_n 1, 1) := by decide +kernel
theorem dX11_placeOn_14 : decode cX11_placeOn 14 = .ok (.if_icmp .eq 9, 3) := by decide +kernel
theorem dX11_placeOn_17 : decode cX11_placeOn 17 = .ok (.iinc 3 1, 3) := by decide +kernel
theorem dX11_placeOn_20 : decode cX11_placeOn 20 = .ok (.goto (-18), 3) := by decide +kernel
theorem dX11_placeOn_23 : decode cX11_placeOn 23 = .ok (.iload_n 3, 1) := by decide +kernel
theorem dX11_placeOn_24 : decode cX11_placeOn 24 = .ok (.ireturn, 1) := by decide +kernel
theorem dX11_isBehind_0 : decode cX11_isBehind 0 = .ok (.aload_n 0, 1) := by decide +kernel
theorem dX11_isBehind_1 : decode cX11_isBehind 1 = .ok (.getfield 47, 3) := by decide +kernel
theorem dX11_isBehind_4 : decode cX11_isBehind 4 = .ok (.iload_n 2, 1) := by decide +kernel
theorem dX11_isBehind_5 : decode cX11_isBehind 5 = .ok (.baload, 1) := by decide +kernel
theorem dX11_isBehind_6 : decode cX11_isBehind 6 = .ok (.ifCond .ne 12, 3) := by decide +kernel
theorem dX11_isBehind_9 : decode cX11_isBehind 9 = .ok (.aload_n 0, 1) := by decide +kernel
theorem dX11_isBehind_10 : decode cX11_isBehind 10 = .ok (.getfield 44, 3) := by decide +kernel
theorem dX11_isBehind_13 : decode cX11_isBehind 13 = .ok (.iload_n 2, 1) := by decide +kernel
theorem dX11_isBehind_14 : decode cX11_isBehind 14 = .ok (.baload, 1) := by decide +kernel
theorem dX11_isBehind_15 : decode cX11_isBehind 15 = .ok (.ifCond .eq 5, 3) := by decide +kernel
theorem dX11_isBehind_18 : decode cX11_isBehind 18 = .ok (.iconst 1, 1) := by decide +kernel
theorem dX11_isBehind_19 : decode cX11_isBehind 19 = .ok (.ireturn, 1) := by decide +kernel
theorem dX11_isBehind_20 : decode cX11_isBehind 20 = .ok (.aload_n 0, 1) := by decide +kernel
theorem dX11_isBehind_21 : decode cX11_isBehind 21 = .ok (.getfield 56, 3) := by decide +kernel
theorem dX11_isBehind_24 : decode cX11_isBehind 24 = .ok (.iload_n 2, 1) := by decide +kernel
theorem dX11_isBehind_25 : decode cX11_isBehind 25 = .ok (.iaload, 1) := by decide +kernel
theorem dX11_isBehind_26 : decode cX11_isBehind 26 = .ok (.iconst (-1), 1) := by decide +kernel
theorem dX11_isBehind_27 : decode cX11_isBehind 27 = .ok (.if_icmp .eq 62, 3) := by decide +kernel
theorem dX11_isBehind_30 : decode cX11_isBehind 30 = .ok (.aload_n 0, 1) := by decide +kernel
theorem dX11_isBehind_31 : decode cX11_isBehind 31 = .ok (.getfield 56, 3) := by decide +kernel
theorem dX11_isBehind_34 : decode cX11_isBehind 34 = .ok (.iload_n 2, 1) := by decide +kernel
theorem dX11_isBehind_35 : decode cX11_isBehind 35 = .ok (.iaload, 1) := by decide +kernel
theorem dX11_isBehind_36 : decode cX11_isBehind 36 = .ok (.aload_n 0, 1) := by decide +kernel
theorem dX11_isBehind_37 : decode cX11_isBehind 37 = .ok (.getfield 56, 3) := by decide +kernel
theorem dX11_isBehind_40 : decode cX11_isBehind 40 = .ok (.iload_n 1, 1) := by decide +kernel
theorem dX11_isBehind_41 : decode cX11_isBehind 41 = .ok (.iaload, 1) := by decide +kernel
theorem dX11_isBehind_42 : decode cX11_isBehind 42 = .ok (.if_icmp .lt 43, 3) := by decide +kernel
theorem dX11_isBehind_45 : decode cX11_isBehind 45 = .ok (.aload_n 0, 1) := by decide +kernel
theorem dX11_isBehind_46 : decode cX11_isBehind 46 = .ok (.getfield 56, 3) := by decide +kernel
theorem dX11_isBehind_49 : decode cX11_isBehind 49 = .ok (.iload_n 2, 1) := by decide +kernel
theorem dX11_isBehind_50 : decode cX11_isBehind 50 = .ok (.iaload, 1) := by decide +kernel
theorem dX11_isBehind_51 : decode cX11_isBehind 51 = .ok (.aload_n 0, 1) := by decide +kernel
theorem dX11_isBehind_52 : decode cX11_isBehind 52 = .ok (.getfield 56, 3) := by decide +kernel
theorem dX11_isBehind_55 : decode cX11_isBehind 55 = .ok (.iload_n 1, 1) := by decide +kernel
theorem dX11_isBehind_56 : decode cX11_isBehind 56 = .ok (.iaload, 1) := by decide +kernel
theorem dX11_isBehind_57 : decode cX11_isBehind 57 = .ok (.if_icmp .ne 32, 3) := by decide +kernel
theorem dX11_isBehind_60 : decode cX11_isBehind 60 = .ok (.aload_n 0, 1) := by decide +kernel
theorem dX11_isBehind_61 : decode cX11_isBehind 61 = .ok (.iload_n 2, 1) := by decide +kernel
theorem dX11_isBehind_62 : decode cX11_isBehind 62 = .ok (.aload_n 0, 1) := by decide +kernel
theorem dX11_isBehind_63 : decode cX11_isBehind 63 = .ok (.getfield 56, 3) := by decide +kernel
theorem dX11_isBehind_66 : decode cX11_isBehind 66 = .ok (.iload_n 1, 1) := by decide +kernel
theorem dX11_isBehind_67 : decode cX11_isBehind 67 = .ok (.iaload, 1) := by decide +kernel
theorem dX11_isBehind_68 : decode cX11_isBehind 68 = .ok (.invokevirtual 181, 3) := by decide +kernel
theorem dX11_isBehind_71 : decode cX11_isBehind 71 = .ok (.aload_n 0, 1) := by decide +kernel
theorem dX11_isBehind_72 : decode cX11_isBehind 72 = .ok (.iload_n 1, 1) := by decide +kernel
theorem dX11_isBehind_73 : decode cX11_isBehind 73 = .ok (.aload_n 0, 1) := by decide +kernel
theorem dX11_isBehind_74 : decode cX11_isBehind 74 = .ok (.getfield 56, 3) := by decide +kernel
theorem dX11_isBehind_77 : decode cX11_isBehind 77 = .ok (.iload_n 1, 1) := by decide +kernel
theorem dX11_isBehind_78 : decode cX11_isBehind 78 = .ok (.iaload, 1) := by decide +kernel
theorem dX11_isBehind_79 : decode cX11_isBehind 79 = .ok (.invokevirtual 181, 3) := by decide +kernel
theorem dX11_isBehind_82 : decode cX11_isBehind 82 = .ok (.if_icmp .ge 7, 3) := by decide +kernel
theorem dX11_isBehind_85 : decode cX11_isBehind 85 = .ok (.iconst 1, 1) := by decide +kernel
theorem dX11_isBehind_86 : decode cX11_isBehind 86 = .ok (.goto 4, 3) := by decide +kernel
theorem dX11_isBehind_89 : decode cX11_isBehind 89 = .ok (.iconst 0, 1) := by decide +kernel
theorem dX11_isBehind_90 : decode cX11_isBehind 90 = .ok (.ireturn, 1) := by decide +kernel
theorem dX11_faultsOf_0 : decode cX11_faultsOf 0 = .ok (.aload_n 0, 1) := by decide +kernel
theorem dX11_faultsOf_1 : decode cX11_faultsOf 1 = .ok (.getfield 56, 3) := by decide +kernel
theorem dX11_faultsOf_4 : decode cX11_faultsOf 4 = .ok (.iload_n 1, 1) := by decide +kernel
theorem dX11_faultsOf_5 : decode cX11_faultsOf 5 = .ok (.iaload, 1) := by decide +kernel
theorem dX11_faultsOf_6 : decode cX11_faultsOf 6 = .ok (.istore_n 2, 1) := by decide +kernel
theorem dX11_faultsOf_7 : decode cX11_faultsOf 7 = .ok (.aload_n 0, 1) := by decide +kernel
theorem dX11_faultsOf_8 : decode cX11_faultsOf 8 = .ok (.iload_n 1, 1) := by decide +kernel
theorem dX11_faultsOf_9 : decode cX11_faultsOf 9 = .ok (.iload_n 2, 1) := by decide +kernel
theorem dX11_faultsOf_10 : decode cX11_faultsOf 10 = .ok (.invokevirtual 181, 3) := by decide +kernel
theorem dX11_faultsOf_13 : decode cX11_faultsOf 13 = .ok (.istore_n 3, 1) := by decide +kernel
theorem dX11_faultsOf_14 : decode cX11_faultsOf 14 = .ok (.aload_n 0, 1) := by decide +kernel
theorem dX11_faultsOf_15 : decode cX11_faultsOf 15 = .ok (.getfield 77, 3) := by decide +kernel
theorem dX11_faultsOf_18 : decode cX11_faultsOf 18 = .ok (.aload_n 0, 1) := by decide +kernel
theorem dX11_faultsOf_19 : decode cX11_faultsOf 19 = .ok (.getfield 19, 3) := by decide +kernel
theorem dX11_faultsOf_22 : decode cX11_faultsOf 22 = .ok (.iload_n 1, 1) := by decide +kernel
theorem dX11_faultsOf_23 : decode cX11_faultsOf 23 = .ok (.iaload, 1) := by decide +kernel
theorem dX11_faultsOf_24 : decode cX11_faultsOf 24 = .ok (.iaload, 1) := by decide +kernel
theorem dX11_faultsOf_25 : decode cX11_faultsOf 25 = .ok (.iload_n 2, 1) := by decide +kernel
theorem dX11_faultsOf_26 : decode cX11_faultsOf 26 = .ok (.invokestatic 158, 3) := by decide +kernel
theorem dX11_faultsOf_29 : decode cX11_faultsOf 29 = .ok (.ifCond .eq 7, 3) := by decide +kernel
theorem dX11_faultsOf_32 : decode cX11_faultsOf 32 = .ok (.iconst 0, 1) := by decide +kernel
theorem dX11_faultsOf_33 : decode cX11_faultsOf 33 = .ok (.goto 4, 3) := by decide +kernel
theorem dX11_faultsOf_36 : decode cX11_faultsOf 36 = .ok (.iconst 1, 1) := by decide +kernel
theorem dX11_faultsOf_37 : decode cX11_faultsOf 37 = .ok (.istore 4, 2) := by decide +kernel
theorem dX11_faultsOf_39 : decode cX11_faultsOf 39 = .ok (.iload 4, 2) := by decide +kernel
theorem dX11_faultsOf_41 : decode cX11_faultsOf 41 = .ok (.aload_n 0, 1) := by decide +kernel
theorem dX11_faultsOf_42 : decode cX11_faultsOf 42 = .ok (.getfield 26, 3) := by decide +kernel
theorem dX11_faultsOf_45 : decode cX11_faultsOf 45 = .ok (.iload_n 1, 1) := by decide +kernel
theorem dX11_faultsOf_46 : decode cX11_faultsOf 46 = .ok (.baload, 1) := by decide +kernel
theorem dX11_faultsOf_47 : decode cX11_faultsOf 47 = .ok (.ifCond .ne 46, 3) := by decide +kernel
theorem dX11_faultsOf_50 : decode cX11_faultsOf 50 = .ok (.aload_n 0, 1) := by decide +kernel
theorem dX11_faultsOf_51 : decode cX11_faultsOf 51 = .ok (.getfield 22, 3) := by decide +kernel
theorem dX11_faultsOf_54 : decode cX11_faultsOf 54 = .ok (.iload_n 1, 1) := by decide +kernel
theorem dX11_faultsOf_55 : decode cX11_faultsOf 55 = .ok (.baload, 1) := by decide +kernel
theorem dX11_faultsOf_56 : decode cX11_faultsOf 56 = .ok (.ifCond .eq 37, 3) := by decide +kernel
theorem dX11_faultsOf_59 : decode cX11_faultsOf 59 = .ok (.aload_n 0, 1) := by decide +kernel
theorem dX11_faultsOf_60 : decode cX11_faultsOf 60 = .ok (.getfield 101, 3) := by decide +kernel
theorem dX11_faultsOf_63 : decode cX11_faultsOf 63 = .ok (.iload_n 3, 1) := by decide +kernel
theorem dX11_faultsOf_64 : decode cX11_faultsOf 64 = .ok (.iaload, 1) := by decide +kernel
theorem dX11_faultsOf_65 : decode cX11_faultsOf 65 = .ok (.aload_n 0, 1) := by decide +kernel
theorem dX11_faultsOf_66 : decode cX11_faultsOf 66 = .ok (.getfield 86, 3) := by decide +kernel
theorem dX11_faultsOf_69 : decode cX11_faultsOf 69 = .ok (.iload_n 2, 1) := by decide +kernel
theorem dX11_faultsOf_70 : decode cX11_faultsOf 70 = .ok (.iaload, 1) := by decide +kernel
theorem dX11_faultsOf_71 : decode cX11_faultsOf 71 = .ok (.if_icmp .lt 18, 3) := by decide +kernel
theorem dX11_faultsOf_74 : decode cX11_faultsOf 74 = .ok (.aload_n 0, 1) := by decide +kernel
theorem dX11_faultsOf_75 : decode cX11_faultsOf 75 = .ok (.getfield 104, 3) := by decide +kernel
theorem dX11_faultsOf_78 : decode cX11_faultsOf 78 = .ok (.iload_n 3, 1) := by decide +kernel
theorem dX11_faultsOf_79 : decode cX11_faultsOf 79 = .ok (.iaload, 1) := by decide +kernel
theorem dX11_faultsOf_80 : decode cX11_faultsOf 80 = .ok (.aload_n 0, 1) := by decide +kernel
theorem dX11_faultsOf_81 : decode cX11_faultsOf 81 = .ok (.getfield 89, 3) := by decide +kernel
theorem dX11_faultsOf_84 : decode cX11_faultsOf 84 = .ok (.iload_n 2, 1) := by decide +kernel
theorem dX11_faultsOf_85 : decode cX11_faultsOf 85 = .ok (.iaload, 1) := by decide +kernel
theorem dX11_faultsOf_86 : decode cX11_faultsOf 86 = .ok (.if_icmp .le 7, 3) := by decide +kernel
theorem dX11_faultsOf_89 : decode cX11_faultsOf 89 = .ok (.iconst 2, 1) := by decide +kernel
theorem dX11_faultsOf_90 : decode cX11_faultsOf 90 = .ok (.goto 4, 3) := by decide +kernel
theorem dX11_faultsOf_93 : decode cX11_faultsOf 93 = .ok (.iconst 0, 1) := by decide +kernel
theorem dX11_faultsOf_94 : decode cX11_faultsOf 94 = .ok (.ior, 1) := by decide +kernel
theorem dX11_faultsOf_95 : decode cX11_faultsOf 95 = .ok (.istore 4, 2) := by decide +kernel
theorem dX11_faultsOf_97 : decode cX11_faultsOf 97 = .ok (.iconst 0, 1) := by decide +kernel
theorem dX11_faultsOf_98 : decode cX11_faultsOf 98 = .ok (.istore 5, 2) := by decide +kernel
theorem dX11_faultsOf_100 : decode cX11_faultsOf 100 = .ok (.iload 5, 2) := by decide +kernel
theorem dX11_faultsOf_102 : decode cX11_faultsOf 102 = .ok (.aload_n 0, 1) := by decide +kernel
theorem dX11_faultsOf_103 : decode cX11_faultsOf 103 = .ok (.getfield 121, 3) := by decide +kernel
theorem dX11_faultsOf_106 : decode cX11_faultsOf 106 = .ok (.if_icmp .ge 100, 3) := by decide +kernel
theorem dX11_faultsOf_109 : decode cX11_faultsOf 109 = .ok (.aload_n 0, 1) := by decide +kernel
theorem dX11_faultsOf_110 : decode cX11_faultsOf 110 = .ok (.getfield 32, 3) := by decide +kernel
theorem dX11_faultsOf_113 : decode cX11_faultsOf 113 = .ok (.iload_n 1, 1) := by decide +kernel
theorem dX11_faultsOf_114 : decode cX11_faultsOf 114 = .ok (.iaload, 1) := by decide +kernel
theorem dX11_faultsOf_115 : decode cX11_faultsOf 115 = .ok (.iload 5, 2) := by decide +kernel
theorem dX11_faultsOf_117 : decode cX11_faultsOf 117 = .ok (.invokestatic 158, 3) := by decide +kernel
theorem dX11_faultsOf_120 : decode cX11_faultsOf 120 = .ok (.istore 6, 2) := by decide +kernel
theorem dX11_faultsOf_122 : decode cX11_faultsOf 122 = .ok (.iload 4, 2) := by decide +kernel
theorem dX11_faultsOf_124 : decode cX11_faultsOf 124 = .ok (.iload 6, 2) := by decide +kernel
theorem dX11_faultsOf_126 : decode cX11_faultsOf 126 = .ok (.ifCond .eq 21, 3) := by decide +kernel
theorem dX11_faultsOf_129 : decode cX11_faultsOf 129 = .ok (.aload_n 0, 1) := by decide +kernel
theorem dX11_faultsOf_130 : decode cX11_faultsOf 130 = .ok (.getfield 71, 3) := by decide +kernel
theorem dX11_faultsOf_133 : decode cX11_faultsOf 133 = .ok (.iload 5, 2) := by decide +kernel
theorem dX11_faultsOf_135 : decode cX11_faultsOf 135 = .ok (.iaload, 1) := by decide +kernel
theorem dX11_faultsOf_136 : decode cX11_faultsOf 136 = .ok (.iload_n 2, 1) := by decide +kernel
theorem dX11_faultsOf_137 : decode cX11_faultsOf 137 = .ok (.invokestatic 158, 3) := by decide +kernel
theorem dX11_faultsOf_140 : decode cX11_faultsOf 140 = .ok (.ifCond .eq 7, 3) := by decide +kernel
theorem dX11_faultsOf_143 : decode cX11_faultsOf 143 = .ok (.iconst 4, 1) := by decide +kernel
theorem dX11_faultsOf_144 : decode cX11_faultsOf 144 = .ok (.goto 4, 3) := by decide +kernel
theorem dX11_faultsOf_147 : decode cX11_faultsOf 147 = .ok (.iconst 0, 1) := by decide +kernel
theorem dX11_faultsOf_148 : decode cX11_faultsOf 148 = .ok (.ior, 1) := by decide +kernel
theorem dX11_faultsOf_149 : decode cX11_faultsOf 149 = .ok (.istore 4, 2) := by decide +kernel
theorem dX11_faultsOf_151 : decode cX11_faultsOf 151 = .ok (.iload 4, 2) := by decide +kernel
theorem dX11_faultsOf_153 : decode cX11_faultsOf 153 = .ok (.iload 6, 2) := by decide +kernel
theorem dX11_faultsOf_155 : decode cX11_faultsOf 155 = .ok (.ifCond .eq 41, 3) := by decide +kernel
theorem dX11_faultsOf_158 : decode cX11_faultsOf 158 = .ok (.aload_n 0, 1) := by decide +kernel
theorem dX11_faultsOf_159 : decode cX11_faultsOf 159 = .ok (.getfield 68, 3) := by decide +kernel
theorem dX11_faultsOf_162 : decode cX11_faultsOf 162 = .ok (.iload 5, 2) := by decide +kernel
theorem dX11_faultsOf_164 : decode cX11_faultsOf 164 = .ok (.baload, 1) := by decide +kernel
theorem dX11_faultsOf_165 : decode cX11_faultsOf 165 = .ok (.ifCond .eq 31, 3) := by decide +kernel
theorem dX11_faultsOf_168 : decode cX11_faultsOf 168 = .ok (.aload_n 0, 1) := by decide +kernel
theorem dX11_faultsOf_169 : decode cX11_faultsOf 169 = .ok (.iload 5, 2) := by decide +kernel
theorem dX11_faultsOf_171 : decode cX11_faultsOf 171 = .ok (.iload_n 2, 1) := by decide +kernel
theorem dX11_faultsOf_172 : decode cX11_faultsOf 172 = .ok (.iconst 1, 1) := by decide +kernel
theorem dX11_faultsOf_173 : decode cX11_faultsOf 173 = .ok (.invokevirtual 185, 3) := by decide +kernel
theorem dX11_faultsOf_176 : decode cX11_faultsOf 176 = .ok (.aload_n 0, 1) := by decide +kernel
theorem dX11_faultsOf_177 : decode cX11_faultsOf 177 = .ok (.iload 5, 2) := by decide +kernel
theorem dX11_faultsOf_179 : decode cX11_faultsOf 179 = .ok (.iload_n 2, 1) := by decide +kernel
theorem dX11_faultsOf_180 : decode cX11_faultsOf 180 = .ok (.iconst 0, 1) := by decide +kernel
theorem dX11_faultsOf_181 : decode cX11_faultsOf 181 = .ok (.invokevirtual 185, 3) := by decide +kernel
theorem dX11_faultsOf_184 : decode cX11_faultsOf 184 = .ok (.isub, 1) := by decide +kernel
theorem dX11_faultsOf_185 : decode cX11_faultsOf 185 = .ok (.sipush 480, 3) := by decide +kernel
theorem dX11_faultsOf_188 : decode cX11_faultsOf 188 = .ok (.if_icmp .le 8, 3) := by decide +kernel
theorem dX11_faultsOf_191 : decode cX11_faultsOf 191 = .ok (.bipush 8, 2) := by decide +kernel
theorem dX11_faultsOf_193 : decode cX11_faultsOf 193 = .ok (.goto 4, 3) := by decide +kernel
theorem dX11_faultsOf_196 : decode cX11_faultsOf 196 = .ok (.iconst 0, 1) := by decide +kernel
theorem dX11_faultsOf_197 : decode cX11_faultsOf 197 = .ok (.ior, 1) := by decide +kernel
theorem dX11_faultsOf_198 : decode cX11_faultsOf 198 = .ok (.istore 4, 2) := by decide +kernel
theorem dX11_faultsOf_200 : decode cX11_faultsOf 200 = .ok (.iinc 5 1, 3) := by decide +kernel
theorem dX11_faultsOf_203 : decode cX11_faultsOf 203 = .ok (.goto (-103), 3) := by decide +kernel
theorem dX11_faultsOf_206 : decode cX11_faultsOf 206 = .ok (.iconst 0, 1) := by decide +kernel
theorem dX11_faultsOf_207 : decode cX11_faultsOf 207 = .ok (.istore 5, 2) := by decide +kernel
theorem dX11_faultsOf_209 : decode cX11_faultsOf 209 = .ok (.iload 5, 2) := by decide +kernel
theorem dX11_faultsOf_211 : decode cX11_faultsOf 211 = .ok (.aload_n 0, 1) := by decide +kernel
theorem dX11_faultsOf_212 : decode cX11_faultsOf 212 = .ok (.getfield 114, 3) := by decide +kernel
theorem dX11_faultsOf_215 : decode cX11_faultsOf 215 = .ok (.if_icmp .ge 44, 3) := by decide +kernel
theorem dX11_faultsOf_218 : decode cX11_faultsOf 218 = .ok (.iload 4, 2) := by decide +kernel
theorem dX11_faultsOf_220 : decode cX11_faultsOf 220 = .ok (.aload_n 0, 1) := by decide +kernel
theorem dX11_faultsOf_221 : decode cX11_faultsOf 221 = .ok (.getfield 41, 3) := by decide +kernel
theorem dX11_faultsOf_224 : decode cX11_faultsOf 224 = .ok (.iload_n 1, 1) := by decide +kernel
theorem dX11_faultsOf_225 : decode cX11_faultsOf 225 = .ok (.iaload, 1) := by decide +kernel
theorem dX11_faultsOf_226 : decode cX11_faultsOf 226 = .ok (.iload 5, 2) := by decide +kernel
theorem dX11_faultsOf_228 : decode cX11_faultsOf 228 = .ok (.invokestatic 158, 3) := by decide +kernel
theorem dX11_faultsOf_231 : decode cX11_faultsOf 231 = .ok (.ifCond .eq 18, 3) := by decide +kernel
theorem dX11_faultsOf_234 : decode cX11_faultsOf 234 = .ok (.aload_n 0, 1) := by decide +kernel
theorem dX11_faultsOf_235 : decode cX11_faultsOf 235 = .ok (.iload_n 1, 1) := by decide +kernel
theorem dX11_faultsOf_236 : decode cX11_faultsOf 236 = .ok (.iload 5, 2) := by decide +kernel
theorem dX11_faultsOf_238 : decode cX11_faultsOf 238 = .ok (.invokevirtual 189, 3) := by decide +kernel
theorem dX11_faultsOf_241 : decode cX11_faultsOf 241 = .ok (.ifCond .ne 8, 3) := by decide +kernel
theorem dX11_faultsOf_244 : decode cX11_faultsOf 244 = .ok (.bipush 16, 2) := by decide +kernel
theorem dX11_faultsOf_246 : decode cX11_faultsOf 246 = .ok (.goto 4, 3) := by decide +kernel
theorem dX11_faultsOf_249 : decode cX11_faultsOf 249 = .ok (.iconst 0, 1) := by decide +kernel
theorem dX11_faultsOf_250 : decode cX11_faultsOf 250 = .ok (.ior, 1) := by decide +kernel
theorem dX11_faultsOf_251 : decode cX11_faultsOf 251 = .ok (.istore 4, 2) := by decide +kernel
theorem dX11_faultsOf_253 : decode cX11_faultsOf 253 = .ok (.iinc 5 1, 3) := by decide +kernel
theorem dX11_faultsOf_256 : decode cX11_faultsOf 256 = .ok (.goto (-47), 3) := by decide +kernel
theorem dX11_faultsOf_259 : decode cX11_faultsOf 259 = .ok (.iload 4, 2) := by decide +kernel
theorem dX11_faultsOf_261 : decode cX11_faultsOf 261 = .ok (.aload_n 0, 1) := by decide +kernel
theorem dX11_faultsOf_262 : decode cX11_faultsOf 262 = .ok (.getfield 104, 3) := by decide +kernel
theorem dX11_faultsOf_265 : decode cX11_faultsOf 265 = .ok (.aload_n 0, 1) := by decide +kernel
theorem dX11_faultsOf_266 : decode cX11_faultsOf 266 = .ok (.getfield 95, 3) := by decide +kernel
theorem dX11_faultsOf_269 : decode cX11_faultsOf 269 = .ok (.iload_n 2, 1) := by decide +kernel
theorem dX11_faultsOf_270 : decode cX11_faultsOf 270 = .ok (.iaload, 1) := by decide +kernel
theorem dX11_faultsOf_271 : decode cX11_faultsOf 271 = .ok (.iconst 1, 1) := by decide +kernel
theorem dX11_faultsOf_272 : decode cX11_faultsOf 272 = .ok (.isub, 1) := by decide +kernel
theorem dX11_faultsOf_273 : decode cX11_faultsOf 273 = .ok (.iaload, 1) := by decide +kernel
theorem dX11_faultsOf_274 : decode cX11_faultsOf 274 = .ok (.aload_n 0, 1) := by decide +kernel
theorem dX11_faultsOf_275 : decode cX11_faultsOf 275 = .ok (.getfield 83, 3) := by decide +kernel
theorem dX11_faultsOf_278 : decode cX11_faultsOf 278 = .ok (.iload_n 2, 1) := by decide +kernel
theorem dX11_faultsOf_279 : decode cX11_faultsOf 279 = .ok (.iaload, 1) := by decide +kernel
theorem dX11_faultsOf_280 : decode cX11_faultsOf 280 = .ok (.sipush 720, 3) := by decide +kernel
theorem dX11_faultsOf_283 : decode cX11_faultsOf 283 = .ok (.iadd, 1) := by decide +kernel
theorem dX11_faultsOf_284 : decode cX11_faultsOf 284 = .ok (.if_icmp .le 8, 3) := by decide +kernel
theorem dX11_faultsOf_287 : decode cX11_faultsOf 287 = .ok (.bipush 32, 2) := by decide +kernel
theorem dX11_faultsOf_289 : decode cX11_faultsOf 289 = .ok (.goto 4, 3) := by decide +kernel
theorem dX11_faultsOf_292 : decode cX11_faultsOf 292 = .ok (.iconst 0, 1) := by decide +kernel
theorem dX11_faultsOf_293 : decode cX11_faultsOf 293 = .ok (.ior, 1) := by decide +kernel
theorem dX11_faultsOf_294 : decode cX11_faultsOf 294 = .ok (.ireturn, 1) := by decide +kernel
theorem dX11_on_0 : decode cX11_on 0 = .ok (.aload_n 0, 1) := by decide +kernel
theorem dX11_on_1 : decode cX11_on 1 = .ok (.getfield 95, 3) := by decide +kernel
theorem dX11_on_4 : decode cX11_on 4 = .ok (.iload_n 2, 1) := by decide +kernel
theorem dX11_on_5 : decode cX11_on 5 = .ok (.iaload, 1) := by decide +kernel
theorem dX11_on_6 : decode cX11_on 6 = .ok (.istore 4, 2) := by decide +kernel
theorem dX11_on_8 : decode cX11_on 8 = .ok (.iload 4, 2) := by decide +kernel
theorem dX11_on_10 : decode cX11_on 10 = .ok (.iload_n 3, 1) := by decide +kernel
theorem dX11_on_11 : decode cX11_on 11 = .ok (.if_icmp .le 35, 3) := by decide +kernel
theorem dX11_on_14 : decode cX11_on 14 = .ok (.aload_n 0, 1) := by decide +kernel
theorem dX11_on_15 : decode cX11_on 15 = .ok (.getfield 92, 3) := by decide +kernel
theorem dX11_on_18 : decode cX11_on 18 = .ok (.bipush 8, 2) := by decide +kernel
theorem dX11_on_20 : decode cX11_on 20 = .ok (.iload_n 2, 1) := by decide +kernel
theorem dX11_on_21 : decode cX11_on 21 = .ok (.imul, 1) := by decide +kernel
theorem dX11_on_22 : decode cX11_on 22 = .ok (.iload 4, 2) := by decide +kernel
theorem dX11_on_24 : decode cX11_on 24 = .ok (.iadd, 1) := by decide +kernel
theorem dX11_on_25 : decode cX11_on 25 = .ok (.aload_n 0, 1) := by decide +kernel
theorem dX11_on_26 : decode cX11_on 26 = .ok (.getfield 92, 3) := by decide +kernel
theorem dX11_on_29 : decode cX11_on 29 = .ok (.bipush 8, 2) := by decide +kernel
theorem dX11_on_31 : decode cX11_on 31 = .ok (.iload_n 2, 1) := by decide +kernel
theorem dX11_on_32 : decode cX11_on 32 = .ok (.imul, 1) := by decide +kernel
theorem dX11_on_33 : decode cX11_on 33 = .ok (.iload 4, 2) := by decide +kernel
theorem dX11_on_35 : decode cX11_on 35 = .ok (.iadd, 1) := by decide +kernel
theorem dX11_on_36 : decode cX11_on 36 = .ok (.iconst 1, 1) := by decide +kernel
theorem dX11_on_37 : decode cX11_on 37 = .ok (.isub, 1) := by decide +kernel
theorem dX11_on_38 : decode cX11_on 38 = .ok (.iaload, 1) := by decide +kernel
theorem dX11_on_39 : decode cX11_on 39 = .ok (.iastore, 1) := by decide +kernel
theorem dX11_on_40 : decode cX11_on 40 = .ok (.iinc 4 (-1), 3) := by decide +kernel
theorem dX11_on_43 : decode cX11_on 43 = .ok (.goto (-35), 3) := by decide +kernel
theorem dX11_on_46 : decode cX11_on 46 = .ok (.aload_n 0, 1) := by decide +kernel
theorem dX11_on_47 : decode cX11_on 47 = .ok (.getfield 92, 3) := by decide +kernel
theorem dX11_on_50 : decode cX11_on 50 = .ok (.bipush 8, 2) := by decide +kernel
theorem dX11_on_52 : decode cX11_on 52 = .ok (.iload_n 2, 1) := by decide +kernel
theorem dX11_on_53 : decode cX11_on 53 = .ok (.imul, 1) := by decide +kernel
theorem dX11_on_54 : decode cX11_on 54 = .ok (.iload_n 3, 1) := by decide +kernel
theorem dX11_on_55 : decode cX11_on 55 = .ok (.iadd, 1) := by decide +kernel
theorem dX11_on_56 : decode cX11_on 56 = .ok (.iload_n 1, 1) := by decide +kernel
theorem dX11_on_57 : decode cX11_on 57 = .ok (.iastore, 1) := by decide +kernel
theorem dX11_on_58 : decode cX11_on 58 = .ok (.aload_n 0, 1) := by decide +kernel
theorem dX11_on_59 : decode cX11_on 59 = .ok (.getfield 95, 3) := by decide +kernel
theorem dX11_on_62 : decode cX11_on 62 = .ok (.iload_n 2, 1) := by decide +kernel
theorem dX11_on_63 : decode cX11_on 63 = .ok (.dup2, 1) := by decide +kernel
theorem dX11_on_64 : decode cX11_on 64 = .ok (.iaload, 1) := by decide +kernel
theorem dX11_on_65 : decode cX11_on 65 = .ok (.iconst 1, 1) := by decide +kernel
theorem dX11_on_66 : decode cX11_on 66 = .ok (.iadd, 1) := by decide +kernel
theorem dX11_on_67 : decode cX11_on 67 = .ok (.iastore, 1) := by decide +kernel
theorem dX11_on_68 : decode cX11_on 68 = .ok (.aload_n 0, 1) := by decide +kernel
theorem dX11_on_69 : decode cX11_on 69 = .ok (.getfield 56, 3) := by decide +kernel
theorem dX11_on_72 : decode cX11_on 72 = .ok (.iload_n 1, 1) := by decide +kernel
theorem dX11_on_73 : decode cX11_on 73 = .ok (.iload_n 2, 1) := by decide +kernel
theorem dX11_on_74 : decode cX11_on 74 = .ok (.iastore, 1) := by decide +kernel
theorem dX11_on_75 : decode cX11_on 75 = .ok (.return_, 1) := by decide +kernel
theorem dX11_off_0 : decode cX11_off 0 = .ok (.aload_n 0, 1) := by decide +kernel
theorem dX11_off_1 : decode cX11_off 1 = .ok (.getfield 56, 3) := by decide +kernel
theorem dX11_off_4 : decode cX11_off 4 = .ok (.iload_n 1, 1) := by decide +kernel
theorem dX11_off_5 : decode cX11_off 5 = .ok (.iaload, 1) := by decide +kernel
theorem dX11_off_6 : decode cX11_off 6 = .ok (.istore_n 2, 1) := by decide +kernel
theorem dX11_off_7 : decode cX11_off 7 = .ok (.iload_n 2, 1) := by decide +kernel
theorem dX11_off_8 : decode cX11_off 8 = .ok (.iconst (-1), 1) := by decide +kernel
theorem dX11_off_9 : decode cX11_off 9 = .ok (.if_icmp .ne 4, 3) := by decide +kernel
theorem dX11_off_12 : decode cX11_off 12 = .ok (.return_, 1) := by decide +kernel
theorem dX11_off_13 : decode cX11_off 13 = .ok (.aload_n 0, 1) := by decide +kernel
theorem dX11_off_14 : decode cX11_off 14 = .ok (.iload_n 1, 1) := by decide +kernel
theorem dX11_off_15 : decode cX11_off 15 = .ok (.iload_n 2, 1) := by decide +kernel
theorem dX11_off_16 : decode cX11_off 16 = .ok (.invokevirtual 181, 3) := by decide +kernel
theorem dX11_off_19 : decode cX11_off 19 = .ok (.istore_n 3, 1) := by decide +kernel
theorem dX11_off_20 : decode cX11_off 20 = .ok (.iload_n 3, 1) := by decide +kernel
theorem dX11_off_21 : decode cX11_off 21 = .ok (.aload_n 0, 1) := by decide +kernel
theorem dX11_off_22 : decode cX11_off 22 = .ok (.getfield 95, 3) := by decide +kernel
theorem dX11_off_25 : decode cX11_off 25 = .ok (.iload_n 2, 1) := by decide +kernel
theorem dX11_off_26 : decode cX11_off 26 = .ok (.iaload, 1) := by decide +kernel
theorem dX11_off_27 : decode cX11_off 27 = .ok (.iconst 1, 1) := by decide +kernel
theorem dX11_off_28 : decode cX11_off 28 = .ok (.isub, 1) := by decide +kernel
theorem dX11_off_29 : decode cX11_off 29 = .ok (.if_icmp .ge 33, 3) := by decide +kernel
theorem dX11_off_32 : decode cX11_off 32 = .ok (.aload_n 0, 1) := by decide +kernel
theorem dX11_off_33 : decode cX11_off 33 = .ok (.getfield 92, 3) := by decide +kernel
theorem dX11_off_36 : decode cX11_off 36 = .ok (.bipush 8, 2) := by decide +kernel
theorem dX11_off_38 : decode cX11_off 38 = .ok (.iload_n 2, 1) := by decide +kernel
theorem dX11_off_39 : decode cX11_off 39 = .ok (.imul, 1) := by decide +kernel
theorem dX11_off_40 : decode cX11_off 40 = .ok (.iload_n 3, 1) := by decide +kernel
theorem dX11_off_41 : decode cX11_off 41 = .ok (.iadd, 1) := by decide +kernel
theorem dX11_off_42 : decode cX11_off 42 = .ok (.aload_n 0, 1) := by decide +kernel
theorem dX11_off_43 : decode cX11_off 43 = .ok (.getfield 92, 3) := by decide +kernel
theorem dX11_off_46 : decode cX11_off 46 = .ok (.bipush 8, 2) := by decide +kernel
theorem dX11_off_48 : decode cX11_off 48 = .ok (.iload_n 2, 1) := by decide +kernel
theorem dX11_off_49 : decode cX11_off 49 = .ok (.imul, 1) := by decide +kernel
theorem dX11_off_50 : decode cX11_off 50 = .ok (.iload_n 3, 1) := by decide +kernel
theorem dX11_off_51 : decode cX11_off 51 = .ok (.iadd, 1) := by decide +kernel
theorem dX11_off_52 : decode cX11_off 52 = .ok (.iconst 1, 1) := by decide +kernel
theorem dX11_off_53 : decode cX11_off 53 = .ok (.iadd, 1) := by decide +kernel
theorem dX11_off_54 : decode cX11_off 54 = .ok (.iaload, 1) := by decide +kernel
theorem dX11_off_55 : decode cX11_off 55 = .ok (.iastore, 1) := by decide +kernel
theorem dX11_off_56 : decode cX11_off 56 = .ok (.iinc 3 1, 3) := by decide +kernel
theorem dX11_off_59 : decode cX11_off 59 = .ok (.goto (-39), 3) := by decide +kernel
theorem dX11_off_62 : decode cX11_off 62 = .ok (.aload_n 0, 1) := by decide +kernel
theorem dX11_off_63 : decode cX11_off 63 = .ok (.getfield 95, 3) := by decide +kernel
theorem dX11_off_66 : decode cX11_off 66 = .ok (.iload_n 2, 1) := by decide +kernel
theorem dX11_off_67 : decode cX11_off 67 = .ok (.dup2, 1) := by decide +kernel
theorem dX11_off_68 : decode cX11_off 68 = .ok (.iaload, 1) := by decide +kernel
theorem dX11_off_69 : decode cX11_off 69 = .ok (.iconst 1, 1) := by decide +kernel
theorem dX11_off_70 : decode cX11_off 70 = .ok (.isub, 1) := by decide +kernel
theorem dX11_off_71 : decode cX11_off 71 = .ok (.iastore, 1) := by decide +kernel
theorem dX11_off_72 : decode cX11_off 72 = .ok (.aload_n 0, 1) := by decide +kernel
theorem dX11_off_73 : decode cX11_off 73 = .ok (.getfield 56, 3) := by decide +kernel
theorem dX11_off_76 : decode cX11_off 76 = .ok (.iload_n 1, 1) := by decide +kernel
theorem dX11_off_77 : decode cX11_off 77 = .ok (.iconst (-1), 1) := by decide +kernel
theorem dX11_off_78 : decode cX11_off 78 = .ok (.iastore, 1) := by decide +kernel
theorem dX11_off_79 : decode cX11_off 79 = .ok (.return_, 1) := by decide +kernel
theorem dX11_put_0 : decode cX11_put 0 = .ok (.aload_n 0, 1) := by decide +kernel
theorem dX11_put_1 : decode cX11_put 1 = .ok (.iload_n 1, 1) := by decide +kernel
theorem dX11_put_2 : decode cX11_put 2 = .ok (.invokevirtual 131, 3) := by decide +kernel
theorem dX11_put_5 : decode cX11_put 5 = .ok (.ifCond .eq 14, 3) := by decide +kernel
theorem dX11_put_8 : decode cX11_put 8 = .ok (.iload_n 2, 1) := by decide +kernel
theorem dX11_put_9 : decode cX11_put 9 = .ok (.invokestatic 168, 3) := by decide +kernel
theorem dX11_put_12 : decode cX11_put 12 = .ok (.ifCond .eq 7, 3) := by decide +kernel
theorem dX11_put_15 : decode cX11_put 15 = .ok (.iconst 1, 1) := by decide +kernel
theorem dX11_put_16 : decode cX11_put 16 = .ok (.goto 4, 3) := by decide +kernel
theorem dX11_put_19 : decode cX11_put 19 = .ok (.iconst 0, 1) := by decide +kernel
theorem dX11_put_20 : decode cX11_put 20 = .ok (.istore 4, 2) := by decide +kernel
theorem dX11_put_22 : decode cX11_put 22 = .ok (.iload 4, 2) := by decide +kernel
theorem dX11_put_24 : decode cX11_put 24 = .ok (.ifCond .eq 21, 3) := by decide +kernel
theorem dX11_put_27 : decode cX11_put 27 = .ok (.iload_n 3, 1) := by decide +kernel
theorem dX11_put_28 : decode cX11_put 28 = .ok (.iconst 0, 1) := by decide +kernel
theorem dX11_put_29 : decode cX11_put 29 = .ok (.aload_n 0, 1) := by decide +kernel
theorem dX11_put_30 : decode cX11_put 30 = .ok (.getfield 95, 3) := by decide +kernel
theorem dX11_put_33 : decode cX11_put 33 = .ok (.iload_n 2, 1) := by decide +kernel
theorem dX11_put_34 : decode cX11_put 34 = .ok (.iaload, 1) := by decide +kernel
theorem dX11_put_35 : decode cX11_put 35 = .ok (.invokestatic 117, 3) := by decide +kernel
theorem dX11_put_38 : decode cX11_put 38 = .ok (.ifCond .eq 7, 3) := by decide +kernel
theorem dX11_put_41 : decode cX11_put 41 = .ok (.iconst 1, 1) := by decide +kernel
theorem dX11_put_42 : decode cX11_put 42 = .ok (.goto 4, 3) := by decide +kernel
theorem dX11_put_45 : decode cX11_put 45 = .ok (.iconst 0, 1) := by decide +kernel
theorem dX11_put_46 : decode cX11_put 46 = .ok (.istore 4, 2) := by decide +kernel
theorem dX11_put_48 : decode cX11_put 48 = .ok (.iload 4, 2) := by decide +kernel
theorem dX11_put_50 : decode cX11_put 50 = .ok (.ifCond .eq 54, 3) := by decide +kernel
theorem dX11_put_53 : decode cX11_put 53 = .ok (.aload_n 0, 1) := by decide +kernel
theorem dX11_put_54 : decode cX11_put 54 = .ok (.getfield 56, 3) := by decide +kernel
theorem dX11_put_57 : decode cX11_put 57 = .ok (.iload_n 1, 1) := by decide +kernel
theorem dX11_put_58 : decode cX11_put 58 = .ok (.iaload, 1) := by decide +kernel
theorem dX11_put_59 : decode cX11_put 59 = .ok (.iconst (-1), 1) := by decide +kernel
theorem dX11_put_60 : decode cX11_put 60 = .ok (.if_icmp .ne 44, 3) := by decide +kernel
theorem dX11_put_63 : decode cX11_put 63 = .ok (.aload_n 0, 1) := by decide +kernel
theorem dX11_put_64 : decode cX11_put 64 = .ok (.getfield 47, 3) := by decide +kernel
theorem dX11_put_67 : decode cX11_put 67 = .ok (.iload_n 1, 1) := by decide +kernel
theorem dX11_put_68 : decode cX11_put 68 = .ok (.baload, 1) := by decide +kernel
theorem dX11_put_69 : decode cX11_put 69 = .ok (.ifCond .ne 35, 3) := by decide +kernel
theorem dX11_put_72 : decode cX11_put 72 = .ok (.aload_n 0, 1) := by decide +kernel
theorem dX11_put_73 : decode cX11_put 73 = .ok (.getfield 44, 3) := by decide +kernel
theorem dX11_put_76 : decode cX11_put 76 = .ok (.iload_n 1, 1) := by decide +kernel
theorem dX11_put_77 : decode cX11_put 77 = .ok (.baload, 1) := by decide +kernel
theorem dX11_put_78 : decode cX11_put 78 = .ok (.ifCond .ne 26, 3) := by decide +kernel
theorem dX11_put_81 : decode cX11_put 81 = .ok (.iload_n 2, 1) := by decide +kernel
theorem dX11_put_82 : decode cX11_put 82 = .ok (.aload_n 0, 1) := by decide +kernel
theorem dX11_put_83 : decode cX11_put 83 = .ok (.getfield 192, 3) := by decide +kernel
theorem dX11_put_86 : decode cX11_put 86 = .ok (.if_icmp .lt 18, 3) := by decide +kernel
theorem dX11_put_89 : decode cX11_put 89 = .ok (.aload_n 0, 1) := by decide +kernel
theorem dX11_put_90 : decode cX11_put 90 = .ok (.getfield 95, 3) := by decide +kernel
theorem dX11_put_93 : decode cX11_put 93 = .ok (.iload_n 2, 1) := by decide +kernel
theorem dX11_put_94 : decode cX11_put 94 = .ok (.iaload, 1) := by decide +kernel
theorem dX11_put_95 : decode cX11_put 95 = .ok (.bipush 8, 2) := by decide +kernel
theorem dX11_put_97 : decode cX11_put 97 = .ok (.if_icmp .ge 7, 3) := by decide +kernel
theorem dX11_put_100 : decode cX11_put 100 = .ok (.iconst 1, 1) := by decide +kernel
theorem dX11_put_101 : decode cX11_put 101 = .ok (.goto 4, 3) := by decide +kernel
theorem dX11_put_104 : decode cX11_put 104 = .ok (.iconst 0, 1) := by decide +kernel
theorem dX11_put_105 : decode cX11_put 105 = .ok (.istore 5, 2) := by decide +kernel
theorem dX11_put_107 : decode cX11_put 107 = .ok (.aload_n 0, 1) := by decide +kernel
theorem dX11_put_108 : decode cX11_put 108 = .ok (.iload 4, 2) := by decide +kernel
theorem dX11_put_110 : decode cX11_put 110 = .ok (.ifCond .ne 7, 3) := by decide +kernel
theorem dX11_put_113 : decode cX11_put 113 = .ok (.iconst 1, 1) := by decide +kernel
theorem dX11_put_114 : decode cX11_put 114 = .ok (.goto 13, 3) := by decide +kernel
theorem dX11_put_117 : decode cX11_put 117 = .ok (.iload 5, 2) := by decide +kernel
theorem dX11_put_119 : decode cX11_put 119 = .ok (.ifCond .eq 7, 3) := by decide +kernel
theorem dX11_put_122 : decode cX11_put 122 = .ok (.iconst 0, 1) := by decide +kernel
theorem dX11_put_123 : decode cX11_put 123 = .ok (.goto 4, 3) := by decide +kernel
theorem dX11_put_126 : decode cX11_put 126 = .ok (.iconst 2, 1) := by decide +kernel
theorem dX11_put_127 : decode cX11_put 127 = .ok (.invokevirtual 138, 3) := by decide +kernel
theorem dX11_put_130 : decode cX11_put 130 = .ok (.ifCond .ne 5, 3) := by decide +kernel
theorem dX11_put_133 : decode cX11_put 133 = .ok (.iconst 0, 1) := by decide +kernel
theorem dX11_put_134 : decode cX11_put 134 = .ok (.ireturn, 1) := by decide +kernel
theorem dX11_put_135 : decode cX11_put 135 = .ok (.aload_n 0, 1) := by decide +kernel
theorem dX11_put_136 : decode cX11_put 136 = .ok (.iload_n 1, 1) := by decide +kernel
theorem dX11_put_137 : decode cX11_put 137 = .ok (.iload_n 2, 1) := by decide +kernel
theorem dX11_put_138 : decode cX11_put 138 = .ok (.iload_n 3, 1) := by decide +kernel
theorem dX11_put_139 : decode cX11_put 139 = .ok (.invokevirtual 195, 3) := by decide +kernel
theorem dX11_put_142 : decode cX11_put 142 = .ok (.aload_n 0, 1) := by decide +kernel
theorem dX11_put_143 : decode cX11_put 143 = .ok (.iload_n 2, 1) := by decide +kernel
theorem dX11_put_144 : decode cX11_put 144 = .ok (.invokevirtual 199, 3) := by decide +kernel
theorem dX11_put_147 : decode cX11_put 147 = .ok (.aload_n 0, 1) := by decide +kernel
theorem dX11_put_148 : decode cX11_put 148 = .ok (.iload_n 1, 1) := by decide +kernel
theorem dX11_put_149 : decode cX11_put 149 = .ok (.invokevirtual 202, 3) := by decide +kernel
theorem dX11_put_152 : decode cX11_put 152 = .ok (.ireturn, 1) := by decide +kernel
theorem dX11_take_0 : decode cX11_take 0 = .ok (.aload_n 0, 1) := by decide +kernel
theorem dX11_take_1 : decode cX11_take 1 = .ok (.iload_n 1, 1) := by decide +kernel
theorem dX11_take_2 : decode cX11_take 2 = .ok (.invokevirtual 131, 3) := by decide +kernel
theorem dX11_take_5 : decode cX11_take 5 = .ok (.istore_n 2, 1) := by decide +kernel
theorem dX11_take_6 : decode cX11_take 6 = .ok (.aload_n 0, 1) := by decide +kernel
theorem dX11_take_7 : decode cX11_take 7 = .ok (.iload_n 2, 1) := by decide +kernel
theorem dX11_take_8 : decode cX11_take 8 = .ok (.ifCond .ne 7, 3) := by decide +kernel
theorem dX11_take_11 : decode cX11_take 11 = .ok (.iconst 1, 1) := by decide +kernel
theorem dX11_take_12 : decode cX11_take 12 = .ok (.goto 27, 3) := by decide +kernel
theorem dX11_take_15 : decode cX11_take 15 = .ok (.aload_n 0, 1) := by decide +kernel
theorem dX11_take_16 : decode cX11_take 16 = .ok (.getfield 56, 3) := by decide +kernel
theorem dX11_take_19 : decode cX11_take 19 = .ok (.iload_n 1, 1) := by decide +kernel
theorem dX11_take_20 : decode cX11_take 20 = .ok (.iaload, 1) := by decide +kernel
theorem dX11_take_21 : decode cX11_take 21 = .ok (.iconst (-1), 1) := by decide +kernel
theorem dX11_take_22 : decode cX11_take 22 = .ok (.if_icmp .eq 12, 3) := by decide +kernel
theorem dX11_take_25 : decode cX11_take 25 = .ok (.aload_n 0, 1) := by decide +kernel
theorem dX11_take_26 : decode cX11_take 26 = .ok (.getfield 47, 3) := by decide +kernel
theorem dX11_take_29 : decode cX11_take 29 = .ok (.iload_n 1, 1) := by decide +kernel
theorem dX11_take_30 : decode cX11_take 30 = .ok (.baload, 1) := by decide +kernel
theorem dX11_take_31 : decode cX11_take 31 = .ok (.ifCond .eq 7, 3) := by decide +kernel
theorem dX11_take_34 : decode cX11_take 34 = .ok (.iconst 2, 1) := by decide +kernel
theorem dX11_take_35 : decode cX11_take 35 = .ok (.goto 4, 3) := by decide +kernel
theorem dX11_take_38 : decode cX11_take 38 = .ok (.iconst 0, 1) := by decide +kernel
theorem dX11_take_39 : decode cX11_take 39 = .ok (.invokevirtual 138, 3) := by decide +kernel
theorem dX11_take_42 : decode cX11_take 42 = .ok (.ifCond .ne 5, 3) := by decide +kernel
theorem dX11_take_45 : decode cX11_take 45 = .ok (.iconst 0, 1) := by decide +kernel
theorem dX11_take_46 : decode cX11_take 46 = .ok (.ireturn, 1) := by decide +kernel
theorem dX11_take_47 : decode cX11_take 47 = .ok (.aload_n 0, 1) := by decide +kernel
theorem dX11_take_48 : decode cX11_take 48 = .ok (.getfield 56, 3) := by decide +kernel
theorem dX11_take_51 : decode cX11_take 51 = .ok (.iload_n 1, 1) := by decide +kernel
theorem dX11_take_52 : decode cX11_take 52 = .ok (.iaload, 1) := by decide +kernel
theorem dX11_take_53 : decode cX11_take 53 = .ok (.istore_n 3, 1) := by decide +kernel
theorem dX11_take_54 : decode cX11_take 54 = .ok (.aload_n 0, 1) := by decide +kernel
theorem dX11_take_55 : decode cX11_take 55 = .ok (.iload_n 1, 1) := by decide +kernel
theorem dX11_take_56 : decode cX11_take 56 = .ok (.invokevirtual 148, 3) := by decide +kernel
theorem dX11_take_59 : decode cX11_take 59 = .ok (.iload_n 3, 1) := by decide +kernel
theorem dX11_take_60 : decode cX11_take 60 = .ok (.ireturn, 1) := by decide +kernel
theorem dX11_faultless_0 : decode cX11_faultless 0 = .ok (.iconst 0, 1) := by decide +kernel
theorem dX11_faultless_1 : decode cX11_faultless 1 = .ok (.istore_n 2, 1) := by decide +kernel
theorem dX11_faultless_2 : decode cX11_faultless 2 = .ok (.aload_n 0, 1) := by decide +kernel
theorem dX11_faultless_3 : decode cX11_faultless 3 = .ok (.iload_n 1, 1) := by decide +kernel
theorem dX11_faultless_4 : decode cX11_faultless 4 = .ok (.invokevirtual 199, 3) := by decide +kernel
theorem dX11_faultless_7 : decode cX11_faultless 7 = .ok (.iconst 0, 1) := by decide +kernel
theorem dX11_faultless_8 : decode cX11_faultless 8 = .ok (.istore_n 3, 1) := by decide +kernel
theorem dX11_faultless_9 : decode cX11_faultless 9 = .ok (.iload_n 3, 1) := by decide +kernel
theorem dX11_faultless_10 : decode cX11_faultless 10 = .ok (.aload_n 0, 1) := by decide +kernel
theorem dX11_faultless_11 : decode cX11_faultless 11 = .ok (.getfield 95, 3) := by decide +kernel
theorem dX11_faultless_14 : decode cX11_faultless 14 = .ok (.iload_n 1, 1) := by decide +kernel
theorem dX11_faultless_15 : decode cX11_faultless 15 = .ok (.iaload, 1) := by decide +kernel
theorem dX11_faultless_16 : decode cX11_faultless 16 = .ok (.if_icmp .ge 42, 3) := by decide +kernel
theorem dX11_faultless_19 : decode cX11_faultless 19 = .ok (.aload_n 0, 1) := by decide +kernel
theorem dX11_faultless_20 : decode cX11_faultless 20 = .ok (.getfield 92, 3) := by decide +kernel
theorem dX11_faultless_23 : decode cX11_faultless 23 = .ok (.bipush 8, 2) := by decide +kernel
theorem dX11_faultless_25 : decode cX11_faultless 25 = .ok (.iload_n 1, 1) := by decide +kernel
theorem dX11_faultless_26 : decode cX11_faultless 26 = .ok (.imul, 1) := by decide +kernel
theorem dX11_faultless_27 : decode cX11_faultless 27 = .ok (.iload_n 3, 1) := by decide +kernel
theorem dX11_faultless_28 : decode cX11_faultless 28 = .ok (.iadd, 1) := by decide +kernel
theorem dX11_faultless_29 : decode cX11_faultless 29 = .ok (.iaload, 1) := by decide +kernel
theorem dX11_faultless_30 : decode cX11_faultless 30 = .ok (.istore 4, 2) := by decide +kernel
theorem dX11_faultless_32 : decode cX11_faultless 32 = .ok (.iload_n 2, 1) := by decide +kernel
theorem dX11_faultless_33 : decode cX11_faultless 33 = .ok (.aload_n 0, 1) := by decide +kernel
theorem dX11_faultless_34 : decode cX11_faultless 34 = .ok (.iload 4, 2) := by decide +kernel
theorem dX11_faultless_36 : decode cX11_faultless 36 = .ok (.invokevirtual 202, 3) := by decide +kernel
theorem dX11_faultless_39 : decode cX11_faultless 39 = .ok (.ifCond .ne 10, 3) := by decide +kernel
theorem dX11_faultless_42 : decode cX11_faultless 42 = .ok (.iconst 1, 1) := by decide +kernel
theorem dX11_faultless_43 : decode cX11_faultless 43 = .ok (.iload 4, 2) := by decide +kernel
theorem dX11_faultless_45 : decode cX11_faultless 45 = .ok (.ishl, 1) := by decide +kernel
theorem dX11_faultless_46 : decode cX11_faultless 46 = .ok (.goto 4, 3) := by decide +kernel
theorem dX11_faultless_49 : decode cX11_faultless 49 = .ok (.iconst 0, 1) := by decide +kernel
theorem dX11_faultless_50 : decode cX11_faultless 50 = .ok (.ior, 1) := by decide +kernel
theorem dX11_faultless_51 : decode cX11_faultless 51 = .ok (.istore_n 2, 1) := by decide +kernel
theorem dX11_faultless_52 : decode cX11_faultless 52 = .ok (.iinc 3 1, 3) := by decide +kernel
theorem dX11_faultless_55 : decode cX11_faultless 55 = .ok (.goto (-46), 3) := by decide +kernel
theorem dX11_faultless_58 : decode cX11_faultless 58 = .ok (.iload_n 2, 1) := by decide +kernel
theorem dX11_faultless_59 : decode cX11_faultless 59 = .ok (.ireturn, 1) := by decide +kernel
theorem dX11_find_0 : decode cX11_find 0 = .ok (.aload_n 0, 1) := by decide +kernel
theorem dX11_find_1 : decode cX11_find 1 = .ok (.getfield 192, 3) := by decide +kernel
theorem dX11_find_4 : decode cX11_find 4 = .ok (.istore_n 3, 1) := by decide +kernel
theorem dX11_find_5 : decode cX11_find 5 = .ok (.iload_n 3, 1) := by decide +kernel
theorem dX11_find_6 : decode cX11_find 6 = .ok (.bipush 30, 2) := by decide +kernel
theorem dX11_find_8 : decode cX11_find 8 = .ok (.if_icmp .ge 68, 3) := by decide +kernel
theorem dX11_find_11 : decode cX11_find 11 = .ok (.iload_n 3, 1) := by decide +kernel
theorem dX11_find_12 : decode cX11_find 12 = .ok (.iload_n 2, 1) := by decide +kernel
theorem dX11_find_13 : decode cX11_find 13 = .ok (.if_icmp .eq 57, 3) := by decide +kernel
theorem dX11_find_16 : decode cX11_find 16 = .ok (.aload_n 0, 1) := by decide +kernel
theorem dX11_find_17 : decode cX11_find 17 = .ok (.getfield 95, 3) := by decide +kernel
theorem dX11_find_20 : decode cX11_find 20 = .ok (.iload_n 3, 1) := by decide +kernel
theorem dX11_find_21 : decode cX11_find 21 = .ok (.iaload, 1) := by decide +kernel
theorem dX11_find_22 : decode cX11_find 22 = .ok (.bipush 8, 2) := by decide +kernel
theorem dX11_find_24 : decode cX11_find 24 = .ok (.if_icmp .ge 46, 3) := by decide +kernel
theorem dX11_find_27 : decode cX11_find 27 = .ok (.aload_n 0, 1) := by decide +kernel
theorem dX11_find_28 : decode cX11_find 28 = .ok (.iload_n 3, 1) := by decide +kernel
theorem dX11_find_29 : decode cX11_find 29 = .ok (.invokevirtual 205, 3) := by decide +kernel
theorem dX11_find_32 : decode cX11_find 32 = .ok (.iconst 1, 1) := by decide +kernel
theorem dX11_find_33 : decode cX11_find 33 = .ok (.iload_n 1, 1) := by decide +kernel
theorem dX11_find_34 : decode cX11_find 34 = .ok (.ishl, 1) := by decide +kernel
theorem dX11_find_35 : decode cX11_find 35 = .ok (.ior, 1) := by decide +kernel
theorem dX11_find_36 : decode cX11_find 36 = .ok (.istore 4, 2) := by decide +kernel
theorem dX11_find_38 : decode cX11_find 38 = .ok (.aload_n 0, 1) := by decide +kernel
theorem dX11_find_39 : decode cX11_find 39 = .ok (.iload_n 1, 1) := by decide +kernel
theorem dX11_find_40 : decode cX11_find 40 = .ok (.iload_n 3, 1) := by decide +kernel
theorem dX11_find_41 : decode cX11_find 41 = .ok (.aload_n 0, 1) := by decide +kernel
theorem dX11_find_42 : decode cX11_find 42 = .ok (.getfield 95, 3) := by decide +kernel
theorem dX11_find_45 : decode cX11_find 45 = .ok (.iload_n 3, 1) := by decide +kernel
theorem dX11_find_46 : decode cX11_find 46 = .ok (.iaload, 1) := by decide +kernel
theorem dX11_find_47 : decode cX11_find 47 = .ok (.invokevirtual 195, 3) := by decide +kernel
theorem dX11_find_50 : decode cX11_find 50 = .ok (.iload 4, 2) := by decide +kernel
theorem dX11_find_52 : decode cX11_find 52 = .ok (.aload_n 0, 1) := by decide +kernel
theorem dX11_find_53 : decode cX11_find 53 = .ok (.iload_n 3, 1) := by decide +kernel
theorem dX11_find_54 : decode cX11_find 54 = .ok (.invokevirtual 205, 3) := by decide +kernel
theorem dX11_find_57 : decode cX11_find 57 = .ok (.iconst (-1), 1) := by decide +kernel
theorem dX11_find_58 : decode cX11_find 58 = .ok (.ixor, 1) := by decide +kernel
theorem dX11_find_59 : decode cX11_find 59 = .ok (.iand, 1) := by decide +kernel
theorem dX11_find_60 : decode cX11_find 60 = .ok (.ifCond .ne 5, 3) := by decide +kernel
theorem dX11_find_63 : decode cX11_find 63 = .ok (.iconst 1, 1) := by decide +kernel
theorem dX11_find_64 : decode cX11_find 64 = .ok (.ireturn, 1) := by decide +kernel
theorem dX11_find_65 : decode cX11_find 65 = .ok (.aload_n 0, 1) := by decide +kernel
theorem dX11_find_66 : decode cX11_find 66 = .ok (.iload_n 1, 1) := by decide +kernel
theorem dX11_find_67 : decode cX11_find 67 = .ok (.invokevirtual 148, 3) := by decide +kernel
theorem dX11_find_70 : decode cX11_find 70 = .ok (.iinc 3 1, 3) := by decide +kernel
theorem dX11_find_73 : decode cX11_find 73 = .ok (.goto (-68), 3) := by decide +kernel
theorem dX11_find_76 : decode cX11_find 76 = .ok (.iconst 0, 1) := by decide +kernel
theorem dX11_find_77 : decode cX11_find 77 = .ok (.ireturn, 1) := by decide +kernel
theorem dX11_canTry_0 : decode cX11_canTry 0 = .ok (.aload_n 0, 1) := by decide +kernel
theorem dX11_canTry_1 : decode cX11_canTry 1 = .ok (.getfield 44, 3) := by decide +kernel
theorem dX11_canTry_4 : decode cX11_canTry 4 = .ok (.iload_n 1, 1) := by decide +kernel
theorem dX11_canTry_5 : decode cX11_canTry 5 = .ok (.baload, 1) := by decide +kernel
theorem dX11_canTry_6 : decode cX11_canTry 6 = .ok (.ifCond .ne 26, 3) := by decide +kernel
theorem dX11_canTry_9 : decode cX11_canTry 9 = .ok (.aload_n 0, 1) := by decide +kernel
theorem dX11_canTry_10 : decode cX11_canTry 10 = .ok (.getfield 47, 3) := by decide +kernel
theorem dX11_canTry_13 : decode cX11_canTry 13 = .ok (.iload_n 1, 1) := by decide +kernel
theorem dX11_canTry_14 : decode cX11_canTry 14 = .ok (.baload, 1) := by decide +kernel
theorem dX11_canTry_15 : decode cX11_canTry 15 = .ok (.ifCond .ne 17, 3) := by decide +kernel
theorem dX11_canTry_18 : decode cX11_canTry 18 = .ok (.aload_n 0, 1) := by decide +kernel
theorem dX11_canTry_19 : decode cX11_canTry 19 = .ok (.getfield 56, 3) := by decide +kernel
theorem dX11_canTry_22 : decode cX11_canTry 22 = .ok (.iload_n 1, 1) := by decide +kernel
theorem dX11_canTry_23 : decode cX11_canTry 23 = .ok (.iaload, 1) := by decide +kernel
theorem dX11_canTry_24 : decode cX11_canTry 24 = .ok (.iconst (-1), 1) := by decide +kernel
theorem dX11_canTry_25 : decode cX11_canTry 25 = .ok (.if_icmp .ne 7, 3) := by decide +kernel
theorem dX11_canTry_28 : decode cX11_canTry 28 = .ok (.iconst 1, 1) := by decide +kernel
theorem dX11_canTry_29 : decode cX11_canTry 29 = .ok (.goto 4, 3) := by decide +kernel
theorem dX11_canTry_32 : decode cX11_canTry 32 = .ok (.iconst 0, 1) := by decide +kernel
theorem dX11_canTry_33 : decode cX11_canTry 33 = .ok (.istore_n 2, 1) := by decide +kernel
theorem dX11_canTry_34 : decode cX11_canTry 34 = .ok (.iconst 0, 1) := by decide +kernel
theorem dX11_canTry_35 : decode cX11_canTry 35 = .ok (.istore_n 3, 1) := by decide +kernel
theorem dX11_canTry_36 : decode cX11_canTry 36 = .ok (.iload_n 3, 1) := by decide +kernel
theorem dX11_canTry_37 : decode cX11_canTry 37 = .ok (.aload_n 0, 1) := by decide +kernel
theorem dX11_canTry_38 : decode cX11_canTry 38 = .ok (.getfield 114, 3) := by decide +kernel
theorem dX11_canTry_41 : decode cX11_canTry 41 = .ok (.if_icmp .ge 60, 3) := by decide +kernel
theorem dX11_canTry_44 : decode cX11_canTry 44 = .ok (.iload_n 2, 1) := by decide +kernel
theorem dX11_canTry_45 : decode cX11_canTry 45 = .ok (.ifCond .eq 48, 3) := by decide +kernel
theorem dX11_canTry_48 : decode cX11_canTry 48 = .ok (.aload_n 0, 1) := by decide +kernel
theorem dX11_canTry_49 : decode cX11_canTry 49 = .ok (.getfield 41, 3) := by decide +kernel
theorem dX11_canTry_52 : decode cX11_canTry 52 = .ok (.iload_n 1, 1) := by decide +kernel
theorem dX11_canTry_53 : decode cX11_canTry 53 = .ok (.iaload, 1) := by decide +kernel
theorem dX11_canTry_54 : decode cX11_canTry 54 = .ok (.iload_n 3, 1) := by decide +kernel
theorem dX11_canTry_55 : decode cX11_canTry 55 = .ok (.invokestatic 158, 3) := by decide +kernel
theorem dX11_canTry_58 : decode cX11_canTry 58 = .ok (.ifCond .eq 31, 3) := by decide +kernel
theorem dX11_canTry_61 : decode cX11_canTry 61 = .ok (.aload_n 0, 1) := by decide +kernel
theorem dX11_canTry_62 : decode cX11_canTry 62 = .ok (.getfield 56, 3) := by decide +kernel
theorem dX11_canTry_65 : decode cX11_canTry 65 = .ok (.iload_n 3, 1) := by decide +kernel
theorem dX11_canTry_66 : decode cX11_canTry 66 = .ok (.iaload, 1) := by decide +kernel
theorem dX11_canTry_67 : decode cX11_canTry 67 = .ok (.iconst (-1), 1) := by decide +kernel
theorem dX11_canTry_68 : decode cX11_canTry 68 = .ok (.if_icmp .ne 21, 3) := by decide +kernel
theorem dX11_canTry_71 : decode cX11_canTry 71 = .ok (.aload_n 0, 1) := by decide +kernel
theorem dX11_canTry_72 : decode cX11_canTry 72 = .ok (.getfield 47, 3) := by decide +kernel
theorem dX11_canTry_75 : decode cX11_canTry 75 = .ok (.iload_n 3, 1) := by decide +kernel
theorem dX11_canTry_76 : decode cX11_canTry 76 = .ok (.baload, 1) := by decide +kernel
theorem dX11_canTry_77 : decode cX11_canTry 77 = .ok (.ifCond .ne 12, 3) := by decide +kernel
theorem dX11_canTry_80 : decode cX11_canTry 80 = .ok (.aload_n 0, 1) := by decide +kernel
theorem dX11_canTry_81 : decode cX11_canTry 81 = .ok (.getfield 44, 3) := by decide +kernel
theorem dX11_canTry_84 : decode cX11_canTry 84 = .ok (.iload_n 3, 1) := by decide +kernel
theorem dX11_canTry_85 : decode cX11_canTry 85 = .ok (.baload, 1) := by decide +kernel
theorem dX11_canTry_86 : decode cX11_canTry 86 = .ok (.ifCond .eq 7, 3) := by decide +kernel
theorem dX11_canTry_89 : decode cX11_canTry 89 = .ok (.iconst 1, 1) := by decide +kernel
theorem dX11_canTry_90 : decode cX11_canTry 90 = .ok (.goto 4, 3) := by decide +kernel
theorem dX11_canTry_93 : decode cX11_canTry 93 = .ok (.iconst 0, 1) := by decide +kernel
theorem dX11_canTry_94 : decode cX11_canTry 94 = .ok (.istore_n 2, 1) := by decide +kernel
theorem dX11_canTry_95 : decode cX11_canTry 95 = .ok (.iinc 3 1, 3) := by decide +kernel
theorem dX11_canTry_98 : decode cX11_canTry 98 = .ok (.goto (-62), 3) := by decide +kernel
theorem dX11_canTry_101 : decode cX11_canTry 101 = .ok (.iload_n 2, 1) := by decide +kernel
theorem dX11_canTry_102 : decode cX11_canTry 102 = .ok (.ireturn, 1) := by decide +kernel
theorem dX11_fill_0 : decode cX11_fill 0 = .ok (.aload_n 0, 1) := by decide +kernel
theorem dX11_fill_1 : decode cX11_fill 1 = .ok (.iconst 0, 1) := by decide +kernel
theorem dX11_fill_2 : decode cX11_fill 2 = .ok (.putfield 110, 3) := by decide +kernel
theorem dX11_fill_5 : decode cX11_fill 5 = .ok (.iconst 0, 1) := by decide +kernel
theorem dX11_fill_6 : decode cX11_fill 6 = .ok (.istore_n 1, 1) := by decide +kernel
theorem dX11_fill_7 : decode cX11_fill 7 = .ok (.iconst 0, 1) := by decide +kernel
theorem dX11_fill_8 : decode cX11_fill 8 = .ok (.istore_n 2, 1) := by decide +kernel
theorem dX11_fill_9 : decode cX11_fill 9 = .ok (.iconst 0, 1) := by decide +kernel
theorem dX11_fill_10 : decode cX11_fill 10 = .ok (.istore_n 3, 1) := by decide +kernel
theorem dX11_fill_11 : decode cX11_fill 11 = .ok (.iload_n 3, 1) := by decide +kernel
theorem dX11_fill_12 : decode cX11_fill 12 = .ok (.iconst (-1), 1) := by decide +kernel
theorem dX11_fill_13 : decode cX11_fill 13 = .ok (.if_icmp .eq 95, 3) := by decide +kernel
theorem dX11_fill_16 : decode cX11_fill 16 = .ok (.iconst (-1), 1) := by decide +kernel
theorem dX11_fill_17 : decode cX11_fill 17 = .ok (.istore_n 3, 1) := by decide +kernel
theorem dX11_fill_18 : decode cX11_fill 18 = .ok (.aload_n 0, 1) := by decide +kernel
theorem dX11_fill_19 : decode cX11_fill 19 = .ok (.getfield 114, 3) := by decide +kernel
theorem dX11_fill_22 : decode cX11_fill 22 = .ok (.iconst 1, 1) := by decide +kernel
theorem dX11_fill_23 : decode cX11_fill 23 = .ok (.isub, 1) := by decide +kernel
theorem dX11_fill_24 : decode cX11_fill 24 = .ok (.istore 4, 2) := by decide +kernel
theorem dX11_fill_26 : decode cX11_fill 26 = .ok (.iload 4, 2) := by decide +kernel
theorem dX11_fill_28 : decode cX11_fill 28 = .ok (.ifCond .lt 49, 3) := by decide +kernel
theorem dX11_fill_31 : decode cX11_fill 31 = .ok (.iload_n 2, 1) := by decide +kernel
theorem dX11_fill_32 : decode cX11_fill 32 = .ok (.aload_n 0, 1) := by decide +kernel
theorem dX11_fill_33 : decode cX11_fill 33 = .ok (.getfield 7, 3) := by decide +kernel
theorem dX11_fill_36 : decode cX11_fill 36 = .ok (.iload 4, 2) := by decide +kernel
theorem dX11_fill_38 : decode cX11_fill 38 = .ok (.iaload, 1) := by decide +kernel
theorem dX11_fill_39 : decode cX11_fill 39 = .ok (.invokestatic 158, 3) := by decide +kernel
theorem dX11_fill_42 : decode cX11_fill 42 = .ok (.ifCond .ne 27, 3) := by decide +kernel
theorem dX11_fill_45 : decode cX11_fill 45 = .ok (.aload_n 0, 1) := by decide +kernel
theorem dX11_fill_46 : decode cX11_fill 46 = .ok (.aload_n 0, 1) := by decide +kernel
theorem dX11_fill_47 : decode cX11_fill 47 = .ok (.getfield 7, 3) := by decide +kernel
theorem dX11_fill_50 : decode cX11_fill 50 = .ok (.iload 4, 2) := by decide +kernel
theorem dX11_fill_52 : decode cX11_fill 52 = .ok (.iaload, 1) := by decide +kernel
theorem dX11_fill_53 : decode cX11_fill 53 = .ok (.invokevirtual 208, 3) := by decide +kernel
theorem dX11_fill_56 : decode cX11_fill 56 = .ok (.ifCond .eq 13, 3) := by decide +kernel
theorem dX11_fill_59 : decode cX11_fill 59 = .ok (.aload_n 0, 1) := by decide +kernel
theorem dX11_fill_60 : decode cX11_fill 60 = .ok (.getfield 7, 3) := by decide +kernel
theorem dX11_fill_63 : decode cX11_fill 63 = .ok (.iload 4, 2) := by decide +kernel
theorem dX11_fill_65 : decode cX11_fill 65 = .ok (.iaload, 1) := by decide +kernel
theorem dX11_fill_66 : decode cX11_fill 66 = .ok (.goto 4, 3) := by decide +kernel
theorem dX11_fill_69 : decode cX11_fill 69 = .ok (.iload_n 3, 1) := by decide +kernel
theorem dX11_fill_70 : decode cX11_fill 70 = .ok (.istore_n 3, 1) := by decide +kernel
theorem dX11_fill_71 : decode cX11_fill 71 = .ok (.iinc 4 (-1), 3) := by decide +kernel
theorem dX11_fill_74 : decode cX11_fill 74 = .ok (.goto (-48), 3) := by decide +kernel
theorem dX11_fill_77 : decode cX11_fill 77 = .ok (.iload_n 3, 1) := by decide +kernel
theorem dX11_fill_78 : decode cX11_fill 78 = .ok (.iconst (-1), 1) := by decide +kernel
theorem dX11_fill_79 : decode cX11_fill 79 = .ok (.if_icmp .eq (-68), 3) := by decide +kernel
theorem dX11_fill_82 : decode cX11_fill 82 = .ok (.iload_n 2, 1) := by decide +kernel
theorem dX11_fill_83 : decode cX11_fill 83 = .ok (.iconst 1, 1) := by decide +kernel
theorem dX11_fill_84 : decode cX11_fill 84 = .ok (.iload_n 3, 1) := by decide +kernel
theorem dX11_fill_85 : decode cX11_fill 85 = .ok (.ishl, 1) := by decide +kernel
theorem dX11_fill_86 : decode cX11_fill 86 = .ok (.ior, 1) := by decide +kernel
theorem dX11_fill_87 : decode cX11_fill 87 = .ok (.istore_n 2, 1) := by decide +kernel
theorem dX11_fill_88 : decode cX11_fill 88 = .ok (.iload_n 1, 1) := by decide +kernel
theorem dX11_fill_89 : decode cX11_fill 89 = .ok (.aload_n 0, 1) := by decide +kernel
theorem dX11_fill_90 : decode cX11_fill 90 = .ok (.iload_n 3, 1) := by decide +kernel
theorem dX11_fill_91 : decode cX11_fill 91 = .ok (.iconst (-1), 1) := by decide +kernel
theorem dX11_fill_92 : decode cX11_fill 92 = .ok (.invokevirtual 211, 3) := by decide +kernel
theorem dX11_fill_95 : decode cX11_fill 95 = .ok (.ifCond .eq 7, 3) := by decide +kernel
theorem dX11_fill_98 : decode cX11_fill 98 = .ok (.iconst 1, 1) := by decide +kernel
theorem dX11_fill_99 : decode cX11_fill 99 = .ok (.goto 4, 3) := by decide +kernel
theorem dX11_fill_102 : decode cX11_fill 102 = .ok (.iconst 0, 1) := by decide +kernel
theorem dX11_fill_103 : decode cX11_fill 103 = .ok (.iadd, 1) := by decide +kernel
theorem dX11_fill_104 : decode cX11_fill 104 = .ok (.istore_n 1, 1) := by decide +kernel
theorem dX11_fill_105 : decode cX11_fill 105 = .ok (.goto (-94), 3) := by decide +kernel
theorem dX11_fill_108 : decode cX11_fill 108 = .ok (.iload_n 1, 1) := by decide +kernel
theorem dX11_fill_109 : decode cX11_fill 109 = .ok (.ireturn, 1) := by decide +kernel
theorem dX11_mend_0 : decode cX11_mend 0 = .ok (.iload_n 1, 1) := by decide +kernel
theorem dX11_mend_1 : decode cX11_mend 1 = .ok (.invokestatic 168, 3) := by decide +kernel
theorem dX11_mend_4 : decode cX11_mend 4 = .ok (.istore_n 2, 1) := by decide +kernel
theorem dX11_mend_5 : decode cX11_mend 5 = .ok (.aload_n 0, 1) := by decide +kernel
theorem dX11_mend_6 : decode cX11_mend 6 = .ok (.iload_n 2, 1) := by decide +kernel
theorem dX11_mend_7 : decode cX11_mend 7 = .ok (.ifCond .ne 7, 3) := by decide +kernel
theorem dX11_mend_10 : decode cX11_mend 10 = .ok (.iconst 1, 1) := by decide +kernel
theorem dX11_mend_11 : decode cX11_mend 11 = .ok (.goto 16, 3) := by decide +kernel
theorem dX11_mend_14 : decode cX11_mend 14 = .ok (.iload_n 1, 1) := by decide +kernel
theorem dX11_mend_15 : decode cX11_mend 15 = .ok (.aload_n 0, 1) := by decide +kernel
theorem dX11_mend_16 : decode cX11_mend 16 = .ok (.getfield 192, 3) := by decide +kernel
theorem dX11_mend_19 : decode cX11_mend 19 = .ok (.if_icmp .ge 7, 3) := by decide +kernel
theorem dX11_mend_22 : decode cX11_mend 22 = .ok (.iconst 2, 1) := by decide +kernel
theorem dX11_mend_23 : decode cX11_mend 23 = .ok (.goto 4, 3) := by decide +kernel
theorem dX11_mend_26 : decode cX11_mend 26 = .ok (.iconst 0, 1) := by decide +kernel
theorem dX11_mend_27 : decode cX11_mend 27 = .ok (.invokevirtual 138, 3) := by decide +kernel
theorem dX11_mend_30 : decode cX11_mend 30 = .ok (.ifCond .ne 5, 3) := by decide +kernel
theorem dX11_mend_33 : decode cX11_mend 33 = .ok (.iconst 0, 1) := by decide +kernel
theorem dX11_mend_34 : decode cX11_mend 34 = .ok (.ireturn, 1) := by decide +kernel
theorem dX11_mend_35 : decode cX11_mend 35 = .ok (.iconst 0, 1) := by decide +kernel
theorem dX11_mend_36 : decode cX11_mend 36 = .ok (.istore_n 3, 1) := by decide +kernel
theorem dX11_mend_37 : decode cX11_mend 37 = .ok (.iconst 0, 1) := by decide +kernel
theorem dX11_mend_38 : decode cX11_mend 38 = .ok (.istore 4, 2) := by decide +kernel
theorem dX11_mend_40 : decode cX11_mend 40 = .ok (.iload 4, 2) := by decide +kernel
theorem dX11_mend_42 : decode cX11_mend 42 = .ok (.aload_n 0, 1) := by decide +kernel
theorem dX11_mend_43 : decode cX11_mend 43 = .ok (.getfield 121, 3) := by decide +kernel
theorem dX11_mend_46 : decode cX11_mend 46 = .ok (.if_icmp .ge 34, 3) := by decide +kernel
theorem dX11_mend_49 : decode cX11_mend 49 = .ok (.iload_n 3, 1) := by decide +kernel
theorem dX11_mend_50 : decode cX11_mend 50 = .ok (.aload_n 0, 1) := by decide +kernel
theorem dX11_mend_51 : decode cX11_mend 51 = .ok (.getfield 71, 3) := by decide +kernel
theorem dX11_mend_54 : decode cX11_mend 54 = .ok (.iload 4, 2) := by decide +kernel
theorem dX11_mend_56 : decode cX11_mend 56 = .ok (.iaload, 1) := by decide +kernel
theorem dX11_mend_57 : decode cX11_mend 57 = .ok (.iload_n 1, 1) := by decide +kernel
theorem dX11_mend_58 : decode cX11_mend 58 = .ok (.invokestatic 158, 3) := by decide +kernel
theorem dX11_mend_61 : decode cX11_mend 61 = .ok (.ifCond .eq 10, 3) := by decide +kernel
theorem dX11_mend_64 : decode cX11_mend 64 = .ok (.iconst 1, 1) := by decide +kernel
theorem dX11_mend_65 : decode cX11_mend 65 = .ok (.iload 4, 2) := by decide +kernel
theorem dX11_mend_67 : decode cX11_mend 67 = .ok (.ishl, 1) := by decide +kernel
theorem dX11_mend_68 : decode cX11_mend 68 = .ok (.goto 4, 3) := by decide +kernel
theorem dX11_mend_71 : decode cX11_mend 71 = .ok (.iconst 0, 1) := by decide +kernel
theorem dX11_mend_72 : decode cX11_mend 72 = .ok (.ior, 1) := by decide +kernel
theorem dX11_mend_73 : decode cX11_mend 73 = .ok (.istore_n 3, 1) := by decide +kernel
theorem dX11_mend_74 : decode cX11_mend 74 = .ok (.iinc 4 1, 3) := by decide +kernel
theorem dX11_mend_77 : decode cX11_mend 77 = .ok (.goto (-37), 3) := by decide +kernel
theorem dX11_mend_80 : decode cX11_mend 80 = .ok (.iconst 0, 1) := by decide +kernel
theorem dX11_mend_81 : decode cX11_mend 81 = .ok (.istore 4, 2) := by decide +kernel
theorem dX11_mend_83 : decode cX11_mend 83 = .ok (.iconst 0, 1) := by decide +kernel
theorem dX11_mend_84 : decode cX11_mend 84 = .ok (.istore 5, 2) := by decide +kernel
theorem dX11_mend_86 : decode cX11_mend 86 = .ok (.iload 5, 2) := by decide +kernel
theorem dX11_mend_88 : decode cX11_mend 88 = .ok (.aload_n 0, 1) := by decide +kernel
theorem dX11_mend_89 : decode cX11_mend 89 = .ok (.getfield 95, 3) := by decide +kernel
theorem dX11_mend_92 : decode cX11_mend 92 = .ok (.iload_n 1, 1) := by decide +kernel
theorem dX11_mend_93 : decode cX11_mend 93 = .ok (.iaload, 1) := by decide +kernel
theorem dX11_mend_94 : decode cX11_mend 94 = .ok (.if_icmp .ge 57, 3) := by decide +kernel
theorem dX11_mend_97 : decode cX11_mend 97 = .ok (.aload_n 0, 1) := by decide +kernel
theorem dX11_mend_98 : decode cX11_mend 98 = .ok (.getfield 92, 3) := by decide +kernel
theorem dX11_mend_101 : decode cX11_mend 101 = .ok (.bipush 8, 2) := by decide +kernel
theorem dX11_mend_103 : decode cX11_mend 103 = .ok (.iload_n 1, 1) := by decide +kernel
theorem dX11_mend_104 : decode cX11_mend 104 = .ok (.imul, 1) := by decide +kernel
theorem dX11_mend_105 : decode cX11_mend 105 = .ok (.iload 5, 2) := by decide +kernel
theorem dX11_mend_107 : decode cX11_mend 107 = .ok (.iadd, 1) := by decide +kernel
theorem dX11_mend_108 : decode cX11_mend 108 = .ok (.iaload, 1) := by decide +kernel
theorem dX11_mend_109 : decode cX11_mend 109 = .ok (.istore 6, 2) := by decide +kernel
theorem dX11_mend_111 : decode cX11_mend 111 = .ok (.aload_n 0, 1) := by decide +kernel
theorem dX11_mend_112 : decode cX11_mend 112 = .ok (.getfield 47, 3) := by decide +kernel
theorem dX11_mend_115 : decode cX11_mend 115 = .ok (.iload 6, 2) := by decide +kernel
theorem dX11_mend_117 : decode cX11_mend 117 = .ok (.baload, 1) := by decide +kernel
theorem dX11_mend_118 : decode cX11_mend 118 = .ok (.ifCond .ne 27, 3) := by decide +kernel
theorem dX11_mend_121 : decode cX11_mend 121 = .ok (.aload_n 0, 1) := by decide +kernel
theorem dX11_mend_122 : decode cX11_mend 122 = .ok (.getfield 32, 3) := by decide +kernel
theorem dX11_mend_125 : decode cX11_mend 125 = .ok (.iload 6, 2) := by decide +kernel
theorem dX11_mend_127 : decode cX11_mend 127 = .ok (.iaload, 1) := by decide +kernel
theorem dX11_mend_128 : decode cX11_mend 128 = .ok (.iload_n 3, 1) := by decide +kernel
theorem dX11_mend_129 : decode cX11_mend 129 = .ok (.iand, 1) := by decide +kernel
theorem dX11_mend_130 : decode cX11_mend 130 = .ok (.ifCond .eq 15, 3) := by decide +kernel
theorem dX11_mend_133 : decode cX11_mend 133 = .ok (.aload_n 0, 1) := by decide +kernel
theorem dX11_mend_134 : decode cX11_mend 134 = .ok (.getfield 107, 3) := by decide +kernel
theorem dX11_mend_137 : decode cX11_mend 137 = .ok (.iload 4, 2) := by decide +kernel
theorem dX11_mend_139 : decode cX11_mend 139 = .ok (.iload 6, 2) := by decide +kernel
theorem dX11_mend_141 : decode cX11_mend 141 = .ok (.iastore, 1) := by decide +kernel
theorem dX11_mend_142 : decode cX11_mend 142 = .ok (.iinc 4 1, 3) := by decide +kernel
theorem dX11_mend_145 : decode cX11_mend 145 = .ok (.iinc 5 1, 3) := by decide +kernel
theorem dX11_mend_148 : decode cX11_mend 148 = .ok (.goto (-62), 3) := by decide +kernel
theorem dX11_mend_151 : decode cX11_mend 151 = .ok (.iconst 0, 1) := by decide +kernel
theorem dX11_mend_152 : decode cX11_mend 152 = .ok (.istore 5, 2) := by decide +kernel
theorem dX11_mend_154 : decode cX11_mend 154 = .ok (.iload 5, 2) := by decide +kernel
theorem dX11_mend_156 : decode cX11_mend 156 = .ok (.iload 4, 2) := by decide +kernel
theorem dX11_mend_158 : decode cX11_mend 158 = .ok (.if_icmp .ge 20, 3) := by decide +kernel
theorem dX11_mend_161 : decode cX11_mend 161 = .ok (.aload_n 0, 1) := by decide +kernel
theorem dX11_mend_162 : decode cX11_mend 162 = .ok (.aload_n 0, 1) := by decide +kernel
theorem dX11_mend_163 : decode cX11_mend 163 = .ok (.getfield 107, 3) := by decide +kernel
theorem dX11_mend_166 : decode cX11_mend 166 = .ok (.iload 5, 2) := by decide +kernel
theorem dX11_mend_168 : decode cX11_mend 168 = .ok (.iaload, 1) := by decide +kernel
theorem dX11_mend_169 : decode cX11_mend 169 = .ok (.invokevirtual 148, 3) := by decide +kernel
theorem dX11_mend_172 : decode cX11_mend 172 = .ok (.iinc 5 1, 3) := by decide +kernel
theorem dX11_mend_175 : decode cX11_mend 175 = .ok (.goto (-21), 3) := by decide +kernel
theorem dX11_mend_178 : decode cX11_mend 178 = .ok (.iconst 0, 1) := by decide +kernel
theorem dX11_mend_179 : decode cX11_mend 179 = .ok (.istore 5, 2) := by decide +kernel
theorem dX11_mend_181 : decode cX11_mend 181 = .ok (.iconst 0, 1) := by decide +kernel
theorem dX11_mend_182 : decode cX11_mend 182 = .ok (.istore 6, 2) := by decide +kernel
theorem dX11_mend_184 : decode cX11_mend 184 = .ok (.iload 6, 2) := by decide +kernel
theorem dX11_mend_186 : decode cX11_mend 186 = .ok (.iload 4, 2) := by decide +kernel
theorem dX11_mend_188 : decode cX11_mend 188 = .ok (.if_icmp .ge 34, 3) := by decide +kernel
theorem dX11_mend_191 : decode cX11_mend 191 = .ok (.iload 5, 2) := by decide +kernel
theorem dX11_mend_193 : decode cX11_mend 193 = .ok (.aload_n 0, 1) := by decide +kernel
theorem dX11_mend_194 : decode cX11_mend 194 = .ok (.aload_n 0, 1) := by decide +kernel
theorem dX11_mend_195 : decode cX11_mend 195 = .ok (.getfield 107, 3) := by decide +kernel
theorem dX11_mend_198 : decode cX11_mend 198 = .ok (.iload 6, 2) := by decide +kernel
theorem dX11_mend_200 : decode cX11_mend 200 = .ok (.iaload, 1) := by decide +kernel
theorem dX11_mend_201 : decode cX11_mend 201 = .ok (.iload_n 1, 1) := by decide +kernel
theorem dX11_mend_202 : decode cX11_mend 202 = .ok (.invokevirtual 211, 3) := by decide +kernel
theorem dX11_mend_205 : decode cX11_mend 205 = .ok (.ifCond .eq 7, 3) := by decide +kernel
theorem dX11_mend_208 : decode cX11_mend 208 = .ok (.iconst 1, 1) := by decide +kernel
theorem dX11_mend_209 : decode cX11_mend 209 = .ok (.goto 4, 3) := by decide +kernel
theorem dX11_mend_212 : decode cX11_mend 212 = .ok (.iconst 0, 1) := by decide +kernel
theorem dX11_mend_213 : decode cX11_mend 213 = .ok (.iadd, 1) := by decide +kernel
theorem dX11_mend_214 : decode cX11_mend 214 = .ok (.istore 5, 2) := by decide +kernel
theorem dX11_mend_216 : decode cX11_mend 216 = .ok (.iinc 6 1, 3) := by decide +kernel
theorem dX11_mend_219 : decode cX11_mend 219 = .ok (.goto (-35), 3) := by decide +kernel
theorem dX11_mend_222 : decode cX11_mend 222 = .ok (.iload 5, 2) := by decide +kernel
theorem dX11_mend_224 : decode cX11_mend 224 = .ok (.ireturn, 1) := by decide +kernel
theorem dX11_strip_0 : decode cX11_strip 0 = .ok (.aload_n 0, 1) := by decide +kernel
theorem dX11_strip_1 : decode cX11_strip 1 = .ok (.iload_n 1, 1) := by decide +kernel
theorem dX11_strip_2 : decode cX11_strip 2 = .ok (.invokestatic 168, 3) := by decide +kernel
theorem dX11_strip_5 : decode cX11_strip 5 = .ok (.ifCond .eq 11, 3) := by decide +kernel
theorem dX11_strip_8 : decode cX11_strip 8 = .ok (.iload_n 2, 1) := by decide +kernel
theorem dX11_strip_9 : decode cX11_strip 9 = .ok (.ifCond .lt 7, 3) := by decide +kernel
theorem dX11_strip_12 : decode cX11_strip 12 = .ok (.iconst 0, 1) := by decide +kernel
theorem dX11_strip_13 : decode cX11_strip 13 = .ok (.goto 4, 3) := by decide +kernel
theorem dX11_strip_16 : decode cX11_strip 16 = .ok (.iconst 1, 1) := by decide +kernel
theorem dX11_strip_17 : decode cX11_strip 17 = .ok (.invokevirtual 138, 3) := by decide +kernel
theorem dX11_strip_20 : decode cX11_strip 20 = .ok (.ifCond .ne 5, 3) := by decide +kernel
theorem dX11_strip_23 : decode cX11_strip 23 = .ok (.iconst 0, 1) := by decide +kernel
theorem dX11_strip_24 : decode cX11_strip 24 = .ok (.ireturn, 1) := by decide +kernel
theorem dX11_strip_25 : decode cX11_strip 25 = .ok (.iload_n 2, 1) := by decide +kernel
theorem dX11_strip_26 : decode cX11_strip 26 = .ok (.aload_n 0, 1) := by decide +kernel
theorem dX11_strip_27 : decode cX11_strip 27 = .ok (.getfield 95, 3) := by decide +kernel
theorem dX11_strip_30 : decode cX11_strip 30 = .ok (.iload_n 1, 1) := by decide +kernel
theorem dX11_strip_31 : decode cX11_strip 31 = .ok (.iaload, 1) := by decide +kernel
theorem dX11_strip_32 : decode cX11_strip 32 = .ok (.if_icmp .ge 17, 3) := by decide +kernel
theorem dX11_strip_35 : decode cX11_strip 35 = .ok (.aload_n 0, 1) := by decide +kernel
theorem dX11_strip_36 : decode cX11_strip 36 = .ok (.getfield 92, 3) := by decide +kernel
theorem dX11_strip_39 : decode cX11_strip 39 = .ok (.bipush 8, 2) := by decide +kernel
theorem dX11_strip_41 : decode cX11_strip 41 = .ok (.iload_n 1, 1) := by decide +kernel
theorem dX11_strip_42 : decode cX11_strip 42 = .ok (.imul, 1) := by decide +kernel
theorem dX11_strip_43 : decode cX11_strip 43 = .ok (.iload_n 2, 1) := by decide +kernel
theorem dX11_strip_44 : decode cX11_strip 44 = .ok (.iadd, 1) := by decide +kernel
theorem dX11_strip_45 : decode cX11_strip 45 = .ok (.iaload, 1) := by decide +kernel
theorem dX11_strip_46 : decode cX11_strip 46 = .ok (.goto 4, 3) := by decide +kernel
theorem dX11_strip_49 : decode cX11_strip 49 = .ok (.iconst (-1), 1) := by decide +kernel
theorem dX11_strip_50 : decode cX11_strip 50 = .ok (.ireturn, 1) := by decide +kernel
theorem dX11_stateOf_0 : decode cX11_stateOf 0 = .ok (.aload_n 0, 1) := by decide +kernel
theorem dX11_stateOf_1 : decode cX11_stateOf 1 = .ok (.getfield 44, 3) := by decide +kernel
theorem dX11_stateOf_4 : decode cX11_stateOf 4 = .ok (.iload_n 1, 1) := by decide +kernel
theorem dX11_stateOf_5 : decode cX11_stateOf 5 = .ok (.baload, 1) := by decide +kernel
theorem dX11_stateOf_6 : decode cX11_stateOf 6 = .ok (.ifCond .eq 7, 3) := by decide +kernel
theorem dX11_stateOf_9 : decode cX11_stateOf 9 = .ok (.iconst 4, 1) := by decide +kernel
theorem dX11_stateOf_10 : decode cX11_stateOf 10 = .ok (.goto 44, 3) := by decide +kernel
theorem dX11_stateOf_13 : decode cX11_stateOf 13 = .ok (.aload_n 0, 1) := by decide +kernel
theorem dX11_stateOf_14 : decode cX11_stateOf 14 = .ok (.getfield 47, 3) := by decide +kernel
theorem dX11_stateOf_17 : decode cX11_stateOf 17 = .ok (.iload_n 1, 1) := by decide +kernel
theorem dX11_stateOf_18 : decode cX11_stateOf 18 = .ok (.baload, 1) := by decide +kernel
theorem dX11_stateOf_19 : decode cX11_stateOf 19 = .ok (.ifCond .eq 7, 3) := by decide +kernel
theorem dX11_stateOf_22 : decode cX11_stateOf 22 = .ok (.iconst 2, 1) := by decide +kernel
theorem dX11_stateOf_23 : decode cX11_stateOf 23 = .ok (.goto 31, 3) := by decide +kernel
theorem dX11_stateOf_26 : decode cX11_stateOf 26 = .ok (.aload_n 0, 1) := by decide +kernel
theorem dX11_stateOf_27 : decode cX11_stateOf 27 = .ok (.getfield 56, 3) := by decide +kernel
theorem dX11_stateOf_30 : decode cX11_stateOf 30 = .ok (.iload_n 1, 1) := by decide +kernel
theorem dX11_stateOf_31 : decode cX11_stateOf 31 = .ok (.iaload, 1) := by decide +kernel
theorem dX11_stateOf_32 : decode cX11_stateOf 32 = .ok (.iconst (-1), 1) := by decide +kernel
theorem dX11_stateOf_33 : decode cX11_stateOf 33 = .ok (.if_icmp .eq 7, 3) := by decide +kernel
theorem dX11_stateOf_36 : decode cX11_stateOf 36 = .ok (.iconst 1, 1) := by decide +kernel
theorem dX11_stateOf_37 : decode cX11_stateOf 37 = .ok (.goto 17, 3) := by decide +kernel
theorem dX11_stateOf_40 : decode cX11_stateOf 40 = .ok (.aload_n 0, 1) := by decide +kernel
theorem dX11_stateOf_41 : decode cX11_stateOf 41 = .ok (.getfield 50, 3) := by decide +kernel
theorem dX11_stateOf_44 : decode cX11_stateOf 44 = .ok (.iload_n 1, 1) := by decide +kernel
theorem dX11_stateOf_45 : decode cX11_stateOf 45 = .ok (.baload, 1) := by decide +kernel
theorem dX11_stateOf_46 : decode cX11_stateOf 46 = .ok (.ifCond .eq 7, 3) := by decide +kernel
theorem dX11_stateOf_49 : decode cX11_stateOf 49 = .ok (.iconst 3, 1) := by decide +kernel
theorem dX11_stateOf_50 : decode cX11_stateOf 50 = .ok (.goto 4, 3) := by decide +kernel
theorem dX11_stateOf_53 : decode cX11_stateOf 53 = .ok (.iconst 0, 1) := by decide +kernel
theorem dX11_stateOf_54 : decode cX11_stateOf 54 = .ok (.ireturn, 1) := by decide +kernel
theorem dX11_ofScene_0 : decode cX11_ofScene 0 = .ok (.aload_n 0, 1) := by decide +kernel
theorem dX11_ofScene_1 : decode cX11_ofScene 1 = .ok (.iload_n 1, 1) := by decide +kernel
theorem dX11_ofScene_2 : decode cX11_ofScene 2 = .ok (.invokevirtual 131, 3) := by decide +kernel
theorem dX11_ofScene_5 : decode cX11_ofScene 5 = .ok (.istore_n 3, 1) := by decide +kernel
theorem dX11_ofScene_6 : decode cX11_ofScene 6 = .ok (.aload_n 0, 1) := by decide +kernel
theorem dX11_ofScene_7 : decode cX11_ofScene 7 = .ok (.iload_n 3, 1) := by decide +kernel
theorem dX11_ofScene_8 : decode cX11_ofScene 8 = .ok (.ifCond .ne 7, 3) := by decide +kernel
theorem dX11_ofScene_11 : decode cX11_ofScene 11 = .ok (.iconst 1, 1) := by decide +kernel
theorem dX11_ofScene_12 : decode cX11_ofScene 12 = .ok (.goto 17, 3) := by decide +kernel
theorem dX11_ofScene_15 : decode cX11_ofScene 15 = .ok (.iload_n 2, 1) := by decide +kernel
theorem dX11_ofScene_16 : decode cX11_ofScene 16 = .ok (.iconst 0, 1) := by decide +kernel
theorem dX11_ofScene_17 : decode cX11_ofScene 17 = .ok (.iconst 4, 1) := by decide +kernel
theorem dX11_ofScene_18 : decode cX11_ofScene 18 = .ok (.invokestatic 117, 3) := by decide +kernel
theorem dX11_ofScene_21 : decode cX11_ofScene 21 = .ok (.ifCond .eq 7, 3) := by decide +kernel
theorem dX11_ofScene_24 : decode cX11_ofScene 24 = .ok (.iconst 0, 1) := by decide +kernel
theorem dX11_ofScene_25 : decode cX11_ofScene 25 = .ok (.goto 4, 3) := by decide +kernel
theorem dX11_ofScene_28 : decode cX11_ofScene 28 = .ok (.iconst 2, 1) := by decide +kernel
theorem dX11_ofScene_29 : decode cX11_ofScene 29 = .ok (.invokevirtual 138, 3) := by decide +kernel
theorem dX11_ofScene_32 : decode cX11_ofScene 32 = .ok (.ifCond .ne 5, 3) := by decide +kernel
theorem dX11_ofScene_35 : decode cX11_ofScene 35 = .ok (.iconst 0, 1) := by decide +kernel
theorem dX11_ofScene_36 : decode cX11_ofScene 36 = .ok (.ireturn, 1) := by decide +kernel
theorem dX11_ofScene_37 : decode cX11_ofScene 37 = .ok (.aload_n 0, 1) := by decide +kernel
theorem dX11_ofScene_38 : decode cX11_ofScene 38 = .ok (.getfield 56, 3) := by decide +kernel
theorem dX11_ofScene_41 : decode cX11_ofScene 41 = .ok (.iload_n 1, 1) := by decide +kernel
theorem dX11_ofScene_42 : decode cX11_ofScene 42 = .ok (.iaload, 1) := by decide +kernel
theorem dX11_ofScene_43 : decode cX11_ofScene 43 = .ok (.istore 4, 2) := by decide +kernel
theorem dX11_ofScene_45 : decode cX11_ofScene 45 = .ok (.iload_n 2, 1) := by decide +kernel
theorem dX11_ofScene_46 : decode cX11_ofScene 46 = .ok (.ifCond .ne 9, 3) := by decide +kernel
theorem dX11_ofScene_49 : decode cX11_ofScene 49 = .ok (.aload_n 0, 1) := by decide +kernel
theorem dX11_ofScene_50 : decode cX11_ofScene 50 = .ok (.iload_n 1, 1) := by decide +kernel
theorem dX11_ofScene_51 : decode cX11_ofScene 51 = .ok (.invokevirtual 214, 3) := by decide +kernel
theorem dX11_ofScene_54 : decode cX11_ofScene 54 = .ok (.ireturn, 1) := by decide +kernel
theorem dX11_ofScene_55 : decode cX11_ofScene 55 = .ok (.iload 4, 2) := by decide +kernel
theorem dX11_ofScene_57 : decode cX11_ofScene 57 = .ok (.iconst (-1), 1) := by decide +kernel
theorem dX11_ofScene_58 : decode cX11_ofScene 58 = .ok (.if_icmp .ne 5, 3) := by decide +kernel
theorem dX11_ofScene_61 : decode cX11_ofScene 61 = .ok (.iconst (-1), 1) := by decide +kernel
theorem dX11_ofScene_62 : decode cX11_ofScene 62 = .ok (.ireturn, 1) := by decide +kernel
end
section
theorem dX11_ofScene_63 : decode cX11_ofScene 63 = .ok (.aload_n 0, 1) := by decide +kernel
theorem dX11_ofScene_64 : decode cX11_ofScene 64 = .ok (.iload 4, 2) := by decide +kernel
theorem dX11_ofScene_66 : decode cX11_ofScene 66 = .ok (.invokevirtual 199, 3) := by decide +kernel
theorem dX11_ofScene_69 : decode cX11_ofScene 69 = .ok (.iload_n 2, 1) := by decide +kernel
theorem dX11_ofScene_70 : decode cX11_ofScene 70 = .ok (.iconst 1, 1) := by decide +kernel
theorem dX11_ofScene_71 : decode cX11_ofScene 71 = .ok (.if_icmp .ne 8, 3) := by decide +kernel
theorem dX11_ofScene_74 : decode cX11_ofScene 74 = .ok (.iload 4, 2) := by decide +kernel
theorem dX11_ofScene_76 : decode cX11_ofScene 76 = .ok (.goto 48, 3) := by decide +kernel
theorem dX11_ofScene_79 : decode cX11_ofScene 79 = .ok (.iload_n 2, 1) := by decide +kernel
theorem dX11_ofScene_80 : decode cX11_ofScene 80 = .ok (.iconst 2, 1) := by decide +kernel
theorem dX11_ofScene_81 : decode cX11_ofScene 81 = .ok (.if_icmp .ne 18, 3) := by decide +kernel
theorem dX11_ofScene_84 : decode cX11_ofScene 84 = .ok (.aload_n 0, 1) := by decide +kernel
theorem dX11_ofScene_85 : decode cX11_ofScene 85 = .ok (.getfield 101, 3) := by decide +kernel
theorem dX11_ofScene_88 : decode cX11_ofScene 88 = .ok (.aload_n 0, 1) := by decide +kernel
theorem dX11_ofScene_89 : decode cX11_ofScene 89 = .ok (.iload_n 1, 1) := by decide +kernel
theorem dX11_ofScene_90 : decode cX11_ofScene 90 = .ok (.iload 4, 2) := by decide +kernel
theorem dX11_ofScene_92 : decode cX11_ofScene 92 = .ok (.invokevirtual 181, 3) := by decide +kernel
theorem dX11_ofScene_95 : decode cX11_ofScene 95 = .ok (.iaload, 1) := by decide +kernel
theorem dX11_ofScene_96 : decode cX11_ofScene 96 = .ok (.goto 28, 3) := by decide +kernel
theorem dX11_ofScene_99 : decode cX11_ofScene 99 = .ok (.iload_n 2, 1) := by decide +kernel
theorem dX11_ofScene_100 : decode cX11_ofScene 100 = .ok (.iconst 3, 1) := by decide +kernel
theorem dX11_ofScene_101 : decode cX11_ofScene 101 = .ok (.if_icmp .ne 18, 3) := by decide +kernel
theorem dX11_ofScene_104 : decode cX11_ofScene 104 = .ok (.aload_n 0, 1) := by decide +kernel
theorem dX11_ofScene_105 : decode cX11_ofScene 105 = .ok (.getfield 104, 3) := by decide +kernel
theorem dX11_ofScene_108 : decode cX11_ofScene 108 = .ok (.aload_n 0, 1) := by decide +kernel
theorem dX11_ofScene_109 : decode cX11_ofScene 109 = .ok (.iload_n 1, 1) := by decide +kernel
theorem dX11_ofScene_110 : decode cX11_ofScene 110 = .ok (.iload 4, 2) := by decide +kernel
theorem dX11_ofScene_112 : decode cX11_ofScene 112 = .ok (.invokevirtual 181, 3) := by decide +kernel
theorem dX11_ofScene_115 : decode cX11_ofScene 115 = .ok (.iaload, 1) := by decide +kernel
theorem dX11_ofScene_116 : decode cX11_ofScene 116 = .ok (.goto 8, 3) := by decide +kernel
theorem dX11_ofScene_119 : decode cX11_ofScene 119 = .ok (.aload_n 0, 1) := by decide +kernel
theorem dX11_ofScene_120 : decode cX11_ofScene 120 = .ok (.iload_n 1, 1) := by decide +kernel
theorem dX11_ofScene_121 : decode cX11_ofScene 121 = .ok (.invokevirtual 202, 3) := by decide +kernel
theorem dX11_ofScene_124 : decode cX11_ofScene 124 = .ok (.ireturn, 1) := by decide +kernel
theorem dX11_call_0 : decode cX11_call 0 = .ok (.aload_n 0, 1) := by decide +kernel
theorem dX11_call_1 : decode cX11_call 1 = .ok (.aload_n 0, 1) := by decide +kernel
theorem dX11_call_2 : decode cX11_call 2 = .ok (.iload_n 1, 1) := by decide +kernel
theorem dX11_call_3 : decode cX11_call 3 = .ok (.invokevirtual 165, 3) := by decide +kernel
theorem dX11_call_6 : decode cX11_call 6 = .ok (.ifCond .eq 14, 3) := by decide +kernel
theorem dX11_call_9 : decode cX11_call 9 = .ok (.iload_n 2, 1) := by decide +kernel
theorem dX11_call_10 : decode cX11_call 10 = .ok (.invokestatic 168, 3) := by decide +kernel
theorem dX11_call_13 : decode cX11_call 13 = .ok (.ifCond .eq 7, 3) := by decide +kernel
theorem dX11_call_16 : decode cX11_call 16 = .ok (.iconst 0, 1) := by decide +kernel
theorem dX11_call_17 : decode cX11_call 17 = .ok (.goto 4, 3) := by decide +kernel
theorem dX11_call_20 : decode cX11_call 20 = .ok (.iconst 1, 1) := by decide +kernel
theorem dX11_call_21 : decode cX11_call 21 = .ok (.invokevirtual 138, 3) := by decide +kernel
theorem dX11_call_24 : decode cX11_call 24 = .ok (.ifCond .ne 5, 3) := by decide +kernel
theorem dX11_call_27 : decode cX11_call 27 = .ok (.iconst 0, 1) := by decide +kernel
theorem dX11_call_28 : decode cX11_call 28 = .ok (.ireturn, 1) := by decide +kernel
theorem dX11_call_29 : decode cX11_call 29 = .ok (.aload_n 0, 1) := by decide +kernel
theorem dX11_call_30 : decode cX11_call 30 = .ok (.iload_n 2, 1) := by decide +kernel
theorem dX11_call_31 : decode cX11_call 31 = .ok (.invokevirtual 199, 3) := by decide +kernel
theorem dX11_call_34 : decode cX11_call 34 = .ok (.aload_n 0, 1) := by decide +kernel
theorem dX11_call_35 : decode cX11_call 35 = .ok (.iload_n 1, 1) := by decide +kernel
theorem dX11_call_36 : decode cX11_call 36 = .ok (.iload_n 2, 1) := by decide +kernel
theorem dX11_call_37 : decode cX11_call 37 = .ok (.iload_n 3, 1) := by decide +kernel
theorem dX11_call_38 : decode cX11_call 38 = .ok (.invokevirtual 185, 3) := by decide +kernel
theorem dX11_call_41 : decode cX11_call 41 = .ok (.ireturn, 1) := by decide +kernel
theorem dX11_owed_0 : decode cX11_owed 0 = .ok (.iconst 0, 1) := by decide +kernel
theorem dX11_owed_1 : decode cX11_owed 1 = .ok (.istore_n 1, 1) := by decide +kernel
theorem dX11_owed_2 : decode cX11_owed 2 = .ok (.iconst 0, 1) := by decide +kernel
theorem dX11_owed_3 : decode cX11_owed 3 = .ok (.istore_n 2, 1) := by decide +kernel
theorem dX11_owed_4 : decode cX11_owed 4 = .ok (.iload_n 2, 1) := by decide +kernel
theorem dX11_owed_5 : decode cX11_owed 5 = .ok (.aload_n 0, 1) := by decide +kernel
theorem dX11_owed_6 : decode cX11_owed 6 = .ok (.getfield 114, 3) := by decide +kernel
theorem dX11_owed_9 : decode cX11_owed 9 = .ok (.if_icmp .ge 26, 3) := by decide +kernel
theorem dX11_owed_12 : decode cX11_owed 12 = .ok (.iload_n 1, 1) := by decide +kernel
theorem dX11_owed_13 : decode cX11_owed 13 = .ok (.aload_n 0, 1) := by decide +kernel
theorem dX11_owed_14 : decode cX11_owed 14 = .ok (.iload_n 2, 1) := by decide +kernel
theorem dX11_owed_15 : decode cX11_owed 15 = .ok (.invokevirtual 214, 3) := by decide +kernel
theorem dX11_owed_18 : decode cX11_owed 18 = .ok (.iconst 3, 1) := by decide +kernel
theorem dX11_owed_19 : decode cX11_owed 19 = .ok (.if_icmp .ne 7, 3) := by decide +kernel
theorem dX11_owed_22 : decode cX11_owed 22 = .ok (.iconst 1, 1) := by decide +kernel
theorem dX11_owed_23 : decode cX11_owed 23 = .ok (.goto 4, 3) := by decide +kernel
theorem dX11_owed_26 : decode cX11_owed 26 = .ok (.iconst 0, 1) := by decide +kernel
theorem dX11_owed_27 : decode cX11_owed 27 = .ok (.iadd, 1) := by decide +kernel
theorem dX11_owed_28 : decode cX11_owed 28 = .ok (.istore_n 1, 1) := by decide +kernel
theorem dX11_owed_29 : decode cX11_owed 29 = .ok (.iinc 2 1, 3) := by decide +kernel
theorem dX11_owed_32 : decode cX11_owed 32 = .ok (.goto (-28), 3) := by decide +kernel
theorem dX11_owed_35 : decode cX11_owed 35 = .ok (.iload_n 1, 1) := by decide +kernel
theorem dX11_owed_36 : decode cX11_owed 36 = .ok (.ireturn, 1) := by decide +kernel
theorem dX11_shoot_0 : decode cX11_shoot 0 = .ok (.aload_n 0, 1) := by decide +kernel
theorem dX11_shoot_1 : decode cX11_shoot 1 = .ok (.iload_n 1, 1) := by decide +kernel
theorem dX11_shoot_2 : decode cX11_shoot 2 = .ok (.invokevirtual 131, 3) := by decide +kernel
theorem dX11_shoot_5 : decode cX11_shoot 5 = .ok (.istore_n 3, 1) := by decide +kernel
theorem dX11_shoot_6 : decode cX11_shoot 6 = .ok (.iload_n 3, 1) := by decide +kernel
theorem dX11_shoot_7 : decode cX11_shoot 7 = .ok (.ifCond .eq 29, 3) := by decide +kernel
theorem dX11_shoot_10 : decode cX11_shoot 10 = .ok (.aload_n 0, 1) := by decide +kernel
theorem dX11_shoot_11 : decode cX11_shoot 11 = .ok (.getfield 56, 3) := by decide +kernel
theorem dX11_shoot_14 : decode cX11_shoot 14 = .ok (.iload_n 1, 1) := by decide +kernel
theorem dX11_shoot_15 : decode cX11_shoot 15 = .ok (.iaload, 1) := by decide +kernel
theorem dX11_shoot_16 : decode cX11_shoot 16 = .ok (.aload_n 0, 1) := by decide +kernel
theorem dX11_shoot_17 : decode cX11_shoot 17 = .ok (.getfield 192, 3) := by decide +kernel
theorem dX11_shoot_20 : decode cX11_shoot 20 = .ok (.if_icmp .ne 16, 3) := by decide +kernel
theorem dX11_shoot_23 : decode cX11_shoot 23 = .ok (.aload_n 0, 1) := by decide +kernel
theorem dX11_shoot_24 : decode cX11_shoot 24 = .ok (.getfield 47, 3) := by decide +kernel
theorem dX11_shoot_27 : decode cX11_shoot 27 = .ok (.iload_n 1, 1) := by decide +kernel
theorem dX11_shoot_28 : decode cX11_shoot 28 = .ok (.baload, 1) := by decide +kernel
theorem dX11_shoot_29 : decode cX11_shoot 29 = .ok (.ifCond .ne 7, 3) := by decide +kernel
theorem dX11_shoot_32 : decode cX11_shoot 32 = .ok (.iconst 1, 1) := by decide +kernel
theorem dX11_shoot_33 : decode cX11_shoot 33 = .ok (.goto 4, 3) := by decide +kernel
theorem dX11_shoot_36 : decode cX11_shoot 36 = .ok (.iconst 0, 1) := by decide +kernel
theorem dX11_shoot_37 : decode cX11_shoot 37 = .ok (.istore 4, 2) := by decide +kernel
theorem dX11_shoot_39 : decode cX11_shoot 39 = .ok (.aload_n 0, 1) := by decide +kernel
theorem dX11_shoot_40 : decode cX11_shoot 40 = .ok (.iload_n 3, 1) := by decide +kernel
theorem dX11_shoot_41 : decode cX11_shoot 41 = .ok (.ifCond .ne 7, 3) := by decide +kernel
theorem dX11_shoot_44 : decode cX11_shoot 44 = .ok (.iconst 1, 1) := by decide +kernel
theorem dX11_shoot_45 : decode cX11_shoot 45 = .ok (.goto 28, 3) := by decide +kernel
theorem dX11_shoot_48 : decode cX11_shoot 48 = .ok (.iload_n 2, 1) := by decide +kernel
theorem dX11_shoot_49 : decode cX11_shoot 49 = .ok (.iconst 1, 1) := by decide +kernel
theorem dX11_shoot_50 : decode cX11_shoot 50 = .ok (.sipush 1000, 3) := by decide +kernel
theorem dX11_shoot_53 : decode cX11_shoot 53 = .ok (.invokestatic 117, 3) := by decide +kernel
theorem dX11_shoot_56 : decode cX11_shoot 56 = .ok (.ifCond .ne 7, 3) := by decide +kernel
theorem dX11_shoot_59 : decode cX11_shoot 59 = .ok (.iconst 2, 1) := by decide +kernel
theorem dX11_shoot_60 : decode cX11_shoot 60 = .ok (.goto 13, 3) := by decide +kernel
theorem dX11_shoot_63 : decode cX11_shoot 63 = .ok (.iload 4, 2) := by decide +kernel
theorem dX11_shoot_65 : decode cX11_shoot 65 = .ok (.ifCond .eq 7, 3) := by decide +kernel
theorem dX11_shoot_68 : decode cX11_shoot 68 = .ok (.iconst 0, 1) := by decide +kernel
theorem dX11_shoot_69 : decode cX11_shoot 69 = .ok (.goto 4, 3) := by decide +kernel
theorem dX11_shoot_72 : decode cX11_shoot 72 = .ok (.iconst 3, 1) := by decide +kernel
theorem dX11_shoot_73 : decode cX11_shoot 73 = .ok (.invokevirtual 138, 3) := by decide +kernel
theorem dX11_shoot_76 : decode cX11_shoot 76 = .ok (.ifCond .ne 5, 3) := by decide +kernel
theorem dX11_shoot_79 : decode cX11_shoot 79 = .ok (.iconst 0, 1) := by decide +kernel
theorem dX11_shoot_80 : decode cX11_shoot 80 = .ok (.ireturn, 1) := by decide +kernel
theorem dX11_shoot_81 : decode cX11_shoot 81 = .ok (.aload_n 0, 1) := by decide +kernel
theorem dX11_shoot_82 : decode cX11_shoot 82 = .ok (.getfield 47, 3) := by decide +kernel
theorem dX11_shoot_85 : decode cX11_shoot 85 = .ok (.iload_n 1, 1) := by decide +kernel
theorem dX11_shoot_86 : decode cX11_shoot 86 = .ok (.iconst 1, 1) := by decide +kernel
theorem dX11_shoot_87 : decode cX11_shoot 87 = .ok (.bastore, 1) := by decide +kernel
theorem dX11_shoot_88 : decode cX11_shoot 88 = .ok (.aload_n 0, 1) := by decide +kernel
theorem dX11_shoot_89 : decode cX11_shoot 89 = .ok (.getfield 50, 3) := by decide +kernel
theorem dX11_shoot_92 : decode cX11_shoot 92 = .ok (.iload_n 1, 1) := by decide +kernel
theorem dX11_shoot_93 : decode cX11_shoot 93 = .ok (.iconst 0, 1) := by decide +kernel
theorem dX11_shoot_94 : decode cX11_shoot 94 = .ok (.bastore, 1) := by decide +kernel
theorem dX11_shoot_95 : decode cX11_shoot 95 = .ok (.aload_n 0, 1) := by decide +kernel
theorem dX11_shoot_96 : decode cX11_shoot 96 = .ok (.getfield 53, 3) := by decide +kernel
theorem dX11_shoot_99 : decode cX11_shoot 99 = .ok (.iload_n 1, 1) := by decide +kernel
theorem dX11_shoot_100 : decode cX11_shoot 100 = .ok (.iload_n 2, 1) := by decide +kernel
theorem dX11_shoot_101 : decode cX11_shoot 101 = .ok (.iastore, 1) := by decide +kernel
theorem dX11_shoot_102 : decode cX11_shoot 102 = .ok (.aload_n 0, 1) := by decide +kernel
theorem dX11_shoot_103 : decode cX11_shoot 103 = .ok (.dup, 1) := by decide +kernel
theorem dX11_shoot_104 : decode cX11_shoot 104 = .ok (.getfield 175, 3) := by decide +kernel
theorem dX11_shoot_107 : decode cX11_shoot 107 = .ok (.iload_n 2, 1) := by decide +kernel
theorem dX11_shoot_108 : decode cX11_shoot 108 = .ok (.iadd, 1) := by decide +kernel
theorem dX11_shoot_109 : decode cX11_shoot 109 = .ok (.putfield 175, 3) := by decide +kernel
theorem dX11_shoot_112 : decode cX11_shoot 112 = .ok (.aload_n 0, 1) := by decide +kernel
theorem dX11_shoot_113 : decode cX11_shoot 113 = .ok (.dup, 1) := by decide +kernel
theorem dX11_shoot_114 : decode cX11_shoot 114 = .ok (.getfield 172, 3) := by decide +kernel
theorem dX11_shoot_117 : decode cX11_shoot 117 = .ok (.aload_n 0, 1) := by decide +kernel
theorem dX11_shoot_118 : decode cX11_shoot 118 = .ok (.getfield 29, 3) := by decide +kernel
theorem dX11_shoot_121 : decode cX11_shoot 121 = .ok (.iload_n 1, 1) := by decide +kernel
theorem dX11_shoot_122 : decode cX11_shoot 122 = .ok (.iaload, 1) := by decide +kernel
theorem dX11_shoot_123 : decode cX11_shoot 123 = .ok (.iadd, 1) := by decide +kernel
theorem dX11_shoot_124 : decode cX11_shoot 124 = .ok (.putfield 172, 3) := by decide +kernel
theorem dX11_shoot_127 : decode cX11_shoot 127 = .ok (.aload_n 0, 1) := by decide +kernel
theorem dX11_shoot_128 : decode cX11_shoot 128 = .ok (.invokevirtual 178, 3) := by decide +kernel
theorem dX11_shoot_131 : decode cX11_shoot 131 = .ok (.ireturn, 1) := by decide +kernel
theorem dX11_lose_0 : decode cX11_lose 0 = .ok (.aload_n 0, 1) := by decide +kernel
theorem dX11_lose_1 : decode cX11_lose 1 = .ok (.iload_n 1, 1) := by decide +kernel
theorem dX11_lose_2 : decode cX11_lose 2 = .ok (.invokevirtual 131, 3) := by decide +kernel
theorem dX11_lose_5 : decode cX11_lose 5 = .ok (.istore_n 2, 1) := by decide +kernel
theorem dX11_lose_6 : decode cX11_lose 6 = .ok (.aload_n 0, 1) := by decide +kernel
theorem dX11_lose_7 : decode cX11_lose 7 = .ok (.iload_n 2, 1) := by decide +kernel
theorem dX11_lose_8 : decode cX11_lose 8 = .ok (.ifCond .ne 7, 3) := by decide +kernel
theorem dX11_lose_11 : decode cX11_lose 11 = .ok (.iconst 1, 1) := by decide +kernel
theorem dX11_lose_12 : decode cX11_lose 12 = .ok (.goto 17, 3) := by decide +kernel
theorem dX11_lose_15 : decode cX11_lose 15 = .ok (.aload_n 0, 1) := by decide +kernel
theorem dX11_lose_16 : decode cX11_lose 16 = .ok (.getfield 47, 3) := by decide +kernel
theorem dX11_lose_19 : decode cX11_lose 19 = .ok (.iload_n 1, 1) := by decide +kernel
theorem dX11_lose_20 : decode cX11_lose 20 = .ok (.baload, 1) := by decide +kernel
theorem dX11_lose_21 : decode cX11_lose 21 = .ok (.ifCond .eq 7, 3) := by decide +kernel
theorem dX11_lose_24 : decode cX11_lose 24 = .ok (.iconst 0, 1) := by decide +kernel
theorem dX11_lose_25 : decode cX11_lose 25 = .ok (.goto 4, 3) := by decide +kernel
theorem dX11_lose_28 : decode cX11_lose 28 = .ok (.iconst 2, 1) := by decide +kernel
theorem dX11_lose_29 : decode cX11_lose 29 = .ok (.invokevirtual 138, 3) := by decide +kernel
theorem dX11_lose_32 : decode cX11_lose 32 = .ok (.ifCond .ne 5, 3) := by decide +kernel
theorem dX11_lose_35 : decode cX11_lose 35 = .ok (.iconst 0, 1) := by decide +kernel
theorem dX11_lose_36 : decode cX11_lose 36 = .ok (.ireturn, 1) := by decide +kernel
theorem dX11_lose_37 : decode cX11_lose 37 = .ok (.aload_n 0, 1) := by decide +kernel
theorem dX11_lose_38 : decode cX11_lose 38 = .ok (.getfield 47, 3) := by decide +kernel
theorem dX11_lose_41 : decode cX11_lose 41 = .ok (.iload_n 1, 1) := by decide +kernel
theorem dX11_lose_42 : decode cX11_lose 42 = .ok (.iconst 0, 1) := by decide +kernel
theorem dX11_lose_43 : decode cX11_lose 43 = .ok (.bastore, 1) := by decide +kernel
theorem dX11_lose_44 : decode cX11_lose 44 = .ok (.aload_n 0, 1) := by decide +kernel
theorem dX11_lose_45 : decode cX11_lose 45 = .ok (.getfield 50, 3) := by decide +kernel
theorem dX11_lose_48 : decode cX11_lose 48 = .ok (.iload_n 1, 1) := by decide +kernel
theorem dX11_lose_49 : decode cX11_lose 49 = .ok (.iconst 1, 1) := by decide +kernel
theorem dX11_lose_50 : decode cX11_lose 50 = .ok (.bastore, 1) := by decide +kernel
theorem dX11_lose_51 : decode cX11_lose 51 = .ok (.aload_n 0, 1) := by decide +kernel
theorem dX11_lose_52 : decode cX11_lose 52 = .ok (.iload_n 1, 1) := by decide +kernel
theorem dX11_lose_53 : decode cX11_lose 53 = .ok (.invokevirtual 148, 3) := by decide +kernel
theorem dX11_lose_56 : decode cX11_lose 56 = .ok (.aload_n 0, 1) := by decide +kernel
theorem dX11_lose_57 : decode cX11_lose 57 = .ok (.invokevirtual 217, 3) := by decide +kernel
theorem dX11_lose_60 : decode cX11_lose 60 = .ok (.ireturn, 1) := by decide +kernel
theorem dX11_next_0 : decode cX11_next 0 = .ok (.aload_n 0, 1) := by decide +kernel
theorem dX11_next_1 : decode cX11_next 1 = .ok (.aload_n 0, 1) := by decide +kernel
theorem dX11_next_2 : decode cX11_next 2 = .ok (.getfield 192, 3) := by decide +kernel
theorem dX11_next_5 : decode cX11_next 5 = .ok (.bipush 29, 2) := by decide +kernel
theorem dX11_next_7 : decode cX11_next 7 = .ok (.if_icmp .ne 7, 3) := by decide +kernel
theorem dX11_next_10 : decode cX11_next 10 = .ok (.iconst 1, 1) := by decide +kernel
theorem dX11_next_11 : decode cX11_next 11 = .ok (.goto 4, 3) := by decide +kernel
theorem dX11_next_14 : decode cX11_next 14 = .ok (.iconst 0, 1) := by decide +kernel
theorem dX11_next_15 : decode cX11_next 15 = .ok (.invokevirtual 138, 3) := by decide +kernel
theorem dX11_next_18 : decode cX11_next 18 = .ok (.ifCond .ne 5, 3) := by decide +kernel
theorem dX11_next_21 : decode cX11_next 21 = .ok (.iconst 0, 1) := by decide +kernel
theorem dX11_next_22 : decode cX11_next 22 = .ok (.ireturn, 1) := by decide +kernel
theorem dX11_next_23 : decode cX11_next 23 = .ok (.aload_n 0, 1) := by decide +kernel
theorem dX11_next_24 : decode cX11_next 24 = .ok (.getfield 95, 3) := by decide +kernel
theorem dX11_next_27 : decode cX11_next 27 = .ok (.aload_n 0, 1) := by decide +kernel
theorem dX11_next_28 : decode cX11_next 28 = .ok (.getfield 192, 3) := by decide +kernel
theorem dX11_next_31 : decode cX11_next 31 = .ok (.iaload, 1) := by decide +kernel
theorem dX11_next_32 : decode cX11_next 32 = .ok (.iconst 1, 1) := by decide +kernel
theorem dX11_next_33 : decode cX11_next 33 = .ok (.isub, 1) := by decide +kernel
theorem dX11_next_34 : decode cX11_next 34 = .ok (.istore_n 1, 1) := by decide +kernel
theorem dX11_next_35 : decode cX11_next 35 = .ok (.iload_n 1, 1) := by decide +kernel
theorem dX11_next_36 : decode cX11_next 36 = .ok (.ifCond .lt 45, 3) := by decide +kernel
theorem dX11_next_39 : decode cX11_next 39 = .ok (.aload_n 0, 1) := by decide +kernel
theorem dX11_next_40 : decode cX11_next 40 = .ok (.getfield 92, 3) := by decide +kernel
theorem dX11_next_43 : decode cX11_next 43 = .ok (.bipush 8, 2) := by decide +kernel
theorem dX11_next_45 : decode cX11_next 45 = .ok (.aload_n 0, 1) := by decide +kernel
theorem dX11_next_46 : decode cX11_next 46 = .ok (.getfield 192, 3) := by decide +kernel
theorem dX11_next_49 : decode cX11_next 49 = .ok (.imul, 1) := by decide +kernel
theorem dX11_next_50 : decode cX11_next 50 = .ok (.iload_n 1, 1) := by decide +kernel
theorem dX11_next_51 : decode cX11_next 51 = .ok (.iadd, 1) := by decide +kernel
theorem dX11_next_52 : decode cX11_next 52 = .ok (.iaload, 1) := by decide +kernel
theorem dX11_next_53 : decode cX11_next 53 = .ok (.istore_n 2, 1) := by decide +kernel
theorem dX11_next_54 : decode cX11_next 54 = .ok (.aload_n 0, 1) := by decide +kernel
theorem dX11_next_55 : decode cX11_next 55 = .ok (.getfield 47, 3) := by decide +kernel
theorem dX11_next_58 : decode cX11_next 58 = .ok (.iload_n 2, 1) := by decide +kernel
theorem dX11_next_59 : decode cX11_next 59 = .ok (.baload, 1) := by decide +kernel
theorem dX11_next_60 : decode cX11_next 60 = .ok (.ifCond .ne 15, 3) := by decide +kernel
theorem dX11_next_63 : decode cX11_next 63 = .ok (.aload_n 0, 1) := by decide +kernel
theorem dX11_next_64 : decode cX11_next 64 = .ok (.getfield 50, 3) := by decide +kernel
theorem dX11_next_67 : decode cX11_next 67 = .ok (.iload_n 2, 1) := by decide +kernel
theorem dX11_next_68 : decode cX11_next 68 = .ok (.iconst 1, 1) := by decide +kernel
theorem dX11_next_69 : decode cX11_next 69 = .ok (.bastore, 1) := by decide +kernel
theorem dX11_next_70 : decode cX11_next 70 = .ok (.aload_n 0, 1) := by decide +kernel
theorem dX11_next_71 : decode cX11_next 71 = .ok (.iload_n 2, 1) := by decide +kernel
theorem dX11_next_72 : decode cX11_next 72 = .ok (.invokevirtual 148, 3) := by decide +kernel
theorem dX11_next_75 : decode cX11_next 75 = .ok (.iinc 1 (-1), 3) := by decide +kernel
theorem dX11_next_78 : decode cX11_next 78 = .ok (.goto (-43), 3) := by decide +kernel
theorem dX11_next_81 : decode cX11_next 81 = .ok (.aload_n 0, 1) := by decide +kernel
theorem dX11_next_82 : decode cX11_next 82 = .ok (.dup, 1) := by decide +kernel
theorem dX11_next_83 : decode cX11_next 83 = .ok (.getfield 192, 3) := by decide +kernel
theorem dX11_next_86 : decode cX11_next 86 = .ok (.iconst 1, 1) := by decide +kernel
theorem dX11_next_87 : decode cX11_next 87 = .ok (.iadd, 1) := by decide +kernel
theorem dX11_next_88 : decode cX11_next 88 = .ok (.putfield 192, 3) := by decide +kernel
theorem dX11_next_91 : decode cX11_next 91 = .ok (.aload_n 0, 1) := by decide +kernel
theorem dX11_next_92 : decode cX11_next 92 = .ok (.invokevirtual 217, 3) := by decide +kernel
theorem dX11_next_95 : decode cX11_next 95 = .ok (.ireturn, 1) := by decide +kernel
theorem dX11_works_0 : decode cX11_works 0 = .ok (.iconst 0, 1) := by decide +kernel
theorem dX11_works_1 : decode cX11_works 1 = .ok (.istore_n 3, 1) := by decide +kernel
theorem dX11_works_2 : decode cX11_works 2 = .ok (.iconst 0, 1) := by decide +kernel
theorem dX11_works_3 : decode cX11_works 3 = .ok (.istore 4, 2) := by decide +kernel
theorem dX11_works_5 : decode cX11_works 5 = .ok (.iload 4, 2) := by decide +kernel
theorem dX11_works_7 : decode cX11_works 7 = .ok (.aload_n 0, 1) := by decide +kernel
theorem dX11_works_8 : decode cX11_works 8 = .ok (.getfield 95, 3) := by decide +kernel
theorem dX11_works_11 : decode cX11_works 11 = .ok (.iload_n 2, 1) := by decide +kernel
theorem dX11_works_12 : decode cX11_works 12 = .ok (.iaload, 1) := by decide +kernel
theorem dX11_works_13 : decode cX11_works 13 = .ok (.if_icmp .ge 43, 3) := by decide +kernel
theorem dX11_works_16 : decode cX11_works 16 = .ok (.iload_n 3, 1) := by decide +kernel
theorem dX11_works_17 : decode cX11_works 17 = .ok (.ifCond .ne 27, 3) := by decide +kernel
theorem dX11_works_20 : decode cX11_works 20 = .ok (.aload_n 0, 1) := by decide +kernel
theorem dX11_works_21 : decode cX11_works 21 = .ok (.getfield 32, 3) := by decide +kernel
theorem dX11_works_24 : decode cX11_works 24 = .ok (.aload_n 0, 1) := by decide +kernel
theorem dX11_works_25 : decode cX11_works 25 = .ok (.getfield 92, 3) := by decide +kernel
theorem dX11_works_28 : decode cX11_works 28 = .ok (.bipush 8, 2) := by decide +kernel
theorem dX11_works_30 : decode cX11_works 30 = .ok (.iload_n 2, 1) := by decide +kernel
theorem dX11_works_31 : decode cX11_works 31 = .ok (.imul, 1) := by decide +kernel
theorem dX11_works_32 : decode cX11_works 32 = .ok (.iload 4, 2) := by decide +kernel
theorem dX11_works_34 : decode cX11_works 34 = .ok (.iadd, 1) := by decide +kernel
theorem dX11_works_35 : decode cX11_works 35 = .ok (.iaload, 1) := by decide +kernel
theorem dX11_works_36 : decode cX11_works 36 = .ok (.iaload, 1) := by decide +kernel
theorem dX11_works_37 : decode cX11_works 37 = .ok (.iload_n 1, 1) := by decide +kernel
theorem dX11_works_38 : decode cX11_works 38 = .ok (.invokestatic 158, 3) := by decide +kernel
theorem dX11_works_41 : decode cX11_works 41 = .ok (.ifCond .eq 7, 3) := by decide +kernel
theorem dX11_works_44 : decode cX11_works 44 = .ok (.iconst 1, 1) := by decide +kernel
theorem dX11_works_45 : decode cX11_works 45 = .ok (.goto 4, 3) := by decide +kernel
theorem dX11_works_48 : decode cX11_works 48 = .ok (.iconst 0, 1) := by decide +kernel
theorem dX11_works_49 : decode cX11_works 49 = .ok (.istore_n 3, 1) := by decide +kernel
theorem dX11_works_50 : decode cX11_works 50 = .ok (.iinc 4 1, 3) := by decide +kernel
theorem dX11_works_53 : decode cX11_works 53 = .ok (.goto (-48), 3) := by decide +kernel
theorem dX11_works_56 : decode cX11_works 56 = .ok (.iload_n 3, 1) := by decide +kernel
theorem dX11_works_57 : decode cX11_works 57 = .ok (.ireturn, 1) := by decide +kernel
theorem dX11_days_0 : decode cX11_days 0 = .ok (.iconst 0, 1) := by decide +kernel
theorem dX11_days_1 : decode cX11_days 1 = .ok (.istore_n 2, 1) := by decide +kernel
theorem dX11_days_2 : decode cX11_days 2 = .ok (.iconst 0, 1) := by decide +kernel
theorem dX11_days_3 : decode cX11_days 3 = .ok (.istore_n 3, 1) := by decide +kernel
theorem dX11_days_4 : decode cX11_days 4 = .ok (.iload_n 3, 1) := by decide +kernel
theorem dX11_days_5 : decode cX11_days 5 = .ok (.bipush 30, 2) := by decide +kernel
theorem dX11_days_7 : decode cX11_days 7 = .ok (.if_icmp .ge 28, 3) := by decide +kernel
theorem dX11_days_10 : decode cX11_days 10 = .ok (.iload_n 2, 1) := by decide +kernel
theorem dX11_days_11 : decode cX11_days 11 = .ok (.aload_n 0, 1) := by decide +kernel
theorem dX11_days_12 : decode cX11_days 12 = .ok (.iload_n 1, 1) := by decide +kernel
theorem dX11_days_13 : decode cX11_days 13 = .ok (.iload_n 3, 1) := by decide +kernel
theorem dX11_days_14 : decode cX11_days 14 = .ok (.invokevirtual 220, 3) := by decide +kernel
theorem dX11_days_17 : decode cX11_days 17 = .ok (.ifCond .eq 9, 3) := by decide +kernel
theorem dX11_days_20 : decode cX11_days 20 = .ok (.iconst 1, 1) := by decide +kernel
theorem dX11_days_21 : decode cX11_days 21 = .ok (.iload_n 3, 1) := by decide +kernel
theorem dX11_days_22 : decode cX11_days 22 = .ok (.ishl, 1) := by decide +kernel
theorem dX11_days_23 : decode cX11_days 23 = .ok (.goto 4, 3) := by decide +kernel
theorem dX11_days_26 : decode cX11_days 26 = .ok (.iconst 0, 1) := by decide +kernel
theorem dX11_days_27 : decode cX11_days 27 = .ok (.ior, 1) := by decide +kernel
theorem dX11_days_28 : decode cX11_days 28 = .ok (.istore_n 2, 1) := by decide +kernel
theorem dX11_days_29 : decode cX11_days 29 = .ok (.iinc 3 1, 3) := by decide +kernel
theorem dX11_days_32 : decode cX11_days 32 = .ok (.goto (-28), 3) := by decide +kernel
theorem dX11_days_35 : decode cX11_days 35 = .ok (.iload_n 2, 1) := by decide +kernel
theorem dX11_days_36 : decode cX11_days 36 = .ok (.ireturn, 1) := by decide +kernel
theorem dX11_weeks_0 : decode cX11_weeks 0 = .ok (.iconst 0, 1) := by decide +kernel
theorem dX11_weeks_1 : decode cX11_weeks 1 = .ok (.istore_n 1, 1) := by decide +kernel
theorem dX11_weeks_2 : decode cX11_weeks 2 = .ok (.iconst 0, 1) := by decide +kernel
theorem dX11_weeks_3 : decode cX11_weeks 3 = .ok (.istore_n 2, 1) := by decide +kernel
theorem dX11_weeks_4 : decode cX11_weeks 4 = .ok (.iload_n 2, 1) := by decide +kernel
theorem dX11_weeks_5 : decode cX11_weeks 5 = .ok (.bipush 30, 2) := by decide +kernel
theorem dX11_weeks_7 : decode cX11_weeks 7 = .ok (.if_icmp .ge 26, 3) := by decide +kernel
theorem dX11_weeks_10 : decode cX11_weeks 10 = .ok (.iload_n 1, 1) := by decide +kernel
theorem dX11_weeks_11 : decode cX11_weeks 11 = .ok (.iload_n 0, 1) := by decide +kernel
theorem dX11_weeks_12 : decode cX11_weeks 12 = .ok (.iload_n 2, 1) := by decide +kernel
theorem dX11_weeks_13 : decode cX11_weeks 13 = .ok (.ishr, 1) := by decide +kernel
theorem dX11_weeks_14 : decode cX11_weeks 14 = .ok (.bipush 127, 2) := by decide +kernel
theorem dX11_weeks_16 : decode cX11_weeks 16 = .ok (.iand, 1) := by decide +kernel
theorem dX11_weeks_17 : decode cX11_weeks 17 = .ok (.ifCond .eq 7, 3) := by decide +kernel
theorem dX11_weeks_20 : decode cX11_weeks 20 = .ok (.iconst 1, 1) := by decide +kernel
theorem dX11_weeks_21 : decode cX11_weeks 21 = .ok (.goto 4, 3) := by decide +kernel
theorem dX11_weeks_24 : decode cX11_weeks 24 = .ok (.iconst 0, 1) := by decide +kernel
theorem dX11_weeks_25 : decode cX11_weeks 25 = .ok (.iadd, 1) := by decide +kernel
theorem dX11_weeks_26 : decode cX11_weeks 26 = .ok (.istore_n 1, 1) := by decide +kernel
theorem dX11_weeks_27 : decode cX11_weeks 27 = .ok (.iinc 2 7, 3) := by decide +kernel
theorem dX11_weeks_30 : decode cX11_weeks 30 = .ok (.goto (-26), 3) := by decide +kernel
theorem dX11_weeks_33 : decode cX11_weeks 33 = .ok (.iload_n 1, 1) := by decide +kernel
theorem dX11_weeks_34 : decode cX11_weeks 34 = .ok (.ireturn, 1) := by decide +kernel
theorem dX11_run_0 : decode cX11_run 0 = .ok (.iconst 0, 1) := by decide +kernel
theorem dX11_run_1 : decode cX11_run 1 = .ok (.istore_n 1, 1) := by decide +kernel
theorem dX11_run_2 : decode cX11_run 2 = .ok (.iconst (-1), 1) := by decide +kernel
theorem dX11_run_3 : decode cX11_run 3 = .ok (.istore_n 2, 1) := by decide +kernel
theorem dX11_run_4 : decode cX11_run 4 = .ok (.iconst 0, 1) := by decide +kernel
theorem dX11_run_5 : decode cX11_run 5 = .ok (.istore_n 3, 1) := by decide +kernel
theorem dX11_run_6 : decode cX11_run 6 = .ok (.iload_n 3, 1) := by decide +kernel
theorem dX11_run_7 : decode cX11_run 7 = .ok (.bipush 30, 2) := by decide +kernel
theorem dX11_run_9 : decode cX11_run 9 = .ok (.if_icmp .ge 42, 3) := by decide +kernel
theorem dX11_run_12 : decode cX11_run 12 = .ok (.iload_n 0, 1) := by decide +kernel
theorem dX11_run_13 : decode cX11_run 13 = .ok (.iload_n 3, 1) := by decide +kernel
theorem dX11_run_14 : decode cX11_run 14 = .ok (.invokestatic 158, 3) := by decide +kernel
theorem dX11_run_17 : decode cX11_run 17 = .ok (.ifCond .eq 28, 3) := by decide +kernel
theorem dX11_run_20 : decode cX11_run 20 = .ok (.iload_n 1, 1) := by decide +kernel
theorem dX11_run_21 : decode cX11_run 21 = .ok (.iload_n 2, 1) := by decide +kernel
theorem dX11_run_22 : decode cX11_run 22 = .ok (.iconst (-1), 1) := by decide +kernel
theorem dX11_run_23 : decode cX11_run 23 = .ok (.if_icmp .eq 11, 3) := by decide +kernel
theorem dX11_run_26 : decode cX11_run 26 = .ok (.iload_n 3, 1) := by decide +kernel
theorem dX11_run_27 : decode cX11_run 27 = .ok (.iload_n 2, 1) := by decide +kernel
theorem dX11_run_28 : decode cX11_run 28 = .ok (.isub, 1) := by decide +kernel
theorem dX11_run_29 : decode cX11_run 29 = .ok (.bipush 10, 2) := by decide +kernel
theorem dX11_run_31 : decode cX11_run 31 = .ok (.if_icmp .le 7, 3) := by decide +kernel
theorem dX11_run_34 : decode cX11_run 34 = .ok (.iconst 1, 1) := by decide +kernel
theorem dX11_run_35 : decode cX11_run 35 = .ok (.goto 6, 3) := by decide +kernel
theorem dX11_run_38 : decode cX11_run 38 = .ok (.iload_n 3, 1) := by decide +kernel
theorem dX11_run_39 : decode cX11_run 39 = .ok (.iload_n 2, 1) := by decide +kernel
theorem dX11_run_40 : decode cX11_run 40 = .ok (.isub, 1) := by decide +kernel
theorem dX11_run_41 : decode cX11_run 41 = .ok (.iadd, 1) := by decide +kernel
theorem dX11_run_42 : decode cX11_run 42 = .ok (.istore_n 1, 1) := by decide +kernel
theorem dX11_run_43 : decode cX11_run 43 = .ok (.iload_n 3, 1) := by decide +kernel
theorem dX11_run_44 : decode cX11_run 44 = .ok (.istore_n 2, 1) := by decide +kernel
theorem dX11_run_45 : decode cX11_run 45 = .ok (.iinc 3 1, 3) := by decide +kernel
theorem dX11_run_48 : decode cX11_run 48 = .ok (.goto (-42), 3) := by decide +kernel
theorem dX11_run_51 : decode cX11_run 51 = .ok (.iload_n 1, 1) := by decide +kernel
theorem dX11_run_52 : decode cX11_run 52 = .ok (.ireturn, 1) := by decide +kernel
theorem dX11_hours_0 : decode cX11_hours 0 = .ok (.iload_n 0, 1) := by decide +kernel
theorem dX11_hours_1 : decode cX11_hours 1 = .ok (.ifCond .le 13, 3) := by decide +kernel
theorem dX11_hours_4 : decode cX11_hours 4 = .ok (.iload_n 0, 1) := by decide +kernel
theorem dX11_hours_5 : decode cX11_hours 5 = .ok (.bipush 59, 2) := by decide +kernel
theorem dX11_hours_7 : decode cX11_hours 7 = .ok (.iadd, 1) := by decide +kernel
theorem dX11_hours_8 : decode cX11_hours 8 = .ok (.bipush 60, 2) := by decide +kernel
theorem dX11_hours_10 : decode cX11_hours 10 = .ok (.idiv, 1) := by decide +kernel
theorem dX11_hours_11 : decode cX11_hours 11 = .ok (.goto 4, 3) := by decide +kernel
theorem dX11_hours_14 : decode cX11_hours 14 = .ok (.iconst 0, 1) := by decide +kernel
theorem dX11_hours_15 : decode cX11_hours 15 = .ok (.ireturn, 1) := by decide +kernel
theorem dX11_besides_0 : decode cX11_besides 0 = .ok (.iconst 0, 1) := by decide +kernel
theorem dX11_besides_1 : decode cX11_besides 1 = .ok (.istore_n 3, 1) := by decide +kernel
theorem dX11_besides_2 : decode cX11_besides 2 = .ok (.sipush (-10000), 3) := by decide +kernel
theorem dX11_besides_5 : decode cX11_besides 5 = .ok (.istore 4, 2) := by decide +kernel
theorem dX11_besides_7 : decode cX11_besides 7 = .ok (.iconst 0, 1) := by decide +kernel
theorem dX11_besides_8 : decode cX11_besides 8 = .ok (.istore 5, 2) := by decide +kernel
theorem dX11_besides_10 : decode cX11_besides 10 = .ok (.iload 5, 2) := by decide +kernel
theorem dX11_besides_12 : decode cX11_besides 12 = .ok (.bipush 30, 2) := by decide +kernel
theorem dX11_besides_14 : decode cX11_besides 14 = .ok (.if_icmp .ge 164, 3) := by decide +kernel
theorem dX11_besides_17 : decode cX11_besides 17 = .ok (.iload_n 2, 1) := by decide +kernel
theorem dX11_besides_18 : decode cX11_besides 18 = .ok (.iload 5, 2) := by decide +kernel
theorem dX11_besides_20 : decode cX11_besides 20 = .ok (.invokestatic 158, 3) := by decide +kernel
theorem dX11_besides_23 : decode cX11_besides 23 = .ok (.ifCond .eq 149, 3) := by decide +kernel
theorem dX11_besides_26 : decode cX11_besides 26 = .ok (.aload_n 0, 1) := by decide +kernel
theorem dX11_besides_27 : decode cX11_besides 27 = .ok (.iload 5, 2) := by decide +kernel
theorem dX11_besides_29 : decode cX11_besides 29 = .ok (.invokevirtual 199, 3) := by decide +kernel
theorem dX11_besides_32 : decode cX11_besides 32 = .ok (.aload_n 0, 1) := by decide +kernel
theorem dX11_besides_33 : decode cX11_besides 33 = .ok (.iload_n 1, 1) := by decide +kernel
theorem dX11_besides_34 : decode cX11_besides 34 = .ok (.iload 5, 2) := by decide +kernel
theorem dX11_besides_36 : decode cX11_besides 36 = .ok (.iconst 0, 1) := by decide +kernel
theorem dX11_besides_37 : decode cX11_besides 37 = .ok (.invokevirtual 185, 3) := by decide +kernel
theorem dX11_besides_40 : decode cX11_besides 40 = .ok (.istore 6, 2) := by decide +kernel
theorem dX11_besides_42 : decode cX11_besides 42 = .ok (.aload_n 0, 1) := by decide +kernel
theorem dX11_besides_43 : decode cX11_besides 43 = .ok (.iload_n 1, 1) := by decide +kernel
theorem dX11_besides_44 : decode cX11_besides 44 = .ok (.iload 5, 2) := by decide +kernel
theorem dX11_besides_46 : decode cX11_besides 46 = .ok (.iconst 1, 1) := by decide +kernel
theorem dX11_besides_47 : decode cX11_besides 47 = .ok (.invokevirtual 185, 3) := by decide +kernel
theorem dX11_besides_50 : decode cX11_besides 50 = .ok (.istore 7, 2) := by decide +kernel
theorem dX11_besides_52 : decode cX11_besides 52 = .ok (.iload_n 3, 1) := by decide +kernel
theorem dX11_besides_53 : decode cX11_besides 53 = .ok (.iload 7, 2) := by decide +kernel
theorem dX11_besides_55 : decode cX11_besides 55 = .ok (.iload 6, 2) := by decide +kernel
theorem dX11_besides_57 : decode cX11_besides 57 = .ok (.isub, 1) := by decide +kernel
theorem dX11_besides_58 : decode cX11_besides 58 = .ok (.sipush 600, 3) := by decide +kernel
theorem dX11_besides_61 : decode cX11_besides 61 = .ok (.isub, 1) := by decide +kernel
theorem dX11_besides_62 : decode cX11_besides 62 = .ok (.invokestatic 223, 3) := by decide +kernel
theorem dX11_besides_65 : decode cX11_besides 65 = .ok (.iload 7, 2) := by decide +kernel
theorem dX11_besides_67 : decode cX11_besides 67 = .ok (.sipush 1320, 3) := by decide +kernel
theorem dX11_besides_70 : decode cX11_besides 70 = .ok (.isub, 1) := by decide +kernel
theorem dX11_besides_71 : decode cX11_besides 71 = .ok (.invokestatic 223, 3) := by decide +kernel
theorem dX11_besides_74 : decode cX11_besides 74 = .ok (.iadd, 1) := by decide +kernel
theorem dX11_besides_75 : decode cX11_besides 75 = .ok (.aload_n 0, 1) := by decide +kernel
theorem dX11_besides_76 : decode cX11_besides 76 = .ok (.getfield 62, 3) := by decide +kernel
theorem dX11_besides_79 : decode cX11_besides 79 = .ok (.iload_n 1, 1) := by decide +kernel
theorem dX11_besides_80 : decode cX11_besides 80 = .ok (.iaload, 1) := by decide +kernel
theorem dX11_besides_81 : decode cX11_besides 81 = .ok (.bipush 10, 2) := by decide +kernel
theorem dX11_besides_83 : decode cX11_besides 83 = .ok (.idiv, 1) := by decide +kernel
theorem dX11_besides_84 : decode cX11_besides 84 = .ok (.imul, 1) := by decide +kernel
theorem dX11_besides_85 : decode cX11_besides 85 = .ok (.iadd, 1) := by decide +kernel
theorem dX11_besides_86 : decode cX11_besides 86 = .ok (.istore_n 3, 1) := by decide +kernel
theorem dX11_besides_87 : decode cX11_besides 87 = .ok (.iload_n 3, 1) := by decide +kernel
theorem dX11_besides_88 : decode cX11_besides 88 = .ok (.iload 5, 2) := by decide +kernel
theorem dX11_besides_90 : decode cX11_besides 90 = .ok (.ifCond .le 40, 3) := by decide +kernel
theorem dX11_besides_93 : decode cX11_besides 93 = .ok (.iload_n 2, 1) := by decide +kernel
theorem dX11_besides_94 : decode cX11_besides 94 = .ok (.iload 5, 2) := by decide +kernel
theorem dX11_besides_96 : decode cX11_besides 96 = .ok (.iconst 1, 1) := by decide +kernel
theorem dX11_besides_97 : decode cX11_besides 97 = .ok (.isub, 1) := by decide +kernel
theorem dX11_besides_98 : decode cX11_besides 98 = .ok (.invokestatic 158, 3) := by decide +kernel
theorem dX11_besides_101 : decode cX11_besides 101 = .ok (.ifCond .eq 29, 3) := by decide +kernel
theorem dX11_besides_104 : decode cX11_besides 104 = .ok (.iload 6, 2) := by decide +kernel
theorem dX11_besides_106 : decode cX11_besides 106 = .ok (.sipush 1440, 3) := by decide +kernel
theorem dX11_besides_109 : decode cX11_besides 109 = .ok (.iadd, 1) := by decide +kernel
theorem dX11_besides_110 : decode cX11_besides 110 = .ok (.iload 4, 2) := by decide +kernel
theorem dX11_besides_112 : decode cX11_besides 112 = .ok (.isub, 1) := by decide +kernel
theorem dX11_besides_113 : decode cX11_besides 113 = .ok (.sipush 660, 3) := by decide +kernel
theorem dX11_besides_116 : decode cX11_besides 116 = .ok (.if_icmp .ge 14, 3) := by decide +kernel
theorem dX11_besides_119 : decode cX11_besides 119 = .ok (.aload_n 0, 1) := by decide +kernel
theorem dX11_besides_120 : decode cX11_besides 120 = .ok (.getfield 62, 3) := by decide +kernel
theorem dX11_besides_123 : decode cX11_besides 123 = .ok (.iload_n 1, 1) := by decide +kernel
theorem dX11_besides_124 : decode cX11_besides 124 = .ok (.iaload, 1) := by decide +kernel
theorem dX11_besides_125 : decode cX11_besides 125 = .ok (.iconst 4, 1) := by decide +kernel
theorem dX11_besides_126 : decode cX11_besides 126 = .ok (.idiv, 1) := by decide +kernel
theorem dX11_besides_127 : decode cX11_besides 127 = .ok (.goto 4, 3) := by decide +kernel
theorem dX11_besides_130 : decode cX11_besides 130 = .ok (.iconst 0, 1) := by decide +kernel
theorem dX11_besides_131 : decode cX11_besides 131 = .ok (.iadd, 1) := by decide +kernel
theorem dX11_besides_132 : decode cX11_besides 132 = .ok (.istore_n 3, 1) := by decide +kernel
theorem dX11_besides_133 : decode cX11_besides 133 = .ok (.iload_n 3, 1) := by decide +kernel
theorem dX11_besides_134 : decode cX11_besides 134 = .ok (.iload 5, 2) := by decide +kernel
theorem dX11_besides_136 : decode cX11_besides 136 = .ok (.iconst 4, 1) := by decide +kernel
theorem dX11_besides_137 : decode cX11_besides 137 = .ok (.if_icmp .le 28, 3) := by decide +kernel
theorem dX11_besides_140 : decode cX11_besides 140 = .ok (.iload_n 2, 1) := by decide +kernel
theorem dX11_besides_141 : decode cX11_besides 141 = .ok (.iload 5, 2) := by decide +kernel
theorem dX11_besides_143 : decode cX11_besides 143 = .ok (.iconst 5, 1) := by decide +kernel
theorem dX11_besides_144 : decode cX11_besides 144 = .ok (.isub, 1) := by decide +kernel
theorem dX11_besides_145 : decode cX11_besides 145 = .ok (.ishr, 1) := by decide +kernel
theorem dX11_besides_146 : decode cX11_besides 146 = .ok (.bipush 31, 2) := by decide +kernel
theorem dX11_besides_148 : decode cX11_besides 148 = .ok (.iand, 1) := by decide +kernel
theorem dX11_besides_149 : decode cX11_besides 149 = .ok (.bipush 31, 2) := by decide +kernel
theorem dX11_besides_151 : decode cX11_besides 151 = .ok (.if_icmp .ne 14, 3) := by decide +kernel
theorem dX11_besides_154 : decode cX11_besides 154 = .ok (.aload_n 0, 1) := by decide +kernel
theorem dX11_besides_155 : decode cX11_besides 155 = .ok (.getfield 62, 3) := by decide +kernel
theorem dX11_besides_158 : decode cX11_besides 158 = .ok (.iload_n 1, 1) := by decide +kernel
theorem dX11_besides_159 : decode cX11_besides 159 = .ok (.iaload, 1) := by decide +kernel
theorem dX11_besides_160 : decode cX11_besides 160 = .ok (.iconst 2, 1) := by decide +kernel
theorem dX11_besides_161 : decode cX11_besides 161 = .ok (.idiv, 1) := by decide +kernel
theorem dX11_besides_162 : decode cX11_besides 162 = .ok (.goto 4, 3) := by decide +kernel
theorem dX11_besides_165 : decode cX11_besides 165 = .ok (.iconst 0, 1) := by decide +kernel
theorem dX11_besides_166 : decode cX11_besides 166 = .ok (.iadd, 1) := by decide +kernel
theorem dX11_besides_167 : decode cX11_besides 167 = .ok (.istore_n 3, 1) := by decide +kernel
theorem dX11_besides_168 : decode cX11_besides 168 = .ok (.iload 7, 2) := by decide +kernel
theorem dX11_besides_170 : decode cX11_besides 170 = .ok (.istore 4, 2) := by decide +kernel
theorem dX11_besides_172 : decode cX11_besides 172 = .ok (.iinc 5 1, 3) := by decide +kernel
theorem dX11_besides_175 : decode cX11_besides 175 = .ok (.goto (-165), 3) := by decide +kernel
theorem dX11_besides_178 : decode cX11_besides 178 = .ok (.iload_n 3, 1) := by decide +kernel
theorem dX11_besides_179 : decode cX11_besides 179 = .ok (.ireturn, 1) := by decide +kernel
theorem dX11_payOf_0 : decode cX11_payOf 0 = .ok (.aload_n 0, 1) := by decide +kernel
theorem dX11_payOf_1 : decode cX11_payOf 1 = .ok (.iload_n 1, 1) := by decide +kernel
theorem dX11_payOf_2 : decode cX11_payOf 2 = .ok (.invokevirtual 226, 3) := by decide +kernel
theorem dX11_payOf_5 : decode cX11_payOf 5 = .ok (.istore_n 3, 1) := by decide +kernel
theorem dX11_payOf_6 : decode cX11_payOf 6 = .ok (.aload_n 0, 1) := by decide +kernel
theorem dX11_payOf_7 : decode cX11_payOf 7 = .ok (.getfield 59, 3) := by decide +kernel
theorem dX11_payOf_10 : decode cX11_payOf 10 = .ok (.iload_n 1, 1) := by decide +kernel
theorem dX11_payOf_11 : decode cX11_payOf 11 = .ok (.iaload, 1) := by decide +kernel
theorem dX11_payOf_12 : decode cX11_payOf 12 = .ok (.ifCond .ne 10, 3) := by decide +kernel
theorem dX11_payOf_15 : decode cX11_payOf 15 = .ok (.iload_n 3, 1) := by decide +kernel
theorem dX11_payOf_16 : decode cX11_payOf 16 = .ok (.invokestatic 151, 3) := by decide +kernel
theorem dX11_payOf_19 : decode cX11_payOf 19 = .ok (.goto 24, 3) := by decide +kernel
theorem dX11_payOf_22 : decode cX11_payOf 22 = .ok (.aload_n 0, 1) := by decide +kernel
theorem dX11_payOf_23 : decode cX11_payOf 23 = .ok (.getfield 59, 3) := by decide +kernel
theorem dX11_payOf_26 : decode cX11_payOf 26 = .ok (.iload_n 1, 1) := by decide +kernel
theorem dX11_payOf_27 : decode cX11_payOf 27 = .ok (.iaload, 1) := by decide +kernel
theorem dX11_payOf_28 : decode cX11_payOf 28 = .ok (.iconst 1, 1) := by decide +kernel
theorem dX11_payOf_29 : decode cX11_payOf 29 = .ok (.if_icmp .ne 10, 3) := by decide +kernel
theorem dX11_payOf_32 : decode cX11_payOf 32 = .ok (.iload_n 3, 1) := by decide +kernel
theorem dX11_payOf_33 : decode cX11_payOf 33 = .ok (.invokestatic 229, 3) := by decide +kernel
theorem dX11_payOf_36 : decode cX11_payOf 36 = .ok (.goto 7, 3) := by decide +kernel
theorem dX11_payOf_39 : decode cX11_payOf 39 = .ok (.iload_n 3, 1) := by decide +kernel
theorem dX11_payOf_40 : decode cX11_payOf 40 = .ok (.invokestatic 232, 3) := by decide +kernel
theorem dX11_payOf_43 : decode cX11_payOf 43 = .ok (.istore 4, 2) := by decide +kernel
theorem dX11_payOf_45 : decode cX11_payOf 45 = .ok (.aload_n 0, 1) := by decide +kernel
theorem dX11_payOf_46 : decode cX11_payOf 46 = .ok (.iload_n 1, 1) := by decide +kernel
theorem dX11_payOf_47 : decode cX11_payOf 47 = .ok (.iload_n 3, 1) := by decide +kernel
theorem dX11_payOf_48 : decode cX11_payOf 48 = .ok (.invokevirtual 235, 3) := by decide +kernel
theorem dX11_payOf_51 : decode cX11_payOf 51 = .ok (.iload_n 2, 1) := by decide +kernel
theorem dX11_payOf_52 : decode cX11_payOf 52 = .ok (.ifCond .eq 7, 3) := by decide +kernel
theorem dX11_payOf_55 : decode cX11_payOf 55 = .ok (.iconst 0, 1) := by decide +kernel
theorem dX11_payOf_56 : decode cX11_payOf 56 = .ok (.goto 12, 3) := by decide +kernel
theorem dX11_payOf_59 : decode cX11_payOf 59 = .ok (.iload 4, 2) := by decide +kernel
theorem dX11_payOf_61 : decode cX11_payOf 61 = .ok (.aload_n 0, 1) := by decide +kernel
theorem dX11_payOf_62 : decode cX11_payOf 62 = .ok (.getfield 62, 3) := by decide +kernel
theorem dX11_payOf_65 : decode cX11_payOf 65 = .ok (.iload_n 1, 1) := by decide +kernel
theorem dX11_payOf_66 : decode cX11_payOf 66 = .ok (.iaload, 1) := by decide +kernel
theorem dX11_payOf_67 : decode cX11_payOf 67 = .ok (.imul, 1) := by decide +kernel
theorem dX11_payOf_68 : decode cX11_payOf 68 = .ok (.iadd, 1) := by decide +kernel
theorem dX11_payOf_69 : decode cX11_payOf 69 = .ok (.ireturn, 1) := by decide +kernel
theorem dX11_pay_0 : decode cX11_pay 0 = .ok (.aload_n 0, 1) := by decide +kernel
theorem dX11_pay_1 : decode cX11_pay 1 = .ok (.aload_n 0, 1) := by decide +kernel
theorem dX11_pay_2 : decode cX11_pay 2 = .ok (.iload_n 1, 1) := by decide +kernel
theorem dX11_pay_3 : decode cX11_pay 3 = .ok (.invokevirtual 165, 3) := by decide +kernel
theorem dX11_pay_6 : decode cX11_pay 6 = .ok (.ifCond .eq 7, 3) := by decide +kernel
theorem dX11_pay_9 : decode cX11_pay 9 = .ok (.iconst 0, 1) := by decide +kernel
theorem dX11_pay_10 : decode cX11_pay 10 = .ok (.goto 4, 3) := by decide +kernel
theorem dX11_pay_13 : decode cX11_pay 13 = .ok (.iconst 1, 1) := by decide +kernel
theorem dX11_pay_14 : decode cX11_pay 14 = .ok (.invokevirtual 138, 3) := by decide +kernel
theorem dX11_pay_17 : decode cX11_pay 17 = .ok (.ifCond .eq 12, 3) := by decide +kernel
theorem dX11_pay_20 : decode cX11_pay 20 = .ok (.aload_n 0, 1) := by decide +kernel
theorem dX11_pay_21 : decode cX11_pay 21 = .ok (.iload_n 1, 1) := by decide +kernel
theorem dX11_pay_22 : decode cX11_pay 22 = .ok (.iload_n 2, 1) := by decide +kernel
theorem dX11_pay_23 : decode cX11_pay 23 = .ok (.invokevirtual 238, 3) := by decide +kernel
theorem dX11_pay_26 : decode cX11_pay 26 = .ok (.goto 4, 3) := by decide +kernel
theorem dX11_pay_29 : decode cX11_pay 29 = .ok (.iconst 0, 1) := by decide +kernel
theorem dX11_pay_30 : decode cX11_pay 30 = .ok (.ireturn, 1) := by decide +kernel
theorem dX11_cost_0 : decode cX11_cost 0 = .ok (.aload_n 0, 1) := by decide +kernel
theorem dX11_cost_1 : decode cX11_cost 1 = .ok (.iconst 0, 1) := by decide +kernel
theorem dX11_cost_2 : decode cX11_cost 2 = .ok (.putfield 110, 3) := by decide +kernel
theorem dX11_cost_5 : decode cX11_cost 5 = .ok (.iconst 0, 1) := by decide +kernel
theorem dX11_cost_6 : decode cX11_cost 6 = .ok (.istore_n 1, 1) := by decide +kernel
theorem dX11_cost_7 : decode cX11_cost 7 = .ok (.iconst 0, 1) := by decide +kernel
theorem dX11_cost_8 : decode cX11_cost 8 = .ok (.istore_n 2, 1) := by decide +kernel
theorem dX11_cost_9 : decode cX11_cost 9 = .ok (.iload_n 2, 1) := by decide +kernel
theorem dX11_cost_10 : decode cX11_cost 10 = .ok (.aload_n 0, 1) := by decide +kernel
theorem dX11_cost_11 : decode cX11_cost 11 = .ok (.getfield 121, 3) := by decide +kernel
theorem dX11_cost_14 : decode cX11_cost 14 = .ok (.if_icmp .ge 18, 3) := by decide +kernel
theorem dX11_cost_17 : decode cX11_cost 17 = .ok (.iload_n 1, 1) := by decide +kernel
theorem dX11_cost_18 : decode cX11_cost 18 = .ok (.aload_n 0, 1) := by decide +kernel
theorem dX11_cost_19 : decode cX11_cost 19 = .ok (.iload_n 2, 1) := by decide +kernel
theorem dX11_cost_20 : decode cX11_cost 20 = .ok (.iconst 0, 1) := by decide +kernel
theorem dX11_cost_21 : decode cX11_cost 21 = .ok (.invokevirtual 238, 3) := by decide +kernel
theorem dX11_cost_24 : decode cX11_cost 24 = .ok (.iadd, 1) := by decide +kernel
theorem dX11_cost_25 : decode cX11_cost 25 = .ok (.istore_n 1, 1) := by decide +kernel
theorem dX11_cost_26 : decode cX11_cost 26 = .ok (.iinc 2 1, 3) := by decide +kernel
theorem dX11_cost_29 : decode cX11_cost 29 = .ok (.goto (-20), 3) := by decide +kernel
theorem dX11_cost_32 : decode cX11_cost 32 = .ok (.iconst 0, 1) := by decide +kernel
theorem dX11_cost_33 : decode cX11_cost 33 = .ok (.istore_n 2, 1) := by decide +kernel
theorem dX11_cost_34 : decode cX11_cost 34 = .ok (.iload_n 2, 1) := by decide +kernel
theorem dX11_cost_35 : decode cX11_cost 35 = .ok (.bipush 30, 2) := by decide +kernel
theorem dX11_cost_37 : decode cX11_cost 37 = .ok (.if_icmp .ge 94, 3) := by decide +kernel
theorem dX11_cost_40 : decode cX11_cost 40 = .ok (.iconst 0, 1) := by decide +kernel
theorem dX11_cost_41 : decode cX11_cost 41 = .ok (.istore_n 3, 1) := by decide +kernel
theorem dX11_cost_42 : decode cX11_cost 42 = .ok (.iconst 0, 1) := by decide +kernel
theorem dX11_cost_43 : decode cX11_cost 43 = .ok (.istore 4, 2) := by decide +kernel
theorem dX11_cost_45 : decode cX11_cost 45 = .ok (.iload 4, 2) := by decide +kernel
theorem dX11_cost_47 : decode cX11_cost 47 = .ok (.aload_n 0, 1) := by decide +kernel
theorem dX11_cost_48 : decode cX11_cost 48 = .ok (.getfield 95, 3) := by decide +kernel
theorem dX11_cost_51 : decode cX11_cost 51 = .ok (.iload_n 2, 1) := by decide +kernel
theorem dX11_cost_52 : decode cX11_cost 52 = .ok (.iaload, 1) := by decide +kernel
theorem dX11_cost_53 : decode cX11_cost 53 = .ok (.if_icmp .ge 31, 3) := by decide +kernel
theorem dX11_cost_56 : decode cX11_cost 56 = .ok (.iload_n 3, 1) := by decide +kernel
theorem dX11_cost_57 : decode cX11_cost 57 = .ok (.iconst 1, 1) := by decide +kernel
theorem dX11_cost_58 : decode cX11_cost 58 = .ok (.aload_n 0, 1) := by decide +kernel
theorem dX11_cost_59 : decode cX11_cost 59 = .ok (.getfield 19, 3) := by decide +kernel
theorem dX11_cost_62 : decode cX11_cost 62 = .ok (.aload_n 0, 1) := by decide +kernel
theorem dX11_cost_63 : decode cX11_cost 63 = .ok (.getfield 92, 3) := by decide +kernel
theorem dX11_cost_66 : decode cX11_cost 66 = .ok (.bipush 8, 2) := by decide +kernel
theorem dX11_cost_68 : decode cX11_cost 68 = .ok (.iload_n 2, 1) := by decide +kernel
theorem dX11_cost_69 : decode cX11_cost 69 = .ok (.imul, 1) := by decide +kernel
theorem dX11_cost_70 : decode cX11_cost 70 = .ok (.iload 4, 2) := by decide +kernel
theorem dX11_cost_72 : decode cX11_cost 72 = .ok (.iadd, 1) := by decide +kernel
theorem dX11_cost_73 : decode cX11_cost 73 = .ok (.iaload, 1) := by decide +kernel
theorem dX11_cost_74 : decode cX11_cost 74 = .ok (.iaload, 1) := by decide +kernel
theorem dX11_cost_75 : decode cX11_cost 75 = .ok (.ishl, 1) := by decide +kernel
theorem dX11_cost_76 : decode cX11_cost 76 = .ok (.ior, 1) := by decide +kernel
theorem dX11_cost_77 : decode cX11_cost 77 = .ok (.istore_n 3, 1) := by decide +kernel
theorem dX11_cost_78 : decode cX11_cost 78 = .ok (.iinc 4 1, 3) := by decide +kernel
theorem dX11_cost_81 : decode cX11_cost 81 = .ok (.goto (-36), 3) := by decide +kernel
theorem dX11_cost_84 : decode cX11_cost 84 = .ok (.iconst 0, 1) := by decide +kernel
theorem dX11_cost_85 : decode cX11_cost 85 = .ok (.istore 4, 2) := by decide +kernel
theorem dX11_cost_87 : decode cX11_cost 87 = .ok (.iload 4, 2) := by decide +kernel
theorem dX11_cost_89 : decode cX11_cost 89 = .ok (.aload_n 0, 1) := by decide +kernel
theorem dX11_cost_90 : decode cX11_cost 90 = .ok (.getfield 124, 3) := by decide +kernel
theorem dX11_cost_93 : decode cX11_cost 93 = .ok (.if_icmp .ge 32, 3) := by decide +kernel
theorem dX11_cost_96 : decode cX11_cost 96 = .ok (.iload_n 1, 1) := by decide +kernel
theorem dX11_cost_97 : decode cX11_cost 97 = .ok (.iload_n 3, 1) := by decide +kernel
theorem dX11_cost_98 : decode cX11_cost 98 = .ok (.iload 4, 2) := by decide +kernel
theorem dX11_cost_100 : decode cX11_cost 100 = .ok (.invokestatic 158, 3) := by decide +kernel
theorem dX11_cost_103 : decode cX11_cost 103 = .ok (.ifCond .eq 13, 3) := by decide +kernel
theorem dX11_cost_106 : decode cX11_cost 106 = .ok (.aload_n 0, 1) := by decide +kernel
theorem dX11_cost_107 : decode cX11_cost 107 = .ok (.getfield 74, 3) := by decide +kernel
theorem dX11_cost_110 : decode cX11_cost 110 = .ok (.iload 4, 2) := by decide +kernel
theorem dX11_cost_112 : decode cX11_cost 112 = .ok (.iaload, 1) := by decide +kernel
theorem dX11_cost_113 : decode cX11_cost 113 = .ok (.goto 4, 3) := by decide +kernel
theorem dX11_cost_116 : decode cX11_cost 116 = .ok (.iconst 0, 1) := by decide +kernel
theorem dX11_cost_117 : decode cX11_cost 117 = .ok (.iadd, 1) := by decide +kernel
theorem dX11_cost_118 : decode cX11_cost 118 = .ok (.istore_n 1, 1) := by decide +kernel
theorem dX11_cost_119 : decode cX11_cost 119 = .ok (.iinc 4 1, 3) := by decide +kernel
theorem dX11_cost_122 : decode cX11_cost 122 = .ok (.goto (-35), 3) := by decide +kernel
theorem dX11_cost_125 : decode cX11_cost 125 = .ok (.iinc 2 1, 3) := by decide +kernel
theorem dX11_cost_128 : decode cX11_cost 128 = .ok (.goto (-94), 3) := by decide +kernel
theorem dX11_cost_131 : decode cX11_cost 131 = .ok (.iload_n 1, 1) := by decide +kernel
theorem dX11_cost_132 : decode cX11_cost 132 = .ok (.ireturn, 1) := by decide +kernel
theorem dJ6_bitCount_0f7a4_0 : decode cJ6_bitCount_0f7a4 0 = .ok (.iload_n 0, 1) := by decide +kernel
theorem dJ6_bitCount_0f7a4_1 : decode cJ6_bitCount_0f7a4 1 = .ok (.iload_n 0, 1) := by decide +kernel
theorem dJ6_bitCount_0f7a4_2 : decode cJ6_bitCount_0f7a4 2 = .ok (.iconst 1, 1) := by decide +kernel
theorem dJ6_bitCount_0f7a4_3 : decode cJ6_bitCount_0f7a4 3 = .ok (.iushr, 1) := by decide +kernel
theorem dJ6_bitCount_0f7a4_4 : decode cJ6_bitCount_0f7a4 4 = .ok (.ldc_w 265, 3) := by decide +kernel
theorem dJ6_bitCount_0f7a4_7 : decode cJ6_bitCount_0f7a4 7 = .ok (.iand, 1) := by decide +kernel
theorem dJ6_bitCount_0f7a4_8 : decode cJ6_bitCount_0f7a4 8 = .ok (.isub, 1) := by decide +kernel
theorem dJ6_bitCount_0f7a4_9 : decode cJ6_bitCount_0f7a4 9 = .ok (.istore_n 0, 1) := by decide +kernel
theorem dJ6_bitCount_0f7a4_10 : decode cJ6_bitCount_0f7a4 10 = .ok (.iload_n 0, 1) := by decide +kernel
theorem dJ6_bitCount_0f7a4_11 : decode cJ6_bitCount_0f7a4 11 = .ok (.ldc_w 266, 3) := by decide +kernel
theorem dJ6_bitCount_0f7a4_14 : decode cJ6_bitCount_0f7a4 14 = .ok (.iand, 1) := by decide +kernel
theorem dJ6_bitCount_0f7a4_15 : decode cJ6_bitCount_0f7a4 15 = .ok (.iload_n 0, 1) := by decide +kernel
theorem dJ6_bitCount_0f7a4_16 : decode cJ6_bitCount_0f7a4 16 = .ok (.iconst 2, 1) := by decide +kernel
theorem dJ6_bitCount_0f7a4_17 : decode cJ6_bitCount_0f7a4 17 = .ok (.iushr, 1) := by decide +kernel
theorem dJ6_bitCount_0f7a4_18 : decode cJ6_bitCount_0f7a4 18 = .ok (.ldc_w 266, 3) := by decide +kernel
theorem dJ6_bitCount_0f7a4_21 : decode cJ6_bitCount_0f7a4 21 = .ok (.iand, 1) := by decide +kernel
theorem dJ6_bitCount_0f7a4_22 : decode cJ6_bitCount_0f7a4 22 = .ok (.iadd, 1) := by decide +kernel
theorem dJ6_bitCount_0f7a4_23 : decode cJ6_bitCount_0f7a4 23 = .ok (.istore_n 0, 1) := by decide +kernel
theorem dJ6_bitCount_0f7a4_24 : decode cJ6_bitCount_0f7a4 24 = .ok (.iload_n 0, 1) := by decide +kernel
theorem dJ6_bitCount_0f7a4_25 : decode cJ6_bitCount_0f7a4 25 = .ok (.iload_n 0, 1) := by decide +kernel
theorem dJ6_bitCount_0f7a4_26 : decode cJ6_bitCount_0f7a4 26 = .ok (.iconst 4, 1) := by decide +kernel
theorem dJ6_bitCount_0f7a4_27 : decode cJ6_bitCount_0f7a4 27 = .ok (.iushr, 1) := by decide +kernel
theorem dJ6_bitCount_0f7a4_28 : decode cJ6_bitCount_0f7a4 28 = .ok (.iadd, 1) := by decide +kernel
theorem dJ6_bitCount_0f7a4_29 : decode cJ6_bitCount_0f7a4 29 = .ok (.ldc_w 267, 3) := by decide +kernel
theorem dJ6_bitCount_0f7a4_32 : decode cJ6_bitCount_0f7a4 32 = .ok (.iand, 1) := by decide +kernel
theorem dJ6_bitCount_0f7a4_33 : decode cJ6_bitCount_0f7a4 33 = .ok (.istore_n 0, 1) := by decide +kernel
theorem dJ6_bitCount_0f7a4_34 : decode cJ6_bitCount_0f7a4 34 = .ok (.iload_n 0, 1) := by decide +kernel
theorem dJ6_bitCount_0f7a4_35 : decode cJ6_bitCount_0f7a4 35 = .ok (.iload_n 0, 1) := by decide +kernel
theorem dJ6_bitCount_0f7a4_36 : decode cJ6_bitCount_0f7a4 36 = .ok (.bipush 8, 2) := by decide +kernel
theorem dJ6_bitCount_0f7a4_38 : decode cJ6_bitCount_0f7a4 38 = .ok (.iushr, 1) := by decide +kernel
theorem dJ6_bitCount_0f7a4_39 : decode cJ6_bitCount_0f7a4 39 = .ok (.iadd, 1) := by decide +kernel
theorem dJ6_bitCount_0f7a4_40 : decode cJ6_bitCount_0f7a4 40 = .ok (.istore_n 0, 1) := by decide +kernel
theorem dJ6_bitCount_0f7a4_41 : decode cJ6_bitCount_0f7a4 41 = .ok (.iload_n 0, 1) := by decide +kernel
theorem dJ6_bitCount_0f7a4_42 : decode cJ6_bitCount_0f7a4 42 = .ok (.iload_n 0, 1) := by decide +kernel
theorem dJ6_bitCount_0f7a4_43 : decode cJ6_bitCount_0f7a4 43 = .ok (.bipush 16, 2) := by decide +kernel
theorem dJ6_bitCount_0f7a4_45 : decode cJ6_bitCount_0f7a4 45 = .ok (.iushr, 1) := by decide +kernel
theorem dJ6_bitCount_0f7a4_46 : decode cJ6_bitCount_0f7a4 46 = .ok (.iadd, 1) := by decide +kernel
theorem dJ6_bitCount_0f7a4_47 : decode cJ6_bitCount_0f7a4 47 = .ok (.istore_n 0, 1) := by decide +kernel
theorem dJ6_bitCount_0f7a4_48 : decode cJ6_bitCount_0f7a4 48 = .ok (.iload_n 0, 1) := by decide +kernel
theorem dJ6_bitCount_0f7a4_49 : decode cJ6_bitCount_0f7a4 49 = .ok (.bipush 63, 2) := by decide +kernel
theorem dJ6_bitCount_0f7a4_51 : decode cJ6_bitCount_0f7a4 51 = .ok (.iand, 1) := by decide +kernel
theorem dJ6_bitCount_0f7a4_52 : decode cJ6_bitCount_0f7a4 52 = .ok (.ireturn, 1) := by decide +kernel
theorem dJ7_fill_53178_0 : decode cJ7_fill_53178 0 = .ok (.iconst 0, 1) := by decide +kernel
theorem dJ7_fill_53178_1 : decode cJ7_fill_53178 1 = .ok (.istore_n 2, 1) := by decide +kernel
theorem dJ7_fill_53178_2 : decode cJ7_fill_53178 2 = .ok (.aload_n 0, 1) := by decide +kernel
theorem dJ7_fill_53178_3 : decode cJ7_fill_53178 3 = .ok (.arraylength, 1) := by decide +kernel
theorem dJ7_fill_53178_4 : decode cJ7_fill_53178 4 = .ok (.istore_n 3, 1) := by decide +kernel
theorem dJ7_fill_53178_5 : decode cJ7_fill_53178 5 = .ok (.iload_n 2, 1) := by decide +kernel
theorem dJ7_fill_53178_6 : decode cJ7_fill_53178 6 = .ok (.iload_n 3, 1) := by decide +kernel
theorem dJ7_fill_53178_7 : decode cJ7_fill_53178 7 = .ok (.if_icmp .ge 13, 3) := by decide +kernel
theorem dJ7_fill_53178_10 : decode cJ7_fill_53178 10 = .ok (.aload_n 0, 1) := by decide +kernel
theorem dJ7_fill_53178_11 : decode cJ7_fill_53178 11 = .ok (.iload_n 2, 1) := by decide +kernel
theorem dJ7_fill_53178_12 : decode cJ7_fill_53178 12 = .ok (.iload_n 1, 1) := by decide +kernel
theorem dJ7_fill_53178_13 : decode cJ7_fill_53178 13 = .ok (.iastore, 1) := by decide +kernel
theorem dJ7_fill_53178_14 : decode cJ7_fill_53178 14 = .ok (.iinc 2 1, 3) := by decide +kernel
theorem dJ7_fill_53178_17 : decode cJ7_fill_53178 17 = .ok (.goto (-12), 3) := by decide +kernel
theorem dJ7_fill_53178_20 : decode cJ7_fill_53178 20 = .ok (.return_, 1) := by decide +kernel
theorem dL_scene_0 : decode cL_scene 0 = .ok (.aload 6, 2) := by decide +kernel
theorem dL_scene_2 : decode cL_scene 2 = .ok (.iconst 0, 1) := by decide +kernel
theorem dL_scene_3 : decode cL_scene 3 = .ok (.aload_n 0, 1) := by decide +kernel
theorem dL_scene_4 : decode cL_scene 4 = .ok (.iload_n 1, 1) := by decide +kernel
theorem dL_scene_5 : decode cL_scene 5 = .ok (.iload_n 2, 1) := by decide +kernel
theorem dL_scene_6 : decode cL_scene 6 = .ok (.iload_n 3, 1) := by decide +kernel
theorem dL_scene_7 : decode cL_scene 7 = .ok (.iload 4, 2) := by decide +kernel
theorem dL_scene_9 : decode cL_scene 9 = .ok (.iload 5, 2) := by decide +kernel
theorem dL_scene_11 : decode cL_scene 11 = .ok (.invokevirtual 7, 3) := by decide +kernel
theorem dL_scene_14 : decode cL_scene 14 = .ok (.i2l, 1) := by decide +kernel
theorem dL_scene_15 : decode cL_scene 15 = .ok (.lastore, 1) := by decide +kernel
theorem dL_scene_16 : decode cL_scene 16 = .ok (.goto 15, 3) := by decide +kernel
theorem dL_scene_19 : decode cL_scene 19 = .ok (.astore 7, 2) := by decide +kernel
theorem dL_scene_21 : decode cL_scene 21 = .ok (.iconst 1, 1) := by decide +kernel
theorem dL_scene_22 : decode cL_scene 22 = .ok (.ireturn, 1) := by decide +kernel
theorem dL_scene_23 : decode cL_scene 23 = .ok (.astore 7, 2) := by decide +kernel
theorem dL_scene_25 : decode cL_scene 25 = .ok (.iconst 2, 1) := by decide +kernel
theorem dL_scene_26 : decode cL_scene 26 = .ok (.ireturn, 1) := by decide +kernel
theorem dL_scene_27 : decode cL_scene 27 = .ok (.astore 7, 2) := by decide +kernel
theorem dL_scene_29 : decode cL_scene 29 = .ok (.iconst 3, 1) := by decide +kernel
theorem dL_scene_30 : decode cL_scene 30 = .ok (.ireturn, 1) := by decide +kernel
theorem dL_scene_31 : decode cL_scene 31 = .ok (.iconst 0, 1) := by decide +kernel
theorem dL_scene_32 : decode cL_scene 32 = .ok (.ireturn, 1) := by decide +kernel
theorem dL_lock_0 : decode cL_lock 0 = .ok (.aload_n 1, 1) := by decide +kernel
theorem dL_lock_1 : decode cL_lock 1 = .ok (.iconst 0, 1) := by decide +kernel
theorem dL_lock_2 : decode cL_lock 2 = .ok (.aload_n 0, 1) := by decide +kernel
theorem dL_lock_3 : decode cL_lock 3 = .ok (.invokevirtual 19, 3) := by decide +kernel
theorem dL_lock_6 : decode cL_lock 6 = .ok (.i2l, 1) := by decide +kernel
theorem dL_lock_7 : decode cL_lock 7 = .ok (.lastore, 1) := by decide +kernel
theorem dL_lock_8 : decode cL_lock 8 = .ok (.goto 6, 3) := by decide +kernel
theorem dL_lock_11 : decode cL_lock 11 = .ok (.astore_n 2, 1) := by decide +kernel
theorem dL_lock_12 : decode cL_lock 12 = .ok (.iconst 1, 1) := by decide +kernel
theorem dL_lock_13 : decode cL_lock 13 = .ok (.ireturn, 1) := by decide +kernel
theorem dL_lock_14 : decode cL_lock 14 = .ok (.iconst 0, 1) := by decide +kernel
theorem dL_lock_15 : decode cL_lock 15 = .ok (.ireturn, 1) := by decide +kernel
theorem dL_omit_0 : decode cL_omit 0 = .ok (.aload_n 2, 1) := by decide +kernel
theorem dL_omit_1 : decode cL_omit 1 = .ok (.iconst 0, 1) := by decide +kernel
theorem dL_omit_2 : decode cL_omit 2 = .ok (.aload_n 0, 1) := by decide +kernel
theorem dL_omit_3 : decode cL_omit 3 = .ok (.iload_n 1, 1) := by decide +kernel
theorem dL_omit_4 : decode cL_omit 4 = .ok (.invokevirtual 23, 3) := by decide +kernel
theorem dL_omit_7 : decode cL_omit 7 = .ok (.i2l, 1) := by decide +kernel
theorem dL_omit_8 : decode cL_omit 8 = .ok (.lastore, 1) := by decide +kernel
theorem dL_omit_9 : decode cL_omit 9 = .ok (.goto 9, 3) := by decide +kernel
theorem dL_omit_12 : decode cL_omit 12 = .ok (.astore_n 3, 1) := by decide +kernel
theorem dL_omit_13 : decode cL_omit 13 = .ok (.iconst 1, 1) := by decide +kernel
theorem dL_omit_14 : decode cL_omit 14 = .ok (.ireturn, 1) := by decide +kernel
theorem dL_omit_15 : decode cL_omit 15 = .ok (.astore_n 3, 1) := by decide +kernel
theorem dL_omit_16 : decode cL_omit 16 = .ok (.iconst 2, 1) := by decide +kernel
theorem dL_omit_17 : decode cL_omit 17 = .ok (.ireturn, 1) := by decide +kernel
theorem dL_omit_18 : decode cL_omit 18 = .ok (.iconst 0, 1) := by decide +kernel
theorem dL_omit_19 : decode cL_omit 19 = .ok (.ireturn, 1) := by decide +kernel
theorem dL_label_0 : decode cL_label 0 = .ok (.aload_n 2, 1) := by decide +kernel
theorem dL_label_1 : decode cL_label 1 = .ok (.iconst 0, 1) := by decide +kernel
theorem dL_label_2 : decode cL_label 2 = .ok (.aload_n 0, 1) := by decide +kernel
theorem dL_label_3 : decode cL_label 3 = .ok (.iload_n 1, 1) := by decide +kernel
theorem dL_label_4 : decode cL_label 4 = .ok (.invokevirtual 27, 3) := by decide +kernel
theorem dL_label_7 : decode cL_label 7 = .ok (.i2l, 1) := by decide +kernel
theorem dL_label_8 : decode cL_label 8 = .ok (.lastore, 1) := by decide +kernel
theorem dL_label_9 : decode cL_label 9 = .ok (.goto 6, 3) := by decide +kernel
theorem dL_label_12 : decode cL_label 12 = .ok (.astore_n 3, 1) := by decide +kernel
theorem dL_label_13 : decode cL_label 13 = .ok (.iconst 1, 1) := by decide +kernel
theorem dL_label_14 : decode cL_label 14 = .ok (.ireturn, 1) := by decide +kernel
theorem dL_label_15 : decode cL_label 15 = .ok (.iconst 0, 1) := by decide +kernel
theorem dL_label_16 : decode cL_label 16 = .ok (.ireturn, 1) := by decide +kernel
theorem dL_needs_0 : decode cL_needs 0 = .ok (.aload_n 3, 1) := by decide +kernel
theorem dL_needs_1 : decode cL_needs 1 = .ok (.iconst 0, 1) := by decide +kernel
theorem dL_needs_2 : decode cL_needs 2 = .ok (.aload_n 0, 1) := by decide +kernel
theorem dL_needs_3 : decode cL_needs 3 = .ok (.iload_n 1, 1) := by decide +kernel
theorem dL_needs_4 : decode cL_needs 4 = .ok (.iload_n 2, 1) := by decide +kernel
theorem dL_needs_5 : decode cL_needs 5 = .ok (.invokevirtual 30, 3) := by decide +kernel
theorem dL_needs_8 : decode cL_needs 8 = .ok (.i2l, 1) := by decide +kernel
theorem dL_needs_9 : decode cL_needs 9 = .ok (.lastore, 1) := by decide +kernel
theorem dL_needs_10 : decode cL_needs 10 = .ok (.goto 11, 3) := by decide +kernel
theorem dL_needs_13 : decode cL_needs 13 = .ok (.astore 4, 2) := by decide +kernel
theorem dL_needs_15 : decode cL_needs 15 = .ok (.iconst 1, 1) := by decide +kernel
theorem dL_needs_16 : decode cL_needs 16 = .ok (.ireturn, 1) := by decide +kernel
theorem dL_needs_17 : decode cL_needs 17 = .ok (.astore 4, 2) := by decide +kernel
theorem dL_needs_19 : decode cL_needs 19 = .ok (.iconst 2, 1) := by decide +kernel
theorem dL_needs_20 : decode cL_needs 20 = .ok (.ireturn, 1) := by decide +kernel
theorem dL_needs_21 : decode cL_needs 21 = .ok (.iconst 0, 1) := by decide +kernel
theorem dL_needs_22 : decode cL_needs 22 = .ok (.ireturn, 1) := by decide +kernel
theorem dL_look_0 : decode cL_look 0 = .ok (.aload 5, 2) := by decide +kernel
theorem dL_look_2 : decode cL_look 2 = .ok (.iconst 0, 1) := by decide +kernel
theorem dL_look_3 : decode cL_look 3 = .ok (.aload_n 0, 1) := by decide +kernel
theorem dL_look_4 : decode cL_look 4 = .ok (.iload_n 1, 1) := by decide +kernel
theorem dL_look_5 : decode cL_look 5 = .ok (.iload_n 2, 1) := by decide +kernel
theorem dL_look_6 : decode cL_look 6 = .ok (.iload_n 3, 1) := by decide +kernel
theorem dL_look_7 : decode cL_look 7 = .ok (.iload 4, 2) := by decide +kernel
theorem dL_look_9 : decode cL_look 9 = .ok (.invokevirtual 34, 3) := by decide +kernel
theorem dL_look_12 : decode cL_look 12 = .ok (.i2l, 1) := by decide +kernel
theorem dL_look_13 : decode cL_look 13 = .ok (.lastore, 1) := by decide +kernel
theorem dL_look_14 : decode cL_look 14 = .ok (.goto 11, 3) := by decide +kernel
theorem dL_look_17 : decode cL_look 17 = .ok (.astore 6, 2) := by decide +kernel
theorem dL_look_19 : decode cL_look 19 = .ok (.iconst 1, 1) := by decide +kernel
theorem dL_look_20 : decode cL_look 20 = .ok (.ireturn, 1) := by decide +kernel
theorem dL_look_21 : decode cL_look 21 = .ok (.astore 6, 2) := by decide +kernel
theorem dL_look_23 : decode cL_look 23 = .ok (.iconst 2, 1) := by decide +kernel
theorem dL_look_24 : decode cL_look 24 = .ok (.ireturn, 1) := by decide +kernel
theorem dL_look_25 : decode cL_look 25 = .ok (.iconst 0, 1) := by decide +kernel
theorem dL_look_26 : decode cL_look 26 = .ok (.ireturn, 1) := by decide +kernel
theorem dL_clashes_0 : decode cL_clashes 0 = .ok (.aload_n 2, 1) := by decide +kernel
theorem dL_clashes_1 : decode cL_clashes 1 = .ok (.iconst 0, 1) := by decide +kernel
theorem dL_clashes_2 : decode cL_clashes 2 = .ok (.aload_n 0, 1) := by decide +kernel
theorem dL_clashes_3 : decode cL_clashes 3 = .ok (.iload_n 1, 1) := by decide +kernel
theorem dL_clashes_4 : decode cL_clashes 4 = .ok (.invokevirtual 38, 3) := by decide +kernel
theorem dL_clashes_7 : decode cL_clashes 7 = .ok (.ifCond .eq 7, 3) := by decide +kernel
theorem dL_clashes_10 : decode cL_clashes 10 = .ok (.lconst 1, 1) := by decide +kernel
theorem dL_clashes_11 : decode cL_clashes 11 = .ok (.goto 4, 3) := by decide +kernel
theorem dL_clashes_14 : decode cL_clashes 14 = .ok (.lconst 0, 1) := by decide +kernel
theorem dL_clashes_15 : decode cL_clashes 15 = .ok (.lastore, 1) := by decide +kernel
theorem dL_clashes_16 : decode cL_clashes 16 = .ok (.goto 6, 3) := by decide +kernel
theorem dL_clashes_19 : decode cL_clashes 19 = .ok (.astore_n 3, 1) := by decide +kernel
theorem dL_clashes_20 : decode cL_clashes 20 = .ok (.iconst 1, 1) := by decide +kernel
theorem dL_clashes_21 : decode cL_clashes 21 = .ok (.ireturn, 1) := by decide +kernel
theorem dL_clashes_22 : decode cL_clashes 22 = .ok (.iconst 0, 1) := by decide +kernel
theorem dL_clashes_23 : decode cL_clashes 23 = .ok (.ireturn, 1) := by decide +kernel
theorem dL_bind_0 : decode cL_bind 0 = .ok (.aload_n 3, 1) := by decide +kernel
theorem dL_bind_1 : decode cL_bind 1 = .ok (.iconst 0, 1) := by decide +kernel
theorem dL_bind_2 : decode cL_bind 2 = .ok (.aload_n 0, 1) := by decide +kernel
theorem dL_bind_3 : decode cL_bind 3 = .ok (.iload_n 1, 1) := by decide +kernel
theorem dL_bind_4 : decode cL_bind 4 = .ok (.iload_n 2, 1) := by decide +kernel
theorem dL_bind_5 : decode cL_bind 5 = .ok (.invokevirtual 42, 3) := by decide +kernel
theorem dL_bind_8 : decode cL_bind 8 = .ok (.i2l, 1) := by decide +kernel
theorem dL_bind_9 : decode cL_bind 9 = .ok (.lastore, 1) := by decide +kernel
theorem dL_bind_10 : decode cL_bind 10 = .ok (.goto 11, 3) := by decide +kernel
theorem dL_bind_13 : decode cL_bind 13 = .ok (.astore 4, 2) := by decide +kernel
theorem dL_bind_15 : decode cL_bind 15 = .ok (.iconst 1, 1) := by decide +kernel
theorem dL_bind_16 : decode cL_bind 16 = .ok (.ireturn, 1) := by decide +kernel
theorem dL_bind_17 : decode cL_bind 17 = .ok (.astore 4, 2) := by decide +kernel
theorem dL_bind_19 : decode cL_bind 19 = .ok (.iconst 2, 1) := by decide +kernel
theorem dL_bind_20 : decode cL_bind 20 = .ok (.ireturn, 1) := by decide +kernel
theorem dL_bind_21 : decode cL_bind 21 = .ok (.iconst 0, 1) := by decide +kernel
theorem dL_bind_22 : decode cL_bind 22 = .ok (.ireturn, 1) := by decide +kernel
theorem dL_person_0 : decode cL_person 0 = .ok (.aload 5, 2) := by decide +kernel
theorem dL_person_2 : decode cL_person 2 = .ok (.iconst 0, 1) := by decide +kernel
theorem dL_person_3 : decode cL_person 3 = .ok (.aload_n 0, 1) := by decide +kernel
theorem dL_person_4 : decode cL_person 4 = .ok (.iload_n 1, 1) := by decide +kernel
theorem dL_person_5 : decode cL_person 5 = .ok (.iload_n 2, 1) := by decide +kernel
theorem dL_person_6 : decode cL_person 6 = .ok (.iload_n 3, 1) := by decide +kernel
theorem dL_person_7 : decode cL_person 7 = .ok (.iload 4, 2) := by decide +kernel
theorem dL_person_9 : decode cL_person 9 = .ok (.invokevirtual 45, 3) := by decide +kernel
theorem dL_person_12 : decode cL_person 12 = .ok (.i2l, 1) := by decide +kernel
theorem dL_person_13 : decode cL_person 13 = .ok (.lastore, 1) := by decide +kernel
theorem dL_person_14 : decode cL_person 14 = .ok (.goto 11, 3) := by decide +kernel
theorem dL_person_17 : decode cL_person 17 = .ok (.astore 6, 2) := by decide +kernel
theorem dL_person_19 : decode cL_person 19 = .ok (.iconst 1, 1) := by decide +kernel
theorem dL_person_20 : decode cL_person 20 = .ok (.ireturn, 1) := by decide +kernel
theorem dL_person_21 : decode cL_person 21 = .ok (.astore 6, 2) := by decide +kernel
theorem dL_person_23 : decode cL_person 23 = .ok (.iconst 2, 1) := by decide +kernel
theorem dL_person_24 : decode cL_person 24 = .ok (.ireturn, 1) := by decide +kernel
theorem dL_person_25 : decode cL_person 25 = .ok (.iconst 0, 1) := by decide +kernel
theorem dL_person_26 : decode cL_person 26 = .ok (.ireturn, 1) := by decide +kernel
theorem dL_ill_0 : decode cL_ill 0 = .ok (.aload 4, 2) := by decide +kernel
theorem dL_ill_2 : decode cL_ill 2 = .ok (.iconst 0, 1) := by decide +kernel
theorem dL_ill_3 : decode cL_ill 3 = .ok (.aload_n 0, 1) := by decide +kernel
theorem dL_ill_4 : decode cL_ill 4 = .ok (.iload_n 1, 1) := by decide +kernel
theorem dL_ill_5 : decode cL_ill 5 = .ok (.iload_n 2, 1) := by decide +kernel
theorem dL_ill_6 : decode cL_ill 6 = .ok (.iload_n 3, 1) := by decide +kernel
theorem dL_ill_7 : decode cL_ill 7 = .ok (.invokevirtual 49, 3) := by decide +kernel
theorem dL_ill_10 : decode cL_ill 10 = .ok (.i2l, 1) := by decide +kernel
theorem dL_ill_11 : decode cL_ill 11 = .ok (.lastore, 1) := by decide +kernel
theorem dL_ill_12 : decode cL_ill 12 = .ok (.goto 7, 3) := by decide +kernel
theorem dL_ill_15 : decode cL_ill 15 = .ok (.astore 5, 2) := by decide +kernel
theorem dL_ill_17 : decode cL_ill 17 = .ok (.iconst 1, 1) := by decide +kernel
theorem dL_ill_18 : decode cL_ill 18 = .ok (.ireturn, 1) := by decide +kernel
theorem dL_ill_19 : decode cL_ill 19 = .ok (.iconst 0, 1) := by decide +kernel
theorem dL_ill_20 : decode cL_ill 20 = .ok (.ireturn, 1) := by decide +kernel
theorem dL_place_0 : decode cL_place 0 = .ok (.aload_n 2, 1) := by decide +kernel
theorem dL_place_1 : decode cL_place 1 = .ok (.iconst 0, 1) := by decide +kernel
theorem dL_place_2 : decode cL_place 2 = .ok (.aload_n 0, 1) := by decide +kernel
theorem dL_place_3 : decode cL_place 3 = .ok (.iload_n 1, 1) := by decide +kernel
theorem dL_place_4 : decode cL_place 4 = .ok (.invokevirtual 53, 3) := by decide +kernel
theorem dL_place_7 : decode cL_place 7 = .ok (.i2l, 1) := by decide +kernel
theorem dL_place_8 : decode cL_place 8 = .ok (.lastore, 1) := by decide +kernel
theorem dL_place_9 : decode cL_place 9 = .ok (.goto 9, 3) := by decide +kernel
theorem dL_place_12 : decode cL_place 12 = .ok (.astore_n 3, 1) := by decide +kernel
theorem dL_place_13 : decode cL_place 13 = .ok (.iconst 1, 1) := by decide +kernel
theorem dL_place_14 : decode cL_place 14 = .ok (.ireturn, 1) := by decide +kernel
theorem dL_place_15 : decode cL_place 15 = .ok (.astore_n 3, 1) := by decide +kernel
theorem dL_place_16 : decode cL_place 16 = .ok (.iconst 2, 1) := by decide +kernel
theorem dL_place_17 : decode cL_place 17 = .ok (.ireturn, 1) := by decide +kernel
theorem dL_place_18 : decode cL_place 18 = .ok (.iconst 0, 1) := by decide +kernel
theorem dL_place_19 : decode cL_place 19 = .ok (.ireturn, 1) := by decide +kernel
theorem dL_permit_0 : decode cL_permit 0 = .ok (.aload 4, 2) := by decide +kernel
theorem dL_permit_2 : decode cL_permit 2 = .ok (.iconst 0, 1) := by decide +kernel
theorem dL_permit_3 : decode cL_permit 3 = .ok (.aload_n 0, 1) := by decide +kernel
theorem dL_permit_4 : decode cL_permit 4 = .ok (.iload_n 1, 1) := by decide +kernel
theorem dL_permit_5 : decode cL_permit 5 = .ok (.iload_n 2, 1) := by decide +kernel
theorem dL_permit_6 : decode cL_permit 6 = .ok (.iload_n 3, 1) := by decide +kernel
theorem dL_permit_7 : decode cL_permit 7 = .ok (.invokevirtual 56, 3) := by decide +kernel
theorem dL_permit_10 : decode cL_permit 10 = .ok (.i2l, 1) := by decide +kernel
theorem dL_permit_11 : decode cL_permit 11 = .ok (.lastore, 1) := by decide +kernel
theorem dL_permit_12 : decode cL_permit 12 = .ok (.goto 7, 3) := by decide +kernel
theorem dL_permit_15 : decode cL_permit 15 = .ok (.astore 5, 2) := by decide +kernel
theorem dL_permit_17 : decode cL_permit 17 = .ok (.iconst 1, 1) := by decide +kernel
theorem dL_permit_18 : decode cL_permit 18 = .ok (.ireturn, 1) := by decide +kernel
theorem dL_permit_19 : decode cL_permit 19 = .ok (.iconst 0, 1) := by decide +kernel
theorem dL_permit_20 : decode cL_permit 20 = .ok (.ireturn, 1) := by decide +kernel
theorem dL_move_0 : decode cL_move 0 = .ok (.aload 4, 2) := by decide +kernel
theorem dL_move_2 : decode cL_move 2 = .ok (.iconst 0, 1) := by decide +kernel
theorem dL_move_3 : decode cL_move 3 = .ok (.aload_n 0, 1) := by decide +kernel
theorem dL_move_4 : decode cL_move 4 = .ok (.iload_n 1, 1) := by decide +kernel
theorem dL_move_5 : decode cL_move 5 = .ok (.iload_n 2, 1) := by decide +kernel
theorem dL_move_6 : decode cL_move 6 = .ok (.iload_n 3, 1) := by decide +kernel
theorem dL_move_7 : decode cL_move 7 = .ok (.invokevirtual 59, 3) := by decide +kernel
theorem dL_move_10 : decode cL_move 10 = .ok (.i2l, 1) := by decide +kernel
theorem dL_move_11 : decode cL_move 11 = .ok (.lastore, 1) := by decide +kernel
theorem dL_move_12 : decode cL_move 12 = .ok (.goto 11, 3) := by decide +kernel
theorem dL_move_15 : decode cL_move 15 = .ok (.astore 5, 2) := by decide +kernel
theorem dL_move_17 : decode cL_move 17 = .ok (.iconst 1, 1) := by decide +kernel
theorem dL_move_18 : decode cL_move 18 = .ok (.ireturn, 1) := by decide +kernel
theorem dL_move_19 : decode cL_move 19 = .ok (.astore 5, 2) := by decide +kernel
theorem dL_move_21 : decode cL_move 21 = .ok (.iconst 2, 1) := by decide +kernel
theorem dL_move_22 : decode cL_move 22 = .ok (.ireturn, 1) := by decide +kernel
theorem dL_move_23 : decode cL_move 23 = .ok (.iconst 0, 1) := by decide +kernel
theorem dL_move_24 : decode cL_move 24 = .ok (.ireturn, 1) := by decide +kernel
theorem dL_light_0 : decode cL_light 0 = .ok (.aload_n 0, 1) := by decide +kernel
theorem dL_light_1 : decode cL_light 1 = .ok (.iload_n 1, 1) := by decide +kernel
theorem dL_light_2 : decode cL_light 2 = .ok (.iload_n 2, 1) := by decide +kernel
theorem dL_light_3 : decode cL_light 3 = .ok (.iload_n 3, 1) := by decide +kernel
theorem dL_light_4 : decode cL_light 4 = .ok (.iload 4, 2) := by decide +kernel
theorem dL_light_6 : decode cL_light 6 = .ok (.invokevirtual 63, 3) := by decide +kernel
theorem dL_light_9 : decode cL_light 9 = .ok (.goto 11, 3) := by decide +kernel
theorem dL_light_12 : decode cL_light 12 = .ok (.astore 5, 2) := by decide +kernel
theorem dL_light_14 : decode cL_light 14 = .ok (.iconst 1, 1) := by decide +kernel
theorem dL_light_15 : decode cL_light 15 = .ok (.ireturn, 1) := by decide +kernel
theorem dL_light_16 : decode cL_light 16 = .ok (.astore 5, 2) := by decide +kernel
theorem dL_light_18 : decode cL_light 18 = .ok (.iconst 2, 1) := by decide +kernel
theorem dL_light_19 : decode cL_light 19 = .ok (.ireturn, 1) := by decide +kernel
theorem dL_light_20 : decode cL_light 20 = .ok (.iconst 0, 1) := by decide +kernel
theorem dL_light_21 : decode cL_light 21 = .ok (.ireturn, 1) := by decide +kernel
theorem dL_put_0 : decode cL_put 0 = .ok (.aload 4, 2) := by decide +kernel
theorem dL_put_2 : decode cL_put 2 = .ok (.iconst 0, 1) := by decide +kernel
theorem dL_put_3 : decode cL_put 3 = .ok (.aload_n 0, 1) := by decide +kernel
theorem dL_put_4 : decode cL_put 4 = .ok (.iload_n 1, 1) := by decide +kernel
theorem dL_put_5 : decode cL_put 5 = .ok (.iload_n 2, 1) := by decide +kernel
theorem dL_put_6 : decode cL_put 6 = .ok (.iload_n 3, 1) := by decide +kernel
theorem dL_put_7 : decode cL_put 7 = .ok (.invokevirtual 67, 3) := by decide +kernel
theorem dL_put_10 : decode cL_put 10 = .ok (.i2l, 1) := by decide +kernel
theorem dL_put_11 : decode cL_put 11 = .ok (.lastore, 1) := by decide +kernel
theorem dL_put_12 : decode cL_put 12 = .ok (.goto 11, 3) := by decide +kernel
theorem dL_put_15 : decode cL_put 15 = .ok (.astore 5, 2) := by decide +kernel
theorem dL_put_17 : decode cL_put 17 = .ok (.iconst 1, 1) := by decide +kernel
theorem dL_put_18 : decode cL_put 18 = .ok (.ireturn, 1) := by decide +kernel
theorem dL_put_19 : decode cL_put 19 = .ok (.astore 5, 2) := by decide +kernel
theorem dL_put_21 : decode cL_put 21 = .ok (.iconst 2, 1) := by decide +kernel
theorem dL_put_22 : decode cL_put 22 = .ok (.ireturn, 1) := by decide +kernel
theorem dL_put_23 : decode cL_put 23 = .ok (.iconst 0, 1) := by decide +kernel
theorem dL_put_24 : decode cL_put 24 = .ok (.ireturn, 1) := by decide +kernel
theorem dL_take_0 : decode cL_take 0 = .ok (.aload_n 2, 1) := by decide +kernel
theorem dL_take_1 : decode cL_take 1 = .ok (.iconst 0, 1) := by decide +kernel
theorem dL_take_2 : decode cL_take 2 = .ok (.aload_n 0, 1) := by decide +kernel
theorem dL_take_3 : decode cL_take 3 = .ok (.iload_n 1, 1) := by decide +kernel
theorem dL_take_4 : decode cL_take 4 = .ok (.invokevirtual 70, 3) := by decide +kernel
theorem dL_take_7 : decode cL_take 7 = .ok (.i2l, 1) := by decide +kernel
theorem dL_take_8 : decode cL_take 8 = .ok (.lastore, 1) := by decide +kernel
theorem dL_take_9 : decode cL_take 9 = .ok (.goto 9, 3) := by decide +kernel
theorem dL_take_12 : decode cL_take 12 = .ok (.astore_n 3, 1) := by decide +kernel
theorem dL_take_13 : decode cL_take 13 = .ok (.iconst 1, 1) := by decide +kernel
theorem dL_take_14 : decode cL_take 14 = .ok (.ireturn, 1) := by decide +kernel
theorem dL_take_15 : decode cL_take 15 = .ok (.astore_n 3, 1) := by decide +kernel
theorem dL_take_16 : decode cL_take 16 = .ok (.iconst 2, 1) := by decide +kernel
theorem dL_take_17 : decode cL_take 17 = .ok (.ireturn, 1) := by decide +kernel
theorem dL_take_18 : decode cL_take 18 = .ok (.iconst 0, 1) := by decide +kernel
theorem dL_take_19 : decode cL_take 19 = .ok (.ireturn, 1) := by decide +kernel
theorem dL_mend_0 : decode cL_mend 0 = .ok (.aload_n 2, 1) := by decide +kernel
theorem dL_mend_1 : decode cL_mend 1 = .ok (.iconst 0, 1) := by decide +kernel
theorem dL_mend_2 : decode cL_mend 2 = .ok (.aload_n 0, 1) := by decide +kernel
theorem dL_mend_3 : decode cL_mend 3 = .ok (.iload_n 1, 1) := by decide +kernel
theorem dL_mend_4 : decode cL_mend 4 = .ok (.invokevirtual 73, 3) := by decide +kernel
theorem dL_mend_7 : decode cL_mend 7 = .ok (.i2l, 1) := by decide +kernel
theorem dL_mend_8 : decode cL_mend 8 = .ok (.lastore, 1) := by decide +kernel
theorem dL_mend_9 : decode cL_mend 9 = .ok (.goto 9, 3) := by decide +kernel
theorem dL_mend_12 : decode cL_mend 12 = .ok (.astore_n 3, 1) := by decide +kernel
theorem dL_mend_13 : decode cL_mend 13 = .ok (.iconst 1, 1) := by decide +kernel
theorem dL_mend_14 : decode cL_mend 14 = .ok (.ireturn, 1) := by decide +kernel
theorem dL_mend_15 : decode cL_mend 15 = .ok (.astore_n 3, 1) := by decide +kernel
theorem dL_mend_16 : decode cL_mend 16 = .ok (.iconst 2, 1) := by decide +kernel
theorem dL_mend_17 : decode cL_mend 17 = .ok (.ireturn, 1) := by decide +kernel
theorem dL_mend_18 : decode cL_mend 18 = .ok (.iconst 0, 1) := by decide +kernel
theorem dL_mend_19 : decode cL_mend 19 = .ok (.ireturn, 1) := by decide +kernel
theorem dL_strip_0 : decode cL_strip 0 = .ok (.aload_n 3, 1) := by decide +kernel
theorem dL_strip_1 : decode cL_strip 1 = .ok (.iconst 0, 1) := by decide +kernel
theorem dL_strip_2 : decode cL_strip 2 = .ok (.aload_n 0, 1) := by decide +kernel
theorem dL_strip_3 : decode cL_strip 3 = .ok (.iload_n 1, 1) := by decide +kernel
theorem dL_strip_4 : decode cL_strip 4 = .ok (.iload_n 2, 1) := by decide +kernel
theorem dL_strip_5 : decode cL_strip 5 = .ok (.invokevirtual 76, 3) := by decide +kernel
theorem dL_strip_8 : decode cL_strip 8 = .ok (.i2l, 1) := by decide +kernel
theorem dL_strip_9 : decode cL_strip 9 = .ok (.lastore, 1) := by decide +kernel
theorem dL_strip_10 : decode cL_strip 10 = .ok (.goto 7, 3) := by decide +kernel
theorem dL_strip_13 : decode cL_strip 13 = .ok (.astore 4, 2) := by decide +kernel
theorem dL_strip_15 : decode cL_strip 15 = .ok (.iconst 1, 1) := by decide +kernel
theorem dL_strip_16 : decode cL_strip 16 = .ok (.ireturn, 1) := by decide +kernel
theorem dL_strip_17 : decode cL_strip 17 = .ok (.iconst 0, 1) := by decide +kernel
theorem dL_strip_18 : decode cL_strip 18 = .ok (.ireturn, 1) := by decide +kernel
theorem dL_ofScene_0 : decode cL_ofScene 0 = .ok (.aload_n 3, 1) := by decide +kernel
theorem dL_ofScene_1 : decode cL_ofScene 1 = .ok (.iconst 0, 1) := by decide +kernel
theorem dL_ofScene_2 : decode cL_ofScene 2 = .ok (.aload_n 0, 1) := by decide +kernel
theorem dL_ofScene_3 : decode cL_ofScene 3 = .ok (.iload_n 1, 1) := by decide +kernel
theorem dL_ofScene_4 : decode cL_ofScene 4 = .ok (.iload_n 2, 1) := by decide +kernel
theorem dL_ofScene_5 : decode cL_ofScene 5 = .ok (.invokevirtual 79, 3) := by decide +kernel
theorem dL_ofScene_8 : decode cL_ofScene 8 = .ok (.i2l, 1) := by decide +kernel
theorem dL_ofScene_9 : decode cL_ofScene 9 = .ok (.lastore, 1) := by decide +kernel
theorem dL_ofScene_10 : decode cL_ofScene 10 = .ok (.goto 11, 3) := by decide +kernel
theorem dL_ofScene_13 : decode cL_ofScene 13 = .ok (.astore 4, 2) := by decide +kernel
theorem dL_ofScene_15 : decode cL_ofScene 15 = .ok (.iconst 1, 1) := by decide +kernel
theorem dL_ofScene_16 : decode cL_ofScene 16 = .ok (.ireturn, 1) := by decide +kernel
theorem dL_ofScene_17 : decode cL_ofScene 17 = .ok (.astore 4, 2) := by decide +kernel
theorem dL_ofScene_19 : decode cL_ofScene 19 = .ok (.iconst 2, 1) := by decide +kernel
theorem dL_ofScene_20 : decode cL_ofScene 20 = .ok (.ireturn, 1) := by decide +kernel
theorem dL_ofScene_21 : decode cL_ofScene 21 = .ok (.iconst 0, 1) := by decide +kernel
theorem dL_ofScene_22 : decode cL_ofScene 22 = .ok (.ireturn, 1) := by decide +kernel
theorem dL_call_0 : decode cL_call 0 = .ok (.aload 4, 2) := by decide +kernel
theorem dL_call_2 : decode cL_call 2 = .ok (.iconst 0, 1) := by decide +kernel
theorem dL_call_3 : decode cL_call 3 = .ok (.aload_n 0, 1) := by decide +kernel
theorem dL_call_4 : decode cL_call 4 = .ok (.iload_n 1, 1) := by decide +kernel
theorem dL_call_5 : decode cL_call 5 = .ok (.iload_n 2, 1) := by decide +kernel
theorem dL_call_6 : decode cL_call 6 = .ok (.iload_n 3, 1) := by decide +kernel
theorem dL_call_7 : decode cL_call 7 = .ok (.invokevirtual 82, 3) := by decide +kernel
theorem dL_call_10 : decode cL_call 10 = .ok (.i2l, 1) := by decide +kernel
theorem dL_call_11 : decode cL_call 11 = .ok (.lastore, 1) := by decide +kernel
theorem dL_call_12 : decode cL_call 12 = .ok (.goto 7, 3) := by decide +kernel
theorem dL_call_15 : decode cL_call 15 = .ok (.astore 5, 2) := by decide +kernel
theorem dL_call_17 : decode cL_call 17 = .ok (.iconst 1, 1) := by decide +kernel
theorem dL_call_18 : decode cL_call 18 = .ok (.ireturn, 1) := by decide +kernel
theorem dL_call_19 : decode cL_call 19 = .ok (.iconst 0, 1) := by decide +kernel
theorem dL_call_20 : decode cL_call 20 = .ok (.ireturn, 1) := by decide +kernel
theorem dL_shoot_0 : decode cL_shoot 0 = .ok (.aload_n 3, 1) := by decide +kernel
theorem dL_shoot_1 : decode cL_shoot 1 = .ok (.iconst 0, 1) := by decide +kernel
theorem dL_shoot_2 : decode cL_shoot 2 = .ok (.aload_n 0, 1) := by decide +kernel
theorem dL_shoot_3 : decode cL_shoot 3 = .ok (.iload_n 1, 1) := by decide +kernel
theorem dL_shoot_4 : decode cL_shoot 4 = .ok (.iload_n 2, 1) := by decide +kernel
theorem dL_shoot_5 : decode cL_shoot 5 = .ok (.invokevirtual 85, 3) := by decide +kernel
theorem dL_shoot_8 : decode cL_shoot 8 = .ok (.i2l, 1) := by decide +kernel
theorem dL_shoot_9 : decode cL_shoot 9 = .ok (.lastore, 1) := by decide +kernel
theorem dL_shoot_10 : decode cL_shoot 10 = .ok (.goto 15, 3) := by decide +kernel
theorem dL_shoot_13 : decode cL_shoot 13 = .ok (.astore 4, 2) := by decide +kernel
theorem dL_shoot_15 : decode cL_shoot 15 = .ok (.iconst 1, 1) := by decide +kernel
theorem dL_shoot_16 : decode cL_shoot 16 = .ok (.ireturn, 1) := by decide +kernel
theorem dL_shoot_17 : decode cL_shoot 17 = .ok (.astore 4, 2) := by decide +kernel
theorem dL_shoot_19 : decode cL_shoot 19 = .ok (.iconst 2, 1) := by decide +kernel
theorem dL_shoot_20 : decode cL_shoot 20 = .ok (.ireturn, 1) := by decide +kernel
theorem dL_shoot_21 : decode cL_shoot 21 = .ok (.astore 4, 2) := by decide +kernel
theorem dL_shoot_23 : decode cL_shoot 23 = .ok (.iconst 3, 1) := by decide +kernel
theorem dL_shoot_24 : decode cL_shoot 24 = .ok (.ireturn, 1) := by decide +kernel
theorem dL_shoot_25 : decode cL_shoot 25 = .ok (.iconst 0, 1) := by decide +kernel
theorem dL_shoot_26 : decode cL_shoot 26 = .ok (.ireturn, 1) := by decide +kernel
theorem dL_lose_0 : decode cL_lose 0 = .ok (.aload_n 2, 1) := by decide +kernel
theorem dL_lose_1 : decode cL_lose 1 = .ok (.iconst 0, 1) := by decide +kernel
theorem dL_lose_2 : decode cL_lose 2 = .ok (.aload_n 0, 1) := by decide +kernel
theorem dL_lose_3 : decode cL_lose 3 = .ok (.iload_n 1, 1) := by decide +kernel
theorem dL_lose_4 : decode cL_lose 4 = .ok (.invokevirtual 88, 3) := by decide +kernel
theorem dL_lose_7 : decode cL_lose 7 = .ok (.i2l, 1) := by decide +kernel
theorem dL_lose_8 : decode cL_lose 8 = .ok (.lastore, 1) := by decide +kernel
theorem dL_lose_9 : decode cL_lose 9 = .ok (.goto 9, 3) := by decide +kernel
theorem dL_lose_12 : decode cL_lose 12 = .ok (.astore_n 3, 1) := by decide +kernel
theorem dL_lose_13 : decode cL_lose 13 = .ok (.iconst 1, 1) := by decide +kernel
theorem dL_lose_14 : decode cL_lose 14 = .ok (.ireturn, 1) := by decide +kernel
theorem dL_lose_15 : decode cL_lose 15 = .ok (.astore_n 3, 1) := by decide +kernel
theorem dL_lose_16 : decode cL_lose 16 = .ok (.iconst 2, 1) := by decide +kernel
theorem dL_lose_17 : decode cL_lose 17 = .ok (.ireturn, 1) := by decide +kernel
theorem dL_lose_18 : decode cL_lose 18 = .ok (.iconst 0, 1) := by decide +kernel
theorem dL_lose_19 : decode cL_lose 19 = .ok (.ireturn, 1) := by decide +kernel
theorem dL_next_0 : decode cL_next 0 = .ok (.aload_n 1, 1) := by decide +kernel
theorem dL_next_1 : decode cL_next 1 = .ok (.iconst 0, 1) := by decide +kernel
theorem dL_next_2 : decode cL_next 2 = .ok (.aload_n 0, 1) := by decide +kernel
theorem dL_next_3 : decode cL_next 3 = .ok (.invokevirtual 91, 3) := by decide +kernel
theorem dL_next_6 : decode cL_next 6 = .ok (.i2l, 1) := by decide +kernel
theorem dL_next_7 : decode cL_next 7 = .ok (.lastore, 1) := by decide +kernel
theorem dL_next_8 : decode cL_next 8 = .ok (.goto 6, 3) := by decide +kernel
theorem dL_next_11 : decode cL_next 11 = .ok (.astore_n 2, 1) := by decide +kernel
theorem dL_next_12 : decode cL_next 12 = .ok (.iconst 1, 1) := by decide +kernel
theorem dL_next_13 : decode cL_next 13 = .ok (.ireturn, 1) := by decide +kernel
theorem dL_next_14 : decode cL_next 14 = .ok (.iconst 0, 1) := by decide +kernel
theorem dL_next_15 : decode cL_next 15 = .ok (.ireturn, 1) := by decide +kernel
theorem dL_pay_0 : decode cL_pay 0 = .ok (.aload_n 3, 1) := by decide +kernel
theorem dL_pay_1 : decode cL_pay 1 = .ok (.iconst 0, 1) := by decide +kernel
theorem dL_pay_2 : decode cL_pay 2 = .ok (.aload_n 0, 1) := by decide +kernel
theorem dL_pay_3 : decode cL_pay 3 = .ok (.iload_n 1, 1) := by decide +kernel
theorem dL_pay_4 : decode cL_pay 4 = .ok (.iload_n 2, 1) := by decide +kernel
theorem dL_pay_5 : decode cL_pay 5 = .ok (.invokevirtual 94, 3) := by decide +kernel
theorem dL_pay_8 : decode cL_pay 8 = .ok (.i2l, 1) := by decide +kernel
theorem dL_pay_9 : decode cL_pay 9 = .ok (.lastore, 1) := by decide +kernel
theorem dL_pay_10 : decode cL_pay 10 = .ok (.goto 7, 3) := by decide +kernel
theorem dL_pay_13 : decode cL_pay 13 = .ok (.astore 4, 2) := by decide +kernel
theorem dL_pay_15 : decode cL_pay 15 = .ok (.iconst 1, 1) := by decide +kernel
theorem dL_pay_16 : decode cL_pay 16 = .ok (.ireturn, 1) := by decide +kernel
theorem dL_pay_17 : decode cL_pay 17 = .ok (.iconst 0, 1) := by decide +kernel
theorem dL_pay_18 : decode cL_pay 18 = .ok (.ireturn, 1) := by decide +kernel
theorem dL_law_0 : decode cL_law 0 = .ok (.new 8, 3) := by decide +kernel
theorem dL_law_3 : decode cL_law 3 = .ok (.dup, 1) := by decide +kernel
theorem dL_law_4 : decode cL_law 4 = .ok (.invokespecial 98, 3) := by decide +kernel
theorem dL_law_7 : decode cL_law 7 = .ok (.astore_n 1, 1) := by decide +kernel
theorem dL_law_8 : decode cL_law 8 = .ok (.new 99, 3) := by decide +kernel
theorem dL_law_11 : decode cL_law 11 = .ok (.dup, 1) := by decide +kernel
theorem dL_law_12 : decode cL_law 12 = .ok (.invokespecial 101, 3) := by decide +kernel
theorem dL_law_15 : decode cL_law 15 = .ok (.astore_n 2, 1) := by decide +kernel
theorem dL_law_16 : decode cL_law 16 = .ok (.iconst 1, 1) := by decide +kernel
theorem dL_law_17 : decode cL_law 17 = .ok (.newarray .long, 2) := by decide +kernel
theorem dL_law_19 : decode cL_law 19 = .ok (.astore_n 3, 1) := by decide +kernel
theorem dL_law_20 : decode cL_law 20 = .ok (.iconst 0, 1) := by decide +kernel
theorem dL_law_21 : decode cL_law 21 = .ok (.istore 4, 2) := by decide +kernel
theorem dL_law_23 : decode cL_law 23 = .ok (.iload 4, 2) := by decide +kernel
theorem dL_law_25 : decode cL_law 25 = .ok (.aload_n 0, 1) := by decide +kernel
theorem dL_law_26 : decode cL_law 26 = .ok (.arraylength, 1) := by decide +kernel
theorem dL_law_27 : decode cL_law 27 = .ok (.bipush 6, 2) := by decide +kernel
theorem dL_law_29 : decode cL_law 29 = .ok (.isub, 1) := by decide +kernel
theorem dL_law_30 : decode cL_law 30 = .ok (.if_icmp .gt 1945, 3) := by decide +kernel
theorem dL_law_33 : decode cL_law 33 = .ok (.aload_n 0, 1) := by decide +kernel
theorem dL_law_34 : decode cL_law 34 = .ok (.iload 4, 2) := by decide +kernel
theorem dL_law_36 : decode cL_law 36 = .ok (.iaload, 1) := by decide +kernel
theorem dL_law_37 : decode cL_law 37 = .ok (.bipush 31, 2) := by decide +kernel
theorem dL_law_39 : decode cL_law 39 = .ok (.iand, 1) := by decide +kernel
theorem dL_law_40 : decode cL_law 40 = .ok (.tableswitch 1929 0 25 #[120, 256, 300, 356, 412, 480, 588, 651, 719, 827, 923, 979, 1075, 1155, 1227, 1307, 1363, 1376, 1432, 1500, 1568, 1664, 1732, 1788, 1832, 1916], 120) := by decide +kernel
theorem dL_law_160 : decode cL_law 160 = .ok (.aload_n 1, 1) := by decide +kernel
theorem dL_law_161 : decode cL_law 161 = .ok (.aload_n 0, 1) := by decide +kernel
theorem dL_law_162 : decode cL_law 162 = .ok (.iload 4, 2) := by decide +kernel
theorem dL_law_164 : decode cL_law 164 = .ok (.iconst 1, 1) := by decide +kernel
theorem dL_law_165 : decode cL_law 165 = .ok (.iadd, 1) := by decide +kernel
theorem dL_law_166 : decode cL_law 166 = .ok (.iaload, 1) := by decide +kernel
theorem dL_law_167 : decode cL_law 167 = .ok (.aload_n 0, 1) := by decide +kernel
theorem dL_law_168 : decode cL_law 168 = .ok (.iload 4, 2) := by decide +kernel
theorem dL_law_170 : decode cL_law 170 = .ok (.iconst 2, 1) := by decide +kernel
theorem dL_law_171 : decode cL_law 171 = .ok (.iadd, 1) := by decide +kernel
theorem dL_law_172 : decode cL_law 172 = .ok (.iaload, 1) := by decide +kernel
theorem dL_law_173 : decode cL_law 173 = .ok (.aload_n 0, 1) := by decide +kernel
theorem dL_law_174 : decode cL_law 174 = .ok (.iload 4, 2) := by decide +kernel
theorem dL_law_176 : decode cL_law 176 = .ok (.iconst 3, 1) := by decide +kernel
theorem dL_law_177 : decode cL_law 177 = .ok (.iadd, 1) := by decide +kernel
theorem dL_law_178 : decode cL_law 178 = .ok (.iaload, 1) := by decide +kernel
theorem dL_law_179 : decode cL_law 179 = .ok (.ifCond .eq 7, 3) := by decide +kernel
theorem dL_law_182 : decode cL_law 182 = .ok (.iconst 1, 1) := by decide +kernel
theorem dL_law_183 : decode cL_law 183 = .ok (.goto 4, 3) := by decide +kernel
theorem dL_law_186 : decode cL_law 186 = .ok (.iconst 0, 1) := by decide +kernel
theorem dL_law_187 : decode cL_law 187 = .ok (.aload_n 0, 1) := by decide +kernel
theorem dL_law_188 : decode cL_law 188 = .ok (.iload 4, 2) := by decide +kernel
theorem dL_law_190 : decode cL_law 190 = .ok (.iconst 4, 1) := by decide +kernel
theorem dL_law_191 : decode cL_law 191 = .ok (.iadd, 1) := by decide +kernel
theorem dL_law_192 : decode cL_law 192 = .ok (.iaload, 1) := by decide +kernel
theorem dL_law_193 : decode cL_law 193 = .ok (.ifCond .eq 7, 3) := by decide +kernel
theorem dL_law_196 : decode cL_law 196 = .ok (.iconst 1, 1) := by decide +kernel
theorem dL_law_197 : decode cL_law 197 = .ok (.goto 4, 3) := by decide +kernel
theorem dL_law_200 : decode cL_law 200 = .ok (.iconst 0, 1) := by decide +kernel
theorem dL_law_201 : decode cL_law 201 = .ok (.aload_n 0, 1) := by decide +kernel
theorem dL_law_202 : decode cL_law 202 = .ok (.iload 4, 2) := by decide +kernel
theorem dL_law_204 : decode cL_law 204 = .ok (.iconst 5, 1) := by decide +kernel
theorem dL_law_205 : decode cL_law 205 = .ok (.iadd, 1) := by decide +kernel
theorem dL_law_206 : decode cL_law 206 = .ok (.iaload, 1) := by decide +kernel
theorem dL_law_207 : decode cL_law 207 = .ok (.aload_n 3, 1) := by decide +kernel
theorem dL_law_208 : decode cL_law 208 = .ok (.invokestatic 102, 3) := by decide +kernel
theorem dL_law_211 : decode cL_law 211 = .ok (.istore 5, 2) := by decide +kernel
theorem dL_law_213 : decode cL_law 213 = .ok (.aload_n 2, 1) := by decide +kernel
theorem dL_law_214 : decode cL_law 214 = .ok (.aload_n 0, 1) := by decide +kernel
theorem dL_law_215 : decode cL_law 215 = .ok (.iload 4, 2) := by decide +kernel
theorem dL_law_217 : decode cL_law 217 = .ok (.iconst 1, 1) := by decide +kernel
theorem dL_law_218 : decode cL_law 218 = .ok (.iadd, 1) := by decide +kernel
theorem dL_law_219 : decode cL_law 219 = .ok (.iaload, 1) := by decide +kernel
theorem dL_law_220 : decode cL_law 220 = .ok (.aload_n 0, 1) := by decide +kernel
theorem dL_law_221 : decode cL_law 221 = .ok (.iload 4, 2) := by decide +kernel
theorem dL_law_223 : decode cL_law 223 = .ok (.iconst 2, 1) := by decide +kernel
theorem dL_law_224 : decode cL_law 224 = .ok (.iadd, 1) := by decide +kernel
theorem dL_law_225 : decode cL_law 225 = .ok (.iaload, 1) := by decide +kernel
theorem dL_law_226 : decode cL_law 226 = .ok (.aload_n 0, 1) := by decide +kernel
theorem dL_law_227 : decode cL_law 227 = .ok (.iload 4, 2) := by decide +kernel
theorem dL_law_229 : decode cL_law 229 = .ok (.iconst 3, 1) := by decide +kernel
theorem dL_law_230 : decode cL_law 230 = .ok (.iadd, 1) := by decide +kernel
theorem dL_law_231 : decode cL_law 231 = .ok (.iaload, 1) := by decide +kernel
theorem dL_law_232 : decode cL_law 232 = .ok (.ifCond .eq 7, 3) := by decide +kernel
theorem dL_law_235 : decode cL_law 235 = .ok (.iconst 1, 1) := by decide +kernel
theorem dL_law_236 : decode cL_law 236 = .ok (.goto 4, 3) := by decide +kernel
theorem dL_law_239 : decode cL_law 239 = .ok (.iconst 0, 1) := by decide +kernel
theorem dL_law_240 : decode cL_law 240 = .ok (.aload_n 0, 1) := by decide +kernel
theorem dL_law_241 : decode cL_law 241 = .ok (.iload 4, 2) := by decide +kernel
theorem dL_law_243 : decode cL_law 243 = .ok (.iconst 4, 1) := by decide +kernel
theorem dL_law_244 : decode cL_law 244 = .ok (.iadd, 1) := by decide +kernel
theorem dL_law_245 : decode cL_law 245 = .ok (.iaload, 1) := by decide +kernel
theorem dL_law_246 : decode cL_law 246 = .ok (.ifCond .eq 7, 3) := by decide +kernel
theorem dL_law_249 : decode cL_law 249 = .ok (.iconst 1, 1) := by decide +kernel
theorem dL_law_250 : decode cL_law 250 = .ok (.goto 4, 3) := by decide +kernel
theorem dL_law_253 : decode cL_law 253 = .ok (.iconst 0, 1) := by decide +kernel
theorem dL_law_254 : decode cL_law 254 = .ok (.aload_n 0, 1) := by decide +kernel
theorem dL_law_255 : decode cL_law 255 = .ok (.iload 4, 2) := by decide +kernel
theorem dL_law_257 : decode cL_law 257 = .ok (.iconst 5, 1) := by decide +kernel
theorem dL_law_258 : decode cL_law 258 = .ok (.iadd, 1) := by decide +kernel
theorem dL_law_259 : decode cL_law 259 = .ok (.iaload, 1) := by decide +kernel
theorem dL_law_260 : decode cL_law 260 = .ok (.invokevirtual 107, 3) := by decide +kernel
theorem dL_law_263 : decode cL_law 263 = .ok (.istore 6, 2) := by decide +kernel
theorem dL_law_265 : decode cL_law 265 = .ok (.aload_n 2, 1) := by decide +kernel
theorem dL_law_266 : decode cL_law 266 = .ok (.invokevirtual 108, 3) := by decide +kernel
theorem dL_law_269 : decode cL_law 269 = .ok (.iload 5, 2) := by decide +kernel
theorem dL_law_271 : decode cL_law 271 = .ok (.if_icmp .eq 5, 3) := by decide +kernel
theorem dL_law_274 : decode cL_law 274 = .ok (.iconst 0, 1) := by decide +kernel
theorem dL_law_275 : decode cL_law 275 = .ok (.ireturn, 1) := by decide +kernel
theorem dL_law_276 : decode cL_law 276 = .ok (.iload 5, 2) := by decide +kernel
theorem dL_law_278 : decode cL_law 278 = .ok (.ifCond .ne 15, 3) := by decide +kernel
theorem dL_law_281 : decode cL_law 281 = .ok (.aload_n 3, 1) := by decide +kernel
theorem dL_law_282 : decode cL_law 282 = .ok (.iconst 0, 1) := by decide +kernel
theorem dL_law_283 : decode cL_law 283 = .ok (.laload, 1) := by decide +kernel
theorem dL_law_284 : decode cL_law 284 = .ok (.iload 6, 2) := by decide +kernel
theorem dL_law_286 : decode cL_law 286 = .ok (.i2l, 1) := by decide +kernel
theorem dL_law_287 : decode cL_law 287 = .ok (.lcmp, 1) := by decide +kernel
theorem dL_law_288 : decode cL_law 288 = .ok (.ifCond .eq 5, 3) := by decide +kernel
theorem dL_law_291 : decode cL_law 291 = .ok (.iconst 0, 1) := by decide +kernel
theorem dL_law_292 : decode cL_law 292 = .ok (.ireturn, 1) := by decide +kernel
theorem dL_law_293 : decode cL_law 293 = .ok (.goto 1676, 3) := by decide +kernel
theorem dL_law_296 : decode cL_law 296 = .ok (.aload_n 1, 1) := by decide +kernel
theorem dL_law_297 : decode cL_law 297 = .ok (.aload_n 3, 1) := by decide +kernel
theorem dL_law_298 : decode cL_law 298 = .ok (.invokestatic 111, 3) := by decide +kernel
theorem dL_law_301 : decode cL_law 301 = .ok (.istore 5, 2) := by decide +kernel
theorem dL_law_303 : decode cL_law 303 = .ok (.aload_n 2, 1) := by decide +kernel
theorem dL_law_304 : decode cL_law 304 = .ok (.invokevirtual 114, 3) := by decide +kernel
theorem dL_law_307 : decode cL_law 307 = .ok (.istore 6, 2) := by decide +kernel
theorem dL_law_309 : decode cL_law 309 = .ok (.aload_n 2, 1) := by decide +kernel
theorem dL_law_310 : decode cL_law 310 = .ok (.invokevirtual 108, 3) := by decide +kernel
theorem dL_law_313 : decode cL_law 313 = .ok (.iload 5, 2) := by decide +kernel
theorem dL_law_315 : decode cL_law 315 = .ok (.if_icmp .eq 5, 3) := by decide +kernel
theorem dL_law_318 : decode cL_law 318 = .ok (.iconst 0, 1) := by decide +kernel
theorem dL_law_319 : decode cL_law 319 = .ok (.ireturn, 1) := by decide +kernel
theorem dL_law_320 : decode cL_law 320 = .ok (.iload 5, 2) := by decide +kernel
theorem dL_law_322 : decode cL_law 322 = .ok (.ifCond .ne 15, 3) := by decide +kernel
theorem dL_law_325 : decode cL_law 325 = .ok (.aload_n 3, 1) := by decide +kernel
theorem dL_law_326 : decode cL_law 326 = .ok (.iconst 0, 1) := by decide +kernel
theorem dL_law_327 : decode cL_law 327 = .ok (.laload, 1) := by decide +kernel
theorem dL_law_328 : decode cL_law 328 = .ok (.iload 6, 2) := by decide +kernel
theorem dL_law_330 : decode cL_law 330 = .ok (.i2l, 1) := by decide +kernel
theorem dL_law_331 : decode cL_law 331 = .ok (.lcmp, 1) := by decide +kernel
theorem dL_law_332 : decode cL_law 332 = .ok (.ifCond .eq 5, 3) := by decide +kernel
theorem dL_law_335 : decode cL_law 335 = .ok (.iconst 0, 1) := by decide +kernel
theorem dL_law_336 : decode cL_law 336 = .ok (.ireturn, 1) := by decide +kernel
theorem dL_law_337 : decode cL_law 337 = .ok (.goto 1632, 3) := by decide +kernel
theorem dL_law_340 : decode cL_law 340 = .ok (.aload_n 1, 1) := by decide +kernel
theorem dL_law_341 : decode cL_law 341 = .ok (.aload_n 0, 1) := by decide +kernel
theorem dL_law_342 : decode cL_law 342 = .ok (.iload 4, 2) := by decide +kernel
theorem dL_law_344 : decode cL_law 344 = .ok (.iconst 1, 1) := by decide +kernel
theorem dL_law_345 : decode cL_law 345 = .ok (.iadd, 1) := by decide +kernel
theorem dL_law_346 : decode cL_law 346 = .ok (.iaload, 1) := by decide +kernel
theorem dL_law_347 : decode cL_law 347 = .ok (.aload_n 3, 1) := by decide +kernel
theorem dL_law_348 : decode cL_law 348 = .ok (.invokestatic 115, 3) := by decide +kernel
theorem dL_law_351 : decode cL_law 351 = .ok (.istore 5, 2) := by decide +kernel
theorem dL_law_353 : decode cL_law 353 = .ok (.aload_n 2, 1) := by decide +kernel
theorem dL_law_354 : decode cL_law 354 = .ok (.aload_n 0, 1) := by decide +kernel
theorem dL_law_355 : decode cL_law 355 = .ok (.iload 4, 2) := by decide +kernel
theorem dL_law_357 : decode cL_law 357 = .ok (.iconst 1, 1) := by decide +kernel
theorem dL_law_358 : decode cL_law 358 = .ok (.iadd, 1) := by decide +kernel
theorem dL_law_359 : decode cL_law 359 = .ok (.iaload, 1) := by decide +kernel
theorem dL_law_360 : decode cL_law 360 = .ok (.invokevirtual 118, 3) := by decide +kernel
theorem dL_law_363 : decode cL_law 363 = .ok (.istore 6, 2) := by decide +kernel
theorem dL_law_365 : decode cL_law 365 = .ok (.aload_n 2, 1) := by decide +kernel
theorem dL_law_366 : decode cL_law 366 = .ok (.invokevirtual 108, 3) := by decide +kernel
theorem dL_law_369 : decode cL_law 369 = .ok (.iload 5, 2) := by decide +kernel
theorem dL_law_371 : decode cL_law 371 = .ok (.if_icmp .eq 5, 3) := by decide +kernel
theorem dL_law_374 : decode cL_law 374 = .ok (.iconst 0, 1) := by decide +kernel
theorem dL_law_375 : decode cL_law 375 = .ok (.ireturn, 1) := by decide +kernel
theorem dL_law_376 : decode cL_law 376 = .ok (.iload 5, 2) := by decide +kernel
theorem dL_law_378 : decode cL_law 378 = .ok (.ifCond .ne 15, 3) := by decide +kernel
theorem dL_law_381 : decode cL_law 381 = .ok (.aload_n 3, 1) := by decide +kernel
theorem dL_law_382 : decode cL_law 382 = .ok (.iconst 0, 1) := by decide +kernel
theorem dL_law_383 : decode cL_law 383 = .ok (.laload, 1) := by decide +kernel
theorem dL_law_384 : decode cL_law 384 = .ok (.iload 6, 2) := by decide +kernel
theorem dL_law_386 : decode cL_law 386 = .ok (.i2l, 1) := by decide +kernel
theorem dL_law_387 : decode cL_law 387 = .ok (.lcmp, 1) := by decide +kernel
theorem dL_law_388 : decode cL_law 388 = .ok (.ifCond .eq 5, 3) := by decide +kernel
theorem dL_law_391 : decode cL_law 391 = .ok (.iconst 0, 1) := by decide +kernel
theorem dL_law_392 : decode cL_law 392 = .ok (.ireturn, 1) := by decide +kernel
theorem dL_law_393 : decode cL_law 393 = .ok (.goto 1576, 3) := by decide +kernel
theorem dL_law_396 : decode cL_law 396 = .ok (.aload_n 1, 1) := by decide +kernel
theorem dL_law_397 : decode cL_law 397 = .ok (.aload_n 0, 1) := by decide +kernel
theorem dL_law_398 : decode cL_law 398 = .ok (.iload 4, 2) := by decide +kernel
theorem dL_law_400 : decode cL_law 400 = .ok (.iconst 1, 1) := by decide +kernel
theorem dL_law_401 : decode cL_law 401 = .ok (.iadd, 1) := by decide +kernel
theorem dL_law_402 : decode cL_law 402 = .ok (.iaload, 1) := by decide +kernel
theorem dL_law_403 : decode cL_law 403 = .ok (.aload_n 3, 1) := by decide +kernel
theorem dL_law_404 : decode cL_law 404 = .ok (.invokestatic 119, 3) := by decide +kernel
theorem dL_law_407 : decode cL_law 407 = .ok (.istore 5, 2) := by decide +kernel
theorem dL_law_409 : decode cL_law 409 = .ok (.aload_n 2, 1) := by decide +kernel
theorem dL_law_410 : decode cL_law 410 = .ok (.aload_n 0, 1) := by decide +kernel
theorem dL_law_411 : decode cL_law 411 = .ok (.iload 4, 2) := by decide +kernel
theorem dL_law_413 : decode cL_law 413 = .ok (.iconst 1, 1) := by decide +kernel
end
section
theorem dL_law_414 : decode cL_law 414 = .ok (.iadd, 1) := by decide +kernel
theorem dL_law_415 : decode cL_law 415 = .ok (.iaload, 1) := by decide +kernel
theorem dL_law_416 : decode cL_law 416 = .ok (.invokevirtual 121, 3) := by decide +kernel
theorem dL_law_419 : decode cL_law 419 = .ok (.istore 6, 2) := by decide +kernel
theorem dL_law_421 : decode cL_law 421 = .ok (.aload_n 2, 1) := by decide +kernel
theorem dL_law_422 : decode cL_law 422 = .ok (.invokevirtual 108, 3) := by decide +kernel
theorem dL_law_425 : decode cL_law 425 = .ok (.iload 5, 2) := by decide +kernel
theorem dL_law_427 : decode cL_law 427 = .ok (.if_icmp .eq 5, 3) := by decide +kernel
theorem dL_law_430 : decode cL_law 430 = .ok (.iconst 0, 1) := by decide +kernel
theorem dL_law_431 : decode cL_law 431 = .ok (.ireturn, 1) := by decide +kernel
theorem dL_law_432 : decode cL_law 432 = .ok (.iload 5, 2) := by decide +kernel
theorem dL_law_434 : decode cL_law 434 = .ok (.ifCond .ne 15, 3) := by decide +kernel
theorem dL_law_437 : decode cL_law 437 = .ok (.aload_n 3, 1) := by decide +kernel
theorem dL_law_438 : decode cL_law 438 = .ok (.iconst 0, 1) := by decide +kernel
theorem dL_law_439 : decode cL_law 439 = .ok (.laload, 1) := by decide +kernel
theorem dL_law_440 : decode cL_law 440 = .ok (.iload 6, 2) := by decide +kernel
theorem dL_law_442 : decode cL_law 442 = .ok (.i2l, 1) := by decide +kernel
theorem dL_law_443 : decode cL_law 443 = .ok (.lcmp, 1) := by decide +kernel
theorem dL_law_444 : decode cL_law 444 = .ok (.ifCond .eq 5, 3) := by decide +kernel
theorem dL_law_447 : decode cL_law 447 = .ok (.iconst 0, 1) := by decide +kernel
theorem dL_law_448 : decode cL_law 448 = .ok (.ireturn, 1) := by decide +kernel
theorem dL_law_449 : decode cL_law 449 = .ok (.goto 1520, 3) := by decide +kernel
theorem dL_law_452 : decode cL_law 452 = .ok (.aload_n 1, 1) := by decide +kernel
theorem dL_law_453 : decode cL_law 453 = .ok (.aload_n 0, 1) := by decide +kernel
theorem dL_law_454 : decode cL_law 454 = .ok (.iload 4, 2) := by decide +kernel
theorem dL_law_456 : decode cL_law 456 = .ok (.iconst 1, 1) := by decide +kernel
theorem dL_law_457 : decode cL_law 457 = .ok (.iadd, 1) := by decide +kernel
theorem dL_law_458 : decode cL_law 458 = .ok (.iaload, 1) := by decide +kernel
theorem dL_law_459 : decode cL_law 459 = .ok (.aload_n 0, 1) := by decide +kernel
theorem dL_law_460 : decode cL_law 460 = .ok (.iload 4, 2) := by decide +kernel
theorem dL_law_462 : decode cL_law 462 = .ok (.iconst 2, 1) := by decide +kernel
theorem dL_law_463 : decode cL_law 463 = .ok (.iadd, 1) := by decide +kernel
theorem dL_law_464 : decode cL_law 464 = .ok (.iaload, 1) := by decide +kernel
theorem dL_law_465 : decode cL_law 465 = .ok (.aload_n 3, 1) := by decide +kernel
theorem dL_law_466 : decode cL_law 466 = .ok (.invokestatic 122, 3) := by decide +kernel
theorem dL_law_469 : decode cL_law 469 = .ok (.istore 5, 2) := by decide +kernel
theorem dL_law_471 : decode cL_law 471 = .ok (.aload_n 2, 1) := by decide +kernel
theorem dL_law_472 : decode cL_law 472 = .ok (.aload_n 0, 1) := by decide +kernel
theorem dL_law_473 : decode cL_law 473 = .ok (.iload 4, 2) := by decide +kernel
theorem dL_law_475 : decode cL_law 475 = .ok (.iconst 1, 1) := by decide +kernel
theorem dL_law_476 : decode cL_law 476 = .ok (.iadd, 1) := by decide +kernel
theorem dL_law_477 : decode cL_law 477 = .ok (.iaload, 1) := by decide +kernel
theorem dL_law_478 : decode cL_law 478 = .ok (.aload_n 0, 1) := by decide +kernel
theorem dL_law_479 : decode cL_law 479 = .ok (.iload 4, 2) := by decide +kernel
theorem dL_law_481 : decode cL_law 481 = .ok (.iconst 2, 1) := by decide +kernel
theorem dL_law_482 : decode cL_law 482 = .ok (.iadd, 1) := by decide +kernel
theorem dL_law_483 : decode cL_law 483 = .ok (.iaload, 1) := by decide +kernel
theorem dL_law_484 : decode cL_law 484 = .ok (.invokevirtual 125, 3) := by decide +kernel
theorem dL_law_487 : decode cL_law 487 = .ok (.istore 6, 2) := by decide +kernel
theorem dL_law_489 : decode cL_law 489 = .ok (.aload_n 2, 1) := by decide +kernel
theorem dL_law_490 : decode cL_law 490 = .ok (.invokevirtual 108, 3) := by decide +kernel
theorem dL_law_493 : decode cL_law 493 = .ok (.iload 5, 2) := by decide +kernel
theorem dL_law_495 : decode cL_law 495 = .ok (.if_icmp .eq 5, 3) := by decide +kernel
theorem dL_law_498 : decode cL_law 498 = .ok (.iconst 0, 1) := by decide +kernel
theorem dL_law_499 : decode cL_law 499 = .ok (.ireturn, 1) := by decide +kernel
theorem dL_law_500 : decode cL_law 500 = .ok (.iload 5, 2) := by decide +kernel
theorem dL_law_502 : decode cL_law 502 = .ok (.ifCond .ne 15, 3) := by decide +kernel
theorem dL_law_505 : decode cL_law 505 = .ok (.aload_n 3, 1) := by decide +kernel
theorem dL_law_506 : decode cL_law 506 = .ok (.iconst 0, 1) := by decide +kernel
theorem dL_law_507 : decode cL_law 507 = .ok (.laload, 1) := by decide +kernel
theorem dL_law_508 : decode cL_law 508 = .ok (.iload 6, 2) := by decide +kernel
theorem dL_law_510 : decode cL_law 510 = .ok (.i2l, 1) := by decide +kernel
theorem dL_law_511 : decode cL_law 511 = .ok (.lcmp, 1) := by decide +kernel
theorem dL_law_512 : decode cL_law 512 = .ok (.ifCond .eq 5, 3) := by decide +kernel
theorem dL_law_515 : decode cL_law 515 = .ok (.iconst 0, 1) := by decide +kernel
theorem dL_law_516 : decode cL_law 516 = .ok (.ireturn, 1) := by decide +kernel
theorem dL_law_517 : decode cL_law 517 = .ok (.goto 1452, 3) := by decide +kernel
theorem dL_law_520 : decode cL_law 520 = .ok (.aload_n 1, 1) := by decide +kernel
theorem dL_law_521 : decode cL_law 521 = .ok (.aload_n 0, 1) := by decide +kernel
theorem dL_law_522 : decode cL_law 522 = .ok (.iload 4, 2) := by decide +kernel
theorem dL_law_524 : decode cL_law 524 = .ok (.iconst 1, 1) := by decide +kernel
theorem dL_law_525 : decode cL_law 525 = .ok (.iadd, 1) := by decide +kernel
theorem dL_law_526 : decode cL_law 526 = .ok (.iaload, 1) := by decide +kernel
theorem dL_law_527 : decode cL_law 527 = .ok (.aload_n 0, 1) := by decide +kernel
theorem dL_law_528 : decode cL_law 528 = .ok (.iload 4, 2) := by decide +kernel
theorem dL_law_530 : decode cL_law 530 = .ok (.iconst 2, 1) := by decide +kernel
theorem dL_law_531 : decode cL_law 531 = .ok (.iadd, 1) := by decide +kernel
theorem dL_law_532 : decode cL_law 532 = .ok (.iaload, 1) := by decide +kernel
theorem dL_law_533 : decode cL_law 533 = .ok (.aload_n 0, 1) := by decide +kernel
theorem dL_law_534 : decode cL_law 534 = .ok (.iload 4, 2) := by decide +kernel
theorem dL_law_536 : decode cL_law 536 = .ok (.iconst 3, 1) := by decide +kernel
theorem dL_law_537 : decode cL_law 537 = .ok (.iadd, 1) := by decide +kernel
theorem dL_law_538 : decode cL_law 538 = .ok (.iaload, 1) := by decide +kernel
theorem dL_law_539 : decode cL_law 539 = .ok (.ifCond .eq 7, 3) := by decide +kernel
theorem dL_law_542 : decode cL_law 542 = .ok (.iconst 1, 1) := by decide +kernel
theorem dL_law_543 : decode cL_law 543 = .ok (.goto 4, 3) := by decide +kernel
theorem dL_law_546 : decode cL_law 546 = .ok (.iconst 0, 1) := by decide +kernel
theorem dL_law_547 : decode cL_law 547 = .ok (.aload_n 0, 1) := by decide +kernel
theorem dL_law_548 : decode cL_law 548 = .ok (.iload 4, 2) := by decide +kernel
theorem dL_law_550 : decode cL_law 550 = .ok (.iconst 4, 1) := by decide +kernel
theorem dL_law_551 : decode cL_law 551 = .ok (.iadd, 1) := by decide +kernel
theorem dL_law_552 : decode cL_law 552 = .ok (.iaload, 1) := by decide +kernel
theorem dL_law_553 : decode cL_law 553 = .ok (.aload_n 3, 1) := by decide +kernel
theorem dL_law_554 : decode cL_law 554 = .ok (.invokestatic 126, 3) := by decide +kernel
theorem dL_law_557 : decode cL_law 557 = .ok (.istore 5, 2) := by decide +kernel
theorem dL_law_559 : decode cL_law 559 = .ok (.aload_n 2, 1) := by decide +kernel
theorem dL_law_560 : decode cL_law 560 = .ok (.aload_n 0, 1) := by decide +kernel
theorem dL_law_561 : decode cL_law 561 = .ok (.iload 4, 2) := by decide +kernel
theorem dL_law_563 : decode cL_law 563 = .ok (.iconst 1, 1) := by decide +kernel
theorem dL_law_564 : decode cL_law 564 = .ok (.iadd, 1) := by decide +kernel
theorem dL_law_565 : decode cL_law 565 = .ok (.iaload, 1) := by decide +kernel
theorem dL_law_566 : decode cL_law 566 = .ok (.aload_n 0, 1) := by decide +kernel
theorem dL_law_567 : decode cL_law 567 = .ok (.iload 4, 2) := by decide +kernel
theorem dL_law_569 : decode cL_law 569 = .ok (.iconst 2, 1) := by decide +kernel
theorem dL_law_570 : decode cL_law 570 = .ok (.iadd, 1) := by decide +kernel
theorem dL_law_571 : decode cL_law 571 = .ok (.iaload, 1) := by decide +kernel
theorem dL_law_572 : decode cL_law 572 = .ok (.aload_n 0, 1) := by decide +kernel
theorem dL_law_573 : decode cL_law 573 = .ok (.iload 4, 2) := by decide +kernel
theorem dL_law_575 : decode cL_law 575 = .ok (.iconst 3, 1) := by decide +kernel
theorem dL_law_576 : decode cL_law 576 = .ok (.iadd, 1) := by decide +kernel
theorem dL_law_577 : decode cL_law 577 = .ok (.iaload, 1) := by decide +kernel
theorem dL_law_578 : decode cL_law 578 = .ok (.ifCond .eq 7, 3) := by decide +kernel
theorem dL_law_581 : decode cL_law 581 = .ok (.iconst 1, 1) := by decide +kernel
theorem dL_law_582 : decode cL_law 582 = .ok (.goto 4, 3) := by decide +kernel
theorem dL_law_585 : decode cL_law 585 = .ok (.iconst 0, 1) := by decide +kernel
theorem dL_law_586 : decode cL_law 586 = .ok (.aload_n 0, 1) := by decide +kernel
theorem dL_law_587 : decode cL_law 587 = .ok (.iload 4, 2) := by decide +kernel
theorem dL_law_589 : decode cL_law 589 = .ok (.iconst 4, 1) := by decide +kernel
theorem dL_law_590 : decode cL_law 590 = .ok (.iadd, 1) := by decide +kernel
theorem dL_law_591 : decode cL_law 591 = .ok (.iaload, 1) := by decide +kernel
theorem dL_law_592 : decode cL_law 592 = .ok (.invokevirtual 129, 3) := by decide +kernel
theorem dL_law_595 : decode cL_law 595 = .ok (.istore 6, 2) := by decide +kernel
theorem dL_law_597 : decode cL_law 597 = .ok (.aload_n 2, 1) := by decide +kernel
theorem dL_law_598 : decode cL_law 598 = .ok (.invokevirtual 108, 3) := by decide +kernel
theorem dL_law_601 : decode cL_law 601 = .ok (.iload 5, 2) := by decide +kernel
theorem dL_law_603 : decode cL_law 603 = .ok (.if_icmp .eq 5, 3) := by decide +kernel
theorem dL_law_606 : decode cL_law 606 = .ok (.iconst 0, 1) := by decide +kernel
theorem dL_law_607 : decode cL_law 607 = .ok (.ireturn, 1) := by decide +kernel
theorem dL_law_608 : decode cL_law 608 = .ok (.iload 5, 2) := by decide +kernel
theorem dL_law_610 : decode cL_law 610 = .ok (.ifCond .ne 15, 3) := by decide +kernel
theorem dL_law_613 : decode cL_law 613 = .ok (.aload_n 3, 1) := by decide +kernel
theorem dL_law_614 : decode cL_law 614 = .ok (.iconst 0, 1) := by decide +kernel
theorem dL_law_615 : decode cL_law 615 = .ok (.laload, 1) := by decide +kernel
theorem dL_law_616 : decode cL_law 616 = .ok (.iload 6, 2) := by decide +kernel
theorem dL_law_618 : decode cL_law 618 = .ok (.i2l, 1) := by decide +kernel
theorem dL_law_619 : decode cL_law 619 = .ok (.lcmp, 1) := by decide +kernel
theorem dL_law_620 : decode cL_law 620 = .ok (.ifCond .eq 5, 3) := by decide +kernel
theorem dL_law_623 : decode cL_law 623 = .ok (.iconst 0, 1) := by decide +kernel
theorem dL_law_624 : decode cL_law 624 = .ok (.ireturn, 1) := by decide +kernel
theorem dL_law_625 : decode cL_law 625 = .ok (.goto 1344, 3) := by decide +kernel
theorem dL_law_628 : decode cL_law 628 = .ok (.aload_n 1, 1) := by decide +kernel
theorem dL_law_629 : decode cL_law 629 = .ok (.aload_n 0, 1) := by decide +kernel
theorem dL_law_630 : decode cL_law 630 = .ok (.iload 4, 2) := by decide +kernel
theorem dL_law_632 : decode cL_law 632 = .ok (.iconst 1, 1) := by decide +kernel
theorem dL_law_633 : decode cL_law 633 = .ok (.iadd, 1) := by decide +kernel
theorem dL_law_634 : decode cL_law 634 = .ok (.iaload, 1) := by decide +kernel
theorem dL_law_635 : decode cL_law 635 = .ok (.aload_n 3, 1) := by decide +kernel
theorem dL_law_636 : decode cL_law 636 = .ok (.invokestatic 130, 3) := by decide +kernel
theorem dL_law_639 : decode cL_law 639 = .ok (.istore 5, 2) := by decide +kernel
theorem dL_law_641 : decode cL_law 641 = .ok (.aload_n 2, 1) := by decide +kernel
theorem dL_law_642 : decode cL_law 642 = .ok (.aload_n 0, 1) := by decide +kernel
theorem dL_law_643 : decode cL_law 643 = .ok (.iload 4, 2) := by decide +kernel
theorem dL_law_645 : decode cL_law 645 = .ok (.iconst 1, 1) := by decide +kernel
theorem dL_law_646 : decode cL_law 646 = .ok (.iadd, 1) := by decide +kernel
theorem dL_law_647 : decode cL_law 647 = .ok (.iaload, 1) := by decide +kernel
theorem dL_law_648 : decode cL_law 648 = .ok (.invokevirtual 132, 3) := by decide +kernel
theorem dL_law_651 : decode cL_law 651 = .ok (.istore 6, 2) := by decide +kernel
theorem dL_law_653 : decode cL_law 653 = .ok (.aload_n 2, 1) := by decide +kernel
theorem dL_law_654 : decode cL_law 654 = .ok (.invokevirtual 108, 3) := by decide +kernel
theorem dL_law_657 : decode cL_law 657 = .ok (.iload 5, 2) := by decide +kernel
theorem dL_law_659 : decode cL_law 659 = .ok (.if_icmp .eq 5, 3) := by decide +kernel
theorem dL_law_662 : decode cL_law 662 = .ok (.iconst 0, 1) := by decide +kernel
theorem dL_law_663 : decode cL_law 663 = .ok (.ireturn, 1) := by decide +kernel
theorem dL_law_664 : decode cL_law 664 = .ok (.iload 5, 2) := by decide +kernel
theorem dL_law_666 : decode cL_law 666 = .ok (.ifCond .ne 22, 3) := by decide +kernel
theorem dL_law_669 : decode cL_law 669 = .ok (.aload_n 3, 1) := by decide +kernel
theorem dL_law_670 : decode cL_law 670 = .ok (.iconst 0, 1) := by decide +kernel
theorem dL_law_671 : decode cL_law 671 = .ok (.laload, 1) := by decide +kernel
theorem dL_law_672 : decode cL_law 672 = .ok (.iload 6, 2) := by decide +kernel
theorem dL_law_674 : decode cL_law 674 = .ok (.ifCond .eq 7, 3) := by decide +kernel
theorem dL_law_677 : decode cL_law 677 = .ok (.lconst 1, 1) := by decide +kernel
theorem dL_law_678 : decode cL_law 678 = .ok (.goto 4, 3) := by decide +kernel
theorem dL_law_681 : decode cL_law 681 = .ok (.lconst 0, 1) := by decide +kernel
theorem dL_law_682 : decode cL_law 682 = .ok (.lcmp, 1) := by decide +kernel
theorem dL_law_683 : decode cL_law 683 = .ok (.ifCond .eq 5, 3) := by decide +kernel
theorem dL_law_686 : decode cL_law 686 = .ok (.iconst 0, 1) := by decide +kernel
theorem dL_law_687 : decode cL_law 687 = .ok (.ireturn, 1) := by decide +kernel
theorem dL_law_688 : decode cL_law 688 = .ok (.goto 1281, 3) := by decide +kernel
theorem dL_law_691 : decode cL_law 691 = .ok (.aload_n 1, 1) := by decide +kernel
theorem dL_law_692 : decode cL_law 692 = .ok (.aload_n 0, 1) := by decide +kernel
theorem dL_law_693 : decode cL_law 693 = .ok (.iload 4, 2) := by decide +kernel
theorem dL_law_695 : decode cL_law 695 = .ok (.iconst 1, 1) := by decide +kernel
theorem dL_law_696 : decode cL_law 696 = .ok (.iadd, 1) := by decide +kernel
theorem dL_law_697 : decode cL_law 697 = .ok (.iaload, 1) := by decide +kernel
theorem dL_law_698 : decode cL_law 698 = .ok (.aload_n 0, 1) := by decide +kernel
theorem dL_law_699 : decode cL_law 699 = .ok (.iload 4, 2) := by decide +kernel
theorem dL_law_701 : decode cL_law 701 = .ok (.iconst 2, 1) := by decide +kernel
theorem dL_law_702 : decode cL_law 702 = .ok (.iadd, 1) := by decide +kernel
theorem dL_law_703 : decode cL_law 703 = .ok (.iaload, 1) := by decide +kernel
theorem dL_law_704 : decode cL_law 704 = .ok (.aload_n 3, 1) := by decide +kernel
theorem dL_law_705 : decode cL_law 705 = .ok (.invokestatic 133, 3) := by decide +kernel
theorem dL_law_708 : decode cL_law 708 = .ok (.istore 5, 2) := by decide +kernel
theorem dL_law_710 : decode cL_law 710 = .ok (.aload_n 2, 1) := by decide +kernel
theorem dL_law_711 : decode cL_law 711 = .ok (.aload_n 0, 1) := by decide +kernel
theorem dL_law_712 : decode cL_law 712 = .ok (.iload 4, 2) := by decide +kernel
theorem dL_law_714 : decode cL_law 714 = .ok (.iconst 1, 1) := by decide +kernel
theorem dL_law_715 : decode cL_law 715 = .ok (.iadd, 1) := by decide +kernel
theorem dL_law_716 : decode cL_law 716 = .ok (.iaload, 1) := by decide +kernel
theorem dL_law_717 : decode cL_law 717 = .ok (.aload_n 0, 1) := by decide +kernel
theorem dL_law_718 : decode cL_law 718 = .ok (.iload 4, 2) := by decide +kernel
theorem dL_law_720 : decode cL_law 720 = .ok (.iconst 2, 1) := by decide +kernel
theorem dL_law_721 : decode cL_law 721 = .ok (.iadd, 1) := by decide +kernel
theorem dL_law_722 : decode cL_law 722 = .ok (.iaload, 1) := by decide +kernel
theorem dL_law_723 : decode cL_law 723 = .ok (.invokevirtual 135, 3) := by decide +kernel
theorem dL_law_726 : decode cL_law 726 = .ok (.istore 6, 2) := by decide +kernel
theorem dL_law_728 : decode cL_law 728 = .ok (.aload_n 2, 1) := by decide +kernel
theorem dL_law_729 : decode cL_law 729 = .ok (.invokevirtual 108, 3) := by decide +kernel
theorem dL_law_732 : decode cL_law 732 = .ok (.iload 5, 2) := by decide +kernel
theorem dL_law_734 : decode cL_law 734 = .ok (.if_icmp .eq 5, 3) := by decide +kernel
theorem dL_law_737 : decode cL_law 737 = .ok (.iconst 0, 1) := by decide +kernel
theorem dL_law_738 : decode cL_law 738 = .ok (.ireturn, 1) := by decide +kernel
theorem dL_law_739 : decode cL_law 739 = .ok (.iload 5, 2) := by decide +kernel
theorem dL_law_741 : decode cL_law 741 = .ok (.ifCond .ne 15, 3) := by decide +kernel
theorem dL_law_744 : decode cL_law 744 = .ok (.aload_n 3, 1) := by decide +kernel
theorem dL_law_745 : decode cL_law 745 = .ok (.iconst 0, 1) := by decide +kernel
theorem dL_law_746 : decode cL_law 746 = .ok (.laload, 1) := by decide +kernel
theorem dL_law_747 : decode cL_law 747 = .ok (.iload 6, 2) := by decide +kernel
theorem dL_law_749 : decode cL_law 749 = .ok (.i2l, 1) := by decide +kernel
theorem dL_law_750 : decode cL_law 750 = .ok (.lcmp, 1) := by decide +kernel
theorem dL_law_751 : decode cL_law 751 = .ok (.ifCond .eq 5, 3) := by decide +kernel
theorem dL_law_754 : decode cL_law 754 = .ok (.iconst 0, 1) := by decide +kernel
theorem dL_law_755 : decode cL_law 755 = .ok (.ireturn, 1) := by decide +kernel
theorem dL_law_756 : decode cL_law 756 = .ok (.goto 1213, 3) := by decide +kernel
theorem dL_law_759 : decode cL_law 759 = .ok (.aload_n 1, 1) := by decide +kernel
theorem dL_law_760 : decode cL_law 760 = .ok (.aload_n 0, 1) := by decide +kernel
theorem dL_law_761 : decode cL_law 761 = .ok (.iload 4, 2) := by decide +kernel
theorem dL_law_763 : decode cL_law 763 = .ok (.iconst 1, 1) := by decide +kernel
theorem dL_law_764 : decode cL_law 764 = .ok (.iadd, 1) := by decide +kernel
theorem dL_law_765 : decode cL_law 765 = .ok (.iaload, 1) := by decide +kernel
theorem dL_law_766 : decode cL_law 766 = .ok (.aload_n 0, 1) := by decide +kernel
theorem dL_law_767 : decode cL_law 767 = .ok (.iload 4, 2) := by decide +kernel
theorem dL_law_769 : decode cL_law 769 = .ok (.iconst 2, 1) := by decide +kernel
theorem dL_law_770 : decode cL_law 770 = .ok (.iadd, 1) := by decide +kernel
theorem dL_law_771 : decode cL_law 771 = .ok (.iaload, 1) := by decide +kernel
theorem dL_law_772 : decode cL_law 772 = .ok (.aload_n 0, 1) := by decide +kernel
theorem dL_law_773 : decode cL_law 773 = .ok (.iload 4, 2) := by decide +kernel
theorem dL_law_775 : decode cL_law 775 = .ok (.iconst 3, 1) := by decide +kernel
theorem dL_law_776 : decode cL_law 776 = .ok (.iadd, 1) := by decide +kernel
theorem dL_law_777 : decode cL_law 777 = .ok (.iaload, 1) := by decide +kernel
theorem dL_law_778 : decode cL_law 778 = .ok (.aload_n 0, 1) := by decide +kernel
theorem dL_law_779 : decode cL_law 779 = .ok (.iload 4, 2) := by decide +kernel
theorem dL_law_781 : decode cL_law 781 = .ok (.iconst 4, 1) := by decide +kernel
theorem dL_law_782 : decode cL_law 782 = .ok (.iadd, 1) := by decide +kernel
theorem dL_law_783 : decode cL_law 783 = .ok (.iaload, 1) := by decide +kernel
theorem dL_law_784 : decode cL_law 784 = .ok (.ifCond .eq 7, 3) := by decide +kernel
theorem dL_law_787 : decode cL_law 787 = .ok (.iconst 1, 1) := by decide +kernel
theorem dL_law_788 : decode cL_law 788 = .ok (.goto 4, 3) := by decide +kernel
theorem dL_law_791 : decode cL_law 791 = .ok (.iconst 0, 1) := by decide +kernel
theorem dL_law_792 : decode cL_law 792 = .ok (.aload_n 3, 1) := by decide +kernel
theorem dL_law_793 : decode cL_law 793 = .ok (.invokestatic 136, 3) := by decide +kernel
theorem dL_law_796 : decode cL_law 796 = .ok (.istore 5, 2) := by decide +kernel
theorem dL_law_798 : decode cL_law 798 = .ok (.aload_n 2, 1) := by decide +kernel
theorem dL_law_799 : decode cL_law 799 = .ok (.aload_n 0, 1) := by decide +kernel
theorem dL_law_800 : decode cL_law 800 = .ok (.iload 4, 2) := by decide +kernel
theorem dL_law_802 : decode cL_law 802 = .ok (.iconst 1, 1) := by decide +kernel
theorem dL_law_803 : decode cL_law 803 = .ok (.iadd, 1) := by decide +kernel
theorem dL_law_804 : decode cL_law 804 = .ok (.iaload, 1) := by decide +kernel
theorem dL_law_805 : decode cL_law 805 = .ok (.aload_n 0, 1) := by decide +kernel
theorem dL_law_806 : decode cL_law 806 = .ok (.iload 4, 2) := by decide +kernel
theorem dL_law_808 : decode cL_law 808 = .ok (.iconst 2, 1) := by decide +kernel
theorem dL_law_809 : decode cL_law 809 = .ok (.iadd, 1) := by decide +kernel
theorem dL_law_810 : decode cL_law 810 = .ok (.iaload, 1) := by decide +kernel
theorem dL_law_811 : decode cL_law 811 = .ok (.aload_n 0, 1) := by decide +kernel
theorem dL_law_812 : decode cL_law 812 = .ok (.iload 4, 2) := by decide +kernel
theorem dL_law_814 : decode cL_law 814 = .ok (.iconst 3, 1) := by decide +kernel
theorem dL_law_815 : decode cL_law 815 = .ok (.iadd, 1) := by decide +kernel
theorem dL_law_816 : decode cL_law 816 = .ok (.iaload, 1) := by decide +kernel
theorem dL_law_817 : decode cL_law 817 = .ok (.aload_n 0, 1) := by decide +kernel
theorem dL_law_818 : decode cL_law 818 = .ok (.iload 4, 2) := by decide +kernel
theorem dL_law_820 : decode cL_law 820 = .ok (.iconst 4, 1) := by decide +kernel
theorem dL_law_821 : decode cL_law 821 = .ok (.iadd, 1) := by decide +kernel
theorem dL_law_822 : decode cL_law 822 = .ok (.iaload, 1) := by decide +kernel
theorem dL_law_823 : decode cL_law 823 = .ok (.ifCond .eq 7, 3) := by decide +kernel
theorem dL_law_826 : decode cL_law 826 = .ok (.iconst 1, 1) := by decide +kernel
theorem dL_law_827 : decode cL_law 827 = .ok (.goto 4, 3) := by decide +kernel
theorem dL_law_830 : decode cL_law 830 = .ok (.iconst 0, 1) := by decide +kernel
theorem dL_law_831 : decode cL_law 831 = .ok (.invokevirtual 139, 3) := by decide +kernel
theorem dL_law_834 : decode cL_law 834 = .ok (.istore 6, 2) := by decide +kernel
theorem dL_law_836 : decode cL_law 836 = .ok (.aload_n 2, 1) := by decide +kernel
theorem dL_law_837 : decode cL_law 837 = .ok (.invokevirtual 108, 3) := by decide +kernel
theorem dL_law_840 : decode cL_law 840 = .ok (.iload 5, 2) := by decide +kernel
theorem dL_law_842 : decode cL_law 842 = .ok (.if_icmp .eq 5, 3) := by decide +kernel
theorem dL_law_845 : decode cL_law 845 = .ok (.iconst 0, 1) := by decide +kernel
theorem dL_law_846 : decode cL_law 846 = .ok (.ireturn, 1) := by decide +kernel
theorem dL_law_847 : decode cL_law 847 = .ok (.iload 5, 2) := by decide +kernel
theorem dL_law_849 : decode cL_law 849 = .ok (.ifCond .ne 15, 3) := by decide +kernel
theorem dL_law_852 : decode cL_law 852 = .ok (.aload_n 3, 1) := by decide +kernel
theorem dL_law_853 : decode cL_law 853 = .ok (.iconst 0, 1) := by decide +kernel
theorem dL_law_854 : decode cL_law 854 = .ok (.laload, 1) := by decide +kernel
theorem dL_law_855 : decode cL_law 855 = .ok (.iload 6, 2) := by decide +kernel
theorem dL_law_857 : decode cL_law 857 = .ok (.i2l, 1) := by decide +kernel
theorem dL_law_858 : decode cL_law 858 = .ok (.lcmp, 1) := by decide +kernel
theorem dL_law_859 : decode cL_law 859 = .ok (.ifCond .eq 5, 3) := by decide +kernel
theorem dL_law_862 : decode cL_law 862 = .ok (.iconst 0, 1) := by decide +kernel
theorem dL_law_863 : decode cL_law 863 = .ok (.ireturn, 1) := by decide +kernel
theorem dL_law_864 : decode cL_law 864 = .ok (.goto 1105, 3) := by decide +kernel
theorem dL_law_867 : decode cL_law 867 = .ok (.aload_n 1, 1) := by decide +kernel
theorem dL_law_868 : decode cL_law 868 = .ok (.aload_n 0, 1) := by decide +kernel
theorem dL_law_869 : decode cL_law 869 = .ok (.iload 4, 2) := by decide +kernel
theorem dL_law_871 : decode cL_law 871 = .ok (.iconst 1, 1) := by decide +kernel
theorem dL_law_872 : decode cL_law 872 = .ok (.iadd, 1) := by decide +kernel
theorem dL_law_873 : decode cL_law 873 = .ok (.iaload, 1) := by decide +kernel
theorem dL_law_874 : decode cL_law 874 = .ok (.aload_n 0, 1) := by decide +kernel
theorem dL_law_875 : decode cL_law 875 = .ok (.iload 4, 2) := by decide +kernel
theorem dL_law_877 : decode cL_law 877 = .ok (.iconst 2, 1) := by decide +kernel
theorem dL_law_878 : decode cL_law 878 = .ok (.iadd, 1) := by decide +kernel
theorem dL_law_879 : decode cL_law 879 = .ok (.iaload, 1) := by decide +kernel
theorem dL_law_880 : decode cL_law 880 = .ok (.aload_n 0, 1) := by decide +kernel
theorem dL_law_881 : decode cL_law 881 = .ok (.iload 4, 2) := by decide +kernel
theorem dL_law_883 : decode cL_law 883 = .ok (.iconst 3, 1) := by decide +kernel
theorem dL_law_884 : decode cL_law 884 = .ok (.iadd, 1) := by decide +kernel
theorem dL_law_885 : decode cL_law 885 = .ok (.iaload, 1) := by decide +kernel
theorem dL_law_886 : decode cL_law 886 = .ok (.ifCond .eq 7, 3) := by decide +kernel
theorem dL_law_889 : decode cL_law 889 = .ok (.iconst 1, 1) := by decide +kernel
theorem dL_law_890 : decode cL_law 890 = .ok (.goto 4, 3) := by decide +kernel
theorem dL_law_893 : decode cL_law 893 = .ok (.iconst 0, 1) := by decide +kernel
theorem dL_law_894 : decode cL_law 894 = .ok (.aload_n 3, 1) := by decide +kernel
theorem dL_law_895 : decode cL_law 895 = .ok (.invokestatic 140, 3) := by decide +kernel
theorem dL_law_898 : decode cL_law 898 = .ok (.istore 5, 2) := by decide +kernel
theorem dL_law_900 : decode cL_law 900 = .ok (.aload_n 2, 1) := by decide +kernel
theorem dL_law_901 : decode cL_law 901 = .ok (.aload_n 0, 1) := by decide +kernel
theorem dL_law_902 : decode cL_law 902 = .ok (.iload 4, 2) := by decide +kernel
theorem dL_law_904 : decode cL_law 904 = .ok (.iconst 1, 1) := by decide +kernel
theorem dL_law_905 : decode cL_law 905 = .ok (.iadd, 1) := by decide +kernel
theorem dL_law_906 : decode cL_law 906 = .ok (.iaload, 1) := by decide +kernel
theorem dL_law_907 : decode cL_law 907 = .ok (.aload_n 0, 1) := by decide +kernel
theorem dL_law_908 : decode cL_law 908 = .ok (.iload 4, 2) := by decide +kernel
theorem dL_law_910 : decode cL_law 910 = .ok (.iconst 2, 1) := by decide +kernel
theorem dL_law_911 : decode cL_law 911 = .ok (.iadd, 1) := by decide +kernel
theorem dL_law_912 : decode cL_law 912 = .ok (.iaload, 1) := by decide +kernel
theorem dL_law_913 : decode cL_law 913 = .ok (.aload_n 0, 1) := by decide +kernel
theorem dL_law_914 : decode cL_law 914 = .ok (.iload 4, 2) := by decide +kernel
theorem dL_law_916 : decode cL_law 916 = .ok (.iconst 3, 1) := by decide +kernel
theorem dL_law_917 : decode cL_law 917 = .ok (.iadd, 1) := by decide +kernel
theorem dL_law_918 : decode cL_law 918 = .ok (.iaload, 1) := by decide +kernel
theorem dL_law_919 : decode cL_law 919 = .ok (.ifCond .eq 7, 3) := by decide +kernel
theorem dL_law_922 : decode cL_law 922 = .ok (.iconst 1, 1) := by decide +kernel
theorem dL_law_923 : decode cL_law 923 = .ok (.goto 4, 3) := by decide +kernel
theorem dL_law_926 : decode cL_law 926 = .ok (.iconst 0, 1) := by decide +kernel
theorem dL_law_927 : decode cL_law 927 = .ok (.invokevirtual 143, 3) := by decide +kernel
theorem dL_law_930 : decode cL_law 930 = .ok (.istore 6, 2) := by decide +kernel
theorem dL_law_932 : decode cL_law 932 = .ok (.aload_n 2, 1) := by decide +kernel
theorem dL_law_933 : decode cL_law 933 = .ok (.invokevirtual 108, 3) := by decide +kernel
theorem dL_law_936 : decode cL_law 936 = .ok (.iload 5, 2) := by decide +kernel
theorem dL_law_938 : decode cL_law 938 = .ok (.if_icmp .eq 5, 3) := by decide +kernel
theorem dL_law_941 : decode cL_law 941 = .ok (.iconst 0, 1) := by decide +kernel
theorem dL_law_942 : decode cL_law 942 = .ok (.ireturn, 1) := by decide +kernel
theorem dL_law_943 : decode cL_law 943 = .ok (.iload 5, 2) := by decide +kernel
theorem dL_law_945 : decode cL_law 945 = .ok (.ifCond .ne 15, 3) := by decide +kernel
theorem dL_law_948 : decode cL_law 948 = .ok (.aload_n 3, 1) := by decide +kernel
theorem dL_law_949 : decode cL_law 949 = .ok (.iconst 0, 1) := by decide +kernel
theorem dL_law_950 : decode cL_law 950 = .ok (.laload, 1) := by decide +kernel
theorem dL_law_951 : decode cL_law 951 = .ok (.iload 6, 2) := by decide +kernel
theorem dL_law_953 : decode cL_law 953 = .ok (.i2l, 1) := by decide +kernel
theorem dL_law_954 : decode cL_law 954 = .ok (.lcmp, 1) := by decide +kernel
theorem dL_law_955 : decode cL_law 955 = .ok (.ifCond .eq 5, 3) := by decide +kernel
theorem dL_law_958 : decode cL_law 958 = .ok (.iconst 0, 1) := by decide +kernel
theorem dL_law_959 : decode cL_law 959 = .ok (.ireturn, 1) := by decide +kernel
theorem dL_law_960 : decode cL_law 960 = .ok (.goto 1009, 3) := by decide +kernel
theorem dL_law_963 : decode cL_law 963 = .ok (.aload_n 1, 1) := by decide +kernel
theorem dL_law_964 : decode cL_law 964 = .ok (.aload_n 0, 1) := by decide +kernel
theorem dL_law_965 : decode cL_law 965 = .ok (.iload 4, 2) := by decide +kernel
theorem dL_law_967 : decode cL_law 967 = .ok (.iconst 1, 1) := by decide +kernel
theorem dL_law_968 : decode cL_law 968 = .ok (.iadd, 1) := by decide +kernel
theorem dL_law_969 : decode cL_law 969 = .ok (.iaload, 1) := by decide +kernel
theorem dL_law_970 : decode cL_law 970 = .ok (.aload_n 3, 1) := by decide +kernel
theorem dL_law_971 : decode cL_law 971 = .ok (.invokestatic 144, 3) := by decide +kernel
theorem dL_law_974 : decode cL_law 974 = .ok (.istore 5, 2) := by decide +kernel
theorem dL_law_976 : decode cL_law 976 = .ok (.aload_n 2, 1) := by decide +kernel
theorem dL_law_977 : decode cL_law 977 = .ok (.aload_n 0, 1) := by decide +kernel
theorem dL_law_978 : decode cL_law 978 = .ok (.iload 4, 2) := by decide +kernel
theorem dL_law_980 : decode cL_law 980 = .ok (.iconst 1, 1) := by decide +kernel
theorem dL_law_981 : decode cL_law 981 = .ok (.iadd, 1) := by decide +kernel
theorem dL_law_982 : decode cL_law 982 = .ok (.iaload, 1) := by decide +kernel
theorem dL_law_983 : decode cL_law 983 = .ok (.invokevirtual 146, 3) := by decide +kernel
theorem dL_law_986 : decode cL_law 986 = .ok (.istore 6, 2) := by decide +kernel
theorem dL_law_988 : decode cL_law 988 = .ok (.aload_n 2, 1) := by decide +kernel
theorem dL_law_989 : decode cL_law 989 = .ok (.invokevirtual 108, 3) := by decide +kernel
theorem dL_law_992 : decode cL_law 992 = .ok (.iload 5, 2) := by decide +kernel
theorem dL_law_994 : decode cL_law 994 = .ok (.if_icmp .eq 5, 3) := by decide +kernel
theorem dL_law_997 : decode cL_law 997 = .ok (.iconst 0, 1) := by decide +kernel
theorem dL_law_998 : decode cL_law 998 = .ok (.ireturn, 1) := by decide +kernel
theorem dL_law_999 : decode cL_law 999 = .ok (.iload 5, 2) := by decide +kernel
theorem dL_law_1001 : decode cL_law 1001 = .ok (.ifCond .ne 15, 3) := by decide +kernel
theorem dL_law_1004 : decode cL_law 1004 = .ok (.aload_n 3, 1) := by decide +kernel
theorem dL_law_1005 : decode cL_law 1005 = .ok (.iconst 0, 1) := by decide +kernel
theorem dL_law_1006 : decode cL_law 1006 = .ok (.laload, 1) := by decide +kernel
theorem dL_law_1007 : decode cL_law 1007 = .ok (.iload 6, 2) := by decide +kernel
theorem dL_law_1009 : decode cL_law 1009 = .ok (.i2l, 1) := by decide +kernel
theorem dL_law_1010 : decode cL_law 1010 = .ok (.lcmp, 1) := by decide +kernel
theorem dL_law_1011 : decode cL_law 1011 = .ok (.ifCond .eq 5, 3) := by decide +kernel
theorem dL_law_1014 : decode cL_law 1014 = .ok (.iconst 0, 1) := by decide +kernel
theorem dL_law_1015 : decode cL_law 1015 = .ok (.ireturn, 1) := by decide +kernel
theorem dL_law_1016 : decode cL_law 1016 = .ok (.goto 953, 3) := by decide +kernel
theorem dL_law_1019 : decode cL_law 1019 = .ok (.aload_n 1, 1) := by decide +kernel
theorem dL_law_1020 : decode cL_law 1020 = .ok (.aload_n 0, 1) := by decide +kernel
theorem dL_law_1021 : decode cL_law 1021 = .ok (.iload 4, 2) := by decide +kernel
theorem dL_law_1023 : decode cL_law 1023 = .ok (.iconst 1, 1) := by decide +kernel
theorem dL_law_1024 : decode cL_law 1024 = .ok (.iadd, 1) := by decide +kernel
theorem dL_law_1025 : decode cL_law 1025 = .ok (.iaload, 1) := by decide +kernel
theorem dL_law_1026 : decode cL_law 1026 = .ok (.aload_n 0, 1) := by decide +kernel
theorem dL_law_1027 : decode cL_law 1027 = .ok (.iload 4, 2) := by decide +kernel
theorem dL_law_1029 : decode cL_law 1029 = .ok (.iconst 2, 1) := by decide +kernel
theorem dL_law_1030 : decode cL_law 1030 = .ok (.iadd, 1) := by decide +kernel
theorem dL_law_1031 : decode cL_law 1031 = .ok (.iaload, 1) := by decide +kernel
theorem dL_law_1032 : decode cL_law 1032 = .ok (.aload_n 0, 1) := by decide +kernel
theorem dL_law_1033 : decode cL_law 1033 = .ok (.iload 4, 2) := by decide +kernel
theorem dL_law_1035 : decode cL_law 1035 = .ok (.iconst 3, 1) := by decide +kernel
theorem dL_law_1036 : decode cL_law 1036 = .ok (.iadd, 1) := by decide +kernel
theorem dL_law_1037 : decode cL_law 1037 = .ok (.iaload, 1) := by decide +kernel
theorem dL_law_1038 : decode cL_law 1038 = .ok (.ifCond .eq 7, 3) := by decide +kernel
theorem dL_law_1041 : decode cL_law 1041 = .ok (.iconst 1, 1) := by decide +kernel
theorem dL_law_1042 : decode cL_law 1042 = .ok (.goto 4, 3) := by decide +kernel
theorem dL_law_1045 : decode cL_law 1045 = .ok (.iconst 0, 1) := by decide +kernel
theorem dL_law_1046 : decode cL_law 1046 = .ok (.aload_n 3, 1) := by decide +kernel
theorem dL_law_1047 : decode cL_law 1047 = .ok (.invokestatic 147, 3) := by decide +kernel
theorem dL_law_1050 : decode cL_law 1050 = .ok (.istore 5, 2) := by decide +kernel
theorem dL_law_1052 : decode cL_law 1052 = .ok (.aload_n 2, 1) := by decide +kernel
theorem dL_law_1053 : decode cL_law 1053 = .ok (.aload_n 0, 1) := by decide +kernel
theorem dL_law_1054 : decode cL_law 1054 = .ok (.iload 4, 2) := by decide +kernel
theorem dL_law_1056 : decode cL_law 1056 = .ok (.iconst 1, 1) := by decide +kernel
theorem dL_law_1057 : decode cL_law 1057 = .ok (.iadd, 1) := by decide +kernel
theorem dL_law_1058 : decode cL_law 1058 = .ok (.iaload, 1) := by decide +kernel
theorem dL_law_1059 : decode cL_law 1059 = .ok (.aload_n 0, 1) := by decide +kernel
theorem dL_law_1060 : decode cL_law 1060 = .ok (.iload 4, 2) := by decide +kernel
theorem dL_law_1062 : decode cL_law 1062 = .ok (.iconst 2, 1) := by decide +kernel
theorem dL_law_1063 : decode cL_law 1063 = .ok (.iadd, 1) := by decide +kernel
theorem dL_law_1064 : decode cL_law 1064 = .ok (.iaload, 1) := by decide +kernel
theorem dL_law_1065 : decode cL_law 1065 = .ok (.aload_n 0, 1) := by decide +kernel
theorem dL_law_1066 : decode cL_law 1066 = .ok (.iload 4, 2) := by decide +kernel
theorem dL_law_1068 : decode cL_law 1068 = .ok (.iconst 3, 1) := by decide +kernel
theorem dL_law_1069 : decode cL_law 1069 = .ok (.iadd, 1) := by decide +kernel
theorem dL_law_1070 : decode cL_law 1070 = .ok (.iaload, 1) := by decide +kernel
theorem dL_law_1071 : decode cL_law 1071 = .ok (.ifCond .eq 7, 3) := by decide +kernel
theorem dL_law_1074 : decode cL_law 1074 = .ok (.iconst 1, 1) := by decide +kernel
theorem dL_law_1075 : decode cL_law 1075 = .ok (.goto 4, 3) := by decide +kernel
theorem dL_law_1078 : decode cL_law 1078 = .ok (.iconst 0, 1) := by decide +kernel
theorem dL_law_1079 : decode cL_law 1079 = .ok (.invokevirtual 149, 3) := by decide +kernel
theorem dL_law_1082 : decode cL_law 1082 = .ok (.istore 6, 2) := by decide +kernel
theorem dL_law_1084 : decode cL_law 1084 = .ok (.aload_n 2, 1) := by decide +kernel
theorem dL_law_1085 : decode cL_law 1085 = .ok (.invokevirtual 108, 3) := by decide +kernel
theorem dL_law_1088 : decode cL_law 1088 = .ok (.iload 5, 2) := by decide +kernel
theorem dL_law_1090 : decode cL_law 1090 = .ok (.if_icmp .eq 5, 3) := by decide +kernel
theorem dL_law_1093 : decode cL_law 1093 = .ok (.iconst 0, 1) := by decide +kernel
theorem dL_law_1094 : decode cL_law 1094 = .ok (.ireturn, 1) := by decide +kernel
theorem dL_law_1095 : decode cL_law 1095 = .ok (.iload 5, 2) := by decide +kernel
theorem dL_law_1097 : decode cL_law 1097 = .ok (.ifCond .ne 15, 3) := by decide +kernel
theorem dL_law_1100 : decode cL_law 1100 = .ok (.aload_n 3, 1) := by decide +kernel
theorem dL_law_1101 : decode cL_law 1101 = .ok (.iconst 0, 1) := by decide +kernel
theorem dL_law_1102 : decode cL_law 1102 = .ok (.laload, 1) := by decide +kernel
theorem dL_law_1103 : decode cL_law 1103 = .ok (.iload 6, 2) := by decide +kernel
theorem dL_law_1105 : decode cL_law 1105 = .ok (.i2l, 1) := by decide +kernel
theorem dL_law_1106 : decode cL_law 1106 = .ok (.lcmp, 1) := by decide +kernel
theorem dL_law_1107 : decode cL_law 1107 = .ok (.ifCond .eq 5, 3) := by decide +kernel
theorem dL_law_1110 : decode cL_law 1110 = .ok (.iconst 0, 1) := by decide +kernel
theorem dL_law_1111 : decode cL_law 1111 = .ok (.ireturn, 1) := by decide +kernel
theorem dL_law_1112 : decode cL_law 1112 = .ok (.goto 857, 3) := by decide +kernel
theorem dL_law_1115 : decode cL_law 1115 = .ok (.aload_n 1, 1) := by decide +kernel
theorem dL_law_1116 : decode cL_law 1116 = .ok (.aload_n 0, 1) := by decide +kernel
theorem dL_law_1117 : decode cL_law 1117 = .ok (.iload 4, 2) := by decide +kernel
theorem dL_law_1119 : decode cL_law 1119 = .ok (.iconst 1, 1) := by decide +kernel
theorem dL_law_1120 : decode cL_law 1120 = .ok (.iadd, 1) := by decide +kernel
theorem dL_law_1121 : decode cL_law 1121 = .ok (.iaload, 1) := by decide +kernel
theorem dL_law_1122 : decode cL_law 1122 = .ok (.aload_n 0, 1) := by decide +kernel
theorem dL_law_1123 : decode cL_law 1123 = .ok (.iload 4, 2) := by decide +kernel
theorem dL_law_1125 : decode cL_law 1125 = .ok (.iconst 2, 1) := by decide +kernel
theorem dL_law_1126 : decode cL_law 1126 = .ok (.iadd, 1) := by decide +kernel
theorem dL_law_1127 : decode cL_law 1127 = .ok (.iaload, 1) := by decide +kernel
theorem dL_law_1128 : decode cL_law 1128 = .ok (.aload_n 0, 1) := by decide +kernel
theorem dL_law_1129 : decode cL_law 1129 = .ok (.iload 4, 2) := by decide +kernel
theorem dL_law_1131 : decode cL_law 1131 = .ok (.iconst 3, 1) := by decide +kernel
theorem dL_law_1132 : decode cL_law 1132 = .ok (.iadd, 1) := by decide +kernel
theorem dL_law_1133 : decode cL_law 1133 = .ok (.iaload, 1) := by decide +kernel
theorem dL_law_1134 : decode cL_law 1134 = .ok (.aload_n 3, 1) := by decide +kernel
theorem dL_law_1135 : decode cL_law 1135 = .ok (.invokestatic 150, 3) := by decide +kernel
theorem dL_law_1138 : decode cL_law 1138 = .ok (.istore 5, 2) := by decide +kernel
theorem dL_law_1140 : decode cL_law 1140 = .ok (.aload_n 2, 1) := by decide +kernel
theorem dL_law_1141 : decode cL_law 1141 = .ok (.aload_n 0, 1) := by decide +kernel
theorem dL_law_1142 : decode cL_law 1142 = .ok (.iload 4, 2) := by decide +kernel
theorem dL_law_1144 : decode cL_law 1144 = .ok (.iconst 1, 1) := by decide +kernel
theorem dL_law_1145 : decode cL_law 1145 = .ok (.iadd, 1) := by decide +kernel
theorem dL_law_1146 : decode cL_law 1146 = .ok (.iaload, 1) := by decide +kernel
theorem dL_law_1147 : decode cL_law 1147 = .ok (.aload_n 0, 1) := by decide +kernel
theorem dL_law_1148 : decode cL_law 1148 = .ok (.iload 4, 2) := by decide +kernel
theorem dL_law_1150 : decode cL_law 1150 = .ok (.iconst 2, 1) := by decide +kernel
theorem dL_law_1151 : decode cL_law 1151 = .ok (.iadd, 1) := by decide +kernel
theorem dL_law_1152 : decode cL_law 1152 = .ok (.iaload, 1) := by decide +kernel
theorem dL_law_1153 : decode cL_law 1153 = .ok (.aload_n 0, 1) := by decide +kernel
theorem dL_law_1154 : decode cL_law 1154 = .ok (.iload 4, 2) := by decide +kernel
theorem dL_law_1156 : decode cL_law 1156 = .ok (.iconst 3, 1) := by decide +kernel
theorem dL_law_1157 : decode cL_law 1157 = .ok (.iadd, 1) := by decide +kernel
theorem dL_law_1158 : decode cL_law 1158 = .ok (.iaload, 1) := by decide +kernel
theorem dL_law_1159 : decode cL_law 1159 = .ok (.invokevirtual 153, 3) := by decide +kernel
theorem dL_law_1162 : decode cL_law 1162 = .ok (.istore 6, 2) := by decide +kernel
theorem dL_law_1164 : decode cL_law 1164 = .ok (.aload_n 2, 1) := by decide +kernel
theorem dL_law_1165 : decode cL_law 1165 = .ok (.invokevirtual 108, 3) := by decide +kernel
theorem dL_law_1168 : decode cL_law 1168 = .ok (.iload 5, 2) := by decide +kernel
theorem dL_law_1170 : decode cL_law 1170 = .ok (.if_icmp .eq 5, 3) := by decide +kernel
theorem dL_law_1173 : decode cL_law 1173 = .ok (.iconst 0, 1) := by decide +kernel
theorem dL_law_1174 : decode cL_law 1174 = .ok (.ireturn, 1) := by decide +kernel
theorem dL_law_1175 : decode cL_law 1175 = .ok (.iload 5, 2) := by decide +kernel
theorem dL_law_1177 : decode cL_law 1177 = .ok (.ifCond .ne 15, 3) := by decide +kernel
theorem dL_law_1180 : decode cL_law 1180 = .ok (.aload_n 3, 1) := by decide +kernel
theorem dL_law_1181 : decode cL_law 1181 = .ok (.iconst 0, 1) := by decide +kernel
theorem dL_law_1182 : decode cL_law 1182 = .ok (.laload, 1) := by decide +kernel
theorem dL_law_1183 : decode cL_law 1183 = .ok (.iload 6, 2) := by decide +kernel
theorem dL_law_1185 : decode cL_law 1185 = .ok (.i2l, 1) := by decide +kernel
theorem dL_law_1186 : decode cL_law 1186 = .ok (.lcmp, 1) := by decide +kernel
theorem dL_law_1187 : decode cL_law 1187 = .ok (.ifCond .eq 5, 3) := by decide +kernel
theorem dL_law_1190 : decode cL_law 1190 = .ok (.iconst 0, 1) := by decide +kernel
theorem dL_law_1191 : decode cL_law 1191 = .ok (.ireturn, 1) := by decide +kernel
theorem dL_law_1192 : decode cL_law 1192 = .ok (.goto 777, 3) := by decide +kernel
theorem dL_law_1195 : decode cL_law 1195 = .ok (.aload_n 1, 1) := by decide +kernel
theorem dL_law_1196 : decode cL_law 1196 = .ok (.aload_n 0, 1) := by decide +kernel
theorem dL_law_1197 : decode cL_law 1197 = .ok (.iload 4, 2) := by decide +kernel
theorem dL_law_1199 : decode cL_law 1199 = .ok (.iconst 1, 1) := by decide +kernel
theorem dL_law_1200 : decode cL_law 1200 = .ok (.iadd, 1) := by decide +kernel
theorem dL_law_1201 : decode cL_law 1201 = .ok (.iaload, 1) := by decide +kernel
theorem dL_law_1202 : decode cL_law 1202 = .ok (.aload_n 0, 1) := by decide +kernel
theorem dL_law_1203 : decode cL_law 1203 = .ok (.iload 4, 2) := by decide +kernel
theorem dL_law_1205 : decode cL_law 1205 = .ok (.iconst 2, 1) := by decide +kernel
theorem dL_law_1206 : decode cL_law 1206 = .ok (.iadd, 1) := by decide +kernel
theorem dL_law_1207 : decode cL_law 1207 = .ok (.iaload, 1) := by decide +kernel
theorem dL_law_1208 : decode cL_law 1208 = .ok (.aload_n 0, 1) := by decide +kernel
theorem dL_law_1209 : decode cL_law 1209 = .ok (.iload 4, 2) := by decide +kernel
theorem dL_law_1211 : decode cL_law 1211 = .ok (.iconst 3, 1) := by decide +kernel
theorem dL_law_1212 : decode cL_law 1212 = .ok (.iadd, 1) := by decide +kernel
theorem dL_law_1213 : decode cL_law 1213 = .ok (.iaload, 1) := by decide +kernel
theorem dL_law_1214 : decode cL_law 1214 = .ok (.aload_n 0, 1) := by decide +kernel
theorem dL_law_1215 : decode cL_law 1215 = .ok (.iload 4, 2) := by decide +kernel
theorem dL_law_1217 : decode cL_law 1217 = .ok (.iconst 4, 1) := by decide +kernel
theorem dL_law_1218 : decode cL_law 1218 = .ok (.iadd, 1) := by decide +kernel
theorem dL_law_1219 : decode cL_law 1219 = .ok (.iaload, 1) := by decide +kernel
theorem dL_law_1220 : decode cL_law 1220 = .ok (.invokestatic 154, 3) := by decide +kernel
theorem dL_law_1223 : decode cL_law 1223 = .ok (.istore 5, 2) := by decide +kernel
theorem dL_law_1225 : decode cL_law 1225 = .ok (.aload_n 2, 1) := by decide +kernel
theorem dL_law_1226 : decode cL_law 1226 = .ok (.aload_n 0, 1) := by decide +kernel
theorem dL_law_1227 : decode cL_law 1227 = .ok (.iload 4, 2) := by decide +kernel
theorem dL_law_1229 : decode cL_law 1229 = .ok (.iconst 1, 1) := by decide +kernel
theorem dL_law_1230 : decode cL_law 1230 = .ok (.iadd, 1) := by decide +kernel
theorem dL_law_1231 : decode cL_law 1231 = .ok (.iaload, 1) := by decide +kernel
theorem dL_law_1232 : decode cL_law 1232 = .ok (.aload_n 0, 1) := by decide +kernel
theorem dL_law_1233 : decode cL_law 1233 = .ok (.iload 4, 2) := by decide +kernel
theorem dL_law_1235 : decode cL_law 1235 = .ok (.iconst 2, 1) := by decide +kernel
theorem dL_law_1236 : decode cL_law 1236 = .ok (.iadd, 1) := by decide +kernel
theorem dL_law_1237 : decode cL_law 1237 = .ok (.iaload, 1) := by decide +kernel
theorem dL_law_1238 : decode cL_law 1238 = .ok (.aload_n 0, 1) := by decide +kernel
theorem dL_law_1239 : decode cL_law 1239 = .ok (.iload 4, 2) := by decide +kernel
theorem dL_law_1241 : decode cL_law 1241 = .ok (.iconst 3, 1) := by decide +kernel
theorem dL_law_1242 : decode cL_law 1242 = .ok (.iadd, 1) := by decide +kernel
theorem dL_law_1243 : decode cL_law 1243 = .ok (.iaload, 1) := by decide +kernel
theorem dL_law_1244 : decode cL_law 1244 = .ok (.aload_n 0, 1) := by decide +kernel
theorem dL_law_1245 : decode cL_law 1245 = .ok (.iload 4, 2) := by decide +kernel
theorem dL_law_1247 : decode cL_law 1247 = .ok (.iconst 4, 1) := by decide +kernel
theorem dL_law_1248 : decode cL_law 1248 = .ok (.iadd, 1) := by decide +kernel
theorem dL_law_1249 : decode cL_law 1249 = .ok (.iaload, 1) := by decide +kernel
theorem dL_law_1250 : decode cL_law 1250 = .ok (.invokevirtual 157, 3) := by decide +kernel
theorem dL_law_1253 : decode cL_law 1253 = .ok (.aload_n 2, 1) := by decide +kernel
theorem dL_law_1254 : decode cL_law 1254 = .ok (.invokevirtual 108, 3) := by decide +kernel
theorem dL_law_1257 : decode cL_law 1257 = .ok (.iload 5, 2) := by decide +kernel
theorem dL_law_1259 : decode cL_law 1259 = .ok (.if_icmp .eq 5, 3) := by decide +kernel
theorem dL_law_1262 : decode cL_law 1262 = .ok (.iconst 0, 1) := by decide +kernel
theorem dL_law_1263 : decode cL_law 1263 = .ok (.ireturn, 1) := by decide +kernel
theorem dL_law_1264 : decode cL_law 1264 = .ok (.goto 705, 3) := by decide +kernel
theorem dL_law_1267 : decode cL_law 1267 = .ok (.aload_n 1, 1) := by decide +kernel
theorem dL_law_1268 : decode cL_law 1268 = .ok (.aload_n 0, 1) := by decide +kernel
theorem dL_law_1269 : decode cL_law 1269 = .ok (.iload 4, 2) := by decide +kernel
theorem dL_law_1271 : decode cL_law 1271 = .ok (.iconst 1, 1) := by decide +kernel
theorem dL_law_1272 : decode cL_law 1272 = .ok (.iadd, 1) := by decide +kernel
theorem dL_law_1273 : decode cL_law 1273 = .ok (.iaload, 1) := by decide +kernel
theorem dL_law_1274 : decode cL_law 1274 = .ok (.aload_n 0, 1) := by decide +kernel
theorem dL_law_1275 : decode cL_law 1275 = .ok (.iload 4, 2) := by decide +kernel
theorem dL_law_1277 : decode cL_law 1277 = .ok (.iconst 2, 1) := by decide +kernel
theorem dL_law_1278 : decode cL_law 1278 = .ok (.iadd, 1) := by decide +kernel
theorem dL_law_1279 : decode cL_law 1279 = .ok (.iaload, 1) := by decide +kernel
theorem dL_law_1280 : decode cL_law 1280 = .ok (.aload_n 0, 1) := by decide +kernel
theorem dL_law_1281 : decode cL_law 1281 = .ok (.iload 4, 2) := by decide +kernel
theorem dL_law_1283 : decode cL_law 1283 = .ok (.iconst 3, 1) := by decide +kernel
theorem dL_law_1284 : decode cL_law 1284 = .ok (.iadd, 1) := by decide +kernel
theorem dL_law_1285 : decode cL_law 1285 = .ok (.iaload, 1) := by decide +kernel
theorem dL_law_1286 : decode cL_law 1286 = .ok (.aload_n 3, 1) := by decide +kernel
theorem dL_law_1287 : decode cL_law 1287 = .ok (.invokestatic 158, 3) := by decide +kernel
theorem dL_law_1290 : decode cL_law 1290 = .ok (.istore 5, 2) := by decide +kernel
theorem dL_law_1292 : decode cL_law 1292 = .ok (.aload_n 2, 1) := by decide +kernel
theorem dL_law_1293 : decode cL_law 1293 = .ok (.aload_n 0, 1) := by decide +kernel
theorem dL_law_1294 : decode cL_law 1294 = .ok (.iload 4, 2) := by decide +kernel
theorem dL_law_1296 : decode cL_law 1296 = .ok (.iconst 1, 1) := by decide +kernel
theorem dL_law_1297 : decode cL_law 1297 = .ok (.iadd, 1) := by decide +kernel
theorem dL_law_1298 : decode cL_law 1298 = .ok (.iaload, 1) := by decide +kernel
theorem dL_law_1299 : decode cL_law 1299 = .ok (.aload_n 0, 1) := by decide +kernel
theorem dL_law_1300 : decode cL_law 1300 = .ok (.iload 4, 2) := by decide +kernel
theorem dL_law_1302 : decode cL_law 1302 = .ok (.iconst 2, 1) := by decide +kernel
theorem dL_law_1303 : decode cL_law 1303 = .ok (.iadd, 1) := by decide +kernel
theorem dL_law_1304 : decode cL_law 1304 = .ok (.iaload, 1) := by decide +kernel
theorem dL_law_1305 : decode cL_law 1305 = .ok (.aload_n 0, 1) := by decide +kernel
theorem dL_law_1306 : decode cL_law 1306 = .ok (.iload 4, 2) := by decide +kernel
theorem dL_law_1308 : decode cL_law 1308 = .ok (.iconst 3, 1) := by decide +kernel
theorem dL_law_1309 : decode cL_law 1309 = .ok (.iadd, 1) := by decide +kernel
theorem dL_law_1310 : decode cL_law 1310 = .ok (.iaload, 1) := by decide +kernel
theorem dL_law_1311 : decode cL_law 1311 = .ok (.invokevirtual 160, 3) := by decide +kernel
theorem dL_law_1314 : decode cL_law 1314 = .ok (.istore 6, 2) := by decide +kernel
theorem dL_law_1316 : decode cL_law 1316 = .ok (.aload_n 2, 1) := by decide +kernel
theorem dL_law_1317 : decode cL_law 1317 = .ok (.invokevirtual 108, 3) := by decide +kernel
theorem dL_law_1320 : decode cL_law 1320 = .ok (.iload 5, 2) := by decide +kernel
theorem dL_law_1322 : decode cL_law 1322 = .ok (.if_icmp .eq 5, 3) := by decide +kernel
theorem dL_law_1325 : decode cL_law 1325 = .ok (.iconst 0, 1) := by decide +kernel
theorem dL_law_1326 : decode cL_law 1326 = .ok (.ireturn, 1) := by decide +kernel
theorem dL_law_1327 : decode cL_law 1327 = .ok (.iload 5, 2) := by decide +kernel
theorem dL_law_1329 : decode cL_law 1329 = .ok (.ifCond .ne 15, 3) := by decide +kernel
theorem dL_law_1332 : decode cL_law 1332 = .ok (.aload_n 3, 1) := by decide +kernel
theorem dL_law_1333 : decode cL_law 1333 = .ok (.iconst 0, 1) := by decide +kernel
theorem dL_law_1334 : decode cL_law 1334 = .ok (.laload, 1) := by decide +kernel
theorem dL_law_1335 : decode cL_law 1335 = .ok (.iload 6, 2) := by decide +kernel
theorem dL_law_1337 : decode cL_law 1337 = .ok (.i2l, 1) := by decide +kernel
theorem dL_law_1338 : decode cL_law 1338 = .ok (.lcmp, 1) := by decide +kernel
theorem dL_law_1339 : decode cL_law 1339 = .ok (.ifCond .eq 5, 3) := by decide +kernel
theorem dL_law_1342 : decode cL_law 1342 = .ok (.iconst 0, 1) := by decide +kernel
theorem dL_law_1343 : decode cL_law 1343 = .ok (.ireturn, 1) := by decide +kernel
theorem dL_law_1344 : decode cL_law 1344 = .ok (.goto 625, 3) := by decide +kernel
theorem dL_law_1347 : decode cL_law 1347 = .ok (.aload_n 1, 1) := by decide +kernel
theorem dL_law_1348 : decode cL_law 1348 = .ok (.aload_n 0, 1) := by decide +kernel
theorem dL_law_1349 : decode cL_law 1349 = .ok (.iload 4, 2) := by decide +kernel
theorem dL_law_1351 : decode cL_law 1351 = .ok (.iconst 1, 1) := by decide +kernel
theorem dL_law_1352 : decode cL_law 1352 = .ok (.iadd, 1) := by decide +kernel
theorem dL_law_1353 : decode cL_law 1353 = .ok (.iaload, 1) := by decide +kernel
theorem dL_law_1354 : decode cL_law 1354 = .ok (.aload_n 3, 1) := by decide +kernel
theorem dL_law_1355 : decode cL_law 1355 = .ok (.invokestatic 161, 3) := by decide +kernel
theorem dL_law_1358 : decode cL_law 1358 = .ok (.istore 5, 2) := by decide +kernel
theorem dL_law_1360 : decode cL_law 1360 = .ok (.aload_n 2, 1) := by decide +kernel
theorem dL_law_1361 : decode cL_law 1361 = .ok (.aload_n 0, 1) := by decide +kernel
theorem dL_law_1362 : decode cL_law 1362 = .ok (.iload 4, 2) := by decide +kernel
theorem dL_law_1364 : decode cL_law 1364 = .ok (.iconst 1, 1) := by decide +kernel
theorem dL_law_1365 : decode cL_law 1365 = .ok (.iadd, 1) := by decide +kernel
theorem dL_law_1366 : decode cL_law 1366 = .ok (.iaload, 1) := by decide +kernel
theorem dL_law_1367 : decode cL_law 1367 = .ok (.invokevirtual 163, 3) := by decide +kernel
theorem dL_law_1370 : decode cL_law 1370 = .ok (.istore 6, 2) := by decide +kernel
theorem dL_law_1372 : decode cL_law 1372 = .ok (.aload_n 2, 1) := by decide +kernel
theorem dL_law_1373 : decode cL_law 1373 = .ok (.invokevirtual 108, 3) := by decide +kernel
theorem dL_law_1376 : decode cL_law 1376 = .ok (.iload 5, 2) := by decide +kernel
theorem dL_law_1378 : decode cL_law 1378 = .ok (.if_icmp .eq 5, 3) := by decide +kernel
theorem dL_law_1381 : decode cL_law 1381 = .ok (.iconst 0, 1) := by decide +kernel
theorem dL_law_1382 : decode cL_law 1382 = .ok (.ireturn, 1) := by decide +kernel
theorem dL_law_1383 : decode cL_law 1383 = .ok (.iload 5, 2) := by decide +kernel
theorem dL_law_1385 : decode cL_law 1385 = .ok (.ifCond .ne 15, 3) := by decide +kernel
theorem dL_law_1388 : decode cL_law 1388 = .ok (.aload_n 3, 1) := by decide +kernel
theorem dL_law_1389 : decode cL_law 1389 = .ok (.iconst 0, 1) := by decide +kernel
theorem dL_law_1390 : decode cL_law 1390 = .ok (.laload, 1) := by decide +kernel
theorem dL_law_1391 : decode cL_law 1391 = .ok (.iload 6, 2) := by decide +kernel
theorem dL_law_1393 : decode cL_law 1393 = .ok (.i2l, 1) := by decide +kernel
theorem dL_law_1394 : decode cL_law 1394 = .ok (.lcmp, 1) := by decide +kernel
theorem dL_law_1395 : decode cL_law 1395 = .ok (.ifCond .eq 5, 3) := by decide +kernel
theorem dL_law_1398 : decode cL_law 1398 = .ok (.iconst 0, 1) := by decide +kernel
theorem dL_law_1399 : decode cL_law 1399 = .ok (.ireturn, 1) := by decide +kernel
theorem dL_law_1400 : decode cL_law 1400 = .ok (.goto 569, 3) := by decide +kernel
theorem dL_law_1403 : decode cL_law 1403 = .ok (.aload_n 1, 1) := by decide +kernel
theorem dL_law_1404 : decode cL_law 1404 = .ok (.invokevirtual 164, 3) := by decide +kernel
theorem dL_law_1407 : decode cL_law 1407 = .ok (.aload_n 2, 1) := by decide +kernel
theorem dL_law_1408 : decode cL_law 1408 = .ok (.invokevirtual 167, 3) := by decide +kernel
theorem dL_law_1411 : decode cL_law 1411 = .ok (.if_icmp .eq 558, 3) := by decide +kernel
theorem dL_law_1414 : decode cL_law 1414 = .ok (.iconst 0, 1) := by decide +kernel
theorem dL_law_1415 : decode cL_law 1415 = .ok (.ireturn, 1) := by decide +kernel
theorem dL_law_1416 : decode cL_law 1416 = .ok (.aload_n 1, 1) := by decide +kernel
theorem dL_law_1417 : decode cL_law 1417 = .ok (.aload_n 0, 1) := by decide +kernel
theorem dL_law_1418 : decode cL_law 1418 = .ok (.iload 4, 2) := by decide +kernel
theorem dL_law_1420 : decode cL_law 1420 = .ok (.iconst 1, 1) := by decide +kernel
theorem dL_law_1421 : decode cL_law 1421 = .ok (.iadd, 1) := by decide +kernel
theorem dL_law_1422 : decode cL_law 1422 = .ok (.iaload, 1) := by decide +kernel
theorem dL_law_1423 : decode cL_law 1423 = .ok (.aload_n 3, 1) := by decide +kernel
theorem dL_law_1424 : decode cL_law 1424 = .ok (.invokestatic 168, 3) := by decide +kernel
theorem dL_law_1427 : decode cL_law 1427 = .ok (.istore 5, 2) := by decide +kernel
theorem dL_law_1429 : decode cL_law 1429 = .ok (.aload_n 2, 1) := by decide +kernel
theorem dL_law_1430 : decode cL_law 1430 = .ok (.aload_n 0, 1) := by decide +kernel
theorem dL_law_1431 : decode cL_law 1431 = .ok (.iload 4, 2) := by decide +kernel
theorem dL_law_1433 : decode cL_law 1433 = .ok (.iconst 1, 1) := by decide +kernel
theorem dL_law_1434 : decode cL_law 1434 = .ok (.iadd, 1) := by decide +kernel
theorem dL_law_1435 : decode cL_law 1435 = .ok (.iaload, 1) := by decide +kernel
theorem dL_law_1436 : decode cL_law 1436 = .ok (.invokevirtual 170, 3) := by decide +kernel
theorem dL_law_1439 : decode cL_law 1439 = .ok (.istore 6, 2) := by decide +kernel
theorem dL_law_1441 : decode cL_law 1441 = .ok (.aload_n 2, 1) := by decide +kernel
theorem dL_law_1442 : decode cL_law 1442 = .ok (.invokevirtual 108, 3) := by decide +kernel
theorem dL_law_1445 : decode cL_law 1445 = .ok (.iload 5, 2) := by decide +kernel
theorem dL_law_1447 : decode cL_law 1447 = .ok (.if_icmp .eq 5, 3) := by decide +kernel
theorem dL_law_1450 : decode cL_law 1450 = .ok (.iconst 0, 1) := by decide +kernel
theorem dL_law_1451 : decode cL_law 1451 = .ok (.ireturn, 1) := by decide +kernel
theorem dL_law_1452 : decode cL_law 1452 = .ok (.iload 5, 2) := by decide +kernel
theorem dL_law_1454 : decode cL_law 1454 = .ok (.ifCond .ne 15, 3) := by decide +kernel
theorem dL_law_1457 : decode cL_law 1457 = .ok (.aload_n 3, 1) := by decide +kernel
theorem dL_law_1458 : decode cL_law 1458 = .ok (.iconst 0, 1) := by decide +kernel
theorem dL_law_1459 : decode cL_law 1459 = .ok (.laload, 1) := by decide +kernel
theorem dL_law_1460 : decode cL_law 1460 = .ok (.iload 6, 2) := by decide +kernel
theorem dL_law_1462 : decode cL_law 1462 = .ok (.i2l, 1) := by decide +kernel
theorem dL_law_1463 : decode cL_law 1463 = .ok (.lcmp, 1) := by decide +kernel
theorem dL_law_1464 : decode cL_law 1464 = .ok (.ifCond .eq 5, 3) := by decide +kernel
theorem dL_law_1467 : decode cL_law 1467 = .ok (.iconst 0, 1) := by decide +kernel
theorem dL_law_1468 : decode cL_law 1468 = .ok (.ireturn, 1) := by decide +kernel
theorem dL_law_1469 : decode cL_law 1469 = .ok (.goto 500, 3) := by decide +kernel
theorem dL_law_1472 : decode cL_law 1472 = .ok (.aload_n 1, 1) := by decide +kernel
theorem dL_law_1473 : decode cL_law 1473 = .ok (.aload_n 0, 1) := by decide +kernel
theorem dL_law_1474 : decode cL_law 1474 = .ok (.iload 4, 2) := by decide +kernel
theorem dL_law_1476 : decode cL_law 1476 = .ok (.iconst 1, 1) := by decide +kernel
theorem dL_law_1477 : decode cL_law 1477 = .ok (.iadd, 1) := by decide +kernel
theorem dL_law_1478 : decode cL_law 1478 = .ok (.iaload, 1) := by decide +kernel
theorem dL_law_1479 : decode cL_law 1479 = .ok (.aload_n 0, 1) := by decide +kernel
theorem dL_law_1480 : decode cL_law 1480 = .ok (.iload 4, 2) := by decide +kernel
theorem dL_law_1482 : decode cL_law 1482 = .ok (.iconst 2, 1) := by decide +kernel
theorem dL_law_1483 : decode cL_law 1483 = .ok (.iadd, 1) := by decide +kernel
theorem dL_law_1484 : decode cL_law 1484 = .ok (.iaload, 1) := by decide +kernel
theorem dL_law_1485 : decode cL_law 1485 = .ok (.aload_n 3, 1) := by decide +kernel
theorem dL_law_1486 : decode cL_law 1486 = .ok (.invokestatic 171, 3) := by decide +kernel
theorem dL_law_1489 : decode cL_law 1489 = .ok (.istore 5, 2) := by decide +kernel
theorem dL_law_1491 : decode cL_law 1491 = .ok (.aload_n 2, 1) := by decide +kernel
theorem dL_law_1492 : decode cL_law 1492 = .ok (.aload_n 0, 1) := by decide +kernel
theorem dL_law_1493 : decode cL_law 1493 = .ok (.iload 4, 2) := by decide +kernel
theorem dL_law_1495 : decode cL_law 1495 = .ok (.iconst 1, 1) := by decide +kernel
theorem dL_law_1496 : decode cL_law 1496 = .ok (.iadd, 1) := by decide +kernel
theorem dL_law_1497 : decode cL_law 1497 = .ok (.iaload, 1) := by decide +kernel
theorem dL_law_1498 : decode cL_law 1498 = .ok (.aload_n 0, 1) := by decide +kernel
theorem dL_law_1499 : decode cL_law 1499 = .ok (.iload 4, 2) := by decide +kernel
theorem dL_law_1501 : decode cL_law 1501 = .ok (.iconst 2, 1) := by decide +kernel
theorem dL_law_1502 : decode cL_law 1502 = .ok (.iadd, 1) := by decide +kernel
theorem dL_law_1503 : decode cL_law 1503 = .ok (.iaload, 1) := by decide +kernel
theorem dL_law_1504 : decode cL_law 1504 = .ok (.invokevirtual 173, 3) := by decide +kernel
theorem dL_law_1507 : decode cL_law 1507 = .ok (.istore 6, 2) := by decide +kernel
theorem dL_law_1509 : decode cL_law 1509 = .ok (.aload_n 2, 1) := by decide +kernel
theorem dL_law_1510 : decode cL_law 1510 = .ok (.invokevirtual 108, 3) := by decide +kernel
theorem dL_law_1513 : decode cL_law 1513 = .ok (.iload 5, 2) := by decide +kernel
theorem dL_law_1515 : decode cL_law 1515 = .ok (.if_icmp .eq 5, 3) := by decide +kernel
theorem dL_law_1518 : decode cL_law 1518 = .ok (.iconst 0, 1) := by decide +kernel
theorem dL_law_1519 : decode cL_law 1519 = .ok (.ireturn, 1) := by decide +kernel
theorem dL_law_1520 : decode cL_law 1520 = .ok (.iload 5, 2) := by decide +kernel
theorem dL_law_1522 : decode cL_law 1522 = .ok (.ifCond .ne 15, 3) := by decide +kernel
theorem dL_law_1525 : decode cL_law 1525 = .ok (.aload_n 3, 1) := by decide +kernel
theorem dL_law_1526 : decode cL_law 1526 = .ok (.iconst 0, 1) := by decide +kernel
theorem dL_law_1527 : decode cL_law 1527 = .ok (.laload, 1) := by decide +kernel
theorem dL_law_1528 : decode cL_law 1528 = .ok (.iload 6, 2) := by decide +kernel
theorem dL_law_1530 : decode cL_law 1530 = .ok (.i2l, 1) := by decide +kernel
theorem dL_law_1531 : decode cL_law 1531 = .ok (.lcmp, 1) := by decide +kernel
theorem dL_law_1532 : decode cL_law 1532 = .ok (.ifCond .eq 5, 3) := by decide +kernel
theorem dL_law_1535 : decode cL_law 1535 = .ok (.iconst 0, 1) := by decide +kernel
theorem dL_law_1536 : decode cL_law 1536 = .ok (.ireturn, 1) := by decide +kernel
theorem dL_law_1537 : decode cL_law 1537 = .ok (.goto 432, 3) := by decide +kernel
theorem dL_law_1540 : decode cL_law 1540 = .ok (.aload_n 1, 1) := by decide +kernel
theorem dL_law_1541 : decode cL_law 1541 = .ok (.aload_n 0, 1) := by decide +kernel
theorem dL_law_1542 : decode cL_law 1542 = .ok (.iload 4, 2) := by decide +kernel
theorem dL_law_1544 : decode cL_law 1544 = .ok (.iconst 1, 1) := by decide +kernel
theorem dL_law_1545 : decode cL_law 1545 = .ok (.iadd, 1) := by decide +kernel
theorem dL_law_1546 : decode cL_law 1546 = .ok (.iaload, 1) := by decide +kernel
theorem dL_law_1547 : decode cL_law 1547 = .ok (.aload_n 0, 1) := by decide +kernel
theorem dL_law_1548 : decode cL_law 1548 = .ok (.iload 4, 2) := by decide +kernel
theorem dL_law_1550 : decode cL_law 1550 = .ok (.iconst 2, 1) := by decide +kernel
theorem dL_law_1551 : decode cL_law 1551 = .ok (.iadd, 1) := by decide +kernel
theorem dL_law_1552 : decode cL_law 1552 = .ok (.iaload, 1) := by decide +kernel
theorem dL_law_1553 : decode cL_law 1553 = .ok (.aload_n 3, 1) := by decide +kernel
theorem dL_law_1554 : decode cL_law 1554 = .ok (.invokestatic 174, 3) := by decide +kernel
theorem dL_law_1557 : decode cL_law 1557 = .ok (.istore 5, 2) := by decide +kernel
theorem dL_law_1559 : decode cL_law 1559 = .ok (.aload_n 2, 1) := by decide +kernel
theorem dL_law_1560 : decode cL_law 1560 = .ok (.aload_n 0, 1) := by decide +kernel
theorem dL_law_1561 : decode cL_law 1561 = .ok (.iload 4, 2) := by decide +kernel
theorem dL_law_1563 : decode cL_law 1563 = .ok (.iconst 1, 1) := by decide +kernel
theorem dL_law_1564 : decode cL_law 1564 = .ok (.iadd, 1) := by decide +kernel
theorem dL_law_1565 : decode cL_law 1565 = .ok (.iaload, 1) := by decide +kernel
theorem dL_law_1566 : decode cL_law 1566 = .ok (.aload_n 0, 1) := by decide +kernel
theorem dL_law_1567 : decode cL_law 1567 = .ok (.iload 4, 2) := by decide +kernel
theorem dL_law_1569 : decode cL_law 1569 = .ok (.iconst 2, 1) := by decide +kernel
theorem dL_law_1570 : decode cL_law 1570 = .ok (.iadd, 1) := by decide +kernel
theorem dL_law_1571 : decode cL_law 1571 = .ok (.iaload, 1) := by decide +kernel
theorem dL_law_1572 : decode cL_law 1572 = .ok (.invokevirtual 176, 3) := by decide +kernel
theorem dL_law_1575 : decode cL_law 1575 = .ok (.istore 6, 2) := by decide +kernel
theorem dL_law_1577 : decode cL_law 1577 = .ok (.aload_n 2, 1) := by decide +kernel
theorem dL_law_1578 : decode cL_law 1578 = .ok (.invokevirtual 108, 3) := by decide +kernel
theorem dL_law_1581 : decode cL_law 1581 = .ok (.iload 5, 2) := by decide +kernel
theorem dL_law_1583 : decode cL_law 1583 = .ok (.if_icmp .eq 5, 3) := by decide +kernel
theorem dL_law_1586 : decode cL_law 1586 = .ok (.iconst 0, 1) := by decide +kernel
theorem dL_law_1587 : decode cL_law 1587 = .ok (.ireturn, 1) := by decide +kernel
theorem dL_law_1588 : decode cL_law 1588 = .ok (.iload 5, 2) := by decide +kernel
theorem dL_law_1590 : decode cL_law 1590 = .ok (.ifCond .ne 15, 3) := by decide +kernel
theorem dL_law_1593 : decode cL_law 1593 = .ok (.aload_n 3, 1) := by decide +kernel
theorem dL_law_1594 : decode cL_law 1594 = .ok (.iconst 0, 1) := by decide +kernel
theorem dL_law_1595 : decode cL_law 1595 = .ok (.laload, 1) := by decide +kernel
theorem dL_law_1596 : decode cL_law 1596 = .ok (.iload 6, 2) := by decide +kernel
theorem dL_law_1598 : decode cL_law 1598 = .ok (.i2l, 1) := by decide +kernel
theorem dL_law_1599 : decode cL_law 1599 = .ok (.lcmp, 1) := by decide +kernel
theorem dL_law_1600 : decode cL_law 1600 = .ok (.ifCond .eq 5, 3) := by decide +kernel
theorem dL_law_1603 : decode cL_law 1603 = .ok (.iconst 0, 1) := by decide +kernel
theorem dL_law_1604 : decode cL_law 1604 = .ok (.ireturn, 1) := by decide +kernel
theorem dL_law_1605 : decode cL_law 1605 = .ok (.goto 364, 3) := by decide +kernel
theorem dL_law_1608 : decode cL_law 1608 = .ok (.aload_n 1, 1) := by decide +kernel
theorem dL_law_1609 : decode cL_law 1609 = .ok (.aload_n 0, 1) := by decide +kernel
theorem dL_law_1610 : decode cL_law 1610 = .ok (.iload 4, 2) := by decide +kernel
theorem dL_law_1612 : decode cL_law 1612 = .ok (.iconst 1, 1) := by decide +kernel
theorem dL_law_1613 : decode cL_law 1613 = .ok (.iadd, 1) := by decide +kernel
theorem dL_law_1614 : decode cL_law 1614 = .ok (.iaload, 1) := by decide +kernel
theorem dL_law_1615 : decode cL_law 1615 = .ok (.aload_n 0, 1) := by decide +kernel
theorem dL_law_1616 : decode cL_law 1616 = .ok (.iload 4, 2) := by decide +kernel
theorem dL_law_1618 : decode cL_law 1618 = .ok (.iconst 2, 1) := by decide +kernel
theorem dL_law_1619 : decode cL_law 1619 = .ok (.iadd, 1) := by decide +kernel
theorem dL_law_1620 : decode cL_law 1620 = .ok (.iaload, 1) := by decide +kernel
theorem dL_law_1621 : decode cL_law 1621 = .ok (.aload_n 0, 1) := by decide +kernel
theorem dL_law_1622 : decode cL_law 1622 = .ok (.iload 4, 2) := by decide +kernel
theorem dL_law_1624 : decode cL_law 1624 = .ok (.iconst 3, 1) := by decide +kernel
theorem dL_law_1625 : decode cL_law 1625 = .ok (.iadd, 1) := by decide +kernel
theorem dL_law_1626 : decode cL_law 1626 = .ok (.iaload, 1) := by decide +kernel
theorem dL_law_1627 : decode cL_law 1627 = .ok (.ifCond .eq 7, 3) := by decide +kernel
theorem dL_law_1630 : decode cL_law 1630 = .ok (.iconst 1, 1) := by decide +kernel
theorem dL_law_1631 : decode cL_law 1631 = .ok (.goto 4, 3) := by decide +kernel
theorem dL_law_1634 : decode cL_law 1634 = .ok (.iconst 0, 1) := by decide +kernel
theorem dL_law_1635 : decode cL_law 1635 = .ok (.aload_n 3, 1) := by decide +kernel
theorem dL_law_1636 : decode cL_law 1636 = .ok (.invokestatic 177, 3) := by decide +kernel
theorem dL_law_1639 : decode cL_law 1639 = .ok (.istore 5, 2) := by decide +kernel
theorem dL_law_1641 : decode cL_law 1641 = .ok (.aload_n 2, 1) := by decide +kernel
theorem dL_law_1642 : decode cL_law 1642 = .ok (.aload_n 0, 1) := by decide +kernel
theorem dL_law_1643 : decode cL_law 1643 = .ok (.iload 4, 2) := by decide +kernel
theorem dL_law_1645 : decode cL_law 1645 = .ok (.iconst 1, 1) := by decide +kernel
theorem dL_law_1646 : decode cL_law 1646 = .ok (.iadd, 1) := by decide +kernel
theorem dL_law_1647 : decode cL_law 1647 = .ok (.iaload, 1) := by decide +kernel
theorem dL_law_1648 : decode cL_law 1648 = .ok (.aload_n 0, 1) := by decide +kernel
theorem dL_law_1649 : decode cL_law 1649 = .ok (.iload 4, 2) := by decide +kernel
theorem dL_law_1651 : decode cL_law 1651 = .ok (.iconst 2, 1) := by decide +kernel
theorem dL_law_1652 : decode cL_law 1652 = .ok (.iadd, 1) := by decide +kernel
theorem dL_law_1653 : decode cL_law 1653 = .ok (.iaload, 1) := by decide +kernel
theorem dL_law_1654 : decode cL_law 1654 = .ok (.aload_n 0, 1) := by decide +kernel
theorem dL_law_1655 : decode cL_law 1655 = .ok (.iload 4, 2) := by decide +kernel
theorem dL_law_1657 : decode cL_law 1657 = .ok (.iconst 3, 1) := by decide +kernel
theorem dL_law_1658 : decode cL_law 1658 = .ok (.iadd, 1) := by decide +kernel
theorem dL_law_1659 : decode cL_law 1659 = .ok (.iaload, 1) := by decide +kernel
theorem dL_law_1660 : decode cL_law 1660 = .ok (.ifCond .eq 7, 3) := by decide +kernel
theorem dL_law_1663 : decode cL_law 1663 = .ok (.iconst 1, 1) := by decide +kernel
theorem dL_law_1664 : decode cL_law 1664 = .ok (.goto 4, 3) := by decide +kernel
theorem dL_law_1667 : decode cL_law 1667 = .ok (.iconst 0, 1) := by decide +kernel
theorem dL_law_1668 : decode cL_law 1668 = .ok (.invokevirtual 179, 3) := by decide +kernel
theorem dL_law_1671 : decode cL_law 1671 = .ok (.istore 6, 2) := by decide +kernel
theorem dL_law_1673 : decode cL_law 1673 = .ok (.aload_n 2, 1) := by decide +kernel
theorem dL_law_1674 : decode cL_law 1674 = .ok (.invokevirtual 108, 3) := by decide +kernel
theorem dL_law_1677 : decode cL_law 1677 = .ok (.iload 5, 2) := by decide +kernel
theorem dL_law_1679 : decode cL_law 1679 = .ok (.if_icmp .eq 5, 3) := by decide +kernel
theorem dL_law_1682 : decode cL_law 1682 = .ok (.iconst 0, 1) := by decide +kernel
theorem dL_law_1683 : decode cL_law 1683 = .ok (.ireturn, 1) := by decide +kernel
theorem dL_law_1684 : decode cL_law 1684 = .ok (.iload 5, 2) := by decide +kernel
theorem dL_law_1686 : decode cL_law 1686 = .ok (.ifCond .ne 15, 3) := by decide +kernel
theorem dL_law_1689 : decode cL_law 1689 = .ok (.aload_n 3, 1) := by decide +kernel
theorem dL_law_1690 : decode cL_law 1690 = .ok (.iconst 0, 1) := by decide +kernel
theorem dL_law_1691 : decode cL_law 1691 = .ok (.laload, 1) := by decide +kernel
theorem dL_law_1692 : decode cL_law 1692 = .ok (.iload 6, 2) := by decide +kernel
theorem dL_law_1694 : decode cL_law 1694 = .ok (.i2l, 1) := by decide +kernel
theorem dL_law_1695 : decode cL_law 1695 = .ok (.lcmp, 1) := by decide +kernel
theorem dL_law_1696 : decode cL_law 1696 = .ok (.ifCond .eq 5, 3) := by decide +kernel
theorem dL_law_1699 : decode cL_law 1699 = .ok (.iconst 0, 1) := by decide +kernel
theorem dL_law_1700 : decode cL_law 1700 = .ok (.ireturn, 1) := by decide +kernel
theorem dL_law_1701 : decode cL_law 1701 = .ok (.goto 268, 3) := by decide +kernel
theorem dL_law_1704 : decode cL_law 1704 = .ok (.aload_n 1, 1) := by decide +kernel
theorem dL_law_1705 : decode cL_law 1705 = .ok (.aload_n 0, 1) := by decide +kernel
theorem dL_law_1706 : decode cL_law 1706 = .ok (.iload 4, 2) := by decide +kernel
theorem dL_law_1708 : decode cL_law 1708 = .ok (.iconst 1, 1) := by decide +kernel
theorem dL_law_1709 : decode cL_law 1709 = .ok (.iadd, 1) := by decide +kernel
theorem dL_law_1710 : decode cL_law 1710 = .ok (.iaload, 1) := by decide +kernel
theorem dL_law_1711 : decode cL_law 1711 = .ok (.aload_n 0, 1) := by decide +kernel
theorem dL_law_1712 : decode cL_law 1712 = .ok (.iload 4, 2) := by decide +kernel
theorem dL_law_1714 : decode cL_law 1714 = .ok (.iconst 2, 1) := by decide +kernel
theorem dL_law_1715 : decode cL_law 1715 = .ok (.iadd, 1) := by decide +kernel
theorem dL_law_1716 : decode cL_law 1716 = .ok (.iaload, 1) := by decide +kernel
theorem dL_law_1717 : decode cL_law 1717 = .ok (.aload_n 3, 1) := by decide +kernel
theorem dL_law_1718 : decode cL_law 1718 = .ok (.invokestatic 180, 3) := by decide +kernel
theorem dL_law_1721 : decode cL_law 1721 = .ok (.istore 5, 2) := by decide +kernel
theorem dL_law_1723 : decode cL_law 1723 = .ok (.aload_n 2, 1) := by decide +kernel
theorem dL_law_1724 : decode cL_law 1724 = .ok (.aload_n 0, 1) := by decide +kernel
theorem dL_law_1725 : decode cL_law 1725 = .ok (.iload 4, 2) := by decide +kernel
theorem dL_law_1727 : decode cL_law 1727 = .ok (.iconst 1, 1) := by decide +kernel
theorem dL_law_1728 : decode cL_law 1728 = .ok (.iadd, 1) := by decide +kernel
theorem dL_law_1729 : decode cL_law 1729 = .ok (.iaload, 1) := by decide +kernel
theorem dL_law_1730 : decode cL_law 1730 = .ok (.aload_n 0, 1) := by decide +kernel
theorem dL_law_1731 : decode cL_law 1731 = .ok (.iload 4, 2) := by decide +kernel
theorem dL_law_1733 : decode cL_law 1733 = .ok (.iconst 2, 1) := by decide +kernel
theorem dL_law_1734 : decode cL_law 1734 = .ok (.iadd, 1) := by decide +kernel
theorem dL_law_1735 : decode cL_law 1735 = .ok (.iaload, 1) := by decide +kernel
theorem dL_law_1736 : decode cL_law 1736 = .ok (.invokevirtual 182, 3) := by decide +kernel
theorem dL_law_1739 : decode cL_law 1739 = .ok (.istore 6, 2) := by decide +kernel
theorem dL_law_1741 : decode cL_law 1741 = .ok (.aload_n 2, 1) := by decide +kernel
theorem dL_law_1742 : decode cL_law 1742 = .ok (.invokevirtual 108, 3) := by decide +kernel
theorem dL_law_1745 : decode cL_law 1745 = .ok (.iload 5, 2) := by decide +kernel
theorem dL_law_1747 : decode cL_law 1747 = .ok (.if_icmp .eq 5, 3) := by decide +kernel
theorem dL_law_1750 : decode cL_law 1750 = .ok (.iconst 0, 1) := by decide +kernel
theorem dL_law_1751 : decode cL_law 1751 = .ok (.ireturn, 1) := by decide +kernel
theorem dL_law_1752 : decode cL_law 1752 = .ok (.iload 5, 2) := by decide +kernel
theorem dL_law_1754 : decode cL_law 1754 = .ok (.ifCond .ne 15, 3) := by decide +kernel
theorem dL_law_1757 : decode cL_law 1757 = .ok (.aload_n 3, 1) := by decide +kernel
theorem dL_law_1758 : decode cL_law 1758 = .ok (.iconst 0, 1) := by decide +kernel
theorem dL_law_1759 : decode cL_law 1759 = .ok (.laload, 1) := by decide +kernel
theorem dL_law_1760 : decode cL_law 1760 = .ok (.iload 6, 2) := by decide +kernel
theorem dL_law_1762 : decode cL_law 1762 = .ok (.i2l, 1) := by decide +kernel
theorem dL_law_1763 : decode cL_law 1763 = .ok (.lcmp, 1) := by decide +kernel
theorem dL_law_1764 : decode cL_law 1764 = .ok (.ifCond .eq 5, 3) := by decide +kernel
theorem dL_law_1767 : decode cL_law 1767 = .ok (.iconst 0, 1) := by decide +kernel
theorem dL_law_1768 : decode cL_law 1768 = .ok (.ireturn, 1) := by decide +kernel
theorem dL_law_1769 : decode cL_law 1769 = .ok (.goto 200, 3) := by decide +kernel
theorem dL_law_1772 : decode cL_law 1772 = .ok (.aload_n 1, 1) := by decide +kernel
theorem dL_law_1773 : decode cL_law 1773 = .ok (.aload_n 0, 1) := by decide +kernel
theorem dL_law_1774 : decode cL_law 1774 = .ok (.iload 4, 2) := by decide +kernel
theorem dL_law_1776 : decode cL_law 1776 = .ok (.iconst 1, 1) := by decide +kernel
theorem dL_law_1777 : decode cL_law 1777 = .ok (.iadd, 1) := by decide +kernel
theorem dL_law_1778 : decode cL_law 1778 = .ok (.iaload, 1) := by decide +kernel
theorem dL_law_1779 : decode cL_law 1779 = .ok (.aload_n 3, 1) := by decide +kernel
theorem dL_law_1780 : decode cL_law 1780 = .ok (.invokestatic 183, 3) := by decide +kernel
theorem dL_law_1783 : decode cL_law 1783 = .ok (.istore 5, 2) := by decide +kernel
theorem dL_law_1785 : decode cL_law 1785 = .ok (.aload_n 2, 1) := by decide +kernel
theorem dL_law_1786 : decode cL_law 1786 = .ok (.aload_n 0, 1) := by decide +kernel
theorem dL_law_1787 : decode cL_law 1787 = .ok (.iload 4, 2) := by decide +kernel
theorem dL_law_1789 : decode cL_law 1789 = .ok (.iconst 1, 1) := by decide +kernel
theorem dL_law_1790 : decode cL_law 1790 = .ok (.iadd, 1) := by decide +kernel
theorem dL_law_1791 : decode cL_law 1791 = .ok (.iaload, 1) := by decide +kernel
theorem dL_law_1792 : decode cL_law 1792 = .ok (.invokevirtual 185, 3) := by decide +kernel
theorem dL_law_1795 : decode cL_law 1795 = .ok (.istore 6, 2) := by decide +kernel
theorem dL_law_1797 : decode cL_law 1797 = .ok (.aload_n 2, 1) := by decide +kernel
theorem dL_law_1798 : decode cL_law 1798 = .ok (.invokevirtual 108, 3) := by decide +kernel
theorem dL_law_1801 : decode cL_law 1801 = .ok (.iload 5, 2) := by decide +kernel
theorem dL_law_1803 : decode cL_law 1803 = .ok (.if_icmp .eq 5, 3) := by decide +kernel
theorem dL_law_1806 : decode cL_law 1806 = .ok (.iconst 0, 1) := by decide +kernel
theorem dL_law_1807 : decode cL_law 1807 = .ok (.ireturn, 1) := by decide +kernel
theorem dL_law_1808 : decode cL_law 1808 = .ok (.iload 5, 2) := by decide +kernel
theorem dL_law_1810 : decode cL_law 1810 = .ok (.ifCond .ne 15, 3) := by decide +kernel
theorem dL_law_1813 : decode cL_law 1813 = .ok (.aload_n 3, 1) := by decide +kernel
theorem dL_law_1814 : decode cL_law 1814 = .ok (.iconst 0, 1) := by decide +kernel
theorem dL_law_1815 : decode cL_law 1815 = .ok (.laload, 1) := by decide +kernel
theorem dL_law_1816 : decode cL_law 1816 = .ok (.iload 6, 2) := by decide +kernel
theorem dL_law_1818 : decode cL_law 1818 = .ok (.i2l, 1) := by decide +kernel
theorem dL_law_1819 : decode cL_law 1819 = .ok (.lcmp, 1) := by decide +kernel
theorem dL_law_1820 : decode cL_law 1820 = .ok (.ifCond .eq 5, 3) := by decide +kernel
theorem dL_law_1823 : decode cL_law 1823 = .ok (.iconst 0, 1) := by decide +kernel
theorem dL_law_1824 : decode cL_law 1824 = .ok (.ireturn, 1) := by decide +kernel
theorem dL_law_1825 : decode cL_law 1825 = .ok (.goto 144, 3) := by decide +kernel
theorem dL_law_1828 : decode cL_law 1828 = .ok (.aload_n 1, 1) := by decide +kernel
theorem dL_law_1829 : decode cL_law 1829 = .ok (.aload_n 3, 1) := by decide +kernel
theorem dL_law_1830 : decode cL_law 1830 = .ok (.invokestatic 186, 3) := by decide +kernel
theorem dL_law_1833 : decode cL_law 1833 = .ok (.istore 5, 2) := by decide +kernel
theorem dL_law_1835 : decode cL_law 1835 = .ok (.aload_n 2, 1) := by decide +kernel
theorem dL_law_1836 : decode cL_law 1836 = .ok (.invokevirtual 188, 3) := by decide +kernel
theorem dL_law_1839 : decode cL_law 1839 = .ok (.istore 6, 2) := by decide +kernel
theorem dL_law_1841 : decode cL_law 1841 = .ok (.aload_n 2, 1) := by decide +kernel
theorem dL_law_1842 : decode cL_law 1842 = .ok (.invokevirtual 108, 3) := by decide +kernel
theorem dL_law_1845 : decode cL_law 1845 = .ok (.iload 5, 2) := by decide +kernel
theorem dL_law_1847 : decode cL_law 1847 = .ok (.if_icmp .eq 5, 3) := by decide +kernel
theorem dL_law_1850 : decode cL_law 1850 = .ok (.iconst 0, 1) := by decide +kernel
theorem dL_law_1851 : decode cL_law 1851 = .ok (.ireturn, 1) := by decide +kernel
theorem dL_law_1852 : decode cL_law 1852 = .ok (.iload 5, 2) := by decide +kernel
theorem dL_law_1854 : decode cL_law 1854 = .ok (.ifCond .ne 15, 3) := by decide +kernel
theorem dL_law_1857 : decode cL_law 1857 = .ok (.aload_n 3, 1) := by decide +kernel
theorem dL_law_1858 : decode cL_law 1858 = .ok (.iconst 0, 1) := by decide +kernel
theorem dL_law_1859 : decode cL_law 1859 = .ok (.laload, 1) := by decide +kernel
theorem dL_law_1860 : decode cL_law 1860 = .ok (.iload 6, 2) := by decide +kernel
theorem dL_law_1862 : decode cL_law 1862 = .ok (.i2l, 1) := by decide +kernel
theorem dL_law_1863 : decode cL_law 1863 = .ok (.lcmp, 1) := by decide +kernel
theorem dL_law_1864 : decode cL_law 1864 = .ok (.ifCond .eq 5, 3) := by decide +kernel
theorem dL_law_1867 : decode cL_law 1867 = .ok (.iconst 0, 1) := by decide +kernel
theorem dL_law_1868 : decode cL_law 1868 = .ok (.ireturn, 1) := by decide +kernel
theorem dL_law_1869 : decode cL_law 1869 = .ok (.goto 100, 3) := by decide +kernel
theorem dL_law_1872 : decode cL_law 1872 = .ok (.aload_n 1, 1) := by decide +kernel
theorem dL_law_1873 : decode cL_law 1873 = .ok (.aload_n 0, 1) := by decide +kernel
theorem dL_law_1874 : decode cL_law 1874 = .ok (.iload 4, 2) := by decide +kernel
theorem dL_law_1876 : decode cL_law 1876 = .ok (.iconst 1, 1) := by decide +kernel
theorem dL_law_1877 : decode cL_law 1877 = .ok (.iadd, 1) := by decide +kernel
theorem dL_law_1878 : decode cL_law 1878 = .ok (.iaload, 1) := by decide +kernel
theorem dL_law_1879 : decode cL_law 1879 = .ok (.aload_n 0, 1) := by decide +kernel
theorem dL_law_1880 : decode cL_law 1880 = .ok (.iload 4, 2) := by decide +kernel
theorem dL_law_1882 : decode cL_law 1882 = .ok (.iconst 2, 1) := by decide +kernel
theorem dL_law_1883 : decode cL_law 1883 = .ok (.iadd, 1) := by decide +kernel
theorem dL_law_1884 : decode cL_law 1884 = .ok (.iaload, 1) := by decide +kernel
theorem dL_law_1885 : decode cL_law 1885 = .ok (.ifCond .eq 7, 3) := by decide +kernel
theorem dL_law_1888 : decode cL_law 1888 = .ok (.iconst 1, 1) := by decide +kernel
theorem dL_law_1889 : decode cL_law 1889 = .ok (.goto 4, 3) := by decide +kernel
theorem dL_law_1892 : decode cL_law 1892 = .ok (.iconst 0, 1) := by decide +kernel
theorem dL_law_1893 : decode cL_law 1893 = .ok (.aload_n 3, 1) := by decide +kernel
theorem dL_law_1894 : decode cL_law 1894 = .ok (.invokestatic 189, 3) := by decide +kernel
theorem dL_law_1897 : decode cL_law 1897 = .ok (.istore 5, 2) := by decide +kernel
theorem dL_law_1899 : decode cL_law 1899 = .ok (.aload_n 2, 1) := by decide +kernel
theorem dL_law_1900 : decode cL_law 1900 = .ok (.aload_n 0, 1) := by decide +kernel
theorem dL_law_1901 : decode cL_law 1901 = .ok (.iload 4, 2) := by decide +kernel
theorem dL_law_1903 : decode cL_law 1903 = .ok (.iconst 1, 1) := by decide +kernel
theorem dL_law_1904 : decode cL_law 1904 = .ok (.iadd, 1) := by decide +kernel
theorem dL_law_1905 : decode cL_law 1905 = .ok (.iaload, 1) := by decide +kernel
theorem dL_law_1906 : decode cL_law 1906 = .ok (.aload_n 0, 1) := by decide +kernel
theorem dL_law_1907 : decode cL_law 1907 = .ok (.iload 4, 2) := by decide +kernel
theorem dL_law_1909 : decode cL_law 1909 = .ok (.iconst 2, 1) := by decide +kernel
theorem dL_law_1910 : decode cL_law 1910 = .ok (.iadd, 1) := by decide +kernel
theorem dL_law_1911 : decode cL_law 1911 = .ok (.iaload, 1) := by decide +kernel
theorem dL_law_1912 : decode cL_law 1912 = .ok (.ifCond .eq 7, 3) := by decide +kernel
theorem dL_law_1915 : decode cL_law 1915 = .ok (.iconst 1, 1) := by decide +kernel
theorem dL_law_1916 : decode cL_law 1916 = .ok (.goto 4, 3) := by decide +kernel
theorem dL_law_1919 : decode cL_law 1919 = .ok (.iconst 0, 1) := by decide +kernel
theorem dL_law_1920 : decode cL_law 1920 = .ok (.invokevirtual 192, 3) := by decide +kernel
theorem dL_law_1923 : decode cL_law 1923 = .ok (.istore 6, 2) := by decide +kernel
theorem dL_law_1925 : decode cL_law 1925 = .ok (.aload_n 2, 1) := by decide +kernel
theorem dL_law_1926 : decode cL_law 1926 = .ok (.invokevirtual 108, 3) := by decide +kernel
theorem dL_law_1929 : decode cL_law 1929 = .ok (.iload 5, 2) := by decide +kernel
theorem dL_law_1931 : decode cL_law 1931 = .ok (.if_icmp .eq 5, 3) := by decide +kernel
theorem dL_law_1934 : decode cL_law 1934 = .ok (.iconst 0, 1) := by decide +kernel
theorem dL_law_1935 : decode cL_law 1935 = .ok (.ireturn, 1) := by decide +kernel
theorem dL_law_1936 : decode cL_law 1936 = .ok (.iload 5, 2) := by decide +kernel
theorem dL_law_1938 : decode cL_law 1938 = .ok (.ifCond .ne 15, 3) := by decide +kernel
theorem dL_law_1941 : decode cL_law 1941 = .ok (.aload_n 3, 1) := by decide +kernel
theorem dL_law_1942 : decode cL_law 1942 = .ok (.iconst 0, 1) := by decide +kernel
theorem dL_law_1943 : decode cL_law 1943 = .ok (.laload, 1) := by decide +kernel
theorem dL_law_1944 : decode cL_law 1944 = .ok (.iload 6, 2) := by decide +kernel
theorem dL_law_1946 : decode cL_law 1946 = .ok (.i2l, 1) := by decide +kernel
theorem dL_law_1947 : decode cL_law 1947 = .ok (.lcmp, 1) := by decide +kernel
theorem dL_law_1948 : decode cL_law 1948 = .ok (.ifCond .eq 5, 3) := by decide +kernel
theorem dL_law_1951 : decode cL_law 1951 = .ok (.iconst 0, 1) := by decide +kernel
theorem dL_law_1952 : decode cL_law 1952 = .ok (.ireturn, 1) := by decide +kernel
theorem dL_law_1953 : decode cL_law 1953 = .ok (.goto 16, 3) := by decide +kernel
theorem dL_law_1956 : decode cL_law 1956 = .ok (.aload_n 1, 1) := by decide +kernel
theorem dL_law_1957 : decode cL_law 1957 = .ok (.invokevirtual 193, 3) := by decide +kernel
theorem dL_law_1960 : decode cL_law 1960 = .ok (.aload_n 2, 1) := by decide +kernel
theorem dL_law_1961 : decode cL_law 1961 = .ok (.invokevirtual 196, 3) := by decide +kernel
theorem dL_law_1964 : decode cL_law 1964 = .ok (.if_icmp .eq 5, 3) := by decide +kernel
theorem dL_law_1967 : decode cL_law 1967 = .ok (.iconst 0, 1) := by decide +kernel
theorem dL_law_1968 : decode cL_law 1968 = .ok (.ireturn, 1) := by decide +kernel
theorem dL_law_1969 : decode cL_law 1969 = .ok (.iinc 4 6, 3) := by decide +kernel
theorem dL_law_1972 : decode cL_law 1972 = .ok (.goto (-1949), 3) := by decide +kernel
theorem dL_law_1975 : decode cL_law 1975 = .ok (.iconst 1, 1) := by decide +kernel
theorem dL_law_1976 : decode cL_law 1976 = .ok (.ireturn, 1) := by decide +kernel
end
