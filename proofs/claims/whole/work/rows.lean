section
-- ===== PART A: goes FIRST, ahead of the names: the tables' words, and 'selects' of the private methods out of them =====
/-- a private method of a class that the tables say can be made, by its rows of tables_1 -/
def lw_okq (q : MethodName × Nat) : Prop := (q.1.cls ≠ "java/lang/invoke/MethodHandle" ∧ q.1.cls ≠ "java/lang/invoke/VarHandle") ∧ Cond.instantiable q.1.cls q.2 ∈ tables_1 ∧ Cond.privateMethod q.1 ∈ tables_1 ∧ Cond.instanceMethod q.1 ∈ tables_1
theorem lw_p0 : lw_okq (⟨"CellWindows", "arranged", "()LCellWindows$Work;"⟩, 9) := ⟨⟨by decide +kernel, by decide +kernel⟩, List.mem_of_getElem? (i := 30) (by decide +kernel), List.mem_of_getElem? (i := 314) (by decide +kernel), List.mem_of_getElem? (i := 315) (by decide +kernel)⟩
theorem lw_p1 : lw_okq (⟨"CellWindows$Work", "setTimes", "(LCellWindows$Program;III)V"⟩, 10) := ⟨⟨by decide +kernel, by decide +kernel⟩, List.mem_of_getElem? (i := 93) (by decide +kernel), List.mem_of_getElem? (i := 324) (by decide +kernel), List.mem_of_getElem? (i := 325) (by decide +kernel)⟩
theorem lw_p2 : lw_okq (⟨"CellWindows$Work", "setSteps", "()V"⟩, 10) := ⟨⟨by decide +kernel, by decide +kernel⟩, List.mem_of_getElem? (i := 93) (by decide +kernel), List.mem_of_getElem? (i := 331) (by decide +kernel), List.mem_of_getElem? (i := 332) (by decide +kernel)⟩
theorem lw_p3 : lw_okq (⟨"CellWindows$Work", "setEnds", "(LCellWindows$Program;)V"⟩, 10) := ⟨⟨by decide +kernel, by decide +kernel⟩, List.mem_of_getElem? (i := 93) (by decide +kernel), List.mem_of_getElem? (i := 338) (by decide +kernel), List.mem_of_getElem? (i := 339) (by decide +kernel)⟩
theorem lw_p4 : lw_okq (⟨"CellWindows$Work", "stretchCellRead", "(LCellWindows$Program;ILCellWindows$Read;)V"⟩, 10) := ⟨⟨by decide +kernel, by decide +kernel⟩, List.mem_of_getElem? (i := 93) (by decide +kernel), List.mem_of_getElem? (i := 343) (by decide +kernel), List.mem_of_getElem? (i := 344) (by decide +kernel)⟩
theorem lw_p5 : lw_okq (⟨"CellWindows", "gatherDifferences", "(I)V"⟩, 9) := ⟨⟨by decide +kernel, by decide +kernel⟩, List.mem_of_getElem? (i := 30) (by decide +kernel), List.mem_of_getElem? (i := 367) (by decide +kernel), List.mem_of_getElem? (i := 368) (by decide +kernel)⟩
theorem lw_p6 : lw_okq (⟨"CellWindows$Work", "isBornWithin", "(II)Z"⟩, 10) := ⟨⟨by decide +kernel, by decide +kernel⟩, List.mem_of_getElem? (i := 93) (by decide +kernel), List.mem_of_getElem? (i := 384) (by decide +kernel), List.mem_of_getElem? (i := 385) (by decide +kernel)⟩
theorem lw_p7 : lw_okq (⟨"CellWindows$Differences", "addOne", "(II)V"⟩, 7) := ⟨⟨by decide +kernel, by decide +kernel⟩, List.mem_of_getElem? (i := 140) (by decide +kernel), List.mem_of_getElem? (i := 388) (by decide +kernel), List.mem_of_getElem? (i := 389) (by decide +kernel)⟩
theorem lw_p8 : lw_okq (⟨"CellWindows", "keepSmallest", "(LCellWindows$Window;)V"⟩, 9) := ⟨⟨by decide +kernel, by decide +kernel⟩, List.mem_of_getElem? (i := 30) (by decide +kernel), List.mem_of_getElem? (i := 394) (by decide +kernel), List.mem_of_getElem? (i := 395) (by decide +kernel)⟩
theorem lw_p9 : lw_okq (⟨"CellWindows", "keepIfSmaller", "(LCellWindows$Window;)V"⟩, 9) := ⟨⟨by decide +kernel, by decide +kernel⟩, List.mem_of_getElem? (i := 30) (by decide +kernel), List.mem_of_getElem? (i := 431) (by decide +kernel), List.mem_of_getElem? (i := 432) (by decide +kernel)⟩
theorem lw_p10 : lw_okq (⟨"CellWindows", "placesOf", "(I)I"⟩, 9) := ⟨⟨by decide +kernel, by decide +kernel⟩, List.mem_of_getElem? (i := 30) (by decide +kernel), List.mem_of_getElem? (i := 467) (by decide +kernel), List.mem_of_getElem? (i := 468) (by decide +kernel)⟩
theorem lw_p11 : lw_okq (⟨"CellWindows$Machine", "taken", "(LCellWindows$Program;III)I"⟩, 2) := ⟨⟨by decide +kernel, by decide +kernel⟩, List.mem_of_getElem? (i := 197) (by decide +kernel), List.mem_of_getElem? (i := 489) (by decide +kernel), List.mem_of_getElem? (i := 490) (by decide +kernel)⟩
theorem lw_p12 : lw_okq (⟨"CellWindows$Machine", "placeIn", "(LCellWindows$Program;III)I"⟩, 2) := ⟨⟨by decide +kernel, by decide +kernel⟩, List.mem_of_getElem? (i := 197) (by decide +kernel), List.mem_of_getElem? (i := 497) (by decide +kernel), List.mem_of_getElem? (i := 498) (by decide +kernel)⟩
theorem lw_p13 : lw_okq (⟨"java/lang/Throwable", "fillInStackTrace", "(I)Ljava/lang/Throwable;"⟩, 6) := ⟨⟨by decide +kernel, by decide +kernel⟩, List.mem_of_getElem? (i := 555) (by decide +kernel), List.mem_of_getElem? (i := 553) (by decide +kernel), List.mem_of_getElem? (i := 554) (by decide +kernel)⟩
theorem lw_p14 : lw_okq (⟨"java/util/ArrayList", "add", "(Ljava/lang/Object;[Ljava/lang/Object;I)V"⟩, 3) := ⟨⟨by decide +kernel, by decide +kernel⟩, List.mem_of_getElem? (i := 44) (by decide +kernel), List.mem_of_getElem? (i := 642) (by decide +kernel), List.mem_of_getElem? (i := 643) (by decide +kernel)⟩
theorem lw_p15 : lw_okq (⟨"java/util/ArrayList", "grow", "()[Ljava/lang/Object;"⟩, 3) := ⟨⟨by decide +kernel, by decide +kernel⟩, List.mem_of_getElem? (i := 44) (by decide +kernel), List.mem_of_getElem? (i := 646) (by decide +kernel), List.mem_of_getElem? (i := 647) (by decide +kernel)⟩
def lw_privs_1 : List (MethodName × Nat) := [(⟨"CellWindows", "arranged", "()LCellWindows$Work;"⟩, 9), (⟨"CellWindows$Work", "setTimes", "(LCellWindows$Program;III)V"⟩, 10), (⟨"CellWindows$Work", "setSteps", "()V"⟩, 10), (⟨"CellWindows$Work", "setEnds", "(LCellWindows$Program;)V"⟩, 10), (⟨"CellWindows$Work", "stretchCellRead", "(LCellWindows$Program;ILCellWindows$Read;)V"⟩, 10), (⟨"CellWindows", "gatherDifferences", "(I)V"⟩, 9), (⟨"CellWindows$Work", "isBornWithin", "(II)Z"⟩, 10), (⟨"CellWindows$Differences", "addOne", "(II)V"⟩, 7), (⟨"CellWindows", "keepSmallest", "(LCellWindows$Window;)V"⟩, 9), (⟨"CellWindows", "keepIfSmaller", "(LCellWindows$Window;)V"⟩, 9), (⟨"CellWindows", "placesOf", "(I)I"⟩, 9), (⟨"CellWindows$Machine", "taken", "(LCellWindows$Program;III)I"⟩, 2), (⟨"CellWindows$Machine", "placeIn", "(LCellWindows$Program;III)I"⟩, 2), (⟨"java/lang/Throwable", "fillInStackTrace", "(I)Ljava/lang/Throwable;"⟩, 6), (⟨"java/util/ArrayList", "add", "(Ljava/lang/Object;[Ljava/lang/Object;I)V"⟩, 3), (⟨"java/util/ArrayList", "grow", "()[Ljava/lang/Object;"⟩, 3)]
theorem lw_r1 : ∀ q ∈ lw_privs_1, lw_okq q := List.forall_mem_cons.mpr ⟨lw_p0, List.forall_mem_cons.mpr ⟨lw_p1, List.forall_mem_cons.mpr ⟨lw_p2, List.forall_mem_cons.mpr ⟨lw_p3, List.forall_mem_cons.mpr ⟨lw_p4, List.forall_mem_cons.mpr ⟨lw_p5, List.forall_mem_cons.mpr ⟨lw_p6, List.forall_mem_cons.mpr ⟨lw_p7, List.forall_mem_cons.mpr ⟨lw_p8, List.forall_mem_cons.mpr ⟨lw_p9, List.forall_mem_cons.mpr ⟨lw_p10, List.forall_mem_cons.mpr ⟨lw_p11, List.forall_mem_cons.mpr ⟨lw_p12, List.forall_mem_cons.mpr ⟨lw_p13, List.forall_mem_cons.mpr ⟨lw_p14, List.forall_mem_cons.mpr ⟨lw_p15, fun _ h => absurd h List.not_mem_nil⟩⟩⟩⟩⟩⟩⟩⟩⟩⟩⟩⟩⟩⟩⟩⟩
theorem lw_p16 : lw_okq (⟨"java/util/ArrayList", "grow", "(I)[Ljava/lang/Object;"⟩, 3) := ⟨⟨by decide +kernel, by decide +kernel⟩, List.mem_of_getElem? (i := 44) (by decide +kernel), List.mem_of_getElem? (i := 650) (by decide +kernel), List.mem_of_getElem? (i := 651) (by decide +kernel)⟩
theorem lw_p17 : lw_okq (⟨"CellWindows", "requireStatement", "(I)V"⟩, 9) := ⟨⟨by decide +kernel, by decide +kernel⟩, List.mem_of_getElem? (i := 30) (by decide +kernel), List.mem_of_getElem? (i := 706) (by decide +kernel), List.mem_of_getElem? (i := 707) (by decide +kernel)⟩
theorem lw_p18 : lw_okq (⟨"CellWindows", "requireCell", "(III)I"⟩, 9) := ⟨⟨by decide +kernel, by decide +kernel⟩, List.mem_of_getElem? (i := 30) (by decide +kernel), List.mem_of_getElem? (i := 826) (by decide +kernel), List.mem_of_getElem? (i := 827) (by decide +kernel)⟩
theorem lw_p19 : lw_okq (⟨"CellWindows", "requirePoint", "(II)V"⟩, 9) := ⟨⟨by decide +kernel, by decide +kernel⟩, List.mem_of_getElem? (i := 30) (by decide +kernel), List.mem_of_getElem? (i := 830) (by decide +kernel), List.mem_of_getElem? (i := 831) (by decide +kernel)⟩
theorem lw_p20 : lw_okq (⟨"CellWindows", "requireStep", "(I)V"⟩, 9) := ⟨⟨by decide +kernel, by decide +kernel⟩, List.mem_of_getElem? (i := 30) (by decide +kernel), List.mem_of_getElem? (i := 844) (by decide +kernel), List.mem_of_getElem? (i := 845) (by decide +kernel)⟩
theorem lw_p21 : lw_okq (⟨"CellWindows$Differences", "dividesOne", "(I)Z"⟩, 7) := ⟨⟨by decide +kernel, by decide +kernel⟩, List.mem_of_getElem? (i := 140) (by decide +kernel), List.mem_of_getElem? (i := 974) (by decide +kernel), List.mem_of_getElem? (i := 975) (by decide +kernel)⟩
theorem lw_p22 : lw_okq (⟨"CellWindows", "valueWritten", "(LCellWindows$Machine;I)I"⟩, 9) := ⟨⟨by decide +kernel, by decide +kernel⟩, List.mem_of_getElem? (i := 30) (by decide +kernel), List.mem_of_getElem? (i := 1020) (by decide +kernel), List.mem_of_getElem? (i := 1021) (by decide +kernel)⟩
theorem lw_p23 : lw_okq (⟨"CellWindows", "findBest", "()V"⟩, 9) := ⟨⟨by decide +kernel, by decide +kernel⟩, List.mem_of_getElem? (i := 30) (by decide +kernel), List.mem_of_getElem? (i := 1038) (by decide +kernel), List.mem_of_getElem? (i := 1039) (by decide +kernel)⟩
theorem lw_p24 : lw_okq (⟨"CellWindows", "leastRoomWith", "(II)I"⟩, 9) := ⟨⟨by decide +kernel, by decide +kernel⟩, List.mem_of_getElem? (i := 30) (by decide +kernel), List.mem_of_getElem? (i := 1042) (by decide +kernel), List.mem_of_getElem? (i := 1043) (by decide +kernel)⟩
theorem lw_p25 : lw_okq (⟨"CellWindowsModel", "fails", "(I)Z"⟩, 30) := ⟨⟨by decide +kernel, by decide +kernel⟩, List.mem_of_getElem? (i := 1065) (by decide +kernel), List.mem_of_getElem? (i := 1173) (by decide +kernel), List.mem_of_getElem? (i := 1174) (by decide +kernel)⟩
theorem lw_p26 : lw_okq (⟨"CellWindowsModel", "is", "(I)Z"⟩, 30) := ⟨⟨by decide +kernel, by decide +kernel⟩, List.mem_of_getElem? (i := 1065) (by decide +kernel), List.mem_of_getElem? (i := 1181) (by decide +kernel), List.mem_of_getElem? (i := 1182) (by decide +kernel)⟩
theorem lw_p27 : lw_okq (⟨"CellWindowsModel", "allows", "(II)Z"⟩, 30) := ⟨⟨by decide +kernel, by decide +kernel⟩, List.mem_of_getElem? (i := 1065) (by decide +kernel), List.mem_of_getElem? (i := 1204) (by decide +kernel), List.mem_of_getElem? (i := 1205) (by decide +kernel)⟩
theorem lw_p28 : lw_okq (⟨"CellWindowsModel", "deals", "(II)V"⟩, 30) := ⟨⟨by decide +kernel, by decide +kernel⟩, List.mem_of_getElem? (i := 1065) (by decide +kernel), List.mem_of_getElem? (i := 1208) (by decide +kernel), List.mem_of_getElem? (i := 1209) (by decide +kernel)⟩
theorem lw_p29 : lw_okq (⟨"CellWindowsModel", "all", "()I"⟩, 30) := ⟨⟨by decide +kernel, by decide +kernel⟩, List.mem_of_getElem? (i := 1065) (by decide +kernel), List.mem_of_getElem? (i := 1212) (by decide +kernel), List.mem_of_getElem? (i := 1213) (by decide +kernel)⟩
theorem lw_p30 : lw_okq (⟨"CellWindowsModel", "time", "(III)I"⟩, 30) := ⟨⟨by decide +kernel, by decide +kernel⟩, List.mem_of_getElem? (i := 1065) (by decide +kernel), List.mem_of_getElem? (i := 1216) (by decide +kernel), List.mem_of_getElem? (i := 1217) (by decide +kernel)⟩
theorem lw_p31 : lw_okq (⟨"CellWindowsModel", "row", "(I)I"⟩, 30) := ⟨⟨by decide +kernel, by decide +kernel⟩, List.mem_of_getElem? (i := 1065) (by decide +kernel), List.mem_of_getElem? (i := 1220) (by decide +kernel), List.mem_of_getElem? (i := 1221) (by decide +kernel)⟩
def lw_privs_2 : List (MethodName × Nat) := [(⟨"java/util/ArrayList", "grow", "(I)[Ljava/lang/Object;"⟩, 3), (⟨"CellWindows", "requireStatement", "(I)V"⟩, 9), (⟨"CellWindows", "requireCell", "(III)I"⟩, 9), (⟨"CellWindows", "requirePoint", "(II)V"⟩, 9), (⟨"CellWindows", "requireStep", "(I)V"⟩, 9), (⟨"CellWindows$Differences", "dividesOne", "(I)Z"⟩, 7), (⟨"CellWindows", "valueWritten", "(LCellWindows$Machine;I)I"⟩, 9), (⟨"CellWindows", "findBest", "()V"⟩, 9), (⟨"CellWindows", "leastRoomWith", "(II)I"⟩, 9), (⟨"CellWindowsModel", "fails", "(I)Z"⟩, 30), (⟨"CellWindowsModel", "is", "(I)Z"⟩, 30), (⟨"CellWindowsModel", "allows", "(II)Z"⟩, 30), (⟨"CellWindowsModel", "deals", "(II)V"⟩, 30), (⟨"CellWindowsModel", "all", "()I"⟩, 30), (⟨"CellWindowsModel", "time", "(III)I"⟩, 30), (⟨"CellWindowsModel", "row", "(I)I"⟩, 30)]
theorem lw_r2 : ∀ q ∈ lw_privs_2, lw_okq q := List.forall_mem_cons.mpr ⟨lw_p16, List.forall_mem_cons.mpr ⟨lw_p17, List.forall_mem_cons.mpr ⟨lw_p18, List.forall_mem_cons.mpr ⟨lw_p19, List.forall_mem_cons.mpr ⟨lw_p20, List.forall_mem_cons.mpr ⟨lw_p21, List.forall_mem_cons.mpr ⟨lw_p22, List.forall_mem_cons.mpr ⟨lw_p23, List.forall_mem_cons.mpr ⟨lw_p24, List.forall_mem_cons.mpr ⟨lw_p25, List.forall_mem_cons.mpr ⟨lw_p26, List.forall_mem_cons.mpr ⟨lw_p27, List.forall_mem_cons.mpr ⟨lw_p28, List.forall_mem_cons.mpr ⟨lw_p29, List.forall_mem_cons.mpr ⟨lw_p30, List.forall_mem_cons.mpr ⟨lw_p31, fun _ h => absurd h List.not_mem_nil⟩⟩⟩⟩⟩⟩⟩⟩⟩⟩⟩⟩⟩⟩⟩⟩
theorem lw_p32 : lw_okq (⟨"CellWindowsModel", "column", "(I)I"⟩, 30) := ⟨⟨by decide +kernel, by decide +kernel⟩, List.mem_of_getElem? (i := 1065) (by decide +kernel), List.mem_of_getElem? (i := 1224) (by decide +kernel), List.mem_of_getElem? (i := 1225) (by decide +kernel)⟩
theorem lw_p33 : lw_okq (⟨"CellWindowsModel", "areInOrder", "()Z"⟩, 30) := ⟨⟨by decide +kernel, by decide +kernel⟩, List.mem_of_getElem? (i := 1065) (by decide +kernel), List.mem_of_getElem? (i := 1228) (by decide +kernel), List.mem_of_getElem? (i := 1229) (by decide +kernel)⟩
theorem lw_p34 : lw_okq (⟨"CellWindowsModel", "isInOrder", "(II)Z"⟩, 30) := ⟨⟨by decide +kernel, by decide +kernel⟩, List.mem_of_getElem? (i := 1065) (by decide +kernel), List.mem_of_getElem? (i := 1232) (by decide +kernel), List.mem_of_getElem? (i := 1233) (by decide +kernel)⟩
theorem lw_p35 : lw_okq (⟨"CellWindowsModel", "wanted", "(II)I"⟩, 30) := ⟨⟨by decide +kernel, by decide +kernel⟩, List.mem_of_getElem? (i := 1065) (by decide +kernel), List.mem_of_getElem? (i := 1236) (by decide +kernel), List.mem_of_getElem? (i := 1237) (by decide +kernel)⟩
theorem lw_p36 : lw_okq (⟨"CellWindowsModel", "isPoint", "(II)Z"⟩, 30) := ⟨⟨by decide +kernel, by decide +kernel⟩, List.mem_of_getElem? (i := 1065) (by decide +kernel), List.mem_of_getElem? (i := 1240) (by decide +kernel), List.mem_of_getElem? (i := 1241) (by decide +kernel)⟩
theorem lw_p37 : lw_okq (⟨"CellWindowsModel", "cell", "(III)I"⟩, 30) := ⟨⟨by decide +kernel, by decide +kernel⟩, List.mem_of_getElem? (i := 1065) (by decide +kernel), List.mem_of_getElem? (i := 1244) (by decide +kernel), List.mem_of_getElem? (i := 1245) (by decide +kernel)⟩
theorem lw_p38 : lw_okq (⟨"CellWindowsModel", "orders", "()V"⟩, 30) := ⟨⟨by decide +kernel, by decide +kernel⟩, List.mem_of_getElem? (i := 1065) (by decide +kernel), List.mem_of_getElem? (i := 1264) (by decide +kernel), List.mem_of_getElem? (i := 1265) (by decide +kernel)⟩
theorem lw_p39 : lw_okq (⟨"CellWindowsModel", "isCell", "(III)Z"⟩, 30) := ⟨⟨by decide +kernel, by decide +kernel⟩, List.mem_of_getElem? (i := 1065) (by decide +kernel), List.mem_of_getElem? (i := 1276) (by decide +kernel), List.mem_of_getElem? (i := 1277) (by decide +kernel)⟩
theorem lw_p40 : lw_okq (⟨"CellWindowsModel", "isStep", "(I)Z"⟩, 30) := ⟨⟨by decide +kernel, by decide +kernel⟩, List.mem_of_getElem? (i := 1065) (by decide +kernel), List.mem_of_getElem? (i := 1284) (by decide +kernel), List.mem_of_getElem? (i := 1285) (by decide +kernel)⟩
theorem lw_p41 : lw_okq (⟨"CellWindowsModel", "finds", "()V"⟩, 30) := ⟨⟨by decide +kernel, by decide +kernel⟩, List.mem_of_getElem? (i := 1065) (by decide +kernel), List.mem_of_getElem? (i := 1296) (by decide +kernel), List.mem_of_getElem? (i := 1297) (by decide +kernel)⟩
theorem lw_p42 : lw_okq (⟨"CellWindowsModel", "lives", "()V"⟩, 30) := ⟨⟨by decide +kernel, by decide +kernel⟩, List.mem_of_getElem? (i := 1065) (by decide +kernel), List.mem_of_getElem? (i := 1300) (by decide +kernel), List.mem_of_getElem? (i := 1301) (by decide +kernel)⟩
theorem lw_p43 : lw_okq (⟨"CellWindowsModel", "most", "(II)I"⟩, 30) := ⟨⟨by decide +kernel, by decide +kernel⟩, List.mem_of_getElem? (i := 1065) (by decide +kernel), List.mem_of_getElem? (i := 1308) (by decide +kernel), List.mem_of_getElem? (i := 1309) (by decide +kernel)⟩
theorem lw_p44 : lw_okq (⟨"CellWindowsModel", "conflicts", "(II)I"⟩, 30) := ⟨⟨by decide +kernel, by decide +kernel⟩, List.mem_of_getElem? (i := 1065) (by decide +kernel), List.mem_of_getElem? (i := 1324) (by decide +kernel), List.mem_of_getElem? (i := 1325) (by decide +kernel)⟩
theorem lw_p45 : lw_okq (⟨"CellWindowsModel", "areInConflict", "(II)Z"⟩, 30) := ⟨⟨by decide +kernel, by decide +kernel⟩, List.mem_of_getElem? (i := 1065) (by decide +kernel), List.mem_of_getElem? (i := 1328) (by decide +kernel), List.mem_of_getElem? (i := 1329) (by decide +kernel)⟩
theorem lw_p46 : lw_okq (⟨"CellWindowsModel", "gives", "(IIII)I"⟩, 30) := ⟨⟨by decide +kernel, by decide +kernel⟩, List.mem_of_getElem? (i := 1065) (by decide +kernel), List.mem_of_getElem? (i := 1340) (by decide +kernel), List.mem_of_getElem? (i := 1341) (by decide +kernel)⟩
theorem lw_p47 : lw_okq (⟨"CellWindowsModel", "size", "(I)I"⟩, 30) := ⟨⟨by decide +kernel, by decide +kernel⟩, List.mem_of_getElem? (i := 1065) (by decide +kernel), List.mem_of_getElem? (i := 1344) (by decide +kernel), List.mem_of_getElem? (i := 1345) (by decide +kernel)⟩
def lw_privs_3 : List (MethodName × Nat) := [(⟨"CellWindowsModel", "column", "(I)I"⟩, 30), (⟨"CellWindowsModel", "areInOrder", "()Z"⟩, 30), (⟨"CellWindowsModel", "isInOrder", "(II)Z"⟩, 30), (⟨"CellWindowsModel", "wanted", "(II)I"⟩, 30), (⟨"CellWindowsModel", "isPoint", "(II)Z"⟩, 30), (⟨"CellWindowsModel", "cell", "(III)I"⟩, 30), (⟨"CellWindowsModel", "orders", "()V"⟩, 30), (⟨"CellWindowsModel", "isCell", "(III)Z"⟩, 30), (⟨"CellWindowsModel", "isStep", "(I)Z"⟩, 30), (⟨"CellWindowsModel", "finds", "()V"⟩, 30), (⟨"CellWindowsModel", "lives", "()V"⟩, 30), (⟨"CellWindowsModel", "most", "(II)I"⟩, 30), (⟨"CellWindowsModel", "conflicts", "(II)I"⟩, 30), (⟨"CellWindowsModel", "areInConflict", "(II)Z"⟩, 30), (⟨"CellWindowsModel", "gives", "(IIII)I"⟩, 30), (⟨"CellWindowsModel", "size", "(I)I"⟩, 30)]
theorem lw_r3 : ∀ q ∈ lw_privs_3, lw_okq q := List.forall_mem_cons.mpr ⟨lw_p32, List.forall_mem_cons.mpr ⟨lw_p33, List.forall_mem_cons.mpr ⟨lw_p34, List.forall_mem_cons.mpr ⟨lw_p35, List.forall_mem_cons.mpr ⟨lw_p36, List.forall_mem_cons.mpr ⟨lw_p37, List.forall_mem_cons.mpr ⟨lw_p38, List.forall_mem_cons.mpr ⟨lw_p39, List.forall_mem_cons.mpr ⟨lw_p40, List.forall_mem_cons.mpr ⟨lw_p41, List.forall_mem_cons.mpr ⟨lw_p42, List.forall_mem_cons.mpr ⟨lw_p43, List.forall_mem_cons.mpr ⟨lw_p44, List.forall_mem_cons.mpr ⟨lw_p45, List.forall_mem_cons.mpr ⟨lw_p46, List.forall_mem_cons.mpr ⟨lw_p47, fun _ h => absurd h List.not_mem_nil⟩⟩⟩⟩⟩⟩⟩⟩⟩⟩⟩⟩⟩⟩⟩⟩
theorem lw_p48 : lw_okq (⟨"CellWindowsModel", "differs", "(I)V"⟩, 30) := ⟨⟨by decide +kernel, by decide +kernel⟩, List.mem_of_getElem? (i := 1065) (by decide +kernel), List.mem_of_getElem? (i := 1367) (by decide +kernel), List.mem_of_getElem? (i := 1368) (by decide +kernel)⟩
theorem lw_p49 : lw_okq (⟨"CellWindowsModel", "rest", "()I"⟩, 30) := ⟨⟨by decide +kernel, by decide +kernel⟩, List.mem_of_getElem? (i := 1065) (by decide +kernel), List.mem_of_getElem? (i := 1371) (by decide +kernel), List.mem_of_getElem? (i := 1372) (by decide +kernel)⟩
theorem lw_p50 : lw_okq (⟨"CellWindowsModel", "isRest", "(I)Z"⟩, 30) := ⟨⟨by decide +kernel, by decide +kernel⟩, List.mem_of_getElem? (i := 1065) (by decide +kernel), List.mem_of_getElem? (i := 1375) (by decide +kernel), List.mem_of_getElem? (i := 1376) (by decide +kernel)⟩
theorem lw_p51 : lw_okq (⟨"CellWindowsModel", "two", "()I"⟩, 30) := ⟨⟨by decide +kernel, by decide +kernel⟩, List.mem_of_getElem? (i := 1065) (by decide +kernel), List.mem_of_getElem? (i := 1379) (by decide +kernel), List.mem_of_getElem? (i := 1380) (by decide +kernel)⟩
theorem lw_p52 : lw_okq (⟨"CellWindowsModel", "isTwo", "(II)Z"⟩, 30) := ⟨⟨by decide +kernel, by decide +kernel⟩, List.mem_of_getElem? (i := 1065) (by decide +kernel), List.mem_of_getElem? (i := 1383) (by decide +kernel), List.mem_of_getElem? (i := 1384) (by decide +kernel)⟩
theorem lw_p53 : lw_okq (⟨"CellWindowsModel", "slant", "()I"⟩, 30) := ⟨⟨by decide +kernel, by decide +kernel⟩, List.mem_of_getElem? (i := 1065) (by decide +kernel), List.mem_of_getElem? (i := 1387) (by decide +kernel), List.mem_of_getElem? (i := 1388) (by decide +kernel)⟩
theorem lw_p54 : lw_okq (⟨"CellWindowsModel", "isSlant", "(II)Z"⟩, 30) := ⟨⟨by decide +kernel, by decide +kernel⟩, List.mem_of_getElem? (i := 1065) (by decide +kernel), List.mem_of_getElem? (i := 1391) (by decide +kernel), List.mem_of_getElem? (i := 1392) (by decide +kernel)⟩
theorem lw_p55 : lw_okq (⟨"CellWindowsModel", "rooms", "()I"⟩, 30) := ⟨⟨by decide +kernel, by decide +kernel⟩, List.mem_of_getElem? (i := 1065) (by decide +kernel), List.mem_of_getElem? (i := 1395) (by decide +kernel), List.mem_of_getElem? (i := 1396) (by decide +kernel)⟩
theorem lw_p56 : lw_okq (⟨"CellWindowsModel", "place", "(I)I"⟩, 30) := ⟨⟨by decide +kernel, by decide +kernel⟩, List.mem_of_getElem? (i := 1065) (by decide +kernel), List.mem_of_getElem? (i := 1411) (by decide +kernel), List.mem_of_getElem? (i := 1412) (by decide +kernel)⟩
theorem lw_p57 : lw_okq (⟨"CellWindowsModel", "seeks", "(I)V"⟩, 30) := ⟨⟨by decide +kernel, by decide +kernel⟩, List.mem_of_getElem? (i := 1065) (by decide +kernel), List.mem_of_getElem? (i := 1423) (by decide +kernel), List.mem_of_getElem? (i := 1424) (by decide +kernel)⟩
theorem lw_p58 : lw_okq (⟨"CellWindowsModel", "distances", "(II)V"⟩, 30) := ⟨⟨by decide +kernel, by decide +kernel⟩, List.mem_of_getElem? (i := 1065) (by decide +kernel), List.mem_of_getElem? (i := 1452) (by decide +kernel), List.mem_of_getElem? (i := 1453) (by decide +kernel)⟩
theorem lw_p59 : lw_okq (⟨"CellWindowsModel", "divides", "(I)Z"⟩, 30) := ⟨⟨by decide +kernel, by decide +kernel⟩, List.mem_of_getElem? (i := 1065) (by decide +kernel), List.mem_of_getElem? (i := 1456) (by decide +kernel), List.mem_of_getElem? (i := 1457) (by decide +kernel)⟩
theorem lw_p60 : lw_okq (⟨"CellWindowsModel", "works", "()I"⟩, 30) := ⟨⟨by decide +kernel, by decide +kernel⟩, List.mem_of_getElem? (i := 1065) (by decide +kernel), List.mem_of_getElem? (i := 1464) (by decide +kernel), List.mem_of_getElem? (i := 1465) (by decide +kernel)⟩
theorem lw_p61 : lw_okq (⟨"CellWindowsModel", "hasBest", "()Z"⟩, 30) := ⟨⟨by decide +kernel, by decide +kernel⟩, List.mem_of_getElem? (i := 1065) (by decide +kernel), List.mem_of_getElem? (i := 1483) (by decide +kernel), List.mem_of_getElem? (i := 1484) (by decide +kernel)⟩
def lw_privs_4 : List (MethodName × Nat) := [(⟨"CellWindowsModel", "differs", "(I)V"⟩, 30), (⟨"CellWindowsModel", "rest", "()I"⟩, 30), (⟨"CellWindowsModel", "isRest", "(I)Z"⟩, 30), (⟨"CellWindowsModel", "two", "()I"⟩, 30), (⟨"CellWindowsModel", "isTwo", "(II)Z"⟩, 30), (⟨"CellWindowsModel", "slant", "()I"⟩, 30), (⟨"CellWindowsModel", "isSlant", "(II)Z"⟩, 30), (⟨"CellWindowsModel", "rooms", "()I"⟩, 30), (⟨"CellWindowsModel", "place", "(I)I"⟩, 30), (⟨"CellWindowsModel", "seeks", "(I)V"⟩, 30), (⟨"CellWindowsModel", "distances", "(II)V"⟩, 30), (⟨"CellWindowsModel", "divides", "(I)Z"⟩, 30), (⟨"CellWindowsModel", "works", "()I"⟩, 30), (⟨"CellWindowsModel", "hasBest", "()Z"⟩, 30)]
theorem lw_r4 : ∀ q ∈ lw_privs_4, lw_okq q := List.forall_mem_cons.mpr ⟨lw_p48, List.forall_mem_cons.mpr ⟨lw_p49, List.forall_mem_cons.mpr ⟨lw_p50, List.forall_mem_cons.mpr ⟨lw_p51, List.forall_mem_cons.mpr ⟨lw_p52, List.forall_mem_cons.mpr ⟨lw_p53, List.forall_mem_cons.mpr ⟨lw_p54, List.forall_mem_cons.mpr ⟨lw_p55, List.forall_mem_cons.mpr ⟨lw_p56, List.forall_mem_cons.mpr ⟨lw_p57, List.forall_mem_cons.mpr ⟨lw_p58, List.forall_mem_cons.mpr ⟨lw_p59, List.forall_mem_cons.mpr ⟨lw_p60, List.forall_mem_cons.mpr ⟨lw_p61, fun _ h => absurd h List.not_mem_nil⟩⟩⟩⟩⟩⟩⟩⟩⟩⟩⟩⟩⟩⟩
def lw_privs : List (MethodName × Nat) := lw_privs_1 ++ (lw_privs_2 ++ (lw_privs_3 ++ (lw_privs_4)))
def lw_tbl : List Cond := k2_sels lw_privs ++ tables_1
theorem lw_privs_ok : ∀ q ∈ lw_privs, lw_okq q := by
  show ∀ q ∈ lw_privs_1 ++ (lw_privs_2 ++ (lw_privs_3 ++ (lw_privs_4))), lw_okq q
  exact List.forall_mem_append.mpr ⟨lw_r1, List.forall_mem_append.mpr ⟨lw_r2, List.forall_mem_append.mpr ⟨lw_r3, lw_r4⟩⟩⟩
-- ===== end of PART A; then your names; then what follows =====
end
section
/-! ===== BEGIN words of one list among another's, by their places ===== -/
theorem goodIn_r {big : List Cond} (ws : List Cond) (ps : List Nat) (hp : ws = ps.filterMap (fun i => big[i]?)) (h : ws.all goodWord = true) : GoodIn big ws := by
  intro w hw
  have h1 := List.all_eq_true.mp h w hw
  rw [hp] at hw
  obtain ⟨i, -, hi⟩ := List.mem_filterMap.mp hw
  have hm : w ∈ big := by first | exact List.mem_of_getElem? hi | exact List.getElem?_mem hi
  exact ⟨hm, good_of_word h1⟩
theorem goodIn_app {big a b : List Cond} (ha : GoodIn big a) (hb : GoodIn big b) : GoodIn big (a ++ b) := fun w h => (List.mem_append.mp h).elim (ha w) (hb w)
theorem goodIn_ca {big a b : List Cond} {c : Cond} (ha : GoodIn big (c :: a)) (hb : GoodIn big b) : GoodIn big (c :: (a ++ b)) := fun w h => (List.mem_cons.mp h).elim (fun e => ha w (List.mem_cons.mpr (Or.inl e))) (fun h => (List.mem_append.mp h).elim (fun h => ha w (List.mem_cons.mpr (Or.inr h))) (hb w))
theorem goodIn_sub {big ws : List Cond} (hm : ∀ w ∈ ws, w ∈ big) (h : ws.all goodWord = true) : GoodIn big ws := fun w hw => ⟨hm w hw, good_of_word (List.all_eq_true.mp h w hw)⟩
/-! ===== END ===== -/

/-! ===== BEGIN new T[n][m]: the outer array a place, the inner ones among the pooled ===== -/
/-- f, but v at every address of l -/
def vr_up {α : Type} (f : Nat → α) (l : List Nat) (v : α) : Nat → α := fun a => if a ∈ l then v else f a
theorem vr_up_in {α : Type} {f : Nat → α} {l : List Nat} {v : α} {a : Nat} (h : a ∈ l) : vr_up f l v a = v := if_pos h
theorem vr_up_ne {α : Type} {f : Nat → α} {l : List Nat} {v : α} {a : Nat} (h : a ∉ l) : vr_up f l v a = f a := if_neg h
theorem vr_rows {L l : List Nat} {f : Nat → va_E} {e : va_E} (h : ∀ a, a ∈ l → a ∉ L) : va_pl L f ++ l.map (fun a => (a, e)) = va_pl (L ++ l) (vr_up f l e) := by
  unfold va_pl
  rw [List.map_append]
  congr 1
  · apply List.map_congr_left
    intro a ha
    rw [vr_up_ne (fun q => h a q ha)]
  · apply List.map_congr_left
    intro a ha
    rw [vr_up_in ha]
theorem vr_lay {X rows : va_W} {x : Nat × va_E} {pl : va_W} {D : va_G} {cl : List vw_C} {H : Heap} (hP : va_P D cl (((X ++ pl) ++ [x]) ++ rows) H) : va_P D cl ((X ++ [x]) ++ (pl ++ rows)) H := by
  rw [List.append_assoc (X ++ pl)] at hP
  have h := va_P.swap hP
  rw [← List.append_assoc X] at h
  have h2 := va_P.swap h
  rw [List.append_assoc (X ++ [x])] at h2
  exact h2
theorem vr_layD {X rows : va_W} {x : Nat × va_E} {pl : va_W} {A : Nat → Prop} (hD : va_D A (((X ++ pl) ++ [x]) ++ rows)) : va_D A ((X ++ [x]) ++ (pl ++ rows)) := by
  rw [List.append_assoc (X ++ pl)] at hD
  have h := va_D.swap hD
  rw [← List.append_assoc X] at h
  have h2 := va_D.swap h
  rw [List.append_assoc (X ++ [x])] at h2
  exact h2
theorem vr_outer (c : ClassId) (N h0 : Nat) : ∀ i : Nat, Jvm.Free.Multi.outerC c N h0 i = arrV c N (fun j => va_rf (if j < i then some (h0 + 1 + j) else none))
  | 0 => by
    show ({ cls := c, slots := Array.replicate N .null, vm := .none } : Cell) = _
    rw [arrV_new]
    refine congrArg (arrV c N) (funext fun j => ?_)
    simp [va_rf]
  | i + 1 => by
    show (Jvm.Free.Multi.outerC c N h0 i).setSlot i (.ref (h0 + 1 + i)) = _
    rw [vr_outer c N h0 i, arrV_store]
    refine congrArg (arrV c N) (funext fun j => ?_)
    by_cases e : j = i
    · subst e
      simp [updV, va_rf]
    · by_cases h : j < i
      · simp [updV, e, h, Nat.lt_succ_of_lt h]
      · simp [updV, e, h, show ¬ j < i + 1 by omega]
/-- the printed kit names it and does not hold it: the word of arrays of arrays -/
def va_AOA (ty : FieldType) (U : State) : Prop := (Cond.arrayOver (.array ty)).before #[] U = true
theorem va_AOA.use {ty : FieldType} {A : Array Value} {U : State} (h : va_AOA ty U) : (Cond.arrayOver (.array ty)).before A U = true := h
section VGM
variable {p : Program} {l : Launch} {e : Env} {R : Room} {s : State} {m : MethodId} {args : Array Value} {below : List Frame} {meth : Method} {c : Code} {H : Heap} {locs : List Loc} {cells slots : Nat} {Q : State → Prop}
variable {cc : ByteArray} {pc : Nat} {ls : Array Slot} {rest : List Value} {D : va_G} {cl : List vw_C} {A : Nat → Prop} {a : Nat} {tys : List (ClassId × FieldType)} {ws : va_W} {H0 : Heap}
theorem va_mna {X : va_W} {L : List Nat} {f : Nat → va_E} {cc : ByteArray} (hexec : p.tables.exec = Jvm.exec) (hb : c.code = cc) {own : String} {index : Nat} {ty : FieldType} {cy : ClassId} (hown : s.vm.findClass own = some m.cls) (hclink : (Cond.classLink own index ("[" ++ (FieldType.array ty).toString)).before args s = true) (hover : va_AOA ty s) (harr : (Cond.arrayClass ty).before args s = true) (hcy : s.vm.findClass (FieldType.array ty).toString = some cy)
    (hK : va_K D cl tys s) (hP : va_P D cl (X ++ va_pl L f) H) (hD : va_D A (X ++ va_pl L f)) (hS : va_S A H0 H locs) (hA : ∀ q, H0.size ≤ q → A q) {n k : Int32} {N' K' : Nat} {z : vp_A} (hn : ¬ n < 0) (hk : ¬ k < 0) (hN : n.toNatClampNeg = N') (hM : k.toNatClampNeg = K')
    (hb1 : N' * 4 ≤ 536870912) (hb2 : K' * componentBytes ty ≤ 536870912) (hb3 : K' ≤ 536870912) (hdf : fits ty (defaultValue ty) = true) (hdd : (defaultValue ty).isDefault = true) (hcells : cells + (1 + N') ≤ R.cells) (hslots : slots + (N' + N' * K') ≤ R.slots) (hz : ∀ c : ClassId, Jvm.Free.Multi.innerC c K' (defaultValue ty) = vp_cell c z) (hdg : decode cc pc = .ok (.multianewarray index 2, 4))
    (kk : ∀ (q : Nat) (r : Nat → Nat) (cA : ClassId) (H1 : Heap), (∀ i j : Nat, i < N' → j < N' → r i = r j → i = j) → (∀ i : Nat, i < N' → r i ∉ L) → va_K D cl (tys ++ [(cA, .array ty)]) s →
      va_P D cl ((X ++ [(q, .inl (cA, N', .inr (.inr (.inr (.inr (fun i => if i < N' then some (r i) else none))))))]) ++ va_pl (L ++ (List.range N').map r) (vr_up f ((List.range N').map r) (.inl (cy, z)))) H1 → va_D A ((X ++ [(q, .inl (cA, N', .inr (.inr (.inr (.inr (fun i => if i < N' then some (r i) else none))))))]) ++ va_pl (L ++ (List.range N').map r) (vr_up f ((List.range N').map r) (.inl (cy, z)))) → va_S A H0 H1 locs →
      W p l e R s m args below meth c H1 locs (cells + 1 + N') (slots + N' + N' * K') Q (F0 m (pc + 4) ls (.ref q :: rest))) : W p l e R s m args below meth c H locs cells slots Q (F0 m pc ls (.int k :: .int n :: rest)) := by
  subst hN
  subst hM
  intro T hT Xs
  obtain ⟨vm₁, cA, comp, -, fA, fC, hO, -, X', step⟩ := Xs.multianewarray2F hexec hown hclink (va_AOA.use hover) harr (g := F0 m pc ls (.int k :: .int n :: rest)) rfl (by rw [hb]; exact hdg) rfl hn hk hb1 hb2 hb3 hdf hdd hcells hslots
  have ec : some cy = some comp := hcy.symm.trans fC
  cases ec
  generalize hF : Jvm.Free.Multi.fill (T.setVm vm₁) cA cy n.toNatClampNeg k.toNatClampNeg (defaultValue ty) n.toNatClampNeg = F at X' step
  have hTh : (T.setVm vm₁).heap = H := hT
  obtain ⟨f1, f2, -, -⟩ := Jvm.Free.Multi.fill_facts (T.setVm vm₁) cA cy n.toNatClampNeg k.toNatClampNeg (defaultValue ty) n.toNatClampNeg
  rw [hF, hTh] at f1 f2
  have hold : ∀ x : Nat, x < H.size → F.heap[x]? = H[x]? := fun x hx => by
    have := Jvm.Free.Multi.fill_old (T.setVm vm₁) cA cy n.toNatClampNeg k.toNatClampNeg (defaultValue ty) (a := x) (by rw [hTh]; exact hx) n.toNatClampNeg
    rw [hF, hTh] at this
    exact this
  have hrow : ∀ j : Nat, j < n.toNatClampNeg → F.heap[H.size + 1 + j]? = some (vp_cell cy z) := fun j hj => by
    have := Jvm.Free.Multi.fill_inner (T.setVm vm₁) cA cy n.toNatClampNeg k.toNatClampNeg (defaultValue ty) n.toNatClampNeg j hj
    rw [hF, hTh, hz] at this
    exact this
  have hout : Jvm.Free.Multi.outerC cA n.toNatClampNeg H.size n.toNatClampNeg = vp_cell cA (n.toNatClampNeg, .inr (.inr (.inr (.inr (fun i => if i < n.toNatClampNeg then some (H.size + 1 + i) else none))))) := by
    rw [vp_cell_q]
    exact vr_outer cA n.toNatClampNeg H.size n.toNatClampNeg
  rw [hout] at f2
  have hlt : ∀ a, a ∈ L → a < H.size := fun a ha => by
    obtain ⟨k9, hk9⟩ := va_pl_get (X := X) (f := f) ha
    exact (hP k9 _ hk9).lt
  have hnl : ∀ i : Nat, i < n.toNatClampNeg → H.size + 1 + i ∉ L := fun i _ h => by
    have := hlt _ h
    omega
  have hnm : ∀ a, a ∈ (List.range n.toNatClampNeg).map (fun i => H.size + 1 + i) → a ∉ L := fun a ha h => by
    obtain ⟨i, -, rfl⟩ := List.mem_map.mp ha
    have := hlt _ h
    omega
  have hP0 : va_P D cl (X ++ va_pl L f) F.heap := hP.kept (fun k9 x hx => hold x.1 ((hP k9 x hx).lt))
  have hP1 : va_P D cl ((X ++ va_pl L f) ++ [(H.size, .inl (cA, n.toNatClampNeg, .inr (.inr (.inr (.inr (fun i => if i < n.toNatClampNeg then some (H.size + 1 + i) else none))))))]) F.heap := hP0.app (fun k9 x hx => by
    have h0 : k9 < 1 := (List.getElem?_eq_some_iff.mp hx).1
    rw [show k9 = 0 by omega] at hx
    cases hx
    exact f2)
  have hP2 : va_P D cl (((X ++ va_pl L f) ++ [(H.size, .inl (cA, n.toNatClampNeg, .inr (.inr (.inr (.inr (fun i => if i < n.toNatClampNeg then some (H.size + 1 + i) else none))))))]) ++ ((List.range n.toNatClampNeg).map (fun i => H.size + 1 + i)).map (fun a => (a, .inl (cy, z)))) F.heap := hP1.app (fun k9 x hx => by
    obtain ⟨a, ha, rfl⟩ := List.mem_map.mp (List.mem_of_getElem? hx)
    obtain ⟨i, hi, rfl⟩ := List.mem_map.mp ha
    exact hrow i (List.mem_range.mp hi))
  have hD2 : va_D A (((X ++ va_pl L f) ++ [(H.size, .inl (cA, n.toNatClampNeg, .inr (.inr (.inr (.inr (fun i => if i < n.toNatClampNeg then some (H.size + 1 + i) else none))))))]) ++ ((List.range n.toNatClampNeg).map (fun i => H.size + 1 + i)).map (fun a => (a, .inl (cy, z)))) := by
    have hD1 := hD.push (e := .inl (cA, n.toNatClampNeg, .inr (.inr (.inr (.inr (fun i => if i < n.toNatClampNeg then some (H.size + 1 + i) else none)))))) hP rfl (hA _ hS.1)
    generalize hW1 : (X ++ va_pl L f) ++ [(H.size, .inl (cA, n.toNatClampNeg, .inr (.inr (.inr (.inr (fun i => if i < n.toNatClampNeg then some (H.size + 1 + i) else none))))))] = W1 at hD1 hP1 ⊢
    have hle : ∀ (k9 : Nat) (x : Nat × va_E), W1[k9]? = some x → x.1 ≤ H.size := fun k9 x hx => by
      rw [← hW1] at hx
      by_cases hl : k9 < (X ++ va_pl L f).length
      · rw [List.getElem?_append_left hl] at hx
        exact Nat.le_of_lt ((hP k9 x hx).lt)
      · rw [List.getElem?_append_right (by omega)] at hx
        have h0 : k9 - (X ++ va_pl L f).length < 1 := (List.getElem?_eq_some_iff.mp hx).1
        rw [show k9 - (X ++ va_pl L f).length = 0 by omega] at hx
        cases hx
        exact Nat.le_refl _
    have hr : ∀ (k9 : Nat) (x : Nat × va_E), (((List.range n.toNatClampNeg).map (fun i => H.size + 1 + i)).map (fun a => ((a, .inl (cy, z)) : Nat × va_E)))[k9]? = some x → x.1 = H.size + 1 + k9 := fun k9 x hx => by
      rw [List.getElem?_map, List.getElem?_map] at hx
      by_cases h9 : k9 < n.toNatClampNeg
      · rw [List.getElem?_range h9] at hx
        cases hx
        rfl
      · have hn0 : (List.range n.toNatClampNeg)[k9]? = none := List.getElem?_eq_none (by rw [List.length_range]; omega)
        rw [hn0] at hx
        cases hx
    refine ⟨fun i j x y hi hj hxy => ?_, fun k9 x hx => ?_⟩
    · by_cases h1 : i < W1.length <;> by_cases h2 : j < W1.length
      · rw [List.getElem?_append_left h1] at hi
        rw [List.getElem?_append_left h2] at hj
        exact hD1.1 i j x y hi hj hxy
      · rw [List.getElem?_append_left h1] at hi
        rw [List.getElem?_append_right (by omega)] at hj
        have := hle _ _ hi
        have := hr _ _ hj
        omega
      · rw [List.getElem?_append_right (by omega)] at hi
        rw [List.getElem?_append_left h2] at hj
        have := hle _ _ hj
        have := hr _ _ hi
        omega
      · rw [List.getElem?_append_right (by omega)] at hi hj
        have := hr _ _ hi
        have := hr _ _ hj
        omega
    · by_cases h1 : k9 < W1.length
      · rw [List.getElem?_append_left h1] at hx
        exact hD1.2 k9 x hx
      · rw [List.getElem?_append_right (by omega)] at hx
        have := hr _ _ hx
        exact hA _ (by have := hS.1; omega)
  have hAr : ArrOfT s cA (.array ty) := fun N9 z9 => by
    obtain ⟨-, k9, hk9, cm9, hkk9⟩ := (hO 0 0 0).1
    exact ⟨(fun q hq => by cases hq), k9, hk9, cm9, hkk9⟩
  have hK2 : va_K D cl (tys ++ [(cA, .array ty)]) s := ⟨hK.1, fun k9 x hx => by
    by_cases hl : k9 < tys.length
    · rw [List.getElem?_append_left hl] at hx
      exact hK.2 k9 x hx
    · rw [List.getElem?_append_right (by omega)] at hx
      have h0 : k9 - tys.length < 1 := (List.getElem?_eq_some_iff.mp hx).1
      rw [show k9 - tys.length = 0 by omega] at hx
      cases hx
      exact ⟨hAr, fA⟩⟩
  obtain ⟨t, a1, b1⟩ := kk H.size (fun i => H.size + 1 + i) cA F.heap (fun i j _ _ h => by have h9 : H.size + 1 + i = H.size + 1 + j := h; omega) hnl hK2 (by rw [← vr_rows hnm]; exact vr_lay hP2) (by rw [← vr_rows hnm]; exact vr_layD hD2) ⟨by rw [f1]; have := hS.1; omega, fun x h1 h2 => (hold x (Nat.lt_of_lt_of_le h1 hS.1)).trans (hS.2.1 x h1 h2), hS.2.2⟩ F rfl X'
  refine ⟨t, step t ?_, b1⟩
  have e : T.heap.size = H.size := by rw [hT]
  rw [e]
  exact a1
end VGM
/-! ===== END ===== -/

/-! ===== BEGIN exceptions that leave a method, and their catching by the caller (launches without stack traces) ===== -/
section VXA
/-! The laws vx_back, vx_callV, vx_callS, vx_callSW, vx_throw0, vx_throwS follow proofs of the library, with one case more: JvmDerived/Free/Laws.lean (Back.of_free), Shelf42/LK1.lean (callV, callS), Shelf/KitTraced.lean (throwNew0V, throwNewS). -/
/-- where a method has thrown q: the class by its name, the cell, what was written, the world -/
def vx_T (XC : String → State → State → Prop) (st : State) (q : Addr) (t : State) (mc ms : Nat) (free : Addr → Prop) : Prop :=
  ∃ (E : String) (ce : Cell) (L : List Loc), XC E st t ∧ t.heap[q]? = some ce ∧ ce.vm = .none ∧ st.vm.findClass E = some ce.cls ∧ st.WarmedH t.vm ∧ st.sameButNew ({ t with vm := st.vm } : State) L mc ms ∧ ∀ z ∈ L, free z.base
def vx_Q (Qc : Array Value → State → Outcome → State → Prop) (XC : String → State → State → Prop) (mc ms : Nat) (free : Addr → Prop) : Array Value → State → Outcome → State → Prop := fun a st o t =>
  (Qc a st o t ∧ ∃ L, FrameEnd st o t L mc ms ∧ ∀ q ∈ L, free q.base) ∨ ∃ q, o = .threw q ∧ vx_T XC st q t mc ms free
/-- a callee that returns or throws -/
def vx_Met (l : Launch) (y : MethodName) (ws : List Cond) (rm : Room) (Pc : Array Value → State → Prop) (Qc : Array Value → State → Outcome → State → Prop) (XC : String → State → State → Prop) (mc ms : Nat) (free : Addr → Prop) : Prop :=
  MetFree l y (headSpec ws rm) Pc (fun _ _ _ _ _ => True) (vx_Q Qc XC mc ms free)
def vx_Post (XC : String → State → State → Prop) (mc ms : Nat) (free : Addr → Prop) : Pt → Array Value → Addr → Pt → Prop := fun A a q B =>
  ∃ (g : JFrame) (mk : MethodId) (t : State) (L : List Loc) (E : String) (ce : Cell), B.U.heap = t.heap ∧ B.U.vm = t.vm ∧ XC E (A.U.calling g mk a) t ∧ t.heap[q]? = some ce ∧ ce.vm = .none ∧ A.U.vm.findClass E = some ce.cls ∧ B.locs = A.locs ++ L ∧ (∀ z ∈ L, free z.base) ∧ B.cells = A.cells + mc ∧ B.slots = A.slots + ms
def vx_Back (l : Launch) (R : Room) (p : Program) (e : Env) (below : List Frame) (s : State) (sargs : Array Value) (y : MethodName) (len W9 : Nat)
    (Pre : Pt → Array Value → Prop) (Post : Pt → Array Value → Option Value → Pt → Prop) (PostX : Pt → Array Value → Addr → Pt → Prop) : Prop :=
  ∀ (m : MethodId) (meth : Method) (c : Code) (A : Pt) (g : JFrame) (ig : Instr) (mk : MethodId) (a : Array Value),
    Stand p l e R s m sargs below meth c A.U A.locs A.cells A.slots → g.method = m → g.locals.size = c.maxLocals → decode c.code g.pc = .ok (ig, len) →
    2 * g.monitorRoom + (g.stack.map fun v => v.category).sum ≤ W9 → A.U.methodNamed? y = some mk → Pre A a →
    (∃ (v : Option Value) (B : Pt), Stand p l e R s m sargs below meth c B.U B.locs B.cells B.slots ∧ Post A a v B ∧
      Steps p.tables e below (doInvoke e (A.U.setTop g) [] mk a).1 (B.U.setTop { g with pc := g.pc + len, stack := v.toList ++ g.stack })) ∨
    (∃ (q : Addr) (B : Pt), Stand p l e R s m sargs below meth c B.U B.locs B.cells B.slots ∧ PostX A a q B ∧
      Steps p.tables e below (doInvoke e (A.U.setTop g) [] mk a).1 ((B.U.setTop g).pushFrame (.throwing q)))
section Payer
variable {l : Launch} {R : Room} {p : Program} {e : Env} {below : List Frame} {s : State} {sargs : Array Value} {y : MethodName} {len W9 : Nat}
theorem vx_back {ws : List Cond} {rm : Room} {Pc : Array Value → State → Prop} {Qc : Array Value → State → Outcome → State → Prop} {XC : String → State → State → Prop} {mc ms : Nat} {free : Addr → Prop} {bytes : ByteArray} {maxL : Nat} {ret : Option FieldType}
    (hM : vx_Met l y ws rm Pc Qc XC mc ms free) (hblind : FrameBlind Pc) (hrc : rm.cells = mc) (hrs : rm.slots = ms)
    (hframes : rm.frames + 1 ≤ R.frames) (hlocals : W9 + (maxL + 11) + rm.locals ≤ R.locals)
    (hws : ∀ w ∈ ws, ∀ a' U, s.WarmedH U.vm → w.before a' U = true) (hcode : Cond.code y bytes maxL ret ∈ ws) (hinit : ∀ a' U, s.WarmedH U.vm → (Cond.initialized y.cls).before a' U = true) :
    vx_Back l R p e below s sargs y len W9 (PreOf R mc ms Pc) (PostOf Qc mc ms free) (vx_Post XC mc ms free) := by
  intro m meth c A g ig mk a X hg hsize hdg hW hn hp
  have h1 : (headSpec ws rm).pre.before a A.U = true := atoms_intro fun w hw => hws w hw _ _ X.warmed
  have h2 : (Cond.code y bytes maxL ret).before a A.U = true := hws _ hcode _ _ X.warmed
  have h3 : (Cond.initialized y.cls).before a A.U = true := hinit _ _ X.warmed
  have h4 : A.cells + (headSpec ws rm).room.cells ≤ R.cells := by rw [show (headSpec ws rm).room.cells = mc from hrc]; exact hp.1
  have h5 : A.slots + (headSpec ws rm).room.slots ≤ R.slots := by rw [show (headSpec ws rm).room.slots = ms from hrs]; exact hp.2.1
  have hPc : Pc a (A.U.calling g mk a) := hblind _ _ _ _ hp.2.2
  obtain ⟨U, Ls, c0, s0⟩ := A
  dsimp only [Pt.U, Pt.locs, Pt.cells, Pt.slots] at h1 h2 h3 h4 h5 X hn hPc ⊢
  obtain ⟨methY, cY, hmY, hcY, -, hlY, -, -, -, -⟩ := Cond.code_spec hn h2
  obtain ⟨kY, hkY, -⟩ := className_of_methodNamed hn
  have hinitY : kY.init = .initialized := Cond.initialized_spec (findClass_of_methodNamed hn) hkY h3
  have h : At U g.method c below := by rw [hg]; exact X.here
  have hlocals9 : W9 + (maxL + 11) + (headSpec ws rm).room.locals ≤ R.locals := hlocals
  have happ : (headSpec ws rm).appliesLoose y e.platform (U.calling g mk a) = true :=
    Spec.appliesLoose_calling (g := g) h hdg hn hkY hinitY
      (X.room_calling (g := g) (R' := (headSpec ws rm).room) hsize hmY hcY hframes (by rw [hlY]; omega) h4 h5) h1
  obtain ⟨mid, hmid⟩ := h.above
  have hfr : (U.setTop g).frames = (.java g :: mid) ++ below := by rw [State.frames_setTop' g h.top, hmid]; rfl
  obtain ⟨o, s₂, hsteps, -, hend, hq⟩ := Steps.callFree hM p X.admits X.cas X.clock (acts := []) hfr happ hPc trivial
  have hq' : vx_Q Qc XC mc ms free a (U.calling g mk a) o s₂ := hq
  rw [State.frames_setTop' g h.top] at hend
  obtain ⟨g₀, hg0⟩ := Option.isSome_iff_exists.mp h.top
  obtain ⟨r, hr⟩ := State.topJava?_eq_some.mp hg0
  have hr' : (({ U with heap := s₂.heap, slotsUsed := s₂.slotsUsed } : State).setVm s₂.vm).frames = .java g₀ :: r := hr
  rcases hq' with ⟨hqc, L, hfe, hL⟩ | ⟨q, rfl, E, ce, L, hx, hce, hcv, hcl, hW₂, hsm, hL⟩
  · obtain ⟨⟨v, rfl⟩, hW₂, e2, q2, q3, q4, q5, q6⟩ := id hfe
    have e3 : s₂ = ({ (U.calling g mk a).setFrames s₂.frames with heap := s₂.heap, slotsUsed := s₂.slotsUsed } : State).setVm s₂.vm := by
      have : s₂ = ({ s₂ with vm := (U.calling g mk a).vm } : State).setVm s₂.vm := rfl
      rw [e2] at this
      exact this
    obtain ⟨c₂, i₂, len₂, hc₂, hd₂, hf₂⟩ := hend
    have hW' : U.WarmedH s₂.vm := hW₂
    have hcc : c₂ = c := by
      have h1 : s₂.code? g.method = U.code? g.method := by
        rw [State.code?_eq, State.code?_eq, hW'.alike.method?]
      exact Option.some.inj (hc₂.symm.trans (h1.trans h.code))
    subst hcc
    have hlen : len₂ = len := by rw [hdg] at hd₂; cases hd₂; rfl
    subst hlen
    have hs₂ : s₂ = (({ U with heap := s₂.heap, slotsUsed := s₂.slotsUsed } : State).setVm s₂.vm).setTop { g with pc := g.pc + len₂, stack := v.toList ++ g.stack } := by
      refine e3.trans ?_
      rw [hf₂, State.calling_eq h.top, State.setFrames_setFrames, State.setTop_of_frames _ hr', hr]
      rfl
    have hsame : U.sameButNew ({ U with heap := s₂.heap, slotsUsed := s₂.slotsUsed } : State) L mc ms := by
      refine ⟨?_, q2, q3, q4, q5, q6⟩
      obtain ⟨t, ht, -⟩ := State.frames_cons hr
      show ({ U with heap := s₂.heap, slotsUsed := s₂.slotsUsed } : State) = { U.setFrames U.frames with heap := s₂.heap, slotsUsed := s₂.slotsUsed }
      rw [State.setFrames_self ht]
    subst hg
    refine Or.inl ⟨v, ⟨(({ U with heap := s₂.heap, slotsUsed := s₂.slotsUsed } : State).setVm s₂.vm), Ls ++ L, c0 + mc, s0 + ms⟩,
      ⟨X.admits, X.cas, X.clock, X.frames, X.room, X.hears, X.method, X.code, (X.here.setHeapUsed s₂.heap s₂.slotsUsed).setVm hW'.alike, X.tail, State.WarmedH.trans X.warmed hW', X.limits, X.bytes, X.same.trans (hsame.setVm s.vm)⟩,
      ⟨g, mk, s₂, L, rfl, rfl, hqc, rfl, hL, rfl, rfl⟩, ?_⟩
    show Steps p.tables e below _ ((({ U with heap := s₂.heap, slotsUsed := s₂.slotsUsed } : State).setVm s₂.vm).setTop { g with pc := g.pc + len₂, stack := v.toList ++ g.stack })
    rw [← hs₂]
    exact hsteps
  · obtain ⟨e2, q2, q3, q4, q5, q6⟩ := id hsm
    have e3 : s₂ = ({ (U.calling g mk a).setFrames s₂.frames with heap := s₂.heap, slotsUsed := s₂.slotsUsed } : State).setVm s₂.vm := by
      have : s₂ = ({ s₂ with vm := (U.calling g mk a).vm } : State).setVm s₂.vm := rfl
      rw [e2] at this
      exact this
    have hf₂ : s₂.frames = .throwing q :: .java g :: U.frames.tail := hend
    have hW' : U.WarmedH s₂.vm := hW₂
    have hs₂ : s₂ = ((({ U with heap := s₂.heap, slotsUsed := s₂.slotsUsed } : State).setVm s₂.vm).setTop g).pushFrame (.throwing q) := by
      refine e3.trans ?_
      rw [hf₂, State.calling_eq h.top, State.setFrames_setFrames, State.pushFrame, State.frames_setTop _ hr', State.setTop_of_frames _ hr', State.setFrames_setFrames, hr]
      rfl
    have hsame : U.sameButNew ({ U with heap := s₂.heap, slotsUsed := s₂.slotsUsed } : State) L mc ms := by
      refine ⟨?_, q2, q3, q4, q5, q6⟩
      obtain ⟨t, ht, -⟩ := State.frames_cons hr
      show ({ U with heap := s₂.heap, slotsUsed := s₂.slotsUsed } : State) = { U.setFrames U.frames with heap := s₂.heap, slotsUsed := s₂.slotsUsed }
      rw [State.setFrames_self ht]
    subst hg
    refine Or.inr ⟨q, ⟨(({ U with heap := s₂.heap, slotsUsed := s₂.slotsUsed } : State).setVm s₂.vm), Ls ++ L, c0 + mc, s0 + ms⟩,
      ⟨X.admits, X.cas, X.clock, X.frames, X.room, X.hears, X.method, X.code, (X.here.setHeapUsed s₂.heap s₂.slotsUsed).setVm hW'.alike, X.tail, State.WarmedH.trans X.warmed hW', X.limits, X.bytes, X.same.trans (hsame.setVm s.vm)⟩,
      ⟨g, mk, s₂, L, E, ce, rfl, rfl, hx, hce, hcv, hcl, rfl, hL, rfl, rfl⟩, ?_⟩
    show Steps p.tables e below _ (((({ U with heap := s₂.heap, slotsUsed := s₂.slotsUsed } : State).setVm s₂.vm).setTop g).pushFrame (.throwing q))
    rw [← hs₂]
    exact hsteps
end Payer
section Calls
variable {p : Program} {l : Launch} {e : Env} {R : Room} {s : State} {m : MethodId} {args : Array Value} {below : List Frame} {meth : Method} {c : Code} {T : State} {locs : List Loc} {cells slots : Nat}
theorem vx_callV (X : Stand p l e R s m args below meth c T locs cells slots) (hexec : p.tables.exec = Jvm.exec) {own C : String} {index : Nat} {y : MethodName} {bytes : ByteArray} {maxL : Nat} {ret : Option FieldType}
    (hown : s.vm.findClass own = some m.cls) (hlink : (Cond.methodLink own index y).before args s = true) (hinst : (Cond.instanceMethod y).before args s = true) (hsel : (Cond.selects C y y).before args s = true)
    (hcode : (Cond.code y bytes maxL ret).before args s = true) (hy : y.cls ≠ "java/lang/invoke/MethodHandle" ∧ y.cls ≠ "java/lang/invoke/VarHandle")
    {W9 : Nat} {Pre : Pt → Array Value → Prop} {Post : Pt → Array Value → Option Value → Pt → Prop} {PostX : Pt → Array Value → Addr → Pt → Prop} (hK : vx_Back l R p e below s args y 3 W9 Pre Post PostX)
    {b : Addr} {cellB : Cell} (hcell : T.heap[b]? = some cellB) (hobj : cellB.vm.isStatics = false) (hcls : s.vm.findClass C = some cellB.cls)
    {g : JFrame} (hg : g.method = m) (hsize : g.locals.size = c.maxLocals) {argsL rest : List Value} (hlen : ∀ sig, parseMethodDescriptor y.desc = some sig → argsL.length = sig.parameters.length)
    (hstack : g.stack = argsL.reverse ++ .ref b :: rest) (hW : 2 * g.monitorRoom + (rest.map fun v => v.category).sum ≤ W9) (hdg : decode c.code g.pc = .ok (.invokevirtual index, 3))
    (hpre : ∀ vm₁, s.WarmedH vm₁ → Pre ⟨T.setVm vm₁, locs, cells, slots⟩ (Value.ref b :: argsL).toArray) :
    (∃ (v : Option Value) (vm₁ : Vm) (B : Pt), s.WarmedH vm₁ ∧ Stand p l e R s m args below meth c B.U B.locs B.cells B.slots ∧ Post ⟨T.setVm vm₁, locs, cells, slots⟩ (Value.ref b :: argsL).toArray v B ∧
      ∀ target, Steps p.tables e below (B.U.setTop { g with pc := g.pc + 3, stack := v.toList ++ rest }) target → Steps p.tables e below (T.setTop g) target) ∨
    (∃ (q : Addr) (vm₁ : Vm) (B : Pt), s.WarmedH vm₁ ∧ Stand p l e R s m args below meth c B.U B.locs B.cells B.slots ∧ PostX ⟨T.setVm vm₁, locs, cells, slots⟩ (Value.ref b :: argsL).toArray q B ∧
      Steps p.tables e below (T.setTop g) ((B.U.setTop { g with stack := rest }).pushFrame (.throwing q))) := by
  obtain ⟨mk, methM, hnamed, hmethM, hstM, habM⟩ := Cond.instanceMethod_spec hinst
  obtain ⟨methM', cM, hmethM', -, -, -, -, -, -, hsigM⟩ := Cond.code_spec hnamed hcode
  cases hmethM.symm.trans hmethM'
  obtain ⟨c2, r2, m2, q1, q2, q3, q4, kP, hkP, hkPi⟩ := Cond.selects_spec hsel
  cases hcls.symm.trans q1
  cases (State.methodFound?_of_named hnamed hy).symm.trans q2
  cases hnamed.symm.trans q3
  have hselP : selectMethod e.platform s.vm cellB.cls mk = .method mk := by rw [Launch.admits_selectMethod X.admits]; exact q4
  obtain ⟨vm₁, X₁, hstep₁⟩ := X.invokevirtual hexec hown hlink hnamed hmethM hstM hkP hkPi hy (a := b) (cell := cellB) hcell
    (fun z h => by rw [h] at hobj; cases hobj) hselP hmethM habM hkP hkPi (g := g) hg (argsL := argsL) (rest := rest) (hlen _ hsigM) hstack hdg
  rcases hK m meth c ⟨T.setVm vm₁, locs, cells, slots⟩ { g with stack := rest } (.invokevirtual index) mk (Value.ref b :: argsL).toArray X₁ hg hsize hdg hW (X₁.named hnamed) (hpre vm₁ X₁.warmed) with ⟨v, B, X', hpost, hsteps⟩ | ⟨q, B, X', hpost, hsteps⟩
  · exact Or.inl ⟨v, vm₁, B, X₁.warmed, X', hpost, fun target h => hstep₁ _ fun acts => by rw [doInvoke_state]; exact hsteps.trans h⟩
  · exact Or.inr ⟨q, vm₁, B, X₁.warmed, X', hpost, hstep₁ _ fun acts => by rw [doInvoke_state]; exact hsteps⟩
theorem vx_callS (X : Stand p l e R s m args below meth c T locs cells slots) (hexec : p.tables.exec = Jvm.exec) {own : String} {index : Nat} {y : MethodName} {bytes : ByteArray} {maxL : Nat} {ret : Option FieldType}
    (hown : s.vm.findClass own = some m.cls) (hlink : (Cond.methodLink own index y).before args s = true) (hstat : (Cond.static y).before args s = true) (hinit : (Cond.initialized y.cls).before args s = true)
    (hcode : (Cond.code y bytes maxL ret).before args s = true) (hy : y.cls ≠ "java/lang/invoke/MethodHandle" ∧ y.cls ≠ "java/lang/invoke/VarHandle")
    {W9 : Nat} {Pre : Pt → Array Value → Prop} {Post : Pt → Array Value → Option Value → Pt → Prop} {PostX : Pt → Array Value → Addr → Pt → Prop} (hK : vx_Back l R p e below s args y 3 W9 Pre Post PostX)
    {g : JFrame} (hg : g.method = m) (hsize : g.locals.size = c.maxLocals) {argsL rest : List Value} (hlen : ∀ sig, parseMethodDescriptor y.desc = some sig → argsL.length = sig.parameters.length)
    (hstack : g.stack = argsL.reverse ++ rest) (hW : 2 * g.monitorRoom + (rest.map fun v => v.category).sum ≤ W9) (hdg : decode c.code g.pc = .ok (.invokestatic index, 3))
    (hpre : ∀ vm₁, s.WarmedH vm₁ → Pre ⟨T.setVm vm₁, locs, cells, slots⟩ argsL.toArray) :
    (∃ (v : Option Value) (vm₁ : Vm) (B : Pt), s.WarmedH vm₁ ∧ Stand p l e R s m args below meth c B.U B.locs B.cells B.slots ∧ Post ⟨T.setVm vm₁, locs, cells, slots⟩ argsL.toArray v B ∧
      ∀ target, Steps p.tables e below (B.U.setTop { g with pc := g.pc + 3, stack := v.toList ++ rest }) target → Steps p.tables e below (T.setTop g) target) ∨
    (∃ (q : Addr) (vm₁ : Vm) (B : Pt), s.WarmedH vm₁ ∧ Stand p l e R s m args below meth c B.U B.locs B.cells B.slots ∧ PostX ⟨T.setVm vm₁, locs, cells, slots⟩ argsL.toArray q B ∧
      Steps p.tables e below (T.setTop g) ((B.U.setTop { g with stack := rest }).pushFrame (.throwing q))) := by
  obtain ⟨mk, hnamed⟩ := Cond.code_named hcode
  obtain ⟨methM, cM, hmethM, -, -, -, -, -, -, hsigM⟩ := Cond.code_spec hnamed hcode
  have hstatic : methM.isStatic = true := Cond.static_spec hnamed hmethM hstat
  obtain ⟨kP, hkP, -⟩ := className_of_methodNamed hnamed
  have hinitP : kP.init = .initialized := Cond.initialized_spec (findClass_of_methodNamed hnamed) hkP hinit
  obtain ⟨vm₁, X₁, hstep₁⟩ := X.invokestatic hexec hown hlink hnamed hmethM hstatic hkP hinitP hy (g := g) hg (argsL := argsL) (rest := rest) (hlen _ hsigM) hstack hdg
  rcases hK m meth c ⟨T.setVm vm₁, locs, cells, slots⟩ { g with stack := rest } (.invokestatic index) mk argsL.toArray X₁ hg hsize hdg hW (X₁.named hnamed) (hpre vm₁ X₁.warmed) with ⟨v, B, X', hpost, hsteps⟩ | ⟨q, B, X', hpost, hsteps⟩
  · exact Or.inl ⟨v, vm₁, B, X₁.warmed, X', hpost, fun target h => hstep₁ _ fun acts => by rw [doInvoke_state]; exact hsteps.trans h⟩
  · exact Or.inr ⟨q, vm₁, B, X₁.warmed, X', hpost, hstep₁ _ fun acts => by rw [doInvoke_state]; exact hsteps⟩
end Calls
theorem vx_cls {s : State} {T : State} {vm₁ : Vm} {E : String} {k : ClassId} (hW : s.WarmedH vm₁) (h : (T.setVm vm₁).vm.findClass E = some k) : s.vm.findClass E = some k := by
  have h1 : vm₁.findClass E = some k := h
  rw [hW.alike.findClass] at h1
  exact h1
/-- the method's frame g, with q thrown over it -/
def vx_W (p : Program) (l : Launch) (e : Env) (R : Room) (s : State) (m : MethodId) (args : Array Value) (below : List Frame) (meth : Method) (c : Code) (H : Heap) (locs : List Loc) (cells slots : Nat) (Q : State → Prop) (g : JFrame) (q : Addr) : Prop :=
  ∀ T : State, T.heap = H → Stand p l e R s m args below meth c T locs cells slots → ∃ t, Steps p.tables e below ((T.setTop g).pushFrame (.throwing q)) t ∧ Q t
def vx_Run (p : Program) (l : Launch) (e : Env) (R : Room) (s : State) (m : MethodId) (args : Array Value) (below : List Frame) (meth : Method) (c : Code) (H : Heap) (locs : List Loc) (cells slots mc ms : Nat) (g : JFrame) (rest : List Value) (Qa : State → Outcome → State → Prop) (XC : String → State → State → Prop) (free : Addr → Prop) : Prop :=
  ∀ T : State, T.heap = H → Stand p l e R s m args below meth c T locs cells slots →
    (∃ (v : Option Value) (st₀ t T' : State) (L : List Loc), st₀.heap = H ∧ Stand p l e R s m args below meth c T' (locs ++ L) (cells + mc) (slots + ms) ∧ (∀ q ∈ L, free q.base) ∧ T'.heap = t.heap ∧ T'.vm = t.vm ∧ Qa st₀ (.returned v) t ∧
      Goes p e below T g T' { g with pc := g.pc + 3, stack := v.toList ++ rest }) ∨
    (∃ (q : Addr) (st₀ t T' : State) (L : List Loc) (E : String) (ce : Cell), st₀.heap = H ∧ Stand p l e R s m args below meth c T' (locs ++ L) (cells + mc) (slots + ms) ∧ (∀ z ∈ L, free z.base) ∧ T'.heap = t.heap ∧ T'.vm = t.vm ∧ XC E st₀ t ∧ t.heap[q]? = some ce ∧ ce.vm = .none ∧ s.vm.findClass E = some ce.cls ∧
      Steps p.tables e below (T.setTop g) ((T'.setTop { g with stack := rest }).pushFrame (.throwing q)))
def vx_X {S : Type} (px : S → Prop) (B : String → S → State → Prop) (A : Nat → Prop) : String → State → State → Prop := fun E st t => ∃ u : S, px u ∧ B E u t ∧ va_F A st t
section Runs
variable {p : Program} {l : Launch} {e : Env} {R : Room} {s : State} {m : MethodId} {args : Array Value} {below : List Frame} {meth : Method} {c : Code} {H : Heap} {locs : List Loc} {cells slots : Nat}
variable {y : MethodName} {bytes cc : ByteArray} {maxL nL mc ms n index : Nat} {ret : Option FieldType} {ws : List Cond} {rm : Room} {Pc : Array Value → State → Prop} {Qc : Array Value → State → Outcome → State → Prop} {XC : String → State → State → Prop} {free : Addr → Prop} {Ts : List Cond} {own C : String} {b : Addr} {As rest : List Value} {g : JFrame}
theorem vx_callBack (cb : CallB R s args own index y bytes maxL ret ws rm mc ms n) (hM : vx_Met l y ws rm Pc Qc XC mc ms free) (hbl : FrameBlind Pc) : vx_Back l R p e below s args y 3 8 (PreOf R mc ms Pc) (PostOf Qc mc ms free) (vx_Post XC mc ms free) := by
  obtain ⟨hrc, hrs, hfr, hlo, hws, hcw, -, hini, -⟩ := cb
  exact vx_back (bytes := bytes) (maxL := maxL) (ret := ret) hM hbl hrc hrs hfr hlo hws hcw (fun a' U hW => word_at hW (Or.inl (by first | rfl | simp [Cond.onTables, Cond.keeps, Cond.steady])) hini)
theorem vx_runV (S : CallFix p m c cc nL s args Ts own) (hM : vx_Met l y ws rm Pc Qc XC mc ms free) (cw : CallW R s args own C index y bytes maxL ret ws rm mc ms n) (hp : PreV s H C b Pc As)
    (hg : g.method = m) (hn : As.length = n) (hsize : g.locals.size = nL) (hstack : g.stack = As.reverse ++ .ref b :: rest) (hW : 2 * g.monitorRoom + (rest.map fun v => v.category).sum ≤ 8) (hdg : decode cc g.pc = .ok (.invokevirtual index, 3)) (hf : cells + mc ≤ R.cells ∧ slots + ms ≤ R.slots) :
    vx_Run p l e R s m args below meth c H locs cells slots mc ms g rest (Qc (Value.ref b :: As).toArray) XC free := by
  have hK : vx_Back l R p e below s args y 3 8 (PreOf R mc ms Pc) (PostOf Qc mc ms free) (vx_Post XC mc ms free) := vx_callBack cw.1 hM hp.1
  obtain ⟨⟨-, -, -, -, -, -, hcode, -, hy, hlen, hl⟩, hin, hse⟩ := cw
  obtain ⟨hx, hb, hml, ho, -⟩ := S
  obtain ⟨-, ⟨cellB, hcB, hoB, hclB⟩, hPc⟩ := hp
  intro T hT X
  rcases vx_callV X hx (C := C) (bytes := bytes) (maxL := maxL) (ret := ret) ho hl hin hse hcode hy hK (by rw [hT]; exact hcB) hoB hclB hg (hsize.trans hml.symm) (argsL := As) (rest := rest) (fun sig h => hn.trans (hlen sig h)) hstack hW (by rw [hb]; exact hdg)
    (fun vm₁ hW₁ => ⟨hf.1, hf.2, hPc (T.setVm vm₁) hT hW₁⟩) with ⟨v, vm₁, ⟨U', l2, c2, s2⟩, hW₁, X', ⟨g', mk, t, L, e1, e2, hq, h1, hL, h2, h3⟩, st⟩ | ⟨q, vm₁, ⟨U', l2, c2, s2⟩, hW₁, X', ⟨g', mk, t, L, E, ce, e1, e2, hq, hce, hcv, hcl, h1, hL, h2, h3⟩, st⟩
  · dsimp only [Pt.U, Pt.locs, Pt.cells, Pt.slots] at X' e1 e2 h1 h2 h3 st
    subst h1; subst h2; subst h3
    exact Or.inl ⟨v, (T.setVm vm₁).calling g' mk (Value.ref b :: As).toArray, t, U', L, hT, X', hL, e1, e2, hq, st⟩
  · dsimp only [Pt.U, Pt.locs, Pt.cells, Pt.slots] at X' e1 e2 h1 h2 h3 st hcl
    subst h1; subst h2; subst h3
    exact Or.inr ⟨q, (T.setVm vm₁).calling g' mk (Value.ref b :: As).toArray, t, U', L, E, ce, hT, X', hL, e1, e2, hq, hce, hcv, vx_cls hW₁ hcl, st⟩
theorem vx_runS (S : CallFix p m c cc nL s args Ts own) (hM : vx_Met l y ws rm Pc Qc XC mc ms free) (cw : CallB R s args own index y bytes maxL ret ws rm mc ms n ∧ (Cond.static y).before args s = true) (hp : PreS s H Pc As)
    (hg : g.method = m) (hn : As.length = n) (hsize : g.locals.size = nL) (hstack : g.stack = As.reverse ++ rest) (hW : 2 * g.monitorRoom + (rest.map fun v => v.category).sum ≤ 8) (hdg : decode cc g.pc = .ok (.invokestatic index, 3)) (hf : cells + mc ≤ R.cells ∧ slots + ms ≤ R.slots) :
    vx_Run p l e R s m args below meth c H locs cells slots mc ms g rest (Qc As.toArray) XC free := by
  have hK : vx_Back l R p e below s args y 3 8 (PreOf R mc ms Pc) (PostOf Qc mc ms free) (vx_Post XC mc ms free) := vx_callBack cw.1 hM hp.1
  obtain ⟨⟨-, -, -, -, -, -, hcode, hini, hy, hlen, hl⟩, hstt⟩ := cw
  obtain ⟨hx, hb, hml, ho, -⟩ := S
  intro T hT X
  rcases vx_callS X hx (bytes := bytes) (maxL := maxL) (ret := ret) ho hl hstt hini hcode hy hK hg (hsize.trans hml.symm) (argsL := As) (rest := rest) (fun sig h => hn.trans (hlen sig h)) hstack hW (by rw [hb]; exact hdg)
    (fun vm₁ hW₁ => ⟨hf.1, hf.2, hp.2 (T.setVm vm₁) hT hW₁⟩) with ⟨v, vm₁, ⟨U', l2, c2, s2⟩, hW₁, X', ⟨g', mk, t, L, e1, e2, hq, h1, hL, h2, h3⟩, st⟩ | ⟨q, vm₁, ⟨U', l2, c2, s2⟩, hW₁, X', ⟨g', mk, t, L, E, ce, e1, e2, hq, hce, hcv, hcl, h1, hL, h2, h3⟩, st⟩
  · dsimp only [Pt.U, Pt.locs, Pt.cells, Pt.slots] at X' e1 e2 h1 h2 h3 st
    subst h1; subst h2; subst h3
    exact Or.inl ⟨v, (T.setVm vm₁).calling g' mk As.toArray, t, U', L, hT, X', hL, e1, e2, hq, st⟩
  · dsimp only [Pt.U, Pt.locs, Pt.cells, Pt.slots] at X' e1 e2 h1 h2 h3 st hcl
    subst h1; subst h2; subst h3
    exact Or.inr ⟨q, (T.setVm vm₁).calling g' mk As.toArray, t, U', L, E, ce, hT, X', hL, e1, e2, hq, hce, hcv, vx_cls hW₁ hcl, st⟩
end Runs
section Rows
variable {p : Program} {l : Launch} {e : Env} {R : Room} {s : State} {m : MethodId} {args : Array Value} {below : List Frame} {meth : Method} {c : Code} {H : Heap} {locs : List Loc} {cells slots : Nat} {Q : State → Prop}
variable {mc ms : Nat} {free : Addr → Prop} {A0 A1 : Nat → Prop} {H0 : Heap} {a : Array Value} {pc : Nat} {ls : Array Slot} {st0 rest : List Value}
theorem vx_keep {st₀ t T' : State} {L : List Loc} (h0 : st₀.heap = H) (e1 : T'.heap = t.heap) (hS : va_S A0 H0 H locs) (hA : ∀ q, q < H.size → A1 q → A0 q) (hf : ∀ q, free q → A0 q) (hL : ∀ q ∈ L, free q.base) (hF : va_F A1 st₀ t) :
    H.size ≤ T'.heap.size ∧ (∀ q : Nat, q < H.size → ¬ A1 q → T'.heap[q]? = H[q]?) ∧ va_S A0 H0 T'.heap (locs ++ L) := by
  obtain ⟨hz, hk⟩ := hF
  rw [h0] at hz hk
  exact ⟨by rw [e1]; exact hz, fun q h1 h2 => by rw [e1]; exact hk q h1 h2,
    ⟨Nat.le_trans hS.1 (by rw [e1]; exact hz), fun q h1 h2 => by rw [e1, hk q (Nat.lt_of_lt_of_le h1 hS.1) (fun z => h2 (hA q (Nat.lt_of_lt_of_le h1 hS.1) z))]; exact hS.2.1 q h1 h2, fun q hq => by
      rcases List.mem_append.mp hq with h | h
      · exact hS.2.2 q h
      · exact hf _ (hL q h)⟩⟩
theorem vx_calli {S SX : Type} {post : Int32 → S → Prop} {px : SX → Prop} {B : S → State → Prop} {BX : String → SX → State → Prop} {AX : Nat → Prop} (hr : vx_Run p l e R s m args below meth c H locs cells slots mc ms (F0 m pc ls st0) rest (va_Qi post B A1 a) (vx_X px BX AX) free) (hS : va_S A0 H0 H locs) (hA : ∀ q, q < H.size → A1 q → A0 q) (hf : ∀ q, free q → A0 q) (hAX : ∀ q, q < H.size → AX q → A0 q)
    (kx : ∀ (E : String) (ce : Cell) (q9 : Addr) (u : SX) (t : State) (H1 : Heap) (locs1 : List Loc), t.heap = H1 → s.vm.Alike t.vm → px u → BX E u t → H.size ≤ H1.size → (∀ q : Nat, q < H.size → ¬ AX q → H1[q]? = H[q]?) → va_S A0 H0 H1 locs1 → H1[q9]? = some ce → ce.vm = .none → s.vm.findClass E = some ce.cls → vx_W p l e R s m args below meth c H1 locs1 (cells + mc) (slots + ms) Q (F0 m pc ls rest) q9)
    (kk : ∀ (r : Int32) (u : S) (t : State) (H1 : Heap) (locs1 : List Loc), t.heap = H1 → s.vm.Alike t.vm → post r u → B u t → H.size ≤ H1.size → (∀ q : Nat, q < H.size → ¬ A1 q → H1[q]? = H[q]?) → va_S A0 H0 H1 locs1 → W p l e R s m args below meth c H1 locs1 (cells + mc) (slots + ms) Q (F0 m (pc + 3) ls (.int r :: rest))) : W p l e R s m args below meth c H locs cells slots Q (F0 m pc ls st0) := by
  intro T hT X
  rcases hr T hT X with ⟨v, st₀, t, T', L, h0, X', hL, e1, e2, ⟨⟨r, u, hv, hp, hb⟩, hF⟩, st⟩ | ⟨q, st₀, t, T', L, E, ce, h0, X', hL, e1, e2, ⟨u, hp, hb, hF⟩, hce, hcv, hcl, st⟩
  · cases hv
    obtain ⟨k1, k2, k3⟩ := vx_keep h0 e1 hS hA hf hL hF
    obtain ⟨t2, a1, b1⟩ := kk r u t T'.heap (locs ++ L) e1.symm (by rw [← e2]; exact X'.warmed.alike) hp hb k1 k2 k3 T' rfl X'
    exact ⟨t2, st t2 a1, b1⟩
  · obtain ⟨k1, k2, k3⟩ := vx_keep h0 e1 hS hAX hf hL hF
    obtain ⟨t2, a1, b1⟩ := kx E ce q u t T'.heap (locs ++ L) e1.symm (by rw [← e2]; exact X'.warmed.alike) hp hb k1 k2 k3 (by rw [e1]; exact hce) hcv hcl T' rfl X'
    exact ⟨t2, st.trans a1, b1⟩
theorem vx_calll {S SX : Type} {post : Int64 → S → Prop} {px : SX → Prop} {B : S → State → Prop} {BX : String → SX → State → Prop} {AX : Nat → Prop} (hr : vx_Run p l e R s m args below meth c H locs cells slots mc ms (F0 m pc ls st0) rest (va_Ql post B A1 a) (vx_X px BX AX) free) (hS : va_S A0 H0 H locs) (hA : ∀ q, q < H.size → A1 q → A0 q) (hf : ∀ q, free q → A0 q) (hAX : ∀ q, q < H.size → AX q → A0 q)
    (kx : ∀ (E : String) (ce : Cell) (q9 : Addr) (u : SX) (t : State) (H1 : Heap) (locs1 : List Loc), t.heap = H1 → s.vm.Alike t.vm → px u → BX E u t → H.size ≤ H1.size → (∀ q : Nat, q < H.size → ¬ AX q → H1[q]? = H[q]?) → va_S A0 H0 H1 locs1 → H1[q9]? = some ce → ce.vm = .none → s.vm.findClass E = some ce.cls → vx_W p l e R s m args below meth c H1 locs1 (cells + mc) (slots + ms) Q (F0 m pc ls rest) q9)
    (kk : ∀ (r : Int64) (u : S) (t : State) (H1 : Heap) (locs1 : List Loc), t.heap = H1 → s.vm.Alike t.vm → post r u → B u t → H.size ≤ H1.size → (∀ q : Nat, q < H.size → ¬ A1 q → H1[q]? = H[q]?) → va_S A0 H0 H1 locs1 → W p l e R s m args below meth c H1 locs1 (cells + mc) (slots + ms) Q (F0 m (pc + 3) ls (.long r :: rest))) : W p l e R s m args below meth c H locs cells slots Q (F0 m pc ls st0) := by
  intro T hT X
  rcases hr T hT X with ⟨v, st₀, t, T', L, h0, X', hL, e1, e2, ⟨⟨r, u, hv, hp, hb⟩, hF⟩, st⟩ | ⟨q, st₀, t, T', L, E, ce, h0, X', hL, e1, e2, ⟨u, hp, hb, hF⟩, hce, hcv, hcl, st⟩
  · cases hv
    obtain ⟨k1, k2, k3⟩ := vx_keep h0 e1 hS hA hf hL hF
    obtain ⟨t2, a1, b1⟩ := kk r u t T'.heap (locs ++ L) e1.symm (by rw [← e2]; exact X'.warmed.alike) hp hb k1 k2 k3 T' rfl X'
    exact ⟨t2, st t2 a1, b1⟩
  · obtain ⟨k1, k2, k3⟩ := vx_keep h0 e1 hS hAX hf hL hF
    obtain ⟨t2, a1, b1⟩ := kx E ce q u t T'.heap (locs ++ L) e1.symm (by rw [← e2]; exact X'.warmed.alike) hp hb k1 k2 k3 (by rw [e1]; exact hce) hcv hcl T' rfl X'
    exact ⟨t2, st.trans a1, b1⟩
theorem vx_callf {S SX : Type} {post : UInt32 → S → Prop} {px : SX → Prop} {B : S → State → Prop} {BX : String → SX → State → Prop} {AX : Nat → Prop} (hr : vx_Run p l e R s m args below meth c H locs cells slots mc ms (F0 m pc ls st0) rest (va_Qf post B A1 a) (vx_X px BX AX) free) (hS : va_S A0 H0 H locs) (hA : ∀ q, q < H.size → A1 q → A0 q) (hf : ∀ q, free q → A0 q) (hAX : ∀ q, q < H.size → AX q → A0 q)
    (kx : ∀ (E : String) (ce : Cell) (q9 : Addr) (u : SX) (t : State) (H1 : Heap) (locs1 : List Loc), t.heap = H1 → s.vm.Alike t.vm → px u → BX E u t → H.size ≤ H1.size → (∀ q : Nat, q < H.size → ¬ AX q → H1[q]? = H[q]?) → va_S A0 H0 H1 locs1 → H1[q9]? = some ce → ce.vm = .none → s.vm.findClass E = some ce.cls → vx_W p l e R s m args below meth c H1 locs1 (cells + mc) (slots + ms) Q (F0 m pc ls rest) q9)
    (kk : ∀ (r : UInt32) (u : S) (t : State) (H1 : Heap) (locs1 : List Loc), t.heap = H1 → s.vm.Alike t.vm → post r u → B u t → H.size ≤ H1.size → (∀ q : Nat, q < H.size → ¬ A1 q → H1[q]? = H[q]?) → va_S A0 H0 H1 locs1 → W p l e R s m args below meth c H1 locs1 (cells + mc) (slots + ms) Q (F0 m (pc + 3) ls (.float r :: rest))) : W p l e R s m args below meth c H locs cells slots Q (F0 m pc ls st0) := by
  intro T hT X
  rcases hr T hT X with ⟨v, st₀, t, T', L, h0, X', hL, e1, e2, ⟨⟨r, u, hv, hp, hb⟩, hF⟩, st⟩ | ⟨q, st₀, t, T', L, E, ce, h0, X', hL, e1, e2, ⟨u, hp, hb, hF⟩, hce, hcv, hcl, st⟩
  · cases hv
    obtain ⟨k1, k2, k3⟩ := vx_keep h0 e1 hS hA hf hL hF
    obtain ⟨t2, a1, b1⟩ := kk r u t T'.heap (locs ++ L) e1.symm (by rw [← e2]; exact X'.warmed.alike) hp hb k1 k2 k3 T' rfl X'
    exact ⟨t2, st t2 a1, b1⟩
  · obtain ⟨k1, k2, k3⟩ := vx_keep h0 e1 hS hAX hf hL hF
    obtain ⟨t2, a1, b1⟩ := kx E ce q u t T'.heap (locs ++ L) e1.symm (by rw [← e2]; exact X'.warmed.alike) hp hb k1 k2 k3 (by rw [e1]; exact hce) hcv hcl T' rfl X'
    exact ⟨t2, st.trans a1, b1⟩
theorem vx_calld {S SX : Type} {post : UInt64 → S → Prop} {px : SX → Prop} {B : S → State → Prop} {BX : String → SX → State → Prop} {AX : Nat → Prop} (hr : vx_Run p l e R s m args below meth c H locs cells slots mc ms (F0 m pc ls st0) rest (va_Qd post B A1 a) (vx_X px BX AX) free) (hS : va_S A0 H0 H locs) (hA : ∀ q, q < H.size → A1 q → A0 q) (hf : ∀ q, free q → A0 q) (hAX : ∀ q, q < H.size → AX q → A0 q)
    (kx : ∀ (E : String) (ce : Cell) (q9 : Addr) (u : SX) (t : State) (H1 : Heap) (locs1 : List Loc), t.heap = H1 → s.vm.Alike t.vm → px u → BX E u t → H.size ≤ H1.size → (∀ q : Nat, q < H.size → ¬ AX q → H1[q]? = H[q]?) → va_S A0 H0 H1 locs1 → H1[q9]? = some ce → ce.vm = .none → s.vm.findClass E = some ce.cls → vx_W p l e R s m args below meth c H1 locs1 (cells + mc) (slots + ms) Q (F0 m pc ls rest) q9)
    (kk : ∀ (r : UInt64) (u : S) (t : State) (H1 : Heap) (locs1 : List Loc), t.heap = H1 → s.vm.Alike t.vm → post r u → B u t → H.size ≤ H1.size → (∀ q : Nat, q < H.size → ¬ A1 q → H1[q]? = H[q]?) → va_S A0 H0 H1 locs1 → W p l e R s m args below meth c H1 locs1 (cells + mc) (slots + ms) Q (F0 m (pc + 3) ls (.double r :: rest))) : W p l e R s m args below meth c H locs cells slots Q (F0 m pc ls st0) := by
  intro T hT X
  rcases hr T hT X with ⟨v, st₀, t, T', L, h0, X', hL, e1, e2, ⟨⟨r, u, hv, hp, hb⟩, hF⟩, st⟩ | ⟨q, st₀, t, T', L, E, ce, h0, X', hL, e1, e2, ⟨u, hp, hb, hF⟩, hce, hcv, hcl, st⟩
  · cases hv
    obtain ⟨k1, k2, k3⟩ := vx_keep h0 e1 hS hA hf hL hF
    obtain ⟨t2, a1, b1⟩ := kk r u t T'.heap (locs ++ L) e1.symm (by rw [← e2]; exact X'.warmed.alike) hp hb k1 k2 k3 T' rfl X'
    exact ⟨t2, st t2 a1, b1⟩
  · obtain ⟨k1, k2, k3⟩ := vx_keep h0 e1 hS hAX hf hL hF
    obtain ⟨t2, a1, b1⟩ := kx E ce q u t T'.heap (locs ++ L) e1.symm (by rw [← e2]; exact X'.warmed.alike) hp hb k1 k2 k3 (by rw [e1]; exact hce) hcv hcl T' rfl X'
    exact ⟨t2, st.trans a1, b1⟩
theorem vx_callv {S SX : Type} {post : S → Prop} {px : SX → Prop} {B : S → State → Prop} {BX : String → SX → State → Prop} {AX : Nat → Prop} (hr : vx_Run p l e R s m args below meth c H locs cells slots mc ms (F0 m pc ls st0) rest (va_Qv post B A1 a) (vx_X px BX AX) free) (hS : va_S A0 H0 H locs) (hA : ∀ q, q < H.size → A1 q → A0 q) (hf : ∀ q, free q → A0 q) (hAX : ∀ q, q < H.size → AX q → A0 q)
    (kx : ∀ (E : String) (ce : Cell) (q9 : Addr) (u : SX) (t : State) (H1 : Heap) (locs1 : List Loc), t.heap = H1 → s.vm.Alike t.vm → px u → BX E u t → H.size ≤ H1.size → (∀ q : Nat, q < H.size → ¬ AX q → H1[q]? = H[q]?) → va_S A0 H0 H1 locs1 → H1[q9]? = some ce → ce.vm = .none → s.vm.findClass E = some ce.cls → vx_W p l e R s m args below meth c H1 locs1 (cells + mc) (slots + ms) Q (F0 m pc ls rest) q9)
    (kk : ∀ (u : S) (t : State) (H1 : Heap) (locs1 : List Loc), t.heap = H1 → s.vm.Alike t.vm → post u → B u t → H.size ≤ H1.size → (∀ q : Nat, q < H.size → ¬ A1 q → H1[q]? = H[q]?) → va_S A0 H0 H1 locs1 → W p l e R s m args below meth c H1 locs1 (cells + mc) (slots + ms) Q (F0 m (pc + 3) ls (rest))) : W p l e R s m args below meth c H locs cells slots Q (F0 m pc ls st0) := by
  intro T hT X
  rcases hr T hT X with ⟨v, st₀, t, T', L, h0, X', hL, e1, e2, ⟨⟨u, hv, hp, hb⟩, hF⟩, st⟩ | ⟨q, st₀, t, T', L, E, ce, h0, X', hL, e1, e2, ⟨u, hp, hb, hF⟩, hce, hcv, hcl, st⟩
  · cases hv
    obtain ⟨k1, k2, k3⟩ := vx_keep h0 e1 hS hA hf hL hF
    obtain ⟨t2, a1, b1⟩ := kk u t T'.heap (locs ++ L) e1.symm (by rw [← e2]; exact X'.warmed.alike) hp hb k1 k2 k3 T' rfl X'
    exact ⟨t2, st t2 a1, b1⟩
  · obtain ⟨k1, k2, k3⟩ := vx_keep h0 e1 hS hAX hf hL hF
    obtain ⟨t2, a1, b1⟩ := kx E ce q u t T'.heap (locs ++ L) e1.symm (by rw [← e2]; exact X'.warmed.alike) hp hb k1 k2 k3 (by rw [e1]; exact hce) hcv hcl T' rfl X'
    exact ⟨t2, st.trans a1, b1⟩
/-- caught by the row x of this method's table; the rows ahead don't take it -/
theorem vx_catch {own name : String} {E : String} {ce : Cell} {q : Addr} (hown : s.vm.findClass own = some m.cls) (pre : List ExceptionTableEntry) (x : ExceptionTableEntry) (suf : List ExceptionTableEntry) (hsplit : c.exceptionTable.toList = pre ++ x :: suf)
    (hpass : ∀ z ∈ pre, covers z pc = false ∨ (z.catchType ≠ 0 ∧ ∃ nm : String, (Cond.classLink own z.catchType nm).before args s = true ∧ va_Nc E nm s)) (hx : covers x pc = true) (h0 : x.catchType ≠ 0)
    (hlink : (Cond.classLink own x.catchType name).before args s = true) (hcast : (Cond.castable E name).before args s = true) (hcell : H[q]? = some ce) (hv : ce.vm = .none) (hcl : s.vm.findClass E = some ce.cls)
    (kk : W p l e R s m args below meth c H locs cells slots Q (F0 m x.handlerPc ls [.ref q])) : vx_W p l e R s m args below meth c H locs cells slots Q (F0 m pc ls rest) q := by
  intro T hT X
  have hpl : e.platform.magicAccessors = ({} : Platform).magicAccessors := by rw [X.admits.platform]
  obtain ⟨c3, c4, hc3, hc4, hasg⟩ := Cond.castable_spec hcast
  cases Option.some.inj (hc3.symm.trans hcl)
  obtain ⟨c5, hc5, hcl5⟩ := Cond.classLink_spec hown hlink e.platform hpl
  cases Option.some.inj (hc4.symm.trans hc5)
  obtain ⟨vm', X', st⟩ := X.thenCaughtThrough q (g := F0 m pc ls rest) rfl (Steps.refl _) (by rw [hT]; exact hcell) (by rw [hv]; rfl) (by obtain ⟨k9, h9, -⟩ := Vm.findClass_spec hcl; exact ⟨k9, h9⟩) pre x suf hsplit
    (fun z hz => by
      rcases hpass z hz with h | ⟨hz0, nm, hl1, hn1⟩
      · exact Or.inl h
      · obtain ⟨c6, hc6, hcl6⟩ := Cond.classLink_spec hown hl1 e.platform hpl
        obtain ⟨a8, b8, h1, h2, h3⟩ := hn1
        cases Option.some.inj (h1.symm.trans hcl)
        cases Option.some.inj (h2.symm.trans hc6)
        exact Or.inr ⟨hz0, _, hcl6, h3⟩) hx (Or.inr ⟨h0, c4, hcl5, hasg⟩)
  obtain ⟨t, a1, b1⟩ := kk (T.setVm vm') hT X'
  exact ⟨t, st.trans a1, b1⟩
end Rows
section Ends
variable {p : Program} {l : Launch} {e : Env} {R : Room} {s : State} {m : MethodId} {args : Array Value} {below : List Frame} {meth : Method} {c : Code} {H : Heap} {locs : List Loc} {cells slots : Nat} {Q : State → Prop}
variable {mc ms : Nat} {free : Addr → Prop} {A0 A1 : Nat → Prop} {H0 : Heap} {a : Array Value} {ls : Array Slot} {st0 rest : List Value}
variable {Qc : Array Value → State → Outcome → State → Prop} {XC : String → State → State → Prop}
/-- what a body that may throw owes at its end -/
def vx_MQ (below : List Frame) (Qc : Array Value → State → Outcome → State → Prop) (XC : String → State → State → Prop) (a : Array Value) (s : State) (mc ms : Nat) (free : Addr → Prop) : State → Prop := fun t =>
  ∃ o, t.status = .running ∧ Ended t below o ∧ vx_Q Qc XC mc ms free a s o t
theorem vx_ret {g : JFrame} {mc ms : Nat} (k : W p l e R s m args below meth c H locs cells slots (MQ below Qc args s mc ms free) g) : W p l e R s m args below meth c H locs cells slots (vx_MQ below Qc XC args s mc ms free) g := by
  intro T hT X
  obtain ⟨t, a1, o, b1, b2, b3, b4⟩ := k T hT X
  exact ⟨t, a1, o, b1, b2, Or.inl ⟨b3, b4⟩⟩
/-- not caught here: it goes on to the caller -/
theorem vx_widen {g : JFrame} {q : Addr} {k n : Nat} (h1 : cells ≤ k) (h2 : slots ≤ n) (kk : vx_W p l e R s m args below meth c H locs k n Q g q) : vx_W p l e R s m args below meth c H locs cells slots Q g q := fun T hT X => kk T hT (stand_widen X h1 h2)
theorem vx_out {pc : Nat} {E : String} {ce : Cell} {q : Addr} {mc ms : Nat} (hout : ∀ x ∈ c.exceptionTable.toList, covers x pc = false) (hlocks : meth.locks = false) (hcell : H[q]? = some ce) (hv : ce.vm = .none) (hcl : s.vm.findClass E = some ce.cls)
    (hx : ∀ t : State, t.heap = H → s.vm.Alike t.vm → XC E s t) (hf : ∀ z ∈ locs, free z.base) (hc : cells ≤ mc) (hs : slots ≤ ms) :
    vx_W p l e R s m args below meth c H locs cells slots (vx_MQ below Qc XC args s mc ms free) (F0 m pc ls rest) q := by
  intro T hT X
  obtain ⟨st1, hrun, hend, hW, hsm⟩ := X.leaveThrown q (g := F0 m pc ls rest) rfl rfl rfl hout hlocks
  have hcell9 : (T.setFrames (.throwing q :: below)).heap[q]? = some ce := by
    show T.heap[q]? = some ce
    rw [hT]; exact hcell
  exact ⟨_, st1, .threw q, hrun, hend, Or.inr ⟨q, rfl, E, ce, locs, hx _ hT hW.alike, hcell9, hv, hcl, hW, hsm.mono hc hs, hf⟩⟩
theorem vx_frame {U : State} {k n : Nat} (h : s.sameButNew ({ U with vm := s.vm } : State) locs k n) : s.heap.size ≤ U.heap.size ∧ ∀ q : Nat, q < s.heap.size → (∀ z ∈ locs, z.base ≠ q) → U.heap[q]? = s.heap[q]? := by
  obtain ⟨-, h2, -, -, -, h6⟩ := h
  refine ⟨h2, fun q hq hz => ?_⟩
  obtain ⟨c9, e1, e2, e3, e4⟩ := h6 q _ (Array.getElem?_eq_getElem hq)
  have hs : c9.slots = (s.heap[q]).slots := Array.ext_getElem? fun i => e4 i fun hm => hz _ hm rfl
  have h9 : c9 = s.heap[q] := by
    rw [hs] at e2
    exact e2
  have e5 : U.heap[q]? = some c9 := e1
  rw [e5, h9, Array.getElem?_eq_getElem hq]
/-- the words of a throw but the four that speak of the heap -/
def vx_no (w : Cond) : Bool := decide (w ≠ .isRef (.static Bundle.tN "UNASSIGNED_STACK" Bundle.steD)) && decide (w ≠ .isRef (.static Bundle.tN "SUPPRESSED_SENTINEL" Bundle.listD)) && decide (w ≠ .laysStatic Bundle.tN "UNASSIGNED_STACK" Bundle.steD) && decide (w ≠ .laysStatic Bundle.tN "SUPPRESSED_SENTINEL" Bundle.listD)
def vx_at0 (own : String) (ic : Nat) (X : String) (names : List String) : List Cond := (Bundle.ownAtoms0 own ic X names).filter vx_no
def vx_atS (own : String) (ic : Nat) (X : String) (names : List String) : List Cond := (Bundle.ownAtoms own ic X names).filter vx_no
/-- a word that the tables alone decide, or a good one -/
def vx_ot (w : Cond) : Bool := w.onTables || goodWord w
theorem vx_ot_at {args a' : Array Value} {s U : State} {w : Cond} (hW : s.WarmedH U.vm) (hvm : s.vm = U.vm) (hg : vx_ot w = true) (h : w.before args s = true) : w.before a' U = true := by
  simp only [vx_ot, Bool.or_eq_true] at hg
  rcases hg with hg | hg
  · exact va_tabs hg hvm h
  · exact word_at hW (good_of_word hg) h
/-- a list's words: the good ones out of the method's own list, the others by premises of their own -/
theorem vx_hat {args : Array Value} {s : State} {L B : List Cond} (h1 : ∀ w ∈ L.filter goodWord, w.before args s = true) (h2 : ∀ w ∈ L.filter (fun w => !goodWord w), w ∈ B) (h3 : ∀ w ∈ B, w.before args s = true) : ∀ w ∈ L, w.before args s = true := by
  intro w hw
  by_cases g : goodWord w = true
  · exact h1 w (List.mem_filter.mpr ⟨hw, g⟩)
  · refine h3 w (h2 w (List.mem_filter.mpr ⟨hw, ?_⟩))
    show (!goodWord w) = true
    cases hgw : goodWord w
    · rfl
    · exact absurd hgw g
theorem vx_c {args : Array Value} {s : State} {w : Cond} {B : List Cond} (h : w.before args s = true) (t : ∀ w ∈ B, w.before args s = true) : ∀ w' ∈ w :: B, w'.before args s = true := fun w' h' => (List.mem_cons.mp h').elim (fun e => by rw [e]; exact h) (t w')
theorem vx_n {args : Array Value} {s : State} : ∀ w ∈ ([] : List Cond), w.before args s = true := fun _ h => nomatch h
theorem vx_own {args : Array Value} {s : State} {L : List Cond} (h1 : ∀ w ∈ L.filter vx_no, w.before args s = true)
    (hU : (Cond.isRef (.static Bundle.tN "UNASSIGNED_STACK" Bundle.steD)).before args s = true) (hN : (Cond.isRef (.static Bundle.tN "SUPPRESSED_SENTINEL" Bundle.listD)).before args s = true)
    (lU : (Cond.laysStatic Bundle.tN "UNASSIGNED_STACK" Bundle.steD).before args s = true) (lN : (Cond.laysStatic Bundle.tN "SUPPRESSED_SENTINEL" Bundle.listD).before args s = true) : ∀ w ∈ L, w.before args s = true := by
  intro w hw
  by_cases e1 : w = .isRef (.static Bundle.tN "UNASSIGNED_STACK" Bundle.steD)
  · rw [e1]; exact hU
  · by_cases e2 : w = .isRef (.static Bundle.tN "SUPPRESSED_SENTINEL" Bundle.listD)
    · rw [e2]; exact hN
    · by_cases e3 : w = .laysStatic Bundle.tN "UNASSIGNED_STACK" Bundle.steD
      · rw [e3]; exact lU
      · by_cases e4 : w = .laysStatic Bundle.tN "SUPPRESSED_SENTINEL" Bundle.listD
        · rw [e4]; exact lN
        · exact h1 w (List.mem_filter.mpr ⟨hw, by unfold vx_no; rw [decide_eq_true e1, decide_eq_true e2, decide_eq_true e3, decide_eq_true e4]; rfl⟩)
/-- where a static field lies, its class's statics cell in H -/
def vx_L (C n d : String) (A : Nat → Prop) (U : State) (H : Heap) : Prop := ∃ (c : ClassId) (k : Class) (i : Nat) (f : Field) (a : Nat) (cell : Cell), U.vm.findClass C = some c ∧ U.fieldFound? C n d = some (c, k, i, f) ∧ f.isStatic = true ∧ k.statics = some a ∧ H[a]? = some cell ∧ cell.vm.isStatics = true ∧ cell.cls = c ∧ f.slot < cell.slots.size ∧ k.staticTypes[f.slot]? = some f.type ∧ ¬ A a
theorem vx_L.moved {C n d : String} {A : Nat → Prop} {u U : State} {H : Heap} (hvm : u.vm.Alike U.vm) (h : vx_L C n d A u H) : vx_L C n d A U H := by
  obtain ⟨c, k, i, f, a, cell, h1, h2, h3, h4, h5, h6, h7, h8, h9, h10⟩ := h
  obtain ⟨k', hi', he⟩ := State.fieldFound?_setVm hvm h2
  exact ⟨c, k', i, f, a, cell, by rw [hvm.findClass]; exact h1, hi', h3, by rw [he]; exact h4, h5, h6, h7, h8, by rw [he]; exact h9, h10⟩
theorem vx_L.kept {C n d : String} {A : Nat → Prop} {U : State} {H H1 : Heap} (h : vx_L C n d A U H) (hq : ∀ a : Nat, a < H.size → ¬ A a → H1[a]? = H[a]?) : vx_L C n d A U H1 := by
  obtain ⟨c, k, i, f, a, cell, h1, h2, h3, h4, h5, h6, h7, h8, h9, h10⟩ := h
  exact ⟨c, k, i, f, a, cell, h1, h2, h3, h4, by rw [hq a (Array.getElem?_eq_some_iff.mp h5).1 h10]; exact h5, h6, h7, h8, h9, h10⟩
theorem vx_L.narrow {C n d : String} {A B : Nat → Prop} {U : State} {H : Heap} (h : vx_L C n d A U H) (hAB : ∀ q, B q → A q) : vx_L C n d B U H := by
  obtain ⟨c, k, i, f, a, cell, h1, h2, h3, h4, h5, h6, h7, h8, h9, h10⟩ := h
  exact ⟨c, k, i, f, a, cell, h1, h2, h3, h4, h5, h6, h7, h8, h9, fun z => h10 (hAB _ z)⟩
theorem vx_L.word {C n d : String} {A : Nat → Prop} {s : State} {args : Array Value} (h : vx_L C n d A s s.heap) : (Cond.laysStatic C n d).before args s = true := by
  obtain ⟨c, k, i, f, a, cell, h1, h2, h3, h4, h5, h6, h7, h8, h9, -⟩ := h
  show (Cond.laysStatic C n d).holds args s none s [] = true
  exact Cond.laysStatic_of h1 h2 h3 h4 h5 h6 h7 h8 h9
/-- .. and what it holds: null or some reference -/
def vx_Zq (C n d : String) (A : Nat → Prop) (U : State) (H : Heap) : Prop := va_Zq C n d A U H ∧ vx_L C n d A U H
theorem vx_Zq.moved {C n d : String} {A : Nat → Prop} {u U : State} {H : Heap} (hvm : u.vm.Alike U.vm) (h : vx_Zq C n d A u H) : vx_Zq C n d A U H := ⟨va_Zq.moved hvm h.1, vx_L.moved hvm h.2⟩
theorem vx_Zq.kept {C n d : String} {A : Nat → Prop} {U : State} {H H1 : Heap} (h : vx_Zq C n d A U H) (hq : ∀ a : Nat, a < H.size → ¬ A a → H1[a]? = H[a]?) : vx_Zq C n d A U H1 := ⟨va_Zq.kept h.1 hq, vx_L.kept h.2 hq⟩
theorem vx_Zq.narrow {C n d : String} {A B : Nat → Prop} {U : State} {H : Heap} (h : vx_Zq C n d A U H) (hAB : ∀ q, B q → A q) : vx_Zq C n d B U H := ⟨va_Zq.narrow h.1 hAB, vx_L.narrow h.2 hAB⟩
theorem vx_Zqof {args : Array Value} {s : State} {C n d : String} {A : Nat → Prop} (hl : (Cond.laysStatic C n d).before args s = true) (hini : (Cond.initialized C).before args s = true) (h : (Cond.isRef (.static C n d)).before args s = true) (hA : ∀ a : Nat, a < s.heap.size → ¬ A a) : vx_Zq C n d A s s.heap := by
  refine ⟨va_Zqof hl hini h hA, ?_⟩
  obtain ⟨c, k, i, f, a, cell, h1, h2, h3, h4, h5, h6, h7, h8, h9⟩ := Cond.laysStatic_spec hl
  exact ⟨c, k, i, f, a, cell, h1, h2, h3, h4, h5, h6, h7, h8, h9, hA a (Array.getElem?_eq_some_iff.mp h5).1⟩
theorem vx_isRef {C n d : String} {v : Value} {A : Nat → Prop} {s : State} {args : Array Value} (h : va_Z C n d v A s s.heap) (hv : v.isRef = true) : (Cond.isRef (.static C n d)).before args s = true := by
  obtain ⟨cf, kf, fi, f, a, cell, h1, h2, h3, h4, h5, h6, h7, -⟩ := h
  have he : (Term.static C n d).eval args s none [] s = some v := by
    simp [Term.eval, State.fieldNamed?, h1, h2, h4, h5, h6, h7]
  simp only [Cond.before, Cond.holds, Cond.value, he]
  cases v <;> simp_all [Value.isRef]
theorem vx_isRefq {C n d : String} {A : Nat → Prop} {s : State} {args : Array Value} (h : va_Zq C n d A s s.heap) : (Cond.isRef (.static C n d)).before args s = true := by
  rcases h with h | ⟨t, h⟩
  · exact vx_isRef h rfl
  · exact vx_isRef h rfl
/-- the same frame, seen from here: as if the method were called anew in this heap -/
theorem vx_rebase {T : State} (X : Stand p l e R s m args below meth c T locs cells slots) {R' : Room} (hf : R'.frames ≤ R.frames) (hl : R'.locals ≤ R.locals) (hc : cells + R'.cells ≤ R.cells) (hs : slots + R'.slots ≤ R.slots) :
    Stand p l e R' ((T.setVm s.vm).setFrames (.invoking m args :: below)) m args below meth c T [] 0 0 := by
  have htop : (T.setVm s.vm).topJava?.isSome := X.here.top
  have hF : ((T.setVm s.vm).setFrames (.invoking m args :: below)).frames = .invoking m args :: below := State.frames_setFrames _ (State.cur_lt_of_top htop)
  obtain ⟨g₀, hg0⟩ := Option.isSome_iff_exists.mp htop
  obtain ⟨r, hr⟩ := State.topJava?_eq_some.mp hg0
  have hl9 : e.platform.stackLimits (T.setVm s.vm).me = e.platform.stackLimits s.me := X.limits
  have hb9 : (T.setVm s.vm).me.stackBytes = s.me.stackBytes := X.bytes
  refine ⟨X.admits, X.cas, X.clock, hF, ?_, X.hears, X.method, X.code, X.here, X.tail, X.warmed, ?_, ?_, ?_⟩
  · have h := X.room
    have hU : ((T.setVm s.vm).setFrames (.invoking m args :: below)).localsInUse = s.localsInUse := by
      rw [State.localsInUse_invoking hF (meth := meth) (c := c) X.method X.code, State.localsInUse_invoking X.frames X.method X.code]
    simp only [State.hasRoom, Bool.and_eq_true, decide_eq_true_eq] at h ⊢
    obtain ⟨⟨⟨⟨h1, h2, h3, h4, h5, h6⟩, h7⟩, h8⟩, h9⟩ := h
    rw [X.frames, List.length_cons] at h2 h3
    have q1 := X.heapSize
    have q2 := X.used
    simp only [hF, hU, List.length_cons, State.stackLimits_setFrames, State.stackBytes_setFrames, hl9, hb9]
    refine ⟨⟨⟨⟨by omega, by omega, by omega, by omega, by omega, h6⟩, ?_⟩, ?_⟩, X.book⟩
    · show T.heap.size + R'.cells ≤ e.platform.maxCells
      omega
    · show T.slotsUsed + R'.slots ≤ e.platform.maxSlots
      omega
  · rw [State.stackLimits_setFrames]; rfl
  · rw [State.stackBytes_setFrames]; rfl
  · refine ⟨?_, Nat.le_refl _, Nat.le_refl _, ?_, ?_, fun a c9 h9 => ⟨c9, h9, rfl, rfl, fun _ _ => rfl⟩⟩
    · obtain ⟨t, ht, -⟩ := State.frames_cons hr
      show T.setVm s.vm = { ((T.setVm s.vm).setFrames (.invoking m args :: below)).setFrames (T.setVm s.vm).frames with heap := T.heap, slotsUsed := T.slotsUsed }
      rw [State.setFrames_setFrames, State.setFrames_self ht]
      rfl
    · show T.slotsUsed = T.slotsUsed + ((T.heap.toList.drop T.heap.size).map (·.slots.size)).sum
      rw [List.drop_eq_nil_of_le (Nat.le_of_eq Array.length_toList)]
      rfl
    · show ((T.heap.toList.drop T.heap.size).map (·.slots.size)).sum ≤ 0
      rw [List.drop_eq_nil_of_le (Nat.le_of_eq Array.length_toList)]
      exact Nat.le_refl _
/-- 'throw new E()': new; dup; invokespecial; athrow -/
theorem vx_throw0 {cc : ByteArray} {pc : Nat} (hexec : p.tables.exec = Jvm.exec) (hb : c.code = cc) (hl : l.stackTraces = false) {own cls : String} {names : List String} {ik ic mc ms : Nat} {A : Nat → Prop}
    (hown : s.vm.findClass own = some m.cls) (hcls : Bundle.fit cls = true) (hnames : ∀ n ∈ names, Bundle.fit n = true)
    (hk : (Cond.classLink own ik cls).before args s = true) (hini : (Cond.initialized cls).before args s = true) (hat : ∀ w ∈ vx_at0 own ic cls names, w.before args s = true)
    (hgood : ∀ w ∈ Cond.classLink own ik cls :: Cond.initialized cls :: vx_at0 own ic cls names, vx_ot w = true)
    (hU : vx_Zq Bundle.tN "UNASSIGNED_STACK" Bundle.steD A s s.heap) (hN : vx_Zq Bundle.tN "SUPPRESSED_SENTINEL" Bundle.listD A s s.heap) (hS : va_S A s.heap H locs) (hsize : ls.size = c.maxLocals)
    (d0 : decode cc pc = .ok (.new ik, 3)) (d3 : decode cc (pc + 3) = .ok (.dup, 1)) (d4 : decode cc (pc + 4) = .ok (.invokespecial ic, 3)) (d7 : decode cc (pc + 7) = .ok (.athrow, 1))
    (hout : ∀ x ∈ c.exceptionTable.toList, covers x (pc + 7) = false)
    (hRframes : names.length + 3 < R.frames) (hRlocals : (rest.map fun v => v.category).sum + (13 * (names.length + 1) + 42) ≤ R.locals) (hRcells : cells + 1 ≤ R.cells) (hRslots : slots + 6 ≤ R.slots) (hlocks : meth.locks = false)
    (hx : ∀ t : State, s.vm.Alike t.vm → H.size ≤ t.heap.size → (∀ q : Nat, q < H.size → t.heap[q]? = H[q]?) → XC cls s t)
    (hf : ∀ z ∈ locs, free z.base) (hc : cells + 1 ≤ mc) (hs : slots + 6 ≤ ms) :
    W p l e R s m args below meth c H locs cells slots (vx_MQ below Qc XC args s mc ms free) (F0 m pc ls rest) := by
  intro T hT X
  have htr : e.platform.stackTraces = false := (show e.platform.stackTraces = l.stackTraces by rw [X.admits.platform]).trans hl
  have Y := vx_rebase X (R' := { frames := R.frames, locals := R.locals, cells := 1, slots := 6 }) (Nat.le_refl _) (Nat.le_refl _) hRcells hRslots
  obtain ⟨s', hA⟩ : ∃ z, z = (T.setVm s.vm).setFrames (.invoking m args :: below) := ⟨_, rfl⟩
  rw [← hA] at Y
  have hvm : s'.vm = s.vm := by rw [hA]; rfl
  have hhp : s'.heap = H := by rw [hA]; exact hT
  have hW0 : s.WarmedH s'.vm := by rw [hvm]; exact State.WarmedH.refl s
  have hat' : ∀ w ∈ vx_at0 own ic cls names, w.before args s' = true := fun w hw => vx_ot_at hW0 hvm.symm (hgood w (List.mem_cons_of_mem _ (List.mem_cons_of_mem _ hw))) (hat w hw)
  have hk' : (Cond.classLink own ik cls).before args s' = true := vx_ot_at hW0 hvm.symm (hgood _ List.mem_cons_self) hk
  have hini' : (Cond.initialized cls).before args s' = true := vx_ot_at hW0 hvm.symm (hgood _ (List.mem_cons_of_mem _ List.mem_cons_self)) hini
  have hU' : vx_Zq Bundle.tN "UNASSIGNED_STACK" Bundle.steD A s' s'.heap := by rw [hhp]; exact vx_Zq.moved hW0.alike (hU.kept hS.2.1)
  have hN' : vx_Zq Bundle.tN "SUPPRESSED_SENTINEL" Bundle.listD A s' s'.heap := by rw [hhp]; exact vx_Zq.moved hW0.alike (hN.kept hS.2.1)
  have h : ∀ w ∈ Bundle.ownAtoms0 own ic cls names, w.before args s' = true := vx_own hat' (vx_isRefq hU'.1) (vx_isRefq hN'.1) hU'.2.word hN'.2.word
  have hown' : s'.vm.findClass own = some m.cls := by rw [hvm]; exact hown
  have hins : (Cond.instantiable cls 6).before args s' = true := h _ (by simp [Bundle.ownAtoms0])
  obtain ⟨vm₁, cX, kX, hfX, hkX, -, -, X₁, st1⟩ := Y.newCold hexec (own := own) (C := cls) (index := ik) (n := 6) hown' hk' hins hini'
    (g := F0 m pc ls rest) rfl (by rw [hb]; exact d0) (Nat.le_refl _) (Nat.le_refl _)
  generalize hT1 : (T.setVm vm₁).pushCell { cls := cX, slots := kX.instanceTypes.map defaultValue, vm := .none } = T1 at X₁ st1
  have hcat : (Value.ref T.heap.size).category = 1 := rfl
  have hcellA : T1.heap[T.heap.size]? = some (freshCell cX kX) := by rw [← hT1]; exact State.heap_pushCell_size _ _
  have d3' : decode c.code (pc + 3) = .ok (.dup, 1) := by rw [hb]; exact d3
  obtain ⟨U, hsteps, hrun, hend, hW, hsame, ce, hce, hO⟩ := X₁.ctorThrow0 hexec htr (own := own) (cls := cls) (names := names) (ic := ic) hown' hcls hnames h (fun x hx => nomatch hx) hfX hkX hcellA (by rw [hhp, hT]; exact Nat.le_refl _)
    (g := { method := m, pc := pc + 4, locals := ls, stack := .ref T.heap.size :: .ref T.heap.size :: rest, locked := none }) rfl hsize rfl rfl (rest := rest) rfl
    (by rw [hb]; exact d4) (by rw [hb]; exact d7) hout hRframes (by simp only [List.map_cons, List.sum_cons, hcat]; omega) hlocks
  obtain ⟨f1, f2⟩ := vx_frame hsame
  rw [hhp] at f1 f2
  have hWs : s.WarmedH U.vm := State.WarmedH.trans hW0 hW
  have hcl : s.vm.findClass cls = some ce.cls := by
    have h9 := hO.cls
    rw [hvm] at h9
    exact h9
  have hall : s.sameButNew ({ U with vm := s.vm } : State) locs mc ms := by
    subst hA
    obtain ⟨e1, e2⟩ := hsame
    rw [State.setFrames_setFrames] at e1
    have h2 : (T.setVm s.vm).sameButNew ({ U with vm := s.vm } : State) [] (0 + 1) (0 + 6) := ⟨e1, e2⟩
    have h3 := X.same.trans h2
    rw [List.append_nil] at h3
    exact h3.mono hc hs
  refine ⟨U, ?_, .threw T.heap.size, hrun, hend, Or.inr ⟨T.heap.size, rfl, cls, ce, locs, hx U hWs.alike f1 (fun q hq => f2 q hq (fun z hz => nomatch hz)), hce, hO.vm, hcl, hWs, hall, hf⟩⟩
  refine st1 _ ?_
  show Steps p.tables e below (T1.setTop { method := m, pc := pc + 3, locals := ls, stack := .ref T.heap.size :: rest, locked := none }) _
  jvm_step X₁.here [X₁.here.top, hexec, d3', Value.category]
  exact hsteps
/-- 'throw new E("text")': new; dup; ldc; invokespecial; athrow -/
theorem vx_throwS {cc : ByteArray} {pc : Nat} (hexec : p.tables.exec = Jvm.exec) (hb : c.code = cc) (hl : l.stackTraces = false) {own cls text : String} {names : List String} {ik is ic mc ms sa : Nat} {A : Nat → Prop}
    (hown : s.vm.findClass own = some m.cls) (hcls : Bundle.fit cls = true) (hnames : ∀ n ∈ names, Bundle.fit n = true)
    (hk : (Cond.classLink own ik cls).before args s = true) (hini : (Cond.initialized cls).before args s = true) (hstr : vk_R own is text sa s) (hat : ∀ w ∈ vx_atS own ic cls names, w.before args s = true)
    (hgood : ∀ w ∈ Cond.classLink own ik cls :: Cond.initialized cls :: vx_atS own ic cls names, vx_ot w = true)
    (hU : vx_Zq Bundle.tN "UNASSIGNED_STACK" Bundle.steD A s s.heap) (hN : vx_Zq Bundle.tN "SUPPRESSED_SENTINEL" Bundle.listD A s s.heap) (hS : va_S A s.heap H locs) (hsize : ls.size = c.maxLocals)
    (d0 : decode cc pc = .ok (.new ik, 3)) (d3 : decode cc (pc + 3) = .ok (.dup, 1)) (d4 : decode cc (pc + 4) = .ok (.ldc is, 2)) (d6 : decode cc (pc + 6) = .ok (.invokespecial ic, 3)) (d9 : decode cc (pc + 9) = .ok (.athrow, 1))
    (hout : ∀ x ∈ c.exceptionTable.toList, covers x (pc + 9) = false)
    (hRframes : names.length + 3 < R.frames) (hRlocals : (rest.map fun v => v.category).sum + (13 * (names.length + 1) + 43) ≤ R.locals) (hRcells : cells + 1 ≤ R.cells) (hRslots : slots + 6 ≤ R.slots) (hlocks : meth.locks = false)
    (hx : ∀ t : State, s.vm.Alike t.vm → H.size ≤ t.heap.size → (∀ q : Nat, q < H.size → t.heap[q]? = H[q]?) → XC cls s t)
    (hf : ∀ z ∈ locs, free z.base) (hc : cells + 1 ≤ mc) (hs : slots + 6 ≤ ms) :
    W p l e R s m args below meth c H locs cells slots (vx_MQ below Qc XC args s mc ms free) (F0 m pc ls rest) := by
  intro T hT X
  have htr : e.platform.stackTraces = false := (show e.platform.stackTraces = l.stackTraces by rw [X.admits.platform]).trans hl
  have Y := vx_rebase X (R' := { frames := R.frames, locals := R.locals, cells := 1, slots := 6 }) (Nat.le_refl _) (Nat.le_refl _) hRcells hRslots
  obtain ⟨s', hA⟩ : ∃ z, z = (T.setVm s.vm).setFrames (.invoking m args :: below) := ⟨_, rfl⟩
  rw [← hA] at Y
  have hvm : s'.vm = s.vm := by rw [hA]; rfl
  have hhp : s'.heap = H := by rw [hA]; exact hT
  have hW0 : s.WarmedH s'.vm := by rw [hvm]; exact State.WarmedH.refl s
  have hat' : ∀ w ∈ vx_atS own ic cls names, w.before args s' = true := fun w hw => vx_ot_at hW0 hvm.symm (hgood w (List.mem_cons_of_mem _ (List.mem_cons_of_mem _ hw))) (hat w hw)
  have hk' : (Cond.classLink own ik cls).before args s' = true := vx_ot_at hW0 hvm.symm (hgood _ List.mem_cons_self) hk
  have hini' : (Cond.initialized cls).before args s' = true := vx_ot_at hW0 hvm.symm (hgood _ (List.mem_cons_of_mem _ List.mem_cons_self)) hini
  have hU' : vx_Zq Bundle.tN "UNASSIGNED_STACK" Bundle.steD A s' s'.heap := by rw [hhp]; exact vx_Zq.moved hW0.alike (hU.kept hS.2.1)
  have hN' : vx_Zq Bundle.tN "SUPPRESSED_SENTINEL" Bundle.listD A s' s'.heap := by rw [hhp]; exact vx_Zq.moved hW0.alike (hN.kept hS.2.1)
  have h : ∀ w ∈ Bundle.ownAtoms own ic cls names, w.before args s' = true := vx_own hat' (vx_isRefq hU'.1) (vx_isRefq hN'.1) hU'.2.word hN'.2.word
  have hown' : s'.vm.findClass own = some m.cls := by rw [hvm]; exact hown
  have hins : (Cond.instantiable cls 6).before args s' = true := h _ (by simp [Bundle.ownAtoms])
  obtain ⟨vm₁, cX, kX, hfX, hkX, -, -, X₁, st1⟩ := Y.newCold hexec (own := own) (C := cls) (index := ik) (n := 6) hown' hk' hins hini'
    (g := F0 m pc ls rest) rfl (by rw [hb]; exact d0) (Nat.le_refl _) (Nat.le_refl _)
  generalize hT1 : (T.setVm vm₁).pushCell { cls := cX, slots := kX.instanceTypes.map defaultValue, vm := .none } = T1 at X₁ st1
  have hcat : (Value.ref T.heap.size).category = 1 := rfl
  have hcellA : T1.heap[T.heap.size]? = some (freshCell cX kX) := by rw [← hT1]; exact State.heap_pushCell_size _ _
  have d3' : decode c.code (pc + 3) = .ok (.dup, 1) := by rw [hb]; exact d3
  have d4' : decode c.code (pc + 4) = .ok (.ldc is, 2) := by rw [hb]; exact d4
  have hstr' : vk_R own is text sa s' := vk_R.warm hW0 hstr
  obtain ⟨U, hsteps, hrun, hend, hW, hsame, ce, hce, hO⟩ := X₁.ctorThrowS hexec htr (own := own) (cls := cls) (names := names) (ic := ic) hown' hcls hnames h (fun x hx => nomatch hx) hfX hkX hcellA (by rw [hhp, hT]; exact Nat.le_refl _) (msg := .ref sa) rfl
    (g := { method := m, pc := pc + 6, locals := ls, stack := .ref sa :: .ref T.heap.size :: .ref T.heap.size :: rest, locked := none }) rfl hsize rfl rfl (rest := rest) rfl
    (by rw [hb]; exact d6) (by rw [hb]; exact d9) hout hRframes (by simp only [List.map_cons, List.sum_cons, hcat]; omega) hlocks
  obtain ⟨f1, f2⟩ := vx_frame hsame
  rw [hhp] at f1 f2
  have hWs : s.WarmedH U.vm := State.WarmedH.trans hW0 hW
  have hcl : s.vm.findClass cls = some ce.cls := by
    have h9 := hO.cls
    rw [hvm] at h9
    exact h9
  have hall : s.sameButNew ({ U with vm := s.vm } : State) locs mc ms := by
    subst hA
    obtain ⟨e1, e2⟩ := hsame
    rw [State.setFrames_setFrames] at e1
    have h2 : (T.setVm s.vm).sameButNew ({ U with vm := s.vm } : State) [] (0 + 1) (0 + 6) := ⟨e1, e2⟩
    have h3 := X.same.trans h2
    rw [List.append_nil] at h3
    exact h3.mono hc hs
  refine ⟨U, ?_, .threw T.heap.size, hrun, hend, Or.inr ⟨T.heap.size, rfl, cls, ce, locs, hx U hWs.alike f1 (fun q hq => f2 q hq (fun z hz => nomatch hz)), hce, hO.vm, hcl, hWs, hall, hf⟩⟩
  refine st1 _ ?_
  show Steps p.tables e below (T1.setTop { method := m, pc := pc + 3, locals := ls, stack := .ref T.heap.size :: rest, locked := none }) _
  jvm_step X₁.here [X₁.here.top, hexec, d3', Value.category]
  exact X₁.ldcString hexec (own := own) (text := text) (index := is) (a := sa) hown' hstr'.1 hstr'.2
    (g := { method := m, pc := pc + 4, locals := ls, stack := .ref T.heap.size :: .ref T.heap.size :: rest, locked := none }) rfl d4' _ hsteps
/-- 'throw new E("text")', the text by a wide index -/
theorem vx_throwSW {cc : ByteArray} {pc : Nat} (hexec : p.tables.exec = Jvm.exec) (hb : c.code = cc) (hl : l.stackTraces = false) {own cls text : String} {names : List String} {ik is ic mc ms sa : Nat} {A : Nat → Prop}
    (hown : s.vm.findClass own = some m.cls) (hcls : Bundle.fit cls = true) (hnames : ∀ n ∈ names, Bundle.fit n = true)
    (hk : (Cond.classLink own ik cls).before args s = true) (hini : (Cond.initialized cls).before args s = true) (hstr : vk_R own is text sa s) (hat : ∀ w ∈ vx_atS own ic cls names, w.before args s = true)
    (hgood : ∀ w ∈ Cond.classLink own ik cls :: Cond.initialized cls :: vx_atS own ic cls names, vx_ot w = true)
    (hU : vx_Zq Bundle.tN "UNASSIGNED_STACK" Bundle.steD A s s.heap) (hN : vx_Zq Bundle.tN "SUPPRESSED_SENTINEL" Bundle.listD A s s.heap) (hS : va_S A s.heap H locs) (hsize : ls.size = c.maxLocals)
    (d0 : decode cc pc = .ok (.new ik, 3)) (d3 : decode cc (pc + 3) = .ok (.dup, 1)) (d4 : decode cc (pc + 4) = .ok (.ldc_w is, 3)) (d7 : decode cc (pc + 7) = .ok (.invokespecial ic, 3)) (d10 : decode cc (pc + 10) = .ok (.athrow, 1))
    (hout : ∀ x ∈ c.exceptionTable.toList, covers x (pc + 10) = false)
    (hRframes : names.length + 3 < R.frames) (hRlocals : (rest.map fun v => v.category).sum + (13 * (names.length + 1) + 43) ≤ R.locals) (hRcells : cells + 1 ≤ R.cells) (hRslots : slots + 6 ≤ R.slots) (hlocks : meth.locks = false)
    (hx : ∀ t : State, s.vm.Alike t.vm → H.size ≤ t.heap.size → (∀ q : Nat, q < H.size → t.heap[q]? = H[q]?) → XC cls s t)
    (hf : ∀ z ∈ locs, free z.base) (hc : cells + 1 ≤ mc) (hs : slots + 6 ≤ ms) :
    W p l e R s m args below meth c H locs cells slots (vx_MQ below Qc XC args s mc ms free) (F0 m pc ls rest) := by
  intro T hT X
  have htr : e.platform.stackTraces = false := (show e.platform.stackTraces = l.stackTraces by rw [X.admits.platform]).trans hl
  have Y := vx_rebase X (R' := { frames := R.frames, locals := R.locals, cells := 1, slots := 6 }) (Nat.le_refl _) (Nat.le_refl _) hRcells hRslots
  obtain ⟨s', hA⟩ : ∃ z, z = (T.setVm s.vm).setFrames (.invoking m args :: below) := ⟨_, rfl⟩
  rw [← hA] at Y
  have hvm : s'.vm = s.vm := by rw [hA]; rfl
  have hhp : s'.heap = H := by rw [hA]; exact hT
  have hW0 : s.WarmedH s'.vm := by rw [hvm]; exact State.WarmedH.refl s
  have hat' : ∀ w ∈ vx_atS own ic cls names, w.before args s' = true := fun w hw => vx_ot_at hW0 hvm.symm (hgood w (List.mem_cons_of_mem _ (List.mem_cons_of_mem _ hw))) (hat w hw)
  have hk' : (Cond.classLink own ik cls).before args s' = true := vx_ot_at hW0 hvm.symm (hgood _ List.mem_cons_self) hk
  have hini' : (Cond.initialized cls).before args s' = true := vx_ot_at hW0 hvm.symm (hgood _ (List.mem_cons_of_mem _ List.mem_cons_self)) hini
  have hU' : vx_Zq Bundle.tN "UNASSIGNED_STACK" Bundle.steD A s' s'.heap := by rw [hhp]; exact vx_Zq.moved hW0.alike (hU.kept hS.2.1)
  have hN' : vx_Zq Bundle.tN "SUPPRESSED_SENTINEL" Bundle.listD A s' s'.heap := by rw [hhp]; exact vx_Zq.moved hW0.alike (hN.kept hS.2.1)
  have h : ∀ w ∈ Bundle.ownAtoms own ic cls names, w.before args s' = true := vx_own hat' (vx_isRefq hU'.1) (vx_isRefq hN'.1) hU'.2.word hN'.2.word
  have hown' : s'.vm.findClass own = some m.cls := by rw [hvm]; exact hown
  have hins : (Cond.instantiable cls 6).before args s' = true := h _ (by simp [Bundle.ownAtoms])
  obtain ⟨vm₁, cX, kX, hfX, hkX, -, -, X₁, st1⟩ := Y.newCold hexec (own := own) (C := cls) (index := ik) (n := 6) hown' hk' hins hini'
    (g := F0 m pc ls rest) rfl (by rw [hb]; exact d0) (Nat.le_refl _) (Nat.le_refl _)
  generalize hT1 : (T.setVm vm₁).pushCell { cls := cX, slots := kX.instanceTypes.map defaultValue, vm := .none } = T1 at X₁ st1
  have hcat : (Value.ref T.heap.size).category = 1 := rfl
  have hcellA : T1.heap[T.heap.size]? = some (freshCell cX kX) := by rw [← hT1]; exact State.heap_pushCell_size _ _
  have d3' : decode c.code (pc + 3) = .ok (.dup, 1) := by rw [hb]; exact d3
  have d4' : decode c.code (pc + 4) = .ok (.ldc_w is, 3) := by rw [hb]; exact d4
  have hstr' : vk_R own is text sa s' := vk_R.warm hW0 hstr
  obtain ⟨U, hsteps, hrun, hend, hW, hsame, ce, hce, hO⟩ := X₁.ctorThrowS hexec htr (own := own) (cls := cls) (names := names) (ic := ic) hown' hcls hnames h (fun x hx => nomatch hx) hfX hkX hcellA (by rw [hhp, hT]; exact Nat.le_refl _) (msg := .ref sa) rfl
    (g := { method := m, pc := pc + 7, locals := ls, stack := .ref sa :: .ref T.heap.size :: .ref T.heap.size :: rest, locked := none }) rfl hsize rfl rfl (rest := rest) rfl
    (by rw [hb]; exact d7) (by rw [hb]; exact d10) hout hRframes (by simp only [List.map_cons, List.sum_cons, hcat]; omega) hlocks
  obtain ⟨f1, f2⟩ := vx_frame hsame
  rw [hhp] at f1 f2
  have hWs : s.WarmedH U.vm := State.WarmedH.trans hW0 hW
  have hcl : s.vm.findClass cls = some ce.cls := by
    have h9 := hO.cls
    rw [hvm] at h9
    exact h9
  have hall : s.sameButNew ({ U with vm := s.vm } : State) locs mc ms := by
    subst hA
    obtain ⟨e1, e2⟩ := hsame
    rw [State.setFrames_setFrames] at e1
    have h2 : (T.setVm s.vm).sameButNew ({ U with vm := s.vm } : State) [] (0 + 1) (0 + 6) := ⟨e1, e2⟩
    have h3 := X.same.trans h2
    rw [List.append_nil] at h3
    exact h3.mono hc hs
  refine ⟨U, ?_, .threw T.heap.size, hrun, hend, Or.inr ⟨T.heap.size, rfl, cls, ce, locs, hx U hWs.alike f1 (fun q hq => f2 q hq (fun z hz => nomatch hz)), hce, hO.vm, hcl, hWs, hall, hf⟩⟩
  refine st1 _ ?_
  show Steps p.tables e below (T1.setTop { method := m, pc := pc + 3, locals := ls, stack := .ref T.heap.size :: rest, locked := none }) _
  jvm_step X₁.here [X₁.here.top, hexec, d3', Value.category]
  exact X₁.ldcStringW hexec (own := own) (text := text) (index := is) (a := sa) hown' hstr'.1 hstr'.2
    (g := { method := m, pc := pc + 4, locals := ls, stack := .ref T.heap.size :: .ref T.heap.size :: rest, locked := none }) rfl d4' _ hsteps
end Ends
section Bodies
variable {l : Launch}
theorem vx_ofW {y : MethodName} {ws ws' : List Cond} {rm : Room} {Pc : Array Value → State → Prop} {Qc : Array Value → State → Outcome → State → Prop} {XC : String → State → State → Prop} {mc ms : Nat} {free : Addr → Prop} {cc : ByteArray} {maxL : Nat} {ret : Option FieldType}
    (hy : plainName y.cls = true) (hw : ws = Cond.code y cc maxL ret :: ws')
    (body : ∀ p e s m args below meth c s₁, BodyLoose p l y (headSpec ws rm) cc maxL ret e s m args below meth c s₁ → c.maxLocals = maxL → (∀ x ∈ c.exceptionTable.toList, False) → Pc args s →
      W p l e (headSpec ws rm).room s m args below meth c s.heap [] 0 0 (vx_MQ below Qc XC args s mc ms free) (entryFrame m args maxL)) : vx_Met l y ws rm Pc Qc XC mc ms free := by
  refine MetFree.of_bodyS (code := cc) (maxLocals := maxL) (ret := ret) hy ?_ ?_
  · intro args s m h hn
    obtain ⟨meth, c, h1, h2, h3, h4, h5, h6, -, -⟩ := Cond.code_spec hn (atoms_spec (ws := ws) h _ (by rw [hw]; exact List.mem_cons_self))
    exact ⟨meth, c, h1, h2, h3, h4, h5, h6⟩
  · intro p e s m args below meth c s₁ B hml hP _
    have hh0 : s₁.heap = s.heap := by rw [B.state]; rfl
    have ht : ∀ x ∈ c.exceptionTable.toList, False := by
      obtain ⟨meth9, c9, h1, h2, -, -, -, -, h7, -⟩ := Cond.code_spec B.named (atoms_spec (ws := ws) B.pre _ (by rw [hw]; exact List.mem_cons_self))
      cases Option.some.inj (h1.symm.trans B.method)
      cases Option.some.inj (h2.symm.trans (Stand.of_body B).code)
      intro x hx
      rw [Array.isEmpty_iff.mp h7] at hx
      cases hx
    obtain ⟨t, a1, o, b1, b2, b3⟩ := body p e s m args below meth c s₁ B hml ht hP s₁ hh0 (Stand.of_body B)
    exact ⟨t, o, a1, b1, b2, b3⟩
/-- the table of a body with handlers -/
theorem vx_table {p : Program} {x y : MethodName} {S : Spec} {cc bytes : ByteArray} {maxL maxL' : Nat} {ret ret' : Option FieldType} {e : Env} {s s₁ : State} {m : MethodId} {args : Array Value} {below : List Frame} {meth : Method} {c : Code} {hh : List (Nat × Nat × Nat × Nat)}
    (B : BodyLoose p l y S cc maxL ret e s m args below meth c s₁) (h : (Cond.codeWith y bytes maxL' ret' hh).before args s = true) : c.exceptionTable.toList = tableOf hh := by
  obtain ⟨m9, meth9, c9, hn9, h1, h2, -, -, h6, -⟩ := Cond.codeWith_spec h
  cases Option.some.inj (hn9.symm.trans B.named)
  cases Option.some.inj (h1.symm.trans B.method)
  cases Option.some.inj (h2.symm.trans (Stand.of_body B).code)
  rw [← h6, table_eq]
end Bodies
end VXA
/-! ===== END ===== -/
/-! ===== BEGIN a static call of a method with an exception table ===== -/
section VXS
variable {p : Program} {l : Launch} {e : Env} {R : Room} {s : State} {m : MethodId} {args : Array Value} {below : List Frame} {meth : Method} {c : Code} {T : State} {H : Heap} {locs : List Loc} {cells slots : Nat}
abbrev vx_CSW (R : Room) (s : State) (args : Array Value) (own : String) (index : Nat) (y : MethodName) (bytes : ByteArray) (maxL : Nat) (ret : Option FieldType) (hh : List (Nat × Nat × Nat × Nat)) (ws : List Cond) (rm : Room) (mc ms n : Nat) : Prop :=
  (rm.cells = mc ∧ rm.slots = ms ∧ rm.frames + 1 ≤ R.frames ∧ 8 + (maxL + 11) + rm.locals ≤ R.locals ∧ (∀ w ∈ ws, ∀ (a' : Array Value) (U : State), s.WarmedH U.vm → w.before a' U = true) ∧ Cond.codeWith y bytes maxL ret hh ∈ ws) ∧
  (Cond.codeWith y bytes maxL ret hh).before args s = true ∧ (Cond.initialized y.cls).before args s = true ∧ (y.cls ≠ "java/lang/invoke/MethodHandle" ∧ y.cls ≠ "java/lang/invoke/VarHandle") ∧
  (∀ sig, parseMethodDescriptor y.desc = some sig → n = sig.parameters.length) ∧ (Cond.methodLink own index y).before args s = true ∧ (Cond.static y).before args s = true
theorem vx_cwSW {own : String} {index maxL mc ms : Nat} {y : MethodName} {bytes : ByteArray} {ret : Option FieldType} {hh : List (Nat × Nat × Nat × Nat)} {Ts ws ws' : List Cond} {rm : Room} (n : Nat) (ht : ∀ w ∈ Ts, w.before args s = true) (hT : GoodIn Ts (va_wsS own index y ws)) (hw : ws = Cond.codeWith y bytes maxL ret hh :: ws') (hrc : rm.cells = mc) (hrs : rm.slots = ms)
    (hd : y.cls ≠ "java/lang/invoke/MethodHandle" ∧ y.cls ≠ "java/lang/invoke/VarHandle" ∧ (parseMethodDescriptor y.desc).map (fun d => d.parameters.length) = some n) (hR : rm.frames + 1 ≤ R.frames ∧ 8 + (maxL + 11) + rm.locals ≤ R.locals) :
    vx_CSW R s args own index y bytes maxL ret hh ws rm mc ms n := by
  have ok : ∀ w ∈ va_wsS own index y ws, w.before args s = true := fun w h => ht w (hT w h).1
  have hG : GoodIn Ts ws := fun w h => hT w (by unfold va_wsS; exact List.mem_append_right _ h)
  have hc : Cond.codeWith y bytes maxL ret hh ∈ ws := by rw [hw]; exact List.mem_cons_self
  refine ⟨⟨hrc, hrs, hR.1, hR.2, pay_in ht hG, hc⟩, ht _ (hG _ hc).1, ok _ (by simp [va_wsS]), ⟨hd.1, hd.2.1⟩, fun sig h => ?_, ok _ (by simp [va_wsS]), ok _ (by simp [va_wsS])⟩
  have h2 := hd.2.2
  rw [h] at h2
  exact (Option.some.inj h2).symm
theorem vx_callSW (X : Stand p l e R s m args below meth c T locs cells slots) (hexec : p.tables.exec = Jvm.exec) {own : String} {index : Nat} {y : MethodName} {bytes : ByteArray} {maxL : Nat} {ret : Option FieldType} {hh : List (Nat × Nat × Nat × Nat)}
    (hown : s.vm.findClass own = some m.cls) (hlink : (Cond.methodLink own index y).before args s = true) (hstat : (Cond.static y).before args s = true) (hinit : (Cond.initialized y.cls).before args s = true)
    (hcode : (Cond.codeWith y bytes maxL ret hh).before args s = true) (hy : y.cls ≠ "java/lang/invoke/MethodHandle" ∧ y.cls ≠ "java/lang/invoke/VarHandle")
    {W9 : Nat} {Pre : Pt → Array Value → Prop} {Post : Pt → Array Value → Option Value → Pt → Prop} (hK : Back l R p e below s args y 3 W9 Pre Post)
    {g : JFrame} (hg : g.method = m) (hsize : g.locals.size = c.maxLocals) {argsL rest : List Value} (hlen : ∀ sig, parseMethodDescriptor y.desc = some sig → argsL.length = sig.parameters.length)
    (hstack : g.stack = argsL.reverse ++ rest) (hW : 2 * g.monitorRoom + (rest.map fun v => v.category).sum ≤ W9) (hdg : decode c.code g.pc = .ok (.invokestatic index, 3))
    (hpre : ∀ vm₁, s.WarmedH vm₁ → Pre ⟨T.setVm vm₁, locs, cells, slots⟩ argsL.toArray) :
    ∃ (v : Option Value) (vm₁ : Vm) (B : Pt), s.WarmedH vm₁ ∧ Stand p l e R s m args below meth c B.U B.locs B.cells B.slots ∧ Post ⟨T.setVm vm₁, locs, cells, slots⟩ argsL.toArray v B ∧
      ∀ target, Steps p.tables e below (B.U.setTop { g with pc := g.pc + 3, stack := v.toList ++ rest }) target → Steps p.tables e below (T.setTop g) target := by
  obtain ⟨mk, methM, cM, hnamed, hmethM, -, -, -, -, -, -, hsigM⟩ := Cond.codeWith_spec hcode
  have hstatic : methM.isStatic = true := Cond.static_spec hnamed hmethM hstat
  obtain ⟨kP, hkP, -⟩ := className_of_methodNamed hnamed
  have hinitP : kP.init = .initialized := Cond.initialized_spec (findClass_of_methodNamed hnamed) hkP hinit
  obtain ⟨vm₁, X₁, hstep₁⟩ := X.invokestatic hexec hown hlink hnamed hmethM hstatic hkP hinitP hy (g := g) hg (argsL := argsL) (rest := rest) (hlen _ hsigM) hstack hdg
  obtain ⟨v, B, X', hpost, hsteps⟩ := hK m meth c ⟨T.setVm vm₁, locs, cells, slots⟩ { g with stack := rest } (.invokestatic index) mk argsL.toArray X₁ hg hsize hdg hW (X₁.named hnamed) (hpre vm₁ X₁.warmed)
  exact ⟨v, vm₁, B, X₁.warmed, X', hpost, fun target h => hstep₁ _ fun acts => by rw [doInvoke_state]; exact hsteps.trans h⟩
theorem vx_runSW {y : MethodName} {bytes cc : ByteArray} {maxL nL mc ms n index : Nat} {ret : Option FieldType} {hh : List (Nat × Nat × Nat × Nat)} {ws : List Cond} {rm : Room} {Pc : Array Value → State → Prop} {Qc : Array Value → State → Outcome → State → Prop} {free : Addr → Prop} {Ts : List Cond} {own : String} {As rest : List Value} {g : JFrame}
    (S : CallFix p m c cc nL s args Ts own) (hM : Met l y ws rm Pc Qc mc ms free) (cw : vx_CSW R s args own index y bytes maxL ret hh ws rm mc ms n) (hp : PreS s H Pc As)
    (hg : g.method = m) (hn : As.length = n) (hsize : g.locals.size = nL) (hstack : g.stack = As.reverse ++ rest) (hW : 2 * g.monitorRoom + (rest.map fun v => v.category).sum ≤ 8) (hdg : decode cc g.pc = .ok (.invokestatic index, 3)) (hf : cells + mc ≤ R.cells ∧ slots + ms ≤ R.slots) :
    va_Run p l e R s m args below meth c H locs cells slots mc ms g rest (Qc As.toArray) (free) := by
  obtain ⟨⟨hrc, hrs, hfr, hlo, hws, hcw⟩, hcode, hini, hy, hlen, hl, hstt⟩ := cw
  have hK : Back l R p e below s args y 3 8 (PreOf R mc ms Pc) (PostOf Qc mc ms free) := va_backW (hh := hh) (bytes := bytes) (maxL := maxL) (ret := ret) hM hp.1 hrc hrs hfr hlo hws hcw (fun a' U hW => word_at hW (Or.inl (by first | rfl | simp [Cond.onTables, Cond.keeps, Cond.steady])) hini)
  obtain ⟨hx, hb, hml, ho, -⟩ := S
  intro T hT X
  obtain ⟨v, vm₁, ⟨U', l2, c2, s2⟩, hW₁, X', ⟨g', mk, t, L, e1, e2, hq, h1, hL, h2, h3⟩, st⟩ := vx_callSW X hx (hh := hh) (bytes := bytes) (maxL := maxL) (ret := ret) ho hl hstt hini hcode hy hK hg (hsize.trans hml.symm) (argsL := As) (rest := rest) (fun sig h => hn.trans (hlen sig h)) hstack hW (by rw [hb]; exact hdg)
    (fun vm₁ hW₁ => ⟨hf.1, hf.2, hp.2 (T.setVm vm₁) hT hW₁⟩)
  dsimp only [Pt.U, Pt.locs, Pt.cells, Pt.slots] at X' e1 e2 h1 h2 h3 st
  subst h1; subst h2; subst h3
  exact ⟨v, (T.setVm vm₁).calling g' mk As.toArray, t, U', L, hT, X', hL, e1, e2, hq, st⟩
/-- not caught here, past rows that name other classes: it goes on to the caller -/
theorem vx_outP {p : Program} {l : Launch} {e : Env} {R : Room} {s : State} {m : MethodId} {args : Array Value} {below : List Frame} {meth : Method} {c : Code} {H : Heap} {locs : List Loc} {cells slots : Nat} {free : Addr → Prop} {ls : Array Slot} {rest : List Value} {Qc : Array Value → State → Outcome → State → Prop} {XC : String → State → State → Prop}
    {pc : Nat} {own E : String} {ce : Cell} {q : Addr} {mc ms : Nat} (hown : s.vm.findClass own = some m.cls) (hlocks : meth.locks = false)
    (hpass : ∀ z ∈ c.exceptionTable.toList, covers z pc = false ∨ (z.catchType ≠ 0 ∧ ∃ nm : String, (Cond.classLink own z.catchType nm).before args s = true ∧ va_Nc E nm s)) (hcell : H[q]? = some ce) (hv : ce.vm = .none) (hcl : s.vm.findClass E = some ce.cls)
    (hx : ∀ t : State, t.heap = H → s.vm.Alike t.vm → XC E s t) (hf : ∀ z ∈ locs, free z.base) (hc : cells ≤ mc) (hs : slots ≤ ms) :
    vx_W p l e R s m args below meth c H locs cells slots (vx_MQ below Qc XC args s mc ms free) (F0 m pc ls rest) q := by
  intro T hT X
  have hpl : e.platform.magicAccessors = ({} : Platform).magicAccessors := by rw [X.admits.platform]
  obtain ⟨vm', hW', X', st⟩ := X.outThrough hlocks q (g := F0 m pc ls rest) rfl rfl rfl (cell := ce) (by rw [hT]; exact hcell) (by rw [hv]; rfl)
    (by obtain ⟨k9, h9, -⟩ := Vm.findClass_spec hcl; exact ⟨k9, h9⟩) (fun z hz => by
      rcases hpass z hz with h | ⟨hz0, nm, hl1, hn1⟩
      · exact Or.inl h
      · obtain ⟨c6, hc6, hcl6⟩ := Cond.classLink_spec hown hl1 e.platform hpl
        obtain ⟨a8, b8, h1, h2, h3⟩ := hn1
        cases Option.some.inj (h1.symm.trans hcl)
        cases Option.some.inj (h2.symm.trans hc6)
        exact Or.inr ⟨hz0, _, hcl6, h3⟩)
  obtain ⟨g₀, hfr⟩ := X'.frames_eq
  have hcell9 : ((T.setVm vm').setFrames (.throwing q :: below)).heap[q]? = some ce := by
    show T.heap[q]? = some ce
    rw [hT]; exact hcell
  have hend : Ended ((T.setVm vm').setFrames (.throwing q :: below)) below (.threw q) := State.frames_setFrames _ (State.cur_lt_of_frames hfr)
  refine ⟨(T.setVm vm').setFrames (.throwing q :: below), ?_, .threw q, X'.here.running, hend, Or.inr ⟨q, rfl, E, ce, locs, hx _ hT (X'.ends _).1.alike, hcell9, hv, hcl, (X'.ends _).1, (X'.ends _).2.mono hc hs, hf⟩⟩
  rw [X.pushThrowing_eq]
  exact st
/-- a thing of a world lies in the heap -/
theorem vx_lt {D : va_G} {cl : List vw_C} {ws : va_W} {H1 : Heap} (h : va_P D cl ws H1) {k : Nat} {q : Nat × va_E} (hk : ws[k]? = some q) : q.1 < H1.size := (h k q hk).lt
end VXS
/-! ===== END ===== -/
/-! ===== BEGIN methods with a table of their own: called by a name, returning or throwing ===== -/
section VXH
/-! vx_backW, vx_callVX, vx_callSX, vx_callVW, vx_runVW, vx_runVX, vx_runSX, vx_ofWH follow the same proofs as their sisters above (Free/Laws.lean, Shelf42/LK1.lean); vx_outP calls Shelf42/NT130.lean (outThrough). -/
section
variable {l : Launch} {R : Room} {p : Program} {e : Env} {below : List Frame} {s : State} {sargs : Array Value} {y : MethodName} {len W9 : Nat}
theorem vx_backW {ws : List Cond} {rm : Room} {Pc : Array Value → State → Prop} {Qc : Array Value → State → Outcome → State → Prop} {XC : String → State → State → Prop} {mc ms : Nat} {free : Addr → Prop} {bytes : ByteArray} {maxL : Nat} {ret : Option FieldType} {hh : List (Nat × Nat × Nat × Nat)}
    (hM : vx_Met l y ws rm Pc Qc XC mc ms free) (hblind : FrameBlind Pc) (hrc : rm.cells = mc) (hrs : rm.slots = ms)
    (hframes : rm.frames + 1 ≤ R.frames) (hlocals : W9 + (maxL + 11) + rm.locals ≤ R.locals)
    (hws : ∀ w ∈ ws, ∀ a' U, s.WarmedH U.vm → w.before a' U = true) (hcode : Cond.codeWith y bytes maxL ret hh ∈ ws) (hinit : ∀ a' U, s.WarmedH U.vm → (Cond.initialized y.cls).before a' U = true) :
    vx_Back l R p e below s sargs y len W9 (PreOf R mc ms Pc) (PostOf Qc mc ms free) (vx_Post XC mc ms free) := by
  intro m meth c A g ig mk a X hg hsize hdg hW hn hp
  have h1 : (headSpec ws rm).pre.before a A.U = true := atoms_intro fun w hw => hws w hw _ _ X.warmed
  have h2 : (Cond.codeWith y bytes maxL ret hh).before a A.U = true := hws _ hcode _ _ X.warmed
  have h3 : (Cond.initialized y.cls).before a A.U = true := hinit _ _ X.warmed
  have h4 : A.cells + (headSpec ws rm).room.cells ≤ R.cells := by rw [show (headSpec ws rm).room.cells = mc from hrc]; exact hp.1
  have h5 : A.slots + (headSpec ws rm).room.slots ≤ R.slots := by rw [show (headSpec ws rm).room.slots = ms from hrs]; exact hp.2.1
  have hPc : Pc a (A.U.calling g mk a) := hblind _ _ _ _ hp.2.2
  obtain ⟨U, Ls, c0, s0⟩ := A
  dsimp only [Pt.U, Pt.locs, Pt.cells, Pt.slots] at h1 h2 h3 h4 h5 X hn hPc ⊢
  obtain ⟨m9, methY, cY, hn9, hmY, hcY, -, hlY, -⟩ := Cond.codeWith_spec h2
  cases Option.some.inj (hn9.symm.trans hn)
  obtain ⟨kY, hkY, -⟩ := className_of_methodNamed hn
  have hinitY : kY.init = .initialized := Cond.initialized_spec (findClass_of_methodNamed hn) hkY h3
  have h : At U g.method c below := by rw [hg]; exact X.here
  have hlocals9 : W9 + (maxL + 11) + (headSpec ws rm).room.locals ≤ R.locals := hlocals
  have happ : (headSpec ws rm).appliesLoose y e.platform (U.calling g mk a) = true :=
    Spec.appliesLoose_calling (g := g) h hdg hn hkY hinitY
      (X.room_calling (g := g) (R' := (headSpec ws rm).room) hsize hmY hcY hframes (by rw [hlY]; omega) h4 h5) h1
  obtain ⟨mid, hmid⟩ := h.above
  have hfr : (U.setTop g).frames = (.java g :: mid) ++ below := by rw [State.frames_setTop' g h.top, hmid]; rfl
  obtain ⟨o, s₂, hsteps, -, hend, hq⟩ := Steps.callFree hM p X.admits X.cas X.clock (acts := []) hfr happ hPc trivial
  have hq' : vx_Q Qc XC mc ms free a (U.calling g mk a) o s₂ := hq
  rw [State.frames_setTop' g h.top] at hend
  obtain ⟨g₀, hg0⟩ := Option.isSome_iff_exists.mp h.top
  obtain ⟨r, hr⟩ := State.topJava?_eq_some.mp hg0
  have hr' : (({ U with heap := s₂.heap, slotsUsed := s₂.slotsUsed } : State).setVm s₂.vm).frames = .java g₀ :: r := hr
  rcases hq' with ⟨hqc, L, hfe, hL⟩ | ⟨q, rfl, E, ce, L, hx, hce, hcv, hcl, hW₂, hsm, hL⟩
  · obtain ⟨⟨v, rfl⟩, hW₂, e2, q2, q3, q4, q5, q6⟩ := id hfe
    have e3 : s₂ = ({ (U.calling g mk a).setFrames s₂.frames with heap := s₂.heap, slotsUsed := s₂.slotsUsed } : State).setVm s₂.vm := by
      have : s₂ = ({ s₂ with vm := (U.calling g mk a).vm } : State).setVm s₂.vm := rfl
      rw [e2] at this
      exact this
    obtain ⟨c₂, i₂, len₂, hc₂, hd₂, hf₂⟩ := hend
    have hW' : U.WarmedH s₂.vm := hW₂
    have hcc : c₂ = c := by
      have h1 : s₂.code? g.method = U.code? g.method := by
        rw [State.code?_eq, State.code?_eq, hW'.alike.method?]
      exact Option.some.inj (hc₂.symm.trans (h1.trans h.code))
    subst hcc
    have hlen : len₂ = len := by rw [hdg] at hd₂; cases hd₂; rfl
    subst hlen
    have hs₂ : s₂ = (({ U with heap := s₂.heap, slotsUsed := s₂.slotsUsed } : State).setVm s₂.vm).setTop { g with pc := g.pc + len₂, stack := v.toList ++ g.stack } := by
      refine e3.trans ?_
      rw [hf₂, State.calling_eq h.top, State.setFrames_setFrames, State.setTop_of_frames _ hr', hr]
      rfl
    have hsame : U.sameButNew ({ U with heap := s₂.heap, slotsUsed := s₂.slotsUsed } : State) L mc ms := by
      refine ⟨?_, q2, q3, q4, q5, q6⟩
      obtain ⟨t, ht, -⟩ := State.frames_cons hr
      show ({ U with heap := s₂.heap, slotsUsed := s₂.slotsUsed } : State) = { U.setFrames U.frames with heap := s₂.heap, slotsUsed := s₂.slotsUsed }
      rw [State.setFrames_self ht]
    subst hg
    refine Or.inl ⟨v, ⟨(({ U with heap := s₂.heap, slotsUsed := s₂.slotsUsed } : State).setVm s₂.vm), Ls ++ L, c0 + mc, s0 + ms⟩,
      ⟨X.admits, X.cas, X.clock, X.frames, X.room, X.hears, X.method, X.code, (X.here.setHeapUsed s₂.heap s₂.slotsUsed).setVm hW'.alike, X.tail, State.WarmedH.trans X.warmed hW', X.limits, X.bytes, X.same.trans (hsame.setVm s.vm)⟩,
      ⟨g, mk, s₂, L, rfl, rfl, hqc, rfl, hL, rfl, rfl⟩, ?_⟩
    show Steps p.tables e below _ ((({ U with heap := s₂.heap, slotsUsed := s₂.slotsUsed } : State).setVm s₂.vm).setTop { g with pc := g.pc + len₂, stack := v.toList ++ g.stack })
    rw [← hs₂]
    exact hsteps
  · obtain ⟨e2, q2, q3, q4, q5, q6⟩ := id hsm
    have e3 : s₂ = ({ (U.calling g mk a).setFrames s₂.frames with heap := s₂.heap, slotsUsed := s₂.slotsUsed } : State).setVm s₂.vm := by
      have : s₂ = ({ s₂ with vm := (U.calling g mk a).vm } : State).setVm s₂.vm := rfl
      rw [e2] at this
      exact this
    have hf₂ : s₂.frames = .throwing q :: .java g :: U.frames.tail := hend
    have hW' : U.WarmedH s₂.vm := hW₂
    have hs₂ : s₂ = ((({ U with heap := s₂.heap, slotsUsed := s₂.slotsUsed } : State).setVm s₂.vm).setTop g).pushFrame (.throwing q) := by
      refine e3.trans ?_
      rw [hf₂, State.calling_eq h.top, State.setFrames_setFrames, State.pushFrame, State.frames_setTop _ hr', State.setTop_of_frames _ hr', State.setFrames_setFrames, hr]
      rfl
    have hsame : U.sameButNew ({ U with heap := s₂.heap, slotsUsed := s₂.slotsUsed } : State) L mc ms := by
      refine ⟨?_, q2, q3, q4, q5, q6⟩
      obtain ⟨t, ht, -⟩ := State.frames_cons hr
      show ({ U with heap := s₂.heap, slotsUsed := s₂.slotsUsed } : State) = { U.setFrames U.frames with heap := s₂.heap, slotsUsed := s₂.slotsUsed }
      rw [State.setFrames_self ht]
    subst hg
    refine Or.inr ⟨q, ⟨(({ U with heap := s₂.heap, slotsUsed := s₂.slotsUsed } : State).setVm s₂.vm), Ls ++ L, c0 + mc, s0 + ms⟩,
      ⟨X.admits, X.cas, X.clock, X.frames, X.room, X.hears, X.method, X.code, (X.here.setHeapUsed s₂.heap s₂.slotsUsed).setVm hW'.alike, X.tail, State.WarmedH.trans X.warmed hW', X.limits, X.bytes, X.same.trans (hsame.setVm s.vm)⟩,
      ⟨g, mk, s₂, L, E, ce, rfl, rfl, hx, hce, hcv, hcl, rfl, hL, rfl, rfl⟩, ?_⟩
    show Steps p.tables e below _ (((({ U with heap := s₂.heap, slotsUsed := s₂.slotsUsed } : State).setVm s₂.vm).setTop g).pushFrame (.throwing q))
    rw [← hs₂]
    exact hsteps
end
variable {p : Program} {l : Launch} {e : Env} {R : Room} {s : State} {m : MethodId} {args : Array Value} {below : List Frame} {meth : Method} {c : Code} {T : State} {H : Heap} {locs : List Loc} {cells slots : Nat}
theorem vx_callVX (X : Stand p l e R s m args below meth c T locs cells slots) (hexec : p.tables.exec = Jvm.exec) {own C : String} {index : Nat} {y : MethodName} {bytes : ByteArray} {maxL : Nat} {ret : Option FieldType} {hh : List (Nat × Nat × Nat × Nat)}
    (hown : s.vm.findClass own = some m.cls) (hlink : (Cond.methodLink own index y).before args s = true) (hinst : (Cond.instanceMethod y).before args s = true) (hsel : (Cond.selects C y y).before args s = true)
    (hcode : (Cond.codeWith y bytes maxL ret hh).before args s = true) (hy : y.cls ≠ "java/lang/invoke/MethodHandle" ∧ y.cls ≠ "java/lang/invoke/VarHandle")
    {W9 : Nat} {Pre : Pt → Array Value → Prop} {Post : Pt → Array Value → Option Value → Pt → Prop} {PostX : Pt → Array Value → Addr → Pt → Prop} (hK : vx_Back l R p e below s args y 3 W9 Pre Post PostX)
    {b : Addr} {cellB : Cell} (hcell : T.heap[b]? = some cellB) (hobj : cellB.vm.isStatics = false) (hcls : s.vm.findClass C = some cellB.cls)
    {g : JFrame} (hg : g.method = m) (hsize : g.locals.size = c.maxLocals) {argsL rest : List Value} (hlen : ∀ sig, parseMethodDescriptor y.desc = some sig → argsL.length = sig.parameters.length)
    (hstack : g.stack = argsL.reverse ++ .ref b :: rest) (hW : 2 * g.monitorRoom + (rest.map fun v => v.category).sum ≤ W9) (hdg : decode c.code g.pc = .ok (.invokevirtual index, 3))
    (hpre : ∀ vm₁, s.WarmedH vm₁ → Pre ⟨T.setVm vm₁, locs, cells, slots⟩ (Value.ref b :: argsL).toArray) :
    (∃ (v : Option Value) (vm₁ : Vm) (B : Pt), s.WarmedH vm₁ ∧ Stand p l e R s m args below meth c B.U B.locs B.cells B.slots ∧ Post ⟨T.setVm vm₁, locs, cells, slots⟩ (Value.ref b :: argsL).toArray v B ∧
      ∀ target, Steps p.tables e below (B.U.setTop { g with pc := g.pc + 3, stack := v.toList ++ rest }) target → Steps p.tables e below (T.setTop g) target) ∨
    (∃ (q : Addr) (vm₁ : Vm) (B : Pt), s.WarmedH vm₁ ∧ Stand p l e R s m args below meth c B.U B.locs B.cells B.slots ∧ PostX ⟨T.setVm vm₁, locs, cells, slots⟩ (Value.ref b :: argsL).toArray q B ∧
      Steps p.tables e below (T.setTop g) ((B.U.setTop { g with stack := rest }).pushFrame (.throwing q))) := by
  obtain ⟨mk, methM, hnamed, hmethM, hstM, habM⟩ := Cond.instanceMethod_spec hinst
  obtain ⟨m8, methM', cM, hn8, hmethM', -, -, -, -, -, -, hsigM⟩ := Cond.codeWith_spec hcode
  cases Option.some.inj (hn8.symm.trans hnamed)
  cases hmethM.symm.trans hmethM'
  obtain ⟨c2, r2, m2, q1, q2, q3, q4, kP, hkP, hkPi⟩ := Cond.selects_spec hsel
  cases hcls.symm.trans q1
  cases (State.methodFound?_of_named hnamed hy).symm.trans q2
  cases hnamed.symm.trans q3
  have hselP : selectMethod e.platform s.vm cellB.cls mk = .method mk := by rw [Launch.admits_selectMethod X.admits]; exact q4
  obtain ⟨vm₁, X₁, hstep₁⟩ := X.invokevirtual hexec hown hlink hnamed hmethM hstM hkP hkPi hy (a := b) (cell := cellB) hcell
    (fun z h => by rw [h] at hobj; cases hobj) hselP hmethM habM hkP hkPi (g := g) hg (argsL := argsL) (rest := rest) (hlen _ hsigM) hstack hdg
  rcases hK m meth c ⟨T.setVm vm₁, locs, cells, slots⟩ { g with stack := rest } (.invokevirtual index) mk (Value.ref b :: argsL).toArray X₁ hg hsize hdg hW (X₁.named hnamed) (hpre vm₁ X₁.warmed) with ⟨v, B, X', hpost, hsteps⟩ | ⟨q, B, X', hpost, hsteps⟩
  · exact Or.inl ⟨v, vm₁, B, X₁.warmed, X', hpost, fun target h => hstep₁ _ fun acts => by rw [doInvoke_state]; exact hsteps.trans h⟩
  · exact Or.inr ⟨q, vm₁, B, X₁.warmed, X', hpost, hstep₁ _ fun acts => by rw [doInvoke_state]; exact hsteps⟩
theorem vx_callSX (X : Stand p l e R s m args below meth c T locs cells slots) (hexec : p.tables.exec = Jvm.exec) {own : String} {index : Nat} {y : MethodName} {bytes : ByteArray} {maxL : Nat} {ret : Option FieldType} {hh : List (Nat × Nat × Nat × Nat)}
    (hown : s.vm.findClass own = some m.cls) (hlink : (Cond.methodLink own index y).before args s = true) (hstat : (Cond.static y).before args s = true) (hinit : (Cond.initialized y.cls).before args s = true)
    (hcode : (Cond.codeWith y bytes maxL ret hh).before args s = true) (hy : y.cls ≠ "java/lang/invoke/MethodHandle" ∧ y.cls ≠ "java/lang/invoke/VarHandle")
    {W9 : Nat} {Pre : Pt → Array Value → Prop} {Post : Pt → Array Value → Option Value → Pt → Prop} {PostX : Pt → Array Value → Addr → Pt → Prop} (hK : vx_Back l R p e below s args y 3 W9 Pre Post PostX)
    {g : JFrame} (hg : g.method = m) (hsize : g.locals.size = c.maxLocals) {argsL rest : List Value} (hlen : ∀ sig, parseMethodDescriptor y.desc = some sig → argsL.length = sig.parameters.length)
    (hstack : g.stack = argsL.reverse ++ rest) (hW : 2 * g.monitorRoom + (rest.map fun v => v.category).sum ≤ W9) (hdg : decode c.code g.pc = .ok (.invokestatic index, 3))
    (hpre : ∀ vm₁, s.WarmedH vm₁ → Pre ⟨T.setVm vm₁, locs, cells, slots⟩ argsL.toArray) :
    (∃ (v : Option Value) (vm₁ : Vm) (B : Pt), s.WarmedH vm₁ ∧ Stand p l e R s m args below meth c B.U B.locs B.cells B.slots ∧ Post ⟨T.setVm vm₁, locs, cells, slots⟩ argsL.toArray v B ∧
      ∀ target, Steps p.tables e below (B.U.setTop { g with pc := g.pc + 3, stack := v.toList ++ rest }) target → Steps p.tables e below (T.setTop g) target) ∨
    (∃ (q : Addr) (vm₁ : Vm) (B : Pt), s.WarmedH vm₁ ∧ Stand p l e R s m args below meth c B.U B.locs B.cells B.slots ∧ PostX ⟨T.setVm vm₁, locs, cells, slots⟩ argsL.toArray q B ∧
      Steps p.tables e below (T.setTop g) ((B.U.setTop { g with stack := rest }).pushFrame (.throwing q))) := by
  obtain ⟨mk, methM, cM, hnamed, hmethM, -, -, -, -, -, -, hsigM⟩ := Cond.codeWith_spec hcode
  have hstatic : methM.isStatic = true := Cond.static_spec hnamed hmethM hstat
  obtain ⟨kP, hkP, -⟩ := className_of_methodNamed hnamed
  have hinitP : kP.init = .initialized := Cond.initialized_spec (findClass_of_methodNamed hnamed) hkP hinit
  obtain ⟨vm₁, X₁, hstep₁⟩ := X.invokestatic hexec hown hlink hnamed hmethM hstatic hkP hinitP hy (g := g) hg (argsL := argsL) (rest := rest) (hlen _ hsigM) hstack hdg
  rcases hK m meth c ⟨T.setVm vm₁, locs, cells, slots⟩ { g with stack := rest } (.invokestatic index) mk argsL.toArray X₁ hg hsize hdg hW (X₁.named hnamed) (hpre vm₁ X₁.warmed) with ⟨v, B, X', hpost, hsteps⟩ | ⟨q, B, X', hpost, hsteps⟩
  · exact Or.inl ⟨v, vm₁, B, X₁.warmed, X', hpost, fun target h => hstep₁ _ fun acts => by rw [doInvoke_state]; exact hsteps.trans h⟩
  · exact Or.inr ⟨q, vm₁, B, X₁.warmed, X', hpost, hstep₁ _ fun acts => by rw [doInvoke_state]; exact hsteps⟩
theorem vx_callVW (X : Stand p l e R s m args below meth c T locs cells slots) (hexec : p.tables.exec = Jvm.exec) {own C : String} {index : Nat} {y : MethodName} {bytes : ByteArray} {maxL : Nat} {ret : Option FieldType} {hh : List (Nat × Nat × Nat × Nat)}
    (hown : s.vm.findClass own = some m.cls) (hlink : (Cond.methodLink own index y).before args s = true) (hinst : (Cond.instanceMethod y).before args s = true) (hsel : (Cond.selects C y y).before args s = true)
    (hcode : (Cond.codeWith y bytes maxL ret hh).before args s = true) (hy : y.cls ≠ "java/lang/invoke/MethodHandle" ∧ y.cls ≠ "java/lang/invoke/VarHandle")
    {W9 : Nat} {Pre : Pt → Array Value → Prop} {Post : Pt → Array Value → Option Value → Pt → Prop} (hK : Back l R p e below s args y 3 W9 Pre Post)
    {b : Addr} {cellB : Cell} (hcell : T.heap[b]? = some cellB) (hobj : cellB.vm.isStatics = false) (hcls : s.vm.findClass C = some cellB.cls)
    {g : JFrame} (hg : g.method = m) (hsize : g.locals.size = c.maxLocals) {argsL rest : List Value} (hlen : ∀ sig, parseMethodDescriptor y.desc = some sig → argsL.length = sig.parameters.length)
    (hstack : g.stack = argsL.reverse ++ .ref b :: rest) (hW : 2 * g.monitorRoom + (rest.map fun v => v.category).sum ≤ W9) (hdg : decode c.code g.pc = .ok (.invokevirtual index, 3))
    (hpre : ∀ vm₁, s.WarmedH vm₁ → Pre ⟨T.setVm vm₁, locs, cells, slots⟩ (Value.ref b :: argsL).toArray) :
    ∃ (v : Option Value) (vm₁ : Vm) (B : Pt), s.WarmedH vm₁ ∧ Stand p l e R s m args below meth c B.U B.locs B.cells B.slots ∧ Post ⟨T.setVm vm₁, locs, cells, slots⟩ (Value.ref b :: argsL).toArray v B ∧
      ∀ target, Steps p.tables e below (B.U.setTop { g with pc := g.pc + 3, stack := v.toList ++ rest }) target → Steps p.tables e below (T.setTop g) target := by
  obtain ⟨mk, methM, hnamed, hmethM, hstM, habM⟩ := Cond.instanceMethod_spec hinst
  obtain ⟨m8, methM', cM, hn8, hmethM', -, -, -, -, -, -, hsigM⟩ := Cond.codeWith_spec hcode
  cases Option.some.inj (hn8.symm.trans hnamed)
  cases hmethM.symm.trans hmethM'
  obtain ⟨c2, r2, m2, q1, q2, q3, q4, kP, hkP, hkPi⟩ := Cond.selects_spec hsel
  cases hcls.symm.trans q1
  cases (State.methodFound?_of_named hnamed hy).symm.trans q2
  cases hnamed.symm.trans q3
  have hselP : selectMethod e.platform s.vm cellB.cls mk = .method mk := by rw [Launch.admits_selectMethod X.admits]; exact q4
  obtain ⟨vm₁, X₁, hstep₁⟩ := X.invokevirtual hexec hown hlink hnamed hmethM hstM hkP hkPi hy (a := b) (cell := cellB) hcell
    (fun z h => by rw [h] at hobj; cases hobj) hselP hmethM habM hkP hkPi (g := g) hg (argsL := argsL) (rest := rest) (hlen _ hsigM) hstack hdg
  obtain ⟨v, B, X', hpost, hsteps⟩ := hK m meth c ⟨T.setVm vm₁, locs, cells, slots⟩ { g with stack := rest } (.invokevirtual index) mk (Value.ref b :: argsL).toArray X₁ hg hsize hdg hW (X₁.named hnamed) (hpre vm₁ X₁.warmed)
  exact ⟨v, vm₁, B, X₁.warmed, X', hpost, fun target h => hstep₁ _ fun acts => by rw [doInvoke_state]; exact hsteps.trans h⟩
abbrev vx_CVW (R : Room) (s : State) (args : Array Value) (own C : String) (index : Nat) (y : MethodName) (bytes : ByteArray) (maxL : Nat) (ret : Option FieldType) (hh : List (Nat × Nat × Nat × Nat)) (ws : List Cond) (rm : Room) (mc ms n : Nat) : Prop :=
  (rm.cells = mc ∧ rm.slots = ms ∧ rm.frames + 1 ≤ R.frames ∧ 8 + (maxL + 11) + rm.locals ≤ R.locals ∧ (∀ w ∈ ws, ∀ (a' : Array Value) (U : State), s.WarmedH U.vm → w.before a' U = true) ∧ Cond.codeWith y bytes maxL ret hh ∈ ws) ∧
  (Cond.codeWith y bytes maxL ret hh).before args s = true ∧ (Cond.initialized y.cls).before args s = true ∧ (y.cls ≠ "java/lang/invoke/MethodHandle" ∧ y.cls ≠ "java/lang/invoke/VarHandle") ∧
  (∀ sig, parseMethodDescriptor y.desc = some sig → n = sig.parameters.length) ∧ (Cond.methodLink own index y).before args s = true ∧ (Cond.instanceMethod y).before args s = true ∧ (Cond.selects C y y).before args s = true
theorem vx_cwVW {own C : String} {index maxL mc ms : Nat} {y : MethodName} {bytes : ByteArray} {ret : Option FieldType} {hh : List (Nat × Nat × Nat × Nat)} {Ts ws ws' : List Cond} {rm : Room} (n : Nat) (ht : ∀ w ∈ Ts, w.before args s = true) (hT : GoodIn Ts (wsV own index C y ws)) (hw : ws = Cond.codeWith y bytes maxL ret hh :: ws') (hrc : rm.cells = mc) (hrs : rm.slots = ms)
    (hd : y.cls = C ∧ y.cls ≠ "java/lang/invoke/MethodHandle" ∧ y.cls ≠ "java/lang/invoke/VarHandle" ∧ (parseMethodDescriptor y.desc).map (fun d => d.parameters.length) = some n) (hR : rm.frames + 1 ≤ R.frames ∧ 8 + (maxL + 11) + rm.locals ≤ R.locals) :
    vx_CVW R s args own C index y bytes maxL ret hh ws rm mc ms n := by
  obtain ⟨hC, hd⟩ := hd
  subst hC
  have ok : ∀ w ∈ wsV own index y.cls y ws, w.before args s = true := fun w h => ht w (hT w h).1
  have hG : GoodIn Ts ws := fun w h => hT w (by unfold wsV; exact List.mem_append_right _ h)
  have hc : Cond.codeWith y bytes maxL ret hh ∈ ws := by rw [hw]; exact List.mem_cons_self
  refine ⟨⟨hrc, hrs, hR.1, hR.2, pay_in ht hG, hc⟩, ht _ (hG _ hc).1, ok _ (by simp [wsV]), ⟨hd.1, hd.2.1⟩, fun sig h => ?_, ok _ (by simp [wsV]), ok _ (by simp [wsV]), ok _ (by simp [wsV])⟩
  have h2 := hd.2.2
  rw [h] at h2
  exact (Option.some.inj h2).symm
theorem vx_runVW {y : MethodName} {bytes cc : ByteArray} {maxL nL mc ms n index : Nat} {ret : Option FieldType} {hh : List (Nat × Nat × Nat × Nat)} {ws : List Cond} {rm : Room} {Pc : Array Value → State → Prop} {Qc : Array Value → State → Outcome → State → Prop} {free : Addr → Prop} {Ts : List Cond} {own C : String} {b : Addr} {As rest : List Value} {g : JFrame}
    (S : CallFix p m c cc nL s args Ts own) (hM : Met l y ws rm Pc Qc mc ms free) (cw : vx_CVW R s args own C index y bytes maxL ret hh ws rm mc ms n) (hp : PreV s H C b Pc As)
    (hg : g.method = m) (hn : As.length = n) (hsize : g.locals.size = nL) (hstack : g.stack = As.reverse ++ .ref b :: rest) (hW : 2 * g.monitorRoom + (rest.map fun v => v.category).sum ≤ 8) (hdg : decode cc g.pc = .ok (.invokevirtual index, 3)) (hf : cells + mc ≤ R.cells ∧ slots + ms ≤ R.slots) :
    va_Run p l e R s m args below meth c H locs cells slots mc ms g rest (Qc (Value.ref b :: As).toArray) free := by
  obtain ⟨⟨hrc, hrs, hfr, hlo, hws, hcw⟩, hcode, hini, hy, hlen, hl, hin, hse⟩ := cw
  have hK : Back l R p e below s args y 3 8 (PreOf R mc ms Pc) (PostOf Qc mc ms free) := va_backW (hh := hh) (bytes := bytes) (maxL := maxL) (ret := ret) hM hp.1 hrc hrs hfr hlo hws hcw (fun a' U hW => word_at hW (Or.inl (by first | rfl | simp [Cond.onTables, Cond.keeps, Cond.steady])) hini)
  obtain ⟨hx, hb, hml, ho, -⟩ := S
  obtain ⟨-, ⟨cellB, hcB, hoB, hclB⟩, hPc⟩ := hp
  intro T hT X
  obtain ⟨v, vm₁, ⟨U', l2, c2, s2⟩, hW₁, X', ⟨g', mk, t, L, e1, e2, hq, h1, hL, h2, h3⟩, st⟩ := vx_callVW X hx (C := C) (hh := hh) (bytes := bytes) (maxL := maxL) (ret := ret) ho hl hin hse hcode hy hK (by rw [hT]; exact hcB) hoB hclB hg (hsize.trans hml.symm) (argsL := As) (rest := rest) (fun sig h => hn.trans (hlen sig h)) hstack hW (by rw [hb]; exact hdg)
    (fun vm₁ hW₁ => ⟨hf.1, hf.2, hPc (T.setVm vm₁) hT hW₁⟩)
  dsimp only [Pt.U, Pt.locs, Pt.cells, Pt.slots] at X' e1 e2 h1 h2 h3 st
  subst h1; subst h2; subst h3
  exact ⟨v, (T.setVm vm₁).calling g' mk (Value.ref b :: As).toArray, t, U', L, hT, X', hL, e1, e2, hq, st⟩
section
variable {y : MethodName} {bytes cc : ByteArray} {maxL nL mc ms n index : Nat} {ret : Option FieldType} {ws : List Cond} {rm : Room} {Pc : Array Value → State → Prop} {Qc : Array Value → State → Outcome → State → Prop} {XC : String → State → State → Prop} {free : Addr → Prop} {Ts : List Cond} {own C : String} {b : Addr} {As rest : List Value} {g : JFrame}
theorem vx_runVX {hh : List (Nat × Nat × Nat × Nat)} (S : CallFix p m c cc nL s args Ts own) (hM : vx_Met l y ws rm Pc Qc XC mc ms free) (cw : vx_CVW R s args own C index y bytes maxL ret hh ws rm mc ms n) (hp : PreV s H C b Pc As)
    (hg : g.method = m) (hn : As.length = n) (hsize : g.locals.size = nL) (hstack : g.stack = As.reverse ++ .ref b :: rest) (hW : 2 * g.monitorRoom + (rest.map fun v => v.category).sum ≤ 8) (hdg : decode cc g.pc = .ok (.invokevirtual index, 3)) (hf : cells + mc ≤ R.cells ∧ slots + ms ≤ R.slots) :
    vx_Run p l e R s m args below meth c H locs cells slots mc ms g rest (Qc (Value.ref b :: As).toArray) XC free := by
  obtain ⟨⟨hrc, hrs, hfr, hlo, hws, hcw⟩, hcode, hini, hy, hlen, hl, hin, hse⟩ := cw
  have hK : vx_Back l R p e below s args y 3 8 (PreOf R mc ms Pc) (PostOf Qc mc ms free) (vx_Post XC mc ms free) := vx_backW (hh := hh) (bytes := bytes) (maxL := maxL) (ret := ret) hM hp.1 hrc hrs hfr hlo hws hcw (fun a' U hW => word_at hW (Or.inl (by first | rfl | simp [Cond.onTables, Cond.keeps, Cond.steady])) hini)
  obtain ⟨hx, hb, hml, ho, -⟩ := S
  obtain ⟨-, ⟨cellB, hcB, hoB, hclB⟩, hPc⟩ := hp
  intro T hT X
  rcases vx_callVX X hx (C := C) (hh := hh) (bytes := bytes) (maxL := maxL) (ret := ret) ho hl hin hse hcode hy hK (by rw [hT]; exact hcB) hoB hclB hg (hsize.trans hml.symm) (argsL := As) (rest := rest) (fun sig h => hn.trans (hlen sig h)) hstack hW (by rw [hb]; exact hdg)
    (fun vm₁ hW₁ => ⟨hf.1, hf.2, hPc (T.setVm vm₁) hT hW₁⟩) with ⟨v, vm₁, ⟨U', l2, c2, s2⟩, hW₁, X', ⟨g', mk, t, L, e1, e2, hq, h1, hL, h2, h3⟩, st⟩ | ⟨q, vm₁, ⟨U', l2, c2, s2⟩, hW₁, X', ⟨g', mk, t, L, E, ce, e1, e2, hq, hce, hcv, hcl, h1, hL, h2, h3⟩, st⟩
  · dsimp only [Pt.U, Pt.locs, Pt.cells, Pt.slots] at X' e1 e2 h1 h2 h3 st
    subst h1; subst h2; subst h3
    exact Or.inl ⟨v, (T.setVm vm₁).calling g' mk (Value.ref b :: As).toArray, t, U', L, hT, X', hL, e1, e2, hq, st⟩
  · dsimp only [Pt.U, Pt.locs, Pt.cells, Pt.slots] at X' e1 e2 h1 h2 h3 st hcl
    subst h1; subst h2; subst h3
    exact Or.inr ⟨q, (T.setVm vm₁).calling g' mk (Value.ref b :: As).toArray, t, U', L, E, ce, hT, X', hL, e1, e2, hq, hce, hcv, vx_cls hW₁ hcl, st⟩
theorem vx_runSX {hh : List (Nat × Nat × Nat × Nat)} (S : CallFix p m c cc nL s args Ts own) (hM : vx_Met l y ws rm Pc Qc XC mc ms free) (cw : vx_CSW R s args own index y bytes maxL ret hh ws rm mc ms n) (hp : PreS s H Pc As)
    (hg : g.method = m) (hn : As.length = n) (hsize : g.locals.size = nL) (hstack : g.stack = As.reverse ++ rest) (hW : 2 * g.monitorRoom + (rest.map fun v => v.category).sum ≤ 8) (hdg : decode cc g.pc = .ok (.invokestatic index, 3)) (hf : cells + mc ≤ R.cells ∧ slots + ms ≤ R.slots) :
    vx_Run p l e R s m args below meth c H locs cells slots mc ms g rest (Qc As.toArray) XC free := by
  obtain ⟨⟨hrc, hrs, hfr, hlo, hws, hcw⟩, hcode, hini, hy, hlen, hl, hstt⟩ := cw
  have hK : vx_Back l R p e below s args y 3 8 (PreOf R mc ms Pc) (PostOf Qc mc ms free) (vx_Post XC mc ms free) := vx_backW (hh := hh) (bytes := bytes) (maxL := maxL) (ret := ret) hM hp.1 hrc hrs hfr hlo hws hcw (fun a' U hW => word_at hW (Or.inl (by first | rfl | simp [Cond.onTables, Cond.keeps, Cond.steady])) hini)
  obtain ⟨hx, hb, hml, ho, -⟩ := S
  intro T hT X
  rcases vx_callSX X hx (hh := hh) (bytes := bytes) (maxL := maxL) (ret := ret) ho hl hstt hini hcode hy hK hg (hsize.trans hml.symm) (argsL := As) (rest := rest) (fun sig h => hn.trans (hlen sig h)) hstack hW (by rw [hb]; exact hdg)
    (fun vm₁ hW₁ => ⟨hf.1, hf.2, hp.2 (T.setVm vm₁) hT hW₁⟩) with ⟨v, vm₁, ⟨U', l2, c2, s2⟩, hW₁, X', ⟨g', mk, t, L, e1, e2, hq, h1, hL, h2, h3⟩, st⟩ | ⟨q, vm₁, ⟨U', l2, c2, s2⟩, hW₁, X', ⟨g', mk, t, L, E, ce, e1, e2, hq, hce, hcv, hcl, h1, hL, h2, h3⟩, st⟩
  · dsimp only [Pt.U, Pt.locs, Pt.cells, Pt.slots] at X' e1 e2 h1 h2 h3 st
    subst h1; subst h2; subst h3
    exact Or.inl ⟨v, (T.setVm vm₁).calling g' mk As.toArray, t, U', L, hT, X', hL, e1, e2, hq, st⟩
  · dsimp only [Pt.U, Pt.locs, Pt.cells, Pt.slots] at X' e1 e2 h1 h2 h3 st hcl
    subst h1; subst h2; subst h3
    exact Or.inr ⟨q, (T.setVm vm₁).calling g' mk As.toArray, t, U', L, E, ce, hT, X', hL, e1, e2, hq, hce, hcv, vx_cls hW₁ hcl, st⟩
end
end VXH
theorem vx_ofWH {l : Launch} {y : MethodName} {ws ws' : List Cond} {rm : Room} {Pc : Array Value → State → Prop} {Qc : Array Value → State → Outcome → State → Prop} {XC : String → State → State → Prop} {mc ms : Nat} {free : Addr → Prop} {cc : ByteArray} {maxL : Nat} {ret : Option FieldType} {hh : List (Nat × Nat × Nat × Nat)}
    (hy : plainName y.cls = true) (hw : ws = Cond.codeWith y cc maxL ret hh :: ws')
    (body : ∀ p e s m args below meth c s₁, BodyLoose p l y (headSpec ws rm) cc maxL ret e s m args below meth c s₁ → c.maxLocals = maxL → Pc args s →
      W p l e (headSpec ws rm).room s m args below meth c s.heap [] 0 0 (vx_MQ below Qc XC args s mc ms free) (entryFrame m args maxL)) : vx_Met l y ws rm Pc Qc XC mc ms free := by
  refine MetFree.of_bodyS (code := cc) (maxLocals := maxL) (ret := ret) hy ?_ ?_
  · intro args s m h hn
    obtain ⟨m9, meth, c, hn9, h1, h2, h3, h4, -, h5, h6, -⟩ := Cond.codeWith_spec (atoms_spec (ws := ws) h _ (by rw [hw]; exact List.mem_cons_self))
    cases hn.symm.trans hn9
    exact ⟨meth, c, h1, h2, h3, h4, h5, h6⟩
  · intro p e s m args below meth c s₁ B hml hP _
    have hh0 : s₁.heap = s.heap := by rw [B.state]; rfl
    obtain ⟨t, a1, o, b1, b2, b3⟩ := body p e s m args below meth c s₁ B hml hP s₁ hh0 (Stand.of_body B)
    exact ⟨t, o, a1, b1, b2, b3⟩
/-! ===== END ===== -/
end
section
/-! ===== BEGIN printed: names, fields, word lists, decode rows ===== -/
def RX0 : String := "CellWindows$1"
def TX0 : u_T := fun k => match k with
  | _ => ("", "", "", false)
def tyX0 : Nat → FieldType := fun k => match k with
  | _ => .int
abbrev wsX00 : List Cond := u_ws RX0 TX0 0
theorem nmX0 : ∀ a, a < 0 → ∀ b, b < 0 → a ≠ b → (TX0 a).2.1 ≠ (TX0 b).2.1 := by decide +kernel
theorem tyX0_ok : ∀ k, k < 0 → parseFieldDescriptor (TX0 k).2.2.1 = some (tyX0 k) := by decide +kernel
def RX1 : String := "CellWindows$Best"
def TX1 : u_T := fun k => match k with
  | 0 => ("CellWindows$Best", "found", "Z", false)
  | 1 => ("CellWindows$Best", "rowWeight", "I", false)
  | 2 => ("CellWindows$Best", "columnWeight", "I", false)
  | _ => ("CellWindows$Best", "room", "I", false)
def tyX1 : Nat → FieldType := fun k => match k with
  | 0 => .boolean
  | 1 => .int
  | 2 => .int
  | _ => .int
abbrev wsX10 : List Cond := u_ws RX1 TX1 4
theorem nmX1 : ∀ a, a < 4 → ∀ b, b < 4 → a ≠ b → (TX1 a).2.1 ≠ (TX1 b).2.1 := by decide +kernel
theorem tyX1_ok : ∀ k, k < 4 → parseFieldDescriptor (TX1 k).2.2.1 = some (tyX1 k) := by decide +kernel
abbrev cX1_init : ByteArray := prog_3_method_1_code
def yX1_init : MethodName := ⟨RX1, "<init>", "()V"⟩
abbrev cX1_offer : ByteArray := prog_3_method_2_code
def yX1_offer : MethodName := ⟨RX1, "offer", "(III)V"⟩
def RX2 : String := "CellWindows$Differences"
def TX2 : u_T := fun k => match k with
  | 0 => ("CellWindows$Differences", "known", "[Z", true)
  | 1 => ("CellWindows$Differences", "rowDifference", "[I", true)
  | 2 => ("CellWindows$Differences", "columnDifference", "[I", true)
  | 3 => ("CellWindows$Differences", "inLine", "[Z", true)
  | 4 => ("CellWindows$Differences", "count", "I", false)
  | 5 => ("CellWindows$Differences", "rows", "I", false)
  | _ => ("CellWindows$Differences", "columns", "I", false)
def tyX2 : Nat → FieldType := fun k => match k with
  | 0 => .array .boolean
  | 1 => .array .int
  | 2 => .array .int
  | 3 => .array .boolean
  | 4 => .int
  | 5 => .int
  | _ => .int
abbrev wsX20 : List Cond := u_ws RX2 TX2 7
theorem nmX2 : ∀ a, a < 7 → ∀ b, b < 7 → a ≠ b → (TX2 a).2.1 ≠ (TX2 b).2.1 := by decide +kernel
theorem tyX2_ok : ∀ k, k < 7 → parseFieldDescriptor (TX2 k).2.2.1 = some (tyX2 k) := by decide +kernel
abbrev cX2_init : ByteArray := prog_4_method_1_code
def yX2_init : MethodName := ⟨RX2, "<init>", "()V"⟩
abbrev cX2_clear : ByteArray := prog_4_method_2_code
def yX2_clear : MethodName := ⟨RX2, "clear", "(LCellWindows$Program;)V"⟩
abbrev cX2_add : ByteArray := prog_4_method_3_code
def yX2_add : MethodName := ⟨RX2, "add", "(LCellWindows$Program;LCellWindows$Work;II)V"⟩
abbrev cX2_addOne : ByteArray := prog_4_method_4_code
def yX2_addOne : MethodName := ⟨RX2, "addOne", "(II)V"⟩
abbrev cX2_areKeptApart : ByteArray := prog_4_method_5_code
def yX2_areKeptApart : MethodName := ⟨RX2, "areKeptApart", "(LCellWindows$Window;)Z"⟩
abbrev cX2_leastRestModulus : ByteArray := prog_4_method_6_code
def yX2_leastRestModulus : MethodName := ⟨RX2, "leastRestModulus", "(LCellWindows$Window;)I"⟩
abbrev cX2_leastModulusDividingNone : ByteArray := prog_4_method_7_code
def yX2_leastModulusDividingNone : MethodName := ⟨RX2, "leastModulusDividingNone", "()I"⟩
abbrev cX2_dividesOne : ByteArray := prog_4_method_8_code
def yX2_dividesOne : MethodName := ⟨RX2, "dividesOne", "(I)Z"⟩
abbrev cX2_findTwoRests : ByteArray := prog_4_method_9_code
def yX2_findTwoRests : MethodName := ⟨RX2, "findTwoRests", "(LCellWindows$Window;)V"⟩
abbrev cX2_findSlant : ByteArray := prog_4_method_10_code
def yX2_findSlant : MethodName := ⟨RX2, "findSlant", "(LCellWindows$Window;)V"⟩
def RX3 : String := "CellWindows$Kind"
def TX3 : u_T := fun k => match k with
  | _ => ("", "", "", false)
def tyX3 : Nat → FieldType := fun k => match k with
  | _ => .int
abbrev wsX30 : List Cond := u_ws RX3 TX3 0
theorem nmX3 : ∀ a, a < 0 → ∀ b, b < 0 → a ≠ b → (TX3 a).2.1 ≠ (TX3 b).2.1 := by decide +kernel
theorem tyX3_ok : ∀ k, k < 0 → parseFieldDescriptor (TX3 k).2.2.1 = some (tyX3 k) := by decide +kernel
def RX4 : String := "CellWindows$Machine"
def TX4 : u_T := fun k => match k with
  | 0 => ("CellWindows$Machine", "contracted", "Z", true)
  | _ => ("CellWindows$Machine", "kept", "[[I", true)
def tyX4 : Nat → FieldType := fun k => match k with
  | 0 => .boolean
  | _ => .array (.array .int)
abbrev wsX40 : List Cond := u_ws RX4 TX4 2
theorem nmX4 : ∀ a, a < 2 → ∀ b, b < 2 → a ≠ b → (TX4 a).2.1 ≠ (TX4 b).2.1 := by decide +kernel
theorem tyX4_ok : ∀ k, k < 2 → parseFieldDescriptor (TX4 k).2.2.1 = some (tyX4 k) := by decide +kernel
abbrev cX4_init : ByteArray := prog_6_method_1_code
def yX4_init : MethodName := ⟨RX4, "<init>", "(Z)V"⟩
abbrev cX4_empty : ByteArray := prog_6_method_2_code
def yX4_empty : MethodName := ⟨RX4, "empty", "()V"⟩
abbrev cX4_doStep : ByteArray := prog_6_method_3_code
def yX4_doStep : MethodName := ⟨RX4, "doStep", "(LCellWindows$Program;LCellWindows$Work;I)I"⟩
abbrev cX4_taken : ByteArray := prog_6_method_4_code
def yX4_taken : MethodName := ⟨RX4, "taken", "(LCellWindows$Program;III)I"⟩
abbrev cX4_placeIn : ByteArray := prog_6_method_5_code
def yX4_placeIn : MethodName := ⟨RX4, "placeIn", "(LCellWindows$Program;III)I"⟩
def RX5 : String := "CellWindows$Program"
def TX5 : u_T := fun k => match k with
  | 0 => ("CellWindows$Program", "statements", "Ljava/util/ArrayList;", true)
  | 1 => ("CellWindows$Program", "rows", "I", false)
  | 2 => ("CellWindows$Program", "columns", "I", false)
  | _ => ("CellWindows$Program", "points", "I", false)
def tyX5 : Nat → FieldType := fun k => match k with
  | 0 => .object "java/util/ArrayList"
  | 1 => .int
  | 2 => .int
  | _ => .int
abbrev wsX50 : List Cond := u_ws RX5 TX5 4
theorem nmX5 : ∀ a, a < 4 → ∀ b, b < 4 → a ≠ b → (TX5 a).2.1 ≠ (TX5 b).2.1 := by decide +kernel
theorem tyX5_ok : ∀ k, k < 4 → parseFieldDescriptor (TX5 k).2.2.1 = some (tyX5 k) := by decide +kernel
abbrev cX5_init : ByteArray := prog_7_method_1_code
def yX5_init : MethodName := ⟨RX5, "<init>", "()V"⟩
abbrev cX5_spread : ByteArray := prog_7_method_2_code
def yX5_spread : MethodName := ⟨RX5, "spread", "(II)V"⟩
abbrev cX5_cells : ByteArray := prog_7_method_3_code
def yX5_cells : MethodName := ⟨RX5, "cells", "()I"⟩
abbrev cX5_firstCell : ByteArray := prog_7_method_4_code
def yX5_firstCell : MethodName := ⟨RX5, "firstCell", "(I)I"⟩
abbrev cX5_hasPoint : ByteArray := prog_7_method_5_code
def yX5_hasPoint : MethodName := ⟨RX5, "hasPoint", "(II)Z"⟩
abbrev cX5_cellOf : ByteArray := prog_7_method_6_code
def yX5_cellOf : MethodName := ⟨RX5, "cellOf", "(III)I"⟩
abbrev cX5_allows : ByteArray := prog_7_method_7_code
def yX5_allows : MethodName := ⟨RX5, "allows", "(II)Z"⟩
abbrev cX5_comesLater : ByteArray := prog_7_method_8_code
def yX5_comesLater : MethodName := ⟨RX5, "comesLater", "(ILCellWindows$Read;II)Z"⟩
def RX6 : String := "CellWindows$Read"
def TX6 : u_T := fun k => match k with
  | 0 => ("CellWindows$Read", "source", "I", true)
  | 1 => ("CellWindows$Read", "factor", "I", true)
  | 2 => ("CellWindows$Read", "rowsBack", "I", true)
  | _ => ("CellWindows$Read", "columnsBack", "I", true)
def tyX6 : Nat → FieldType := fun k => match k with
  | 0 => .int
  | 1 => .int
  | 2 => .int
  | _ => .int
abbrev wsX60 : List Cond := u_ws RX6 TX6 4
theorem nmX6 : ∀ a, a < 4 → ∀ b, b < 4 → a ≠ b → (TX6 a).2.1 ≠ (TX6 b).2.1 := by decide +kernel
theorem tyX6_ok : ∀ k, k < 4 → parseFieldDescriptor (TX6 k).2.2.1 = some (tyX6 k) := by decide +kernel
abbrev cX6_init : ByteArray := prog_8_method_1_code
def yX6_init : MethodName := ⟨RX6, "<init>", "(IIII)V"⟩
def RX7 : String := "CellWindows$Statement"
def TX7 : u_T := fun k => match k with
  | 0 => ("CellWindows$Statement", "addend", "I", true)
  | 1 => ("CellWindows$Statement", "reads", "Ljava/util/ArrayList;", true)
  | 2 => ("CellWindows$Statement", "window", "LCellWindows$Window;", true)
  | 3 => ("CellWindows$Statement", "offset", "I", false)
  | _ => ("CellWindows$Statement", "lasting", "Z", false)
def tyX7 : Nat → FieldType := fun k => match k with
  | 0 => .int
  | 1 => .object "java/util/ArrayList"
  | 2 => .object "CellWindows$Window"
  | 3 => .int
  | _ => .boolean
abbrev wsX70 : List Cond := u_ws RX7 TX7 5
theorem nmX7 : ∀ a, a < 5 → ∀ b, b < 5 → a ≠ b → (TX7 a).2.1 ≠ (TX7 b).2.1 := by decide +kernel
theorem tyX7_ok : ∀ k, k < 5 → parseFieldDescriptor (TX7 k).2.2.1 = some (tyX7 k) := by decide +kernel
abbrev cX7_init : ByteArray := prog_9_method_1_code
def yX7_init : MethodName := ⟨RX7, "<init>", "(I)V"⟩
def RX8 : String := "CellWindows$Window"
def TX8 : u_T := fun k => match k with
  | 0 => ("CellWindows$Window", "kind", "LCellWindows$Kind;", false)
  | 1 => ("CellWindows$Window", "modulus", "I", false)
  | 2 => ("CellWindows$Window", "rowModulus", "I", false)
  | 3 => ("CellWindows$Window", "columnModulus", "I", false)
  | _ => ("CellWindows$Window", "slant", "I", false)
def tyX8 : Nat → FieldType := fun k => match k with
  | 0 => .object "CellWindows$Kind"
  | 1 => .int
  | 2 => .int
  | 3 => .int
  | _ => .int
abbrev wsX80 : List Cond := u_ws RX8 TX8 5
theorem nmX8 : ∀ a, a < 5 → ∀ b, b < 5 → a ≠ b → (TX8 a).2.1 ≠ (TX8 b).2.1 := by decide +kernel
theorem tyX8_ok : ∀ k, k < 5 → parseFieldDescriptor (TX8 k).2.2.1 = some (tyX8 k) := by decide +kernel
abbrev cX8_init : ByteArray := prog_10_method_1_code
def yX8_init : MethodName := ⟨RX8, "<init>", "()V"⟩
abbrev cX8_becomeWhole : ByteArray := prog_10_method_2_code
def yX8_becomeWhole : MethodName := ⟨RX8, "becomeWhole", "()V"⟩
abbrev cX8_becomeRest : ByteArray := prog_10_method_3_code
def yX8_becomeRest : MethodName := ⟨RX8, "becomeRest", "(I)V"⟩
abbrev cX8_becomeTwoRests : ByteArray := prog_10_method_4_code
def yX8_becomeTwoRests : MethodName := ⟨RX8, "becomeTwoRests", "(II)V"⟩
abbrev cX8_becomeSlant : ByteArray := prog_10_method_5_code
def yX8_becomeSlant : MethodName := ⟨RX8, "becomeSlant", "(II)V"⟩
abbrev cX8_become : ByteArray := prog_10_method_6_code
def yX8_become : MethodName := ⟨RX8, "become", "(LCellWindows$Window;)V"⟩
abbrev cX8_places : ByteArray := prog_10_method_7_code
def yX8_places : MethodName := ⟨RX8, "places", "(I)I"⟩
abbrev cX8_placeFor : ByteArray := prog_10_method_8_code
def yX8_placeFor : MethodName := ⟨RX8, "placeFor", "(III)I"⟩
abbrev cX8_keepsApart : ByteArray := prog_10_method_9_code
def yX8_keepsApart : MethodName := ⟨RX8, "keepsApart", "(III)Z"⟩
def RX9 : String := "CellWindows$Work"
def TX9 : u_T := fun k => match k with
  | 0 => ("CellWindows$Work", "number", "[I", true)
  | 1 => ("CellWindows$Work", "row", "[I", true)
  | 2 => ("CellWindows$Work", "column", "[I", true)
  | 3 => ("CellWindows$Work", "birth", "[I", true)
  | 4 => ("CellWindows$Work", "end", "[I", true)
  | 5 => ("CellWindows$Work", "cellAt", "[I", true)
  | 6 => ("CellWindows$Work", "time", "[I", true)
  | 7 => ("CellWindows$Work", "nextStep", "[I", true)
  | 8 => ("CellWindows$Work", "change", "[I", true)
  | _ => ("CellWindows$Work", "cells", "I", false)
def tyX9 : Nat → FieldType := fun k => match k with
  | 0 => .array .int
  | 1 => .array .int
  | 2 => .array .int
  | 3 => .array .int
  | 4 => .array .int
  | 5 => .array .int
  | 6 => .array .int
  | 7 => .array .int
  | 8 => .array .int
  | _ => .int
abbrev wsX90 : List Cond := u_ws RX9 TX9 10
theorem nmX9 : ∀ a, a < 10 → ∀ b, b < 10 → a ≠ b → (TX9 a).2.1 ≠ (TX9 b).2.1 := by decide +kernel
theorem tyX9_ok : ∀ k, k < 10 → parseFieldDescriptor (TX9 k).2.2.1 = some (tyX9 k) := by decide +kernel
abbrev cX9_init : ByteArray := prog_11_method_1_code
def yX9_init : MethodName := ⟨RX9, "<init>", "()V"⟩
abbrev cX9_arrange : ByteArray := prog_11_method_2_code
def yX9_arrange : MethodName := ⟨RX9, "arrange", "(LCellWindows$Program;II)V"⟩
abbrev cX9_setTimes : ByteArray := prog_11_method_3_code
def yX9_setTimes : MethodName := ⟨RX9, "setTimes", "(LCellWindows$Program;III)V"⟩
abbrev cX9_setSteps : ByteArray := prog_11_method_4_code
def yX9_setSteps : MethodName := ⟨RX9, "setSteps", "()V"⟩
abbrev cX9_setEnds : ByteArray := prog_11_method_5_code
def yX9_setEnds : MethodName := ⟨RX9, "setEnds", "(LCellWindows$Program;)V"⟩
abbrev cX9_stretchCellRead : ByteArray := prog_11_method_6_code
def yX9_stretchCellRead : MethodName := ⟨RX9, "stretchCellRead", "(LCellWindows$Program;ILCellWindows$Read;)V"⟩
abbrev cX9_countLive : ByteArray := prog_11_method_7_code
def yX9_countLive : MethodName := ⟨RX9, "countLive", "(I)I"⟩
abbrev cX9_mostLiveAmong : ByteArray := prog_11_method_8_code
def yX9_mostLiveAmong : MethodName := ⟨RX9, "mostLiveAmong", "(II)I"⟩
abbrev cX9_inConflict : ByteArray := prog_11_method_9_code
def yX9_inConflict : MethodName := ⟨RX9, "inConflict", "(II)Z"⟩
abbrev cX9_isBornWithin : ByteArray := prog_11_method_10_code
def yX9_isBornWithin : MethodName := ⟨RX9, "isBornWithin", "(II)Z"⟩
abbrev cX9_countConflicts : ByteArray := prog_11_method_11_code
def yX9_countConflicts : MethodName := ⟨RX9, "countConflicts", "(III)I"⟩
def RX10 : String := "CellWindows"
def TX10 : u_T := fun k => match k with
  | 0 => ("CellWindows", "program", "LCellWindows$Program;", true)
  | 1 => ("CellWindows", "work", "LCellWindows$Work;", true)
  | 2 => ("CellWindows", "differences", "LCellWindows$Differences;", true)
  | 3 => ("CellWindows", "least", "LCellWindows$Window;", true)
  | 4 => ("CellWindows", "plainMachine", "LCellWindows$Machine;", true)
  | 5 => ("CellWindows", "contractedMachine", "LCellWindows$Machine;", true)
  | 6 => ("CellWindows", "best", "LCellWindows$Best;", true)
  | 7 => ("CellWindows", "rowWeight", "I", false)
  | _ => ("CellWindows", "columnWeight", "I", false)
def tyX10 : Nat → FieldType := fun k => match k with
  | 0 => .object "CellWindows$Program"
  | 1 => .object "CellWindows$Work"
  | 2 => .object "CellWindows$Differences"
  | 3 => .object "CellWindows$Window"
  | 4 => .object "CellWindows$Machine"
  | 5 => .object "CellWindows$Machine"
  | 6 => .object "CellWindows$Best"
  | 7 => .int
  | _ => .int
abbrev wsX100 : List Cond := u_ws RX10 TX10 9
theorem nmX10 : ∀ a, a < 9 → ∀ b, b < 9 → a ≠ b → (TX10 a).2.1 ≠ (TX10 b).2.1 := by decide +kernel
theorem tyX10_ok : ∀ k, k < 9 → parseFieldDescriptor (TX10 k).2.2.1 = some (tyX10 k) := by decide +kernel
abbrev cX10_init : ByteArray := prog_1_method_1_code
def yX10_init : MethodName := ⟨RX10, "<init>", "()V"⟩
abbrev cX10_addStatement : ByteArray := prog_1_method_2_code
def yX10_addStatement : MethodName := ⟨RX10, "addStatement", "(I)I"⟩
abbrev cX10_addRead : ByteArray := prog_1_method_3_code
def yX10_addRead : MethodName := ⟨RX10, "addRead", "(IIIII)I"⟩
abbrev cX10_dropReads : ByteArray := prog_1_method_4_code
def yX10_dropReads : MethodName := ⟨RX10, "dropReads", "(I)I"⟩
abbrev cX10_setLasting : ByteArray := prog_1_method_5_code
def yX10_setLasting : MethodName := ⟨RX10, "setLasting", "(IZ)Z"⟩
abbrev cX10_setField : ByteArray := prog_1_method_6_code
def yX10_setField : MethodName := ⟨RX10, "setField", "(II)I"⟩
abbrev cX10_setSchedule : ByteArray := prog_1_method_7_code
def yX10_setSchedule : MethodName := ⟨RX10, "setSchedule", "(II)Z"⟩
abbrev cX10_setOffset : ByteArray := prog_1_method_8_code
def yX10_setOffset : MethodName := ⟨RX10, "setOffset", "(II)Z"⟩
abbrev cX10_isAllowed : ByteArray := prog_1_method_9_code
def yX10_isAllowed : MethodName := ⟨RX10, "isAllowed", "()Z"⟩
abbrev cX10_isAllowedWith : ByteArray := prog_1_method_10_code
def yX10_isAllowedWith : MethodName := ⟨RX10, "isAllowedWith", "(II)Z"⟩
abbrev cX10_isReadInOrder : ByteArray := prog_1_method_11_code
def yX10_isReadInOrder : MethodName := ⟨RX10, "isReadInOrder", "(II)Z"⟩
abbrev cX10_steps : ByteArray := prog_1_method_12_code
def yX10_steps : MethodName := ⟨RX10, "steps", "()I"⟩
abbrev cX10_stepOf : ByteArray := prog_1_method_13_code
def yX10_stepOf : MethodName := ⟨RX10, "stepOf", "(III)I"⟩
abbrev cX10_statementAt : ByteArray := prog_1_method_14_code
def yX10_statementAt : MethodName := ⟨RX10, "statementAt", "(I)I"⟩
abbrev cX10_pointAt : ByteArray := prog_1_method_15_code
def yX10_pointAt : MethodName := ⟨RX10, "pointAt", "(I)I"⟩
abbrev cX10_endOf : ByteArray := prog_1_method_16_code
def yX10_endOf : MethodName := ⟨RX10, "endOf", "(III)I"⟩
abbrev cX10_liveAt : ByteArray := prog_1_method_17_code
def yX10_liveAt : MethodName := ⟨RX10, "liveAt", "(I)I"⟩
abbrev cX10_mostLive : ByteArray := prog_1_method_18_code
def yX10_mostLive : MethodName := ⟨RX10, "mostLive", "()I"⟩
abbrev cX10_mostLiveOf : ByteArray := prog_1_method_19_code
def yX10_mostLiveOf : MethodName := ⟨RX10, "mostLiveOf", "(I)I"⟩
abbrev cX10_conflictsOf : ByteArray := prog_1_method_20_code
def yX10_conflictsOf : MethodName := ⟨RX10, "conflictsOf", "(IIII)I"⟩
abbrev cX10_conflictPairs : ByteArray := prog_1_method_21_code
def yX10_conflictPairs : MethodName := ⟨RX10, "conflictPairs", "(I)I"⟩
abbrev cX10_keepWhole : ByteArray := prog_1_method_22_code
def yX10_keepWhole : MethodName := ⟨RX10, "keepWhole", "(I)I"⟩
abbrev cX10_keepRest : ByteArray := prog_1_method_23_code
def yX10_keepRest : MethodName := ⟨RX10, "keepRest", "(II)I"⟩
abbrev cX10_keepTwoRests : ByteArray := prog_1_method_24_code
def yX10_keepTwoRests : MethodName := ⟨RX10, "keepTwoRests", "(III)I"⟩
abbrev cX10_keepSlant : ByteArray := prog_1_method_25_code
def yX10_keepSlant : MethodName := ⟨RX10, "keepSlant", "(III)I"⟩
abbrev cX10_contract : ByteArray := prog_1_method_26_code
def yX10_contract : MethodName := ⟨RX10, "contract", "()I"⟩
abbrev cX10_windowSize : ByteArray := prog_1_method_27_code
def yX10_windowSize : MethodName := ⟨RX10, "windowSize", "(I)I"⟩
abbrev cX10_room : ByteArray := prog_1_method_28_code
def yX10_room : MethodName := ⟨RX10, "room", "()I"⟩
abbrev cX10_placeOf : ByteArray := prog_1_method_29_code
def yX10_placeOf : MethodName := ⟨RX10, "placeOf", "(III)I"⟩
abbrev cX10_isRight : ByteArray := prog_1_method_30_code
def yX10_isRight : MethodName := ⟨RX10, "isRight", "(I)Z"⟩
abbrev cX10_leastRest : ByteArray := prog_1_method_31_code
def yX10_leastRest : MethodName := ⟨RX10, "leastRest", "(I)I"⟩
abbrev cX10_leastRestByDifferences : ByteArray := prog_1_method_32_code
def yX10_leastRestByDifferences : MethodName := ⟨RX10, "leastRestByDifferences", "(I)I"⟩
abbrev cX10_leastRowRest : ByteArray := prog_1_method_33_code
def yX10_leastRowRest : MethodName := ⟨RX10, "leastRowRest", "(I)I"⟩
abbrev cX10_leastColumnRest : ByteArray := prog_1_method_34_code
def yX10_leastColumnRest : MethodName := ⟨RX10, "leastColumnRest", "(I)I"⟩
abbrev cX10_leastSlantModulus : ByteArray := prog_1_method_35_code
def yX10_leastSlantModulus : MethodName := ⟨RX10, "leastSlantModulus", "(I)I"⟩
abbrev cX10_leastSlant : ByteArray := prog_1_method_36_code
def yX10_leastSlant : MethodName := ⟨RX10, "leastSlant", "(I)I"⟩
abbrev cX10_leastJointRest : ByteArray := prog_1_method_37_code
def yX10_leastJointRest : MethodName := ⟨RX10, "leastJointRest", "(II)I"⟩
abbrev cX10_valueOf : ByteArray := prog_1_method_38_code
def yX10_valueOf : MethodName := ⟨RX10, "valueOf", "(III)I"⟩
abbrev cX10_contractedValueOf : ByteArray := prog_1_method_39_code
def yX10_contractedValueOf : MethodName := ⟨RX10, "contractedValueOf", "(III)I"⟩
abbrev cX10_firstWrongStep : ByteArray := prog_1_method_40_code
def yX10_firstWrongStep : MethodName := ⟨RX10, "firstWrongStep", "()I"⟩
abbrev cX10_bestRowWeight : ByteArray := prog_1_method_41_code
def yX10_bestRowWeight : MethodName := ⟨RX10, "bestRowWeight", "()I"⟩
abbrev cX10_bestColumnWeight : ByteArray := prog_1_method_42_code
def yX10_bestColumnWeight : MethodName := ⟨RX10, "bestColumnWeight", "()I"⟩
abbrev cX10_bestRoom : ByteArray := prog_1_method_43_code
def yX10_bestRoom : MethodName := ⟨RX10, "bestRoom", "()I"⟩
abbrev cX10_requireRange : ByteArray := prog_1_method_44_code
def yX10_requireRange : MethodName := ⟨RX10, "requireRange", "(III)V"⟩
abbrev cX10_requireWeights : ByteArray := prog_1_method_45_code
def yX10_requireWeights : MethodName := ⟨RX10, "requireWeights", "(II)V"⟩
abbrev cX10_requireStatement : ByteArray := prog_1_method_46_code
def yX10_requireStatement : MethodName := ⟨RX10, "requireStatement", "(I)V"⟩
abbrev cX10_requirePoint : ByteArray := prog_1_method_47_code
def yX10_requirePoint : MethodName := ⟨RX10, "requirePoint", "(II)V"⟩
abbrev cX10_requireCell : ByteArray := prog_1_method_48_code
def yX10_requireCell : MethodName := ⟨RX10, "requireCell", "(III)I"⟩
abbrev cX10_requireStep : ByteArray := prog_1_method_49_code
def yX10_requireStep : MethodName := ⟨RX10, "requireStep", "(I)V"⟩
abbrev cX10_arranged : ByteArray := prog_1_method_50_code
def yX10_arranged : MethodName := ⟨RX10, "arranged", "()LCellWindows$Work;"⟩
abbrev cX10_gatherDifferences : ByteArray := prog_1_method_51_code
def yX10_gatherDifferences : MethodName := ⟨RX10, "gatherDifferences", "(I)V"⟩
abbrev cX10_placesOf : ByteArray := prog_1_method_52_code
def yX10_placesOf : MethodName := ⟨RX10, "placesOf", "(I)I"⟩
abbrev cX10_keepSmallest : ByteArray := prog_1_method_53_code
def yX10_keepSmallest : MethodName := ⟨RX10, "keepSmallest", "(LCellWindows$Window;)V"⟩
abbrev cX10_keepIfSmaller : ByteArray := prog_1_method_54_code
def yX10_keepIfSmaller : MethodName := ⟨RX10, "keepIfSmaller", "(LCellWindows$Window;)V"⟩
abbrev cX10_valueWritten : ByteArray := prog_1_method_55_code
def yX10_valueWritten : MethodName := ⟨RX10, "valueWritten", "(LCellWindows$Machine;I)I"⟩
abbrev cX10_findBest : ByteArray := prog_1_method_56_code
def yX10_findBest : MethodName := ⟨RX10, "findBest", "()V"⟩
abbrev cX10_leastRoomWith : ByteArray := prog_1_method_57_code
def yX10_leastRoomWith : MethodName := ⟨RX10, "leastRoomWith", "(II)I"⟩
abbrev cX10_restOf : ByteArray := prog_1_method_58_code
def yX10_restOf : MethodName := ⟨RX10, "restOf", "(II)I"⟩
def RX11 : String := "CellWindowsModel"
def TX11 : u_T := fun k => match k with
  | 0 => ("CellWindowsModel", "rows", "I", false)
  | 1 => ("CellWindowsModel", "columns", "I", false)
  | 2 => ("CellWindowsModel", "statements", "I", false)
  | 3 => ("CellWindowsModel", "addend", "[I", true)
  | 4 => ("CellWindowsModel", "reads", "[I", true)
  | 5 => ("CellWindowsModel", "source", "[I", true)
  | 6 => ("CellWindowsModel", "factor", "[I", true)
  | 7 => ("CellWindowsModel", "rowsBack", "[I", true)
  | 8 => ("CellWindowsModel", "columnsBack", "[I", true)
  | 9 => ("CellWindowsModel", "isLasting", "[Z", true)
  | 10 => ("CellWindowsModel", "offset", "[I", true)
  | 11 => ("CellWindowsModel", "rowWeight", "I", false)
  | 12 => ("CellWindowsModel", "columnWeight", "I", false)
  | 13 => ("CellWindowsModel", "kind", "[I", true)
  | 14 => ("CellWindowsModel", "first", "[I", true)
  | 15 => ("CellWindowsModel", "second", "[I", true)
  | 16 => ("CellWindowsModel", "many", "[I", true)
  | 17 => ("CellWindowsModel", "step", "[I", true)
  | 18 => ("CellWindowsModel", "cellAt", "[I", true)
  | 19 => ("CellWindowsModel", "end", "[I", true)
  | 20 => ("CellWindowsModel", "value", "[I", true)
  | 21 => ("CellWindowsModel", "kept", "[I", true)
  | 22 => ("CellWindowsModel", "written", "[I", true)
  | 23 => ("CellWindowsModel", "change", "[I", true)
  | 24 => ("CellWindowsModel", "apart", "[Z", true)
  | 25 => ("CellWindowsModel", "away", "[Z", true)
  | 26 => ("CellWindowsModel", "best", "I", false)
  | 27 => ("CellWindowsModel", "bestRow", "I", false)
  | 28 => ("CellWindowsModel", "bestColumn", "I", false)
  | _ => ("CellWindowsModel", "thrown", "I", false)
def tyX11 : Nat → FieldType := fun k => match k with
  | 0 => .int
  | 1 => .int
  | 2 => .int
  | 3 => .array .int
  | 4 => .array .int
  | 5 => .array .int
  | 6 => .array .int
  | 7 => .array .int
  | 8 => .array .int
  | 9 => .array .boolean
  | 10 => .array .int
  | 11 => .int
  | 12 => .int
  | 13 => .array .int
  | 14 => .array .int
  | 15 => .array .int
  | 16 => .array .int
  | 17 => .array .int
  | 18 => .array .int
  | 19 => .array .int
  | 20 => .array .int
  | 21 => .array .int
  | 22 => .array .int
  | 23 => .array .int
  | 24 => .array .boolean
  | 25 => .array .boolean
  | 26 => .int
  | 27 => .int
  | 28 => .int
  | _ => .int
abbrev wsX110 : List Cond := u_ws RX11 TX11 30
theorem nmX11 : ∀ a, a < 30 → ∀ b, b < 30 → a ≠ b → (TX11 a).2.1 ≠ (TX11 b).2.1 := by decide +kernel
theorem tyX11_ok : ∀ k, k < 30 → parseFieldDescriptor (TX11 k).2.2.1 = some (tyX11 k) := by decide +kernel
abbrev cX11_init : ByteArray := prog_13_method_1_code
def yX11_init : MethodName := ⟨RX11, "<init>", "()V"⟩
abbrev cX11_thrown : ByteArray := prog_13_method_2_code
def yX11_thrown : MethodName := ⟨RX11, "thrown", "()I"⟩
abbrev cX11_fails : ByteArray := prog_13_method_3_code
def yX11_fails : MethodName := ⟨RX11, "fails", "(I)Z"⟩
abbrev cX11_isIn : ByteArray := prog_13_method_4_code
def yX11_isIn : MethodName := ⟨RX11, "isIn", "(III)Z"⟩
abbrev cX11_is : ByteArray := prog_13_method_5_code
def yX11_is : MethodName := ⟨RX11, "is", "(I)Z"⟩
abbrev cX11_isCell : ByteArray := prog_13_method_6_code
def yX11_isCell : MethodName := ⟨RX11, "isCell", "(III)Z"⟩
abbrev cX11_isPoint : ByteArray := prog_13_method_7_code
def yX11_isPoint : MethodName := ⟨RX11, "isPoint", "(II)Z"⟩
abbrev cX11_cell : ByteArray := prog_13_method_8_code
def yX11_cell : MethodName := ⟨RX11, "cell", "(III)I"⟩
abbrev cX11_row : ByteArray := prog_13_method_9_code
def yX11_row : MethodName := ⟨RX11, "row", "(I)I"⟩
abbrev cX11_column : ByteArray := prog_13_method_10_code
def yX11_column : MethodName := ⟨RX11, "column", "(I)I"⟩
abbrev cX11_all : ByteArray := prog_13_method_11_code
def yX11_all : MethodName := ⟨RX11, "all", "()I"⟩
abbrev cX11_addStatement : ByteArray := prog_13_method_12_code
def yX11_addStatement : MethodName := ⟨RX11, "addStatement", "(I)I"⟩
abbrev cX11_addRead : ByteArray := prog_13_method_13_code
def yX11_addRead : MethodName := ⟨RX11, "addRead", "(IIIII)I"⟩
abbrev cX11_dropReads : ByteArray := prog_13_method_14_code
def yX11_dropReads : MethodName := ⟨RX11, "dropReads", "(I)I"⟩
abbrev cX11_setLasting : ByteArray := prog_13_method_15_code
def yX11_setLasting : MethodName := ⟨RX11, "setLasting", "(IZ)Z"⟩
abbrev cX11_setField : ByteArray := prog_13_method_16_code
def yX11_setField : MethodName := ⟨RX11, "setField", "(II)I"⟩
abbrev cX11_time : ByteArray := prog_13_method_17_code
def yX11_time : MethodName := ⟨RX11, "time", "(III)I"⟩
abbrev cX11_deals : ByteArray := prog_13_method_18_code
def yX11_deals : MethodName := ⟨RX11, "deals", "(II)V"⟩
abbrev cX11_orders : ByteArray := prog_13_method_19_code
def yX11_orders : MethodName := ⟨RX11, "orders", "()V"⟩
abbrev cX11_wanted : ByteArray := prog_13_method_20_code
def yX11_wanted : MethodName := ⟨RX11, "wanted", "(II)I"⟩
abbrev cX11_isInOrder : ByteArray := prog_13_method_21_code
def yX11_isInOrder : MethodName := ⟨RX11, "isInOrder", "(II)Z"⟩
abbrev cX11_areInOrder : ByteArray := prog_13_method_22_code
def yX11_areInOrder : MethodName := ⟨RX11, "areInOrder", "()Z"⟩
abbrev cX11_allows : ByteArray := prog_13_method_23_code
def yX11_allows : MethodName := ⟨RX11, "allows", "(II)Z"⟩
abbrev cX11_areWeights : ByteArray := prog_13_method_24_code
def yX11_areWeights : MethodName := ⟨RX11, "areWeights", "(II)Z"⟩
abbrev cX11_setSchedule : ByteArray := prog_13_method_25_code
def yX11_setSchedule : MethodName := ⟨RX11, "setSchedule", "(II)Z"⟩
abbrev cX11_setOffset : ByteArray := prog_13_method_26_code
def yX11_setOffset : MethodName := ⟨RX11, "setOffset", "(II)Z"⟩
abbrev cX11_isAllowed : ByteArray := prog_13_method_27_code
def yX11_isAllowed : MethodName := ⟨RX11, "isAllowed", "()Z"⟩
abbrev cX11_isAllowedWith : ByteArray := prog_13_method_28_code
def yX11_isAllowedWith : MethodName := ⟨RX11, "isAllowedWith", "(II)Z"⟩
abbrev cX11_isReadInOrder : ByteArray := prog_13_method_29_code
def yX11_isReadInOrder : MethodName := ⟨RX11, "isReadInOrder", "(II)Z"⟩
abbrev cX11_steps : ByteArray := prog_13_method_30_code
def yX11_steps : MethodName := ⟨RX11, "steps", "()I"⟩
abbrev cX11_stepOf : ByteArray := prog_13_method_31_code
def yX11_stepOf : MethodName := ⟨RX11, "stepOf", "(III)I"⟩
abbrev cX11_isStep : ByteArray := prog_13_method_32_code
def yX11_isStep : MethodName := ⟨RX11, "isStep", "(I)Z"⟩
abbrev cX11_statementAt : ByteArray := prog_13_method_33_code
def yX11_statementAt : MethodName := ⟨RX11, "statementAt", "(I)I"⟩
abbrev cX11_pointAt : ByteArray := prog_13_method_34_code
def yX11_pointAt : MethodName := ⟨RX11, "pointAt", "(I)I"⟩
abbrev cX11_lives : ByteArray := prog_13_method_35_code
def yX11_lives : MethodName := ⟨RX11, "lives", "()V"⟩
abbrev cX11_finds : ByteArray := prog_13_method_36_code
def yX11_finds : MethodName := ⟨RX11, "finds", "()V"⟩
abbrev cX11_endOf : ByteArray := prog_13_method_37_code
def yX11_endOf : MethodName := ⟨RX11, "endOf", "(III)I"⟩
abbrev cX11_most : ByteArray := prog_13_method_38_code
def yX11_most : MethodName := ⟨RX11, "most", "(II)I"⟩
abbrev cX11_liveAt : ByteArray := prog_13_method_39_code
def yX11_liveAt : MethodName := ⟨RX11, "liveAt", "(I)I"⟩
abbrev cX11_mostLive : ByteArray := prog_13_method_40_code
def yX11_mostLive : MethodName := ⟨RX11, "mostLive", "()I"⟩
abbrev cX11_mostLiveOf : ByteArray := prog_13_method_41_code
def yX11_mostLiveOf : MethodName := ⟨RX11, "mostLiveOf", "(I)I"⟩
abbrev cX11_areInConflict : ByteArray := prog_13_method_42_code
def yX11_areInConflict : MethodName := ⟨RX11, "areInConflict", "(II)Z"⟩
abbrev cX11_conflicts : ByteArray := prog_13_method_43_code
def yX11_conflicts : MethodName := ⟨RX11, "conflicts", "(II)I"⟩
abbrev cX11_conflictsOf : ByteArray := prog_13_method_44_code
def yX11_conflictsOf : MethodName := ⟨RX11, "conflictsOf", "(IIII)I"⟩
abbrev cX11_conflictPairs : ByteArray := prog_13_method_45_code
def yX11_conflictPairs : MethodName := ⟨RX11, "conflictPairs", "(I)I"⟩
abbrev cX11_differs : ByteArray := prog_13_method_46_code
def yX11_differs : MethodName := ⟨RX11, "differs", "(I)V"⟩
abbrev cX11_gives : ByteArray := prog_13_method_47_code
def yX11_gives : MethodName := ⟨RX11, "gives", "(IIII)I"⟩
abbrev cX11_size : ByteArray := prog_13_method_48_code
def yX11_size : MethodName := ⟨RX11, "size", "(I)I"⟩
abbrev cX11_isModulus : ByteArray := prog_13_method_49_code
def yX11_isModulus : MethodName := ⟨RX11, "isModulus", "(I)Z"⟩
abbrev cX11_keepWhole : ByteArray := prog_13_method_50_code
def yX11_keepWhole : MethodName := ⟨RX11, "keepWhole", "(I)I"⟩
abbrev cX11_keepRest : ByteArray := prog_13_method_51_code
def yX11_keepRest : MethodName := ⟨RX11, "keepRest", "(II)I"⟩
abbrev cX11_keepTwoRests : ByteArray := prog_13_method_52_code
def yX11_keepTwoRests : MethodName := ⟨RX11, "keepTwoRests", "(III)I"⟩
abbrev cX11_keepSlant : ByteArray := prog_13_method_53_code
def yX11_keepSlant : MethodName := ⟨RX11, "keepSlant", "(III)I"⟩
abbrev cX11_rooms : ByteArray := prog_13_method_54_code
def yX11_rooms : MethodName := ⟨RX11, "rooms", "()I"⟩
abbrev cX11_contract : ByteArray := prog_13_method_55_code
def yX11_contract : MethodName := ⟨RX11, "contract", "()I"⟩
abbrev cX11_windowSize : ByteArray := prog_13_method_56_code
def yX11_windowSize : MethodName := ⟨RX11, "windowSize", "(I)I"⟩
abbrev cX11_room : ByteArray := prog_13_method_57_code
def yX11_room : MethodName := ⟨RX11, "room", "()I"⟩
abbrev cX11_place : ByteArray := prog_13_method_58_code
def yX11_place : MethodName := ⟨RX11, "place", "(I)I"⟩
abbrev cX11_placeOf : ByteArray := prog_13_method_59_code
def yX11_placeOf : MethodName := ⟨RX11, "placeOf", "(III)I"⟩
abbrev cX11_isRight : ByteArray := prog_13_method_60_code
def yX11_isRight : MethodName := ⟨RX11, "isRight", "(I)Z"⟩
abbrev cX11_isRest : ByteArray := prog_13_method_61_code
def yX11_isRest : MethodName := ⟨RX11, "isRest", "(I)Z"⟩
abbrev cX11_rest : ByteArray := prog_13_method_62_code
def yX11_rest : MethodName := ⟨RX11, "rest", "()I"⟩
abbrev cX11_isTwo : ByteArray := prog_13_method_63_code
def yX11_isTwo : MethodName := ⟨RX11, "isTwo", "(II)Z"⟩
abbrev cX11_two : ByteArray := prog_13_method_64_code
def yX11_two : MethodName := ⟨RX11, "two", "()I"⟩
abbrev cX11_isSlant : ByteArray := prog_13_method_65_code
def yX11_isSlant : MethodName := ⟨RX11, "isSlant", "(II)Z"⟩
abbrev cX11_slant : ByteArray := prog_13_method_66_code
def yX11_slant : MethodName := ⟨RX11, "slant", "()I"⟩
abbrev cX11_seeks : ByteArray := prog_13_method_67_code
def yX11_seeks : MethodName := ⟨RX11, "seeks", "(I)V"⟩
abbrev cX11_leastRest : ByteArray := prog_13_method_68_code
def yX11_leastRest : MethodName := ⟨RX11, "leastRest", "(I)I"⟩
abbrev cX11_leastRestByDifferences : ByteArray := prog_13_method_69_code
def yX11_leastRestByDifferences : MethodName := ⟨RX11, "leastRestByDifferences", "(I)I"⟩
abbrev cX11_leastRowRest : ByteArray := prog_13_method_70_code
def yX11_leastRowRest : MethodName := ⟨RX11, "leastRowRest", "(I)I"⟩
abbrev cX11_leastColumnRest : ByteArray := prog_13_method_71_code
def yX11_leastColumnRest : MethodName := ⟨RX11, "leastColumnRest", "(I)I"⟩
abbrev cX11_leastSlantModulus : ByteArray := prog_13_method_72_code
def yX11_leastSlantModulus : MethodName := ⟨RX11, "leastSlantModulus", "(I)I"⟩
abbrev cX11_leastSlant : ByteArray := prog_13_method_73_code
def yX11_leastSlant : MethodName := ⟨RX11, "leastSlant", "(I)I"⟩
abbrev cX11_distances : ByteArray := prog_13_method_74_code
def yX11_distances : MethodName := ⟨RX11, "distances", "(II)V"⟩
abbrev cX11_leastJointRest : ByteArray := prog_13_method_75_code
def yX11_leastJointRest : MethodName := ⟨RX11, "leastJointRest", "(II)I"⟩
abbrev cX11_divides : ByteArray := prog_13_method_76_code
def yX11_divides : MethodName := ⟨RX11, "divides", "(I)Z"⟩
abbrev cX11_border : ByteArray := prog_13_method_77_code
def yX11_border : MethodName := ⟨RX11, "border", "(III)I"⟩
abbrev cX11_works : ByteArray := prog_13_method_78_code
def yX11_works : MethodName := ⟨RX11, "works", "()I"⟩
abbrev cX11_valueOf : ByteArray := prog_13_method_79_code
def yX11_valueOf : MethodName := ⟨RX11, "valueOf", "(III)I"⟩
abbrev cX11_contractedValueOf : ByteArray := prog_13_method_80_code
def yX11_contractedValueOf : MethodName := ⟨RX11, "contractedValueOf", "(III)I"⟩
abbrev cX11_firstWrongStep : ByteArray := prog_13_method_81_code
def yX11_firstWrongStep : MethodName := ⟨RX11, "firstWrongStep", "()I"⟩
abbrev cX11_hasBest : ByteArray := prog_13_method_82_code
def yX11_hasBest : MethodName := ⟨RX11, "hasBest", "()Z"⟩
abbrev cX11_bestRowWeight : ByteArray := prog_13_method_83_code
def yX11_bestRowWeight : MethodName := ⟨RX11, "bestRowWeight", "()I"⟩
abbrev cX11_bestColumnWeight : ByteArray := prog_13_method_84_code
def yX11_bestColumnWeight : MethodName := ⟨RX11, "bestColumnWeight", "()I"⟩
abbrev cX11_bestRoom : ByteArray := prog_13_method_85_code
def yX11_bestRoom : MethodName := ⟨RX11, "bestRoom", "()I"⟩
def RJx145de : String := "java/io/Serializable"
def TJx145de : u_T := fun k => match k with
  | _ => ("", "", "", false)
def tyJx145de : Nat → FieldType := fun k => match k with
  | _ => .int
abbrev wsJx145de0 : List Cond := u_ws RJx145de TJx145de 0
theorem nmJx145de : ∀ a, a < 0 → ∀ b, b < 0 → a ≠ b → (TJx145de a).2.1 ≠ (TJx145de b).2.1 := by decide +kernel
theorem tyJx145de_ok : ∀ k, k < 0 → parseFieldDescriptor (TJx145de k).2.2.1 = some (tyJx145de k) := by decide +kernel
def RJx8e188 : String := "java/lang/Cloneable"
def TJx8e188 : u_T := fun k => match k with
  | _ => ("", "", "", false)
def tyJx8e188 : Nat → FieldType := fun k => match k with
  | _ => .int
abbrev wsJx8e1880 : List Cond := u_ws RJx8e188 TJx8e188 0
theorem nmJx8e188 : ∀ a, a < 0 → ∀ b, b < 0 → a ≠ b → (TJx8e188 a).2.1 ≠ (TJx8e188 b).2.1 := by decide +kernel
theorem tyJx8e188_ok : ∀ k, k < 0 → parseFieldDescriptor (TJx8e188 k).2.2.1 = some (tyJx8e188 k) := by decide +kernel
def RJxb160c : String := "java/lang/Comparable"
def TJxb160c : u_T := fun k => match k with
  | _ => ("", "", "", false)
def tyJxb160c : Nat → FieldType := fun k => match k with
  | _ => .int
abbrev wsJxb160c0 : List Cond := u_ws RJxb160c TJxb160c 0
theorem nmJxb160c : ∀ a, a < 0 → ∀ b, b < 0 → a ≠ b → (TJxb160c a).2.1 ≠ (TJxb160c b).2.1 := by decide +kernel
theorem tyJxb160c_ok : ∀ k, k < 0 → parseFieldDescriptor (TJxb160c k).2.2.1 = some (tyJxb160c k) := by decide +kernel
def RJx29ce0 : String := "java/lang/Enum"
def TJx29ce0 : u_T := fun k => match k with
  | _ => ("", "", "", false)
def tyJx29ce0 : Nat → FieldType := fun k => match k with
  | _ => .int
abbrev wsJx29ce00 : List Cond := u_ws RJx29ce0 TJx29ce0 0
theorem nmJx29ce0 : ∀ a, a < 0 → ∀ b, b < 0 → a ≠ b → (TJx29ce0 a).2.1 ≠ (TJx29ce0 b).2.1 := by decide +kernel
theorem tyJx29ce0_ok : ∀ k, k < 0 → parseFieldDescriptor (TJx29ce0 k).2.2.1 = some (tyJx29ce0 k) := by decide +kernel
abbrev cJx29ce0_ordinal_8abf5 : ByteArray := prog_17_method_2_code
def yJx29ce0_ordinal_8abf5 : MethodName := ⟨RJx29ce0, "ordinal", "()I"⟩
def RJxab1ab : String := "java/lang/Iterable"
def TJxab1ab : u_T := fun k => match k with
  | _ => ("", "", "", false)
def tyJxab1ab : Nat → FieldType := fun k => match k with
  | _ => .int
abbrev wsJxab1ab0 : List Cond := u_ws RJxab1ab TJxab1ab 0
theorem nmJxab1ab : ∀ a, a < 0 → ∀ b, b < 0 → a ≠ b → (TJxab1ab a).2.1 ≠ (TJxab1ab b).2.1 := by decide +kernel
theorem tyJxab1ab_ok : ∀ k, k < 0 → parseFieldDescriptor (TJxab1ab k).2.2.1 = some (tyJxab1ab k) := by decide +kernel
def RJ9 : String := "java/lang/Math"
def TJ9 : u_T := fun k => match k with
  | _ => ("", "", "", false)
def tyJ9 : Nat → FieldType := fun k => match k with
  | _ => .int
abbrev wsJ90 : List Cond := u_ws RJ9 TJ9 0
theorem nmJ9 : ∀ a, a < 0 → ∀ b, b < 0 → a ≠ b → (TJ9 a).2.1 ≠ (TJ9 b).2.1 := by decide +kernel
theorem tyJ9_ok : ∀ k, k < 0 → parseFieldDescriptor (TJ9 k).2.2.1 = some (tyJ9 k) := by decide +kernel
abbrev cJ9_floorMod_7cf53 : ByteArray := prog_23_method_50_code
def yJ9_floorMod_7cf53 : MethodName := ⟨RJ9, "floorMod", "(II)I"⟩
abbrev cJ9_abs_0f7a4 : ByteArray := prog_23_method_59_code
def yJ9_abs_0f7a4 : MethodName := ⟨RJ9, "abs", "(I)I"⟩
abbrev cJ9_max_7cf53 : ByteArray := prog_23_method_65_code
def yJ9_max_7cf53 : MethodName := ⟨RJ9, "max", "(II)I"⟩
abbrev cJ9_min_7cf53 : ByteArray := prog_23_method_69_code
def yJ9_min_7cf53 : MethodName := ⟨RJ9, "min", "(II)I"⟩
def RJ0 : String := "java/lang/String"
def TJ0 : u_T := fun k => match k with
  | _ => ("", "", "", false)
def tyJ0 : Nat → FieldType := fun k => match k with
  | _ => .int
abbrev wsJ00 : List Cond := u_ws RJ0 TJ0 0
theorem nmJ0 : ∀ a, a < 0 → ∀ b, b < 0 → a ≠ b → (TJ0 a).2.1 ≠ (TJ0 b).2.1 := by decide +kernel
theorem tyJ0_ok : ∀ k, k < 0 → parseFieldDescriptor (TJ0 k).2.2.1 = some (tyJ0 k) := by decide +kernel
def RJ10 : String := "java/lang/System"
def TJ10 : u_T := fun k => match k with
  | _ => ("", "", "", false)
def tyJ10 : Nat → FieldType := fun k => match k with
  | _ => .int
abbrev wsJ100 : List Cond := u_ws RJ10 TJ10 0
theorem nmJ10 : ∀ a, a < 0 → ∀ b, b < 0 → a ≠ b → (TJ10 a).2.1 ≠ (TJ10 b).2.1 := by decide +kernel
theorem tyJ10_ok : ∀ k, k < 0 → parseFieldDescriptor (TJ10 k).2.2.1 = some (tyJ10 k) := by decide +kernel
def RJxfd54e : String := "java/lang/constant/Constable"
def TJxfd54e : u_T := fun k => match k with
  | _ => ("", "", "", false)
def tyJxfd54e : Nat → FieldType := fun k => match k with
  | _ => .int
abbrev wsJxfd54e0 : List Cond := u_ws RJxfd54e TJxfd54e 0
theorem nmJxfd54e : ∀ a, a < 0 → ∀ b, b < 0 → a ≠ b → (TJxfd54e a).2.1 ≠ (TJxfd54e b).2.1 := by decide +kernel
theorem tyJxfd54e_ok : ∀ k, k < 0 → parseFieldDescriptor (TJxfd54e k).2.2.1 = some (tyJxfd54e k) := by decide +kernel
def RJxa1e45 : String := "java/util/AbstractCollection"
def TJxa1e45 : u_T := fun k => match k with
  | _ => ("", "", "", false)
def tyJxa1e45 : Nat → FieldType := fun k => match k with
  | _ => .int
abbrev wsJxa1e450 : List Cond := u_ws RJxa1e45 TJxa1e45 0
theorem nmJxa1e45 : ∀ a, a < 0 → ∀ b, b < 0 → a ≠ b → (TJxa1e45 a).2.1 ≠ (TJxa1e45 b).2.1 := by decide +kernel
theorem tyJxa1e45_ok : ∀ k, k < 0 → parseFieldDescriptor (TJxa1e45 k).2.2.1 = some (tyJxa1e45 k) := by decide +kernel
abbrev cJxa1e45_init_da8c8 : ByteArray := prog_29_method_1_code
def yJxa1e45_init_da8c8 : MethodName := ⟨RJxa1e45, "<init>", "()V"⟩
def RJxc12de : String := "java/util/AbstractList"
def TJxc12de : u_T := fun k => match k with
  | _ => ("", "", "", false)
def tyJxc12de : Nat → FieldType := fun k => match k with
  | _ => .int
abbrev wsJxc12de0 : List Cond := u_ws RJxc12de TJxc12de 0
theorem nmJxc12de : ∀ a, a < 0 → ∀ b, b < 0 → a ≠ b → (TJxc12de a).2.1 ≠ (TJxc12de b).2.1 := by decide +kernel
theorem tyJxc12de_ok : ∀ k, k < 0 → parseFieldDescriptor (TJxc12de k).2.2.1 = some (tyJxc12de k) := by decide +kernel
abbrev cJxc12de_init_da8c8 : ByteArray := prog_30_method_1_code
def yJxc12de_init_da8c8 : MethodName := ⟨RJxc12de, "<init>", "()V"⟩
def RJx4a65c : String := "java/util/ArrayList"
def TJx4a65c : u_T := fun k => match k with
  | 0 => ("java/util/AbstractList", "modCount", "I", false)
  | 1 => ("java/util/ArrayList", "elementData", "[Ljava/lang/Object;", false)
  | _ => ("java/util/ArrayList", "size", "I", false)
def tyJx4a65c : Nat → FieldType := fun k => match k with
  | 0 => .int
  | 1 => .array (.object "java/lang/Object")
  | _ => .int
abbrev wsJx4a65c0 : List Cond := u_ws RJx4a65c TJx4a65c 3
theorem nmJx4a65c : ∀ a, a < 3 → ∀ b, b < 3 → a ≠ b → (TJx4a65c a).2.1 ≠ (TJx4a65c b).2.1 := by decide +kernel
theorem tyJx4a65c_ok : ∀ k, k < 3 → parseFieldDescriptor (TJx4a65c k).2.2.1 = some (tyJx4a65c k) := by decide +kernel
abbrev cJx4a65c_init_da8c8 : ByteArray := prog_31_method_2_code
def yJx4a65c_init_da8c8 : MethodName := ⟨RJx4a65c, "<init>", "()V"⟩
abbrev cJx4a65c_grow_92f84 : ByteArray := prog_31_method_6_code
def yJx4a65c_grow_92f84 : MethodName := ⟨RJx4a65c, "grow", "(I)[Ljava/lang/Object;"⟩
abbrev cJx4a65c_grow_d5877 : ByteArray := prog_31_method_7_code
def yJx4a65c_grow_d5877 : MethodName := ⟨RJx4a65c, "grow", "()[Ljava/lang/Object;"⟩
abbrev cJx4a65c_size_8abf5 : ByteArray := prog_31_method_8_code
def yJx4a65c_size_8abf5 : MethodName := ⟨RJx4a65c, "size", "()I"⟩
abbrev cJx4a65c_elementData_915e3 : ByteArray := prog_31_method_18_code
def yJx4a65c_elementData_915e3 : MethodName := ⟨RJx4a65c, "elementData", "(I)Ljava/lang/Object;"⟩
abbrev cJx4a65c_get_915e3 : ByteArray := prog_31_method_20_code
def yJx4a65c_get_915e3 : MethodName := ⟨RJx4a65c, "get", "(I)Ljava/lang/Object;"⟩
abbrev cJx4a65c_add_72be8 : ByteArray := prog_31_method_24_code
def yJx4a65c_add_72be8 : MethodName := ⟨RJx4a65c, "add", "(Ljava/lang/Object;[Ljava/lang/Object;I)V"⟩
abbrev cJx4a65c_add_9ea2d : ByteArray := prog_31_method_25_code
def yJx4a65c_add_9ea2d : MethodName := ⟨RJx4a65c, "add", "(Ljava/lang/Object;)Z"⟩
abbrev cJx4a65c_clear_da8c8 : ByteArray := prog_31_method_40_code
def yJx4a65c_clear_da8c8 : MethodName := ⟨RJx4a65c, "clear", "()V"⟩
def RJ7 : String := "java/util/Arrays"
def TJ7 : u_T := fun k => match k with
  | _ => ("", "", "", false)
def tyJ7 : Nat → FieldType := fun k => match k with
  | _ => .int
abbrev wsJ70 : List Cond := u_ws RJ7 TJ7 0
theorem nmJ7 : ∀ a, a < 0 → ∀ b, b < 0 → a ≠ b → (TJ7 a).2.1 ≠ (TJ7 b).2.1 := by decide +kernel
theorem tyJ7_ok : ∀ k, k < 0 → parseFieldDescriptor (TJ7 k).2.2.1 = some (tyJ7 k) := by decide +kernel
abbrev cJ7_fill_53178 : ByteArray := prog_32_method_103_code
def yJ7_fill_53178 : MethodName := ⟨RJ7, "fill", "([II)V"⟩
abbrev cJ7_copyOf_1904c : ByteArray := prog_32_method_119_code
def yJ7_copyOf_1904c : MethodName := ⟨RJ7, "copyOf", "([Ljava/lang/Object;I)[Ljava/lang/Object;"⟩
abbrev cJ7_copyOf_6403c : ByteArray := prog_32_method_120_code
def yJ7_copyOf_6403c : MethodName := ⟨RJ7, "copyOf", "([Ljava/lang/Object;ILjava/lang/Class;)[Ljava/lang/Object;"⟩
def RJx5ef63 : String := "java/util/Collection"
def TJx5ef63 : u_T := fun k => match k with
  | _ => ("", "", "", false)
def tyJx5ef63 : Nat → FieldType := fun k => match k with
  | _ => .int
abbrev wsJx5ef630 : List Cond := u_ws RJx5ef63 TJx5ef63 0
theorem nmJx5ef63 : ∀ a, a < 0 → ∀ b, b < 0 → a ≠ b → (TJx5ef63 a).2.1 ≠ (TJx5ef63 b).2.1 := by decide +kernel
theorem tyJx5ef63_ok : ∀ k, k < 0 → parseFieldDescriptor (TJx5ef63 k).2.2.1 = some (tyJx5ef63 k) := by decide +kernel
def RJxbd725 : String := "java/util/List"
def TJxbd725 : u_T := fun k => match k with
  | _ => ("", "", "", false)
def tyJxbd725 : Nat → FieldType := fun k => match k with
  | _ => .int
abbrev wsJxbd7250 : List Cond := u_ws RJxbd725 TJxbd725 0
theorem nmJxbd725 : ∀ a, a < 0 → ∀ b, b < 0 → a ≠ b → (TJxbd725 a).2.1 ≠ (TJxbd725 b).2.1 := by decide +kernel
theorem tyJxbd725_ok : ∀ k, k < 0 → parseFieldDescriptor (TJxbd725 k).2.2.1 = some (tyJxbd725 k) := by decide +kernel
def RJ15 : String := "java/util/Objects"
def TJ15 : u_T := fun k => match k with
  | _ => ("", "", "", false)
def tyJ15 : Nat → FieldType := fun k => match k with
  | _ => .int
abbrev wsJ150 : List Cond := u_ws RJ15 TJ15 0
theorem nmJ15 : ∀ a, a < 0 → ∀ b, b < 0 → a ≠ b → (TJ15 a).2.1 ≠ (TJ15 b).2.1 := by decide +kernel
theorem tyJ15_ok : ∀ k, k < 0 → parseFieldDescriptor (TJ15 k).2.2.1 = some (tyJ15 k) := by decide +kernel
abbrev cJ15_checkIndex_7cf53 : ByteArray := prog_35_method_17_code
def yJ15_checkIndex_7cf53 : MethodName := ⟨RJ15, "checkIndex", "(II)I"⟩
def RJxf0a74 : String := "java/util/RandomAccess"
def TJxf0a74 : u_T := fun k => match k with
  | _ => ("", "", "", false)
def tyJxf0a74 : Nat → FieldType := fun k => match k with
  | _ => .int
abbrev wsJxf0a740 : List Cond := u_ws RJxf0a74 TJxf0a74 0
theorem nmJxf0a74 : ∀ a, a < 0 → ∀ b, b < 0 → a ≠ b → (TJxf0a74 a).2.1 ≠ (TJxf0a74 b).2.1 := by decide +kernel
theorem tyJxf0a74_ok : ∀ k, k < 0 → parseFieldDescriptor (TJxf0a74 k).2.2.1 = some (tyJxf0a74 k) := by decide +kernel
def RJxa66e6 : String := "java/util/SequencedCollection"
def TJxa66e6 : u_T := fun k => match k with
  | _ => ("", "", "", false)
def tyJxa66e6 : Nat → FieldType := fun k => match k with
  | _ => .int
abbrev wsJxa66e60 : List Cond := u_ws RJxa66e6 TJxa66e6 0
theorem nmJxa66e6 : ∀ a, a < 0 → ∀ b, b < 0 → a ≠ b → (TJxa66e6 a).2.1 ≠ (TJxa66e6 b).2.1 := by decide +kernel
theorem tyJxa66e6_ok : ∀ k, k < 0 → parseFieldDescriptor (TJxa66e6 k).2.2.1 = some (tyJxa66e6 k) := by decide +kernel
def RJ8 : String := "jdk/internal/util/ArraysSupport"
def TJ8 : u_T := fun k => match k with
  | _ => ("", "", "", false)
def tyJ8 : Nat → FieldType := fun k => match k with
  | _ => .int
abbrev wsJ80 : List Cond := u_ws RJ8 TJ8 0
theorem nmJ8 : ∀ a, a < 0 → ∀ b, b < 0 → a ≠ b → (TJ8 a).2.1 ≠ (TJ8 b).2.1 := by decide +kernel
theorem tyJ8_ok : ∀ k, k < 0 → parseFieldDescriptor (TJ8 k).2.2.1 = some (tyJ8 k) := by decide +kernel
abbrev cJ8_newLength_cabcc : ByteArray := prog_38_method_27_code
def yJ8_newLength_cabcc : MethodName := ⟨RJ8, "newLength", "(III)I"⟩
abbrev cJ8_hugeLength_7cf53 : ByteArray := prog_38_method_28_code
def yJ8_hugeLength_7cf53 : MethodName := ⟨RJ8, "hugeLength", "(II)I"⟩
def RJ3 : String := "jdk/internal/util/Preconditions"
def TJ3 : u_T := fun k => match k with
  | _ => ("", "", "", false)
def tyJ3 : Nat → FieldType := fun k => match k with
  | _ => .int
abbrev wsJ30 : List Cond := u_ws RJ3 TJ3 0
theorem nmJ3 : ∀ a, a < 0 → ∀ b, b < 0 → a ≠ b → (TJ3 a).2.1 ≠ (TJ3 b).2.1 := by decide +kernel
theorem tyJ3_ok : ∀ k, k < 0 → parseFieldDescriptor (TJ3 k).2.2.1 = some (tyJ3 k) := by decide +kernel
abbrev cJ3_checkIndex_8e157 : ByteArray := prog_39_method_11_code
def yJ3_checkIndex_8e157 : MethodName := ⟨RJ3, "checkIndex", "(IILjava/util/function/BiFunction;)I"⟩
def RL : String := "CellWindowsLaw"
abbrev cL_addStatement : ByteArray := method_3_code
def yL_addStatement : MethodName := ⟨RL, "addStatement", "(LCellWindows;I[J)I"⟩
abbrev cL_addRead : ByteArray := method_4_code
def yL_addRead : MethodName := ⟨RL, "addRead", "(LCellWindows;IIIII[J)I"⟩
abbrev cL_dropReads : ByteArray := method_5_code
def yL_dropReads : MethodName := ⟨RL, "dropReads", "(LCellWindows;I[J)I"⟩
abbrev cL_setLasting : ByteArray := method_6_code
def yL_setLasting : MethodName := ⟨RL, "setLasting", "(LCellWindows;IZ[J)I"⟩
abbrev cL_setField : ByteArray := method_7_code
def yL_setField : MethodName := ⟨RL, "setField", "(LCellWindows;II[J)I"⟩
abbrev cL_setSchedule : ByteArray := method_8_code
def yL_setSchedule : MethodName := ⟨RL, "setSchedule", "(LCellWindows;II[J)I"⟩
abbrev cL_setOffset : ByteArray := method_9_code
def yL_setOffset : MethodName := ⟨RL, "setOffset", "(LCellWindows;II[J)I"⟩
abbrev cL_isAllowedWith : ByteArray := method_10_code
def yL_isAllowedWith : MethodName := ⟨RL, "isAllowedWith", "(LCellWindows;II[J)I"⟩
abbrev cL_isReadInOrder : ByteArray := method_11_code
def yL_isReadInOrder : MethodName := ⟨RL, "isReadInOrder", "(LCellWindows;II[J)I"⟩
abbrev cL_stepOf : ByteArray := method_12_code
def yL_stepOf : MethodName := ⟨RL, "stepOf", "(LCellWindows;III[J)I"⟩
abbrev cL_statementAt : ByteArray := method_13_code
def yL_statementAt : MethodName := ⟨RL, "statementAt", "(LCellWindows;I[J)I"⟩
abbrev cL_pointAt : ByteArray := method_14_code
def yL_pointAt : MethodName := ⟨RL, "pointAt", "(LCellWindows;I[J)I"⟩
abbrev cL_endOf : ByteArray := method_15_code
def yL_endOf : MethodName := ⟨RL, "endOf", "(LCellWindows;III[J)I"⟩
abbrev cL_liveAt : ByteArray := method_16_code
def yL_liveAt : MethodName := ⟨RL, "liveAt", "(LCellWindows;I[J)I"⟩
abbrev cL_mostLiveOf : ByteArray := method_17_code
def yL_mostLiveOf : MethodName := ⟨RL, "mostLiveOf", "(LCellWindows;I[J)I"⟩
abbrev cL_conflictsOf : ByteArray := method_18_code
def yL_conflictsOf : MethodName := ⟨RL, "conflictsOf", "(LCellWindows;IIII[J)I"⟩
abbrev cL_conflictPairs : ByteArray := method_19_code
def yL_conflictPairs : MethodName := ⟨RL, "conflictPairs", "(LCellWindows;I[J)I"⟩
abbrev cL_keepWhole : ByteArray := method_20_code
def yL_keepWhole : MethodName := ⟨RL, "keepWhole", "(LCellWindows;I[J)I"⟩
abbrev cL_keepRest : ByteArray := method_21_code
def yL_keepRest : MethodName := ⟨RL, "keepRest", "(LCellWindows;II[J)I"⟩
abbrev cL_keepTwoRests : ByteArray := method_22_code
def yL_keepTwoRests : MethodName := ⟨RL, "keepTwoRests", "(LCellWindows;III[J)I"⟩
abbrev cL_keepSlant : ByteArray := method_23_code
def yL_keepSlant : MethodName := ⟨RL, "keepSlant", "(LCellWindows;III[J)I"⟩
abbrev cL_windowSize : ByteArray := method_24_code
def yL_windowSize : MethodName := ⟨RL, "windowSize", "(LCellWindows;I[J)I"⟩
abbrev cL_placeOf : ByteArray := method_25_code
def yL_placeOf : MethodName := ⟨RL, "placeOf", "(LCellWindows;III[J)I"⟩
abbrev cL_isRight : ByteArray := method_26_code
def yL_isRight : MethodName := ⟨RL, "isRight", "(LCellWindows;I[J)I"⟩
abbrev cL_leastRest : ByteArray := method_27_code
def yL_leastRest : MethodName := ⟨RL, "leastRest", "(LCellWindows;I[J)I"⟩
abbrev cL_leastRestByDifferences : ByteArray := method_28_code
def yL_leastRestByDifferences : MethodName := ⟨RL, "leastRestByDifferences", "(LCellWindows;I[J)I"⟩
abbrev cL_leastRowRest : ByteArray := method_29_code
def yL_leastRowRest : MethodName := ⟨RL, "leastRowRest", "(LCellWindows;I[J)I"⟩
abbrev cL_leastColumnRest : ByteArray := method_30_code
def yL_leastColumnRest : MethodName := ⟨RL, "leastColumnRest", "(LCellWindows;I[J)I"⟩
abbrev cL_leastSlantModulus : ByteArray := method_31_code
def yL_leastSlantModulus : MethodName := ⟨RL, "leastSlantModulus", "(LCellWindows;I[J)I"⟩
abbrev cL_leastSlant : ByteArray := method_32_code
def yL_leastSlant : MethodName := ⟨RL, "leastSlant", "(LCellWindows;I[J)I"⟩
abbrev cL_leastJointRest : ByteArray := method_33_code
def yL_leastJointRest : MethodName := ⟨RL, "leastJointRest", "(LCellWindows;II[J)I"⟩
abbrev cL_valueOf : ByteArray := method_34_code
def yL_valueOf : MethodName := ⟨RL, "valueOf", "(LCellWindows;III[J)I"⟩
abbrev cL_contractedValueOf : ByteArray := method_35_code
def yL_contractedValueOf : MethodName := ⟨RL, "contractedValueOf", "(LCellWindows;III[J)I"⟩
abbrev cL_bestRowWeight : ByteArray := method_36_code
def yL_bestRowWeight : MethodName := ⟨RL, "bestRowWeight", "(LCellWindows;[J)I"⟩
abbrev cL_bestColumnWeight : ByteArray := method_37_code
def yL_bestColumnWeight : MethodName := ⟨RL, "bestColumnWeight", "(LCellWindows;[J)I"⟩
abbrev cL_bestRoom : ByteArray := method_38_code
def yL_bestRoom : MethodName := ⟨RL, "bestRoom", "(LCellWindows;[J)I"⟩
abbrev cL_law : ByteArray := code
def yL_law : MethodName := ⟨RL, "law", "([I)Z"⟩
abbrev vwCl : List vw_C := [(RJx4a65c, TJx4a65c, 3), (RX1, TX1, 4), (RX2, TX2, 7), (RX4, TX4, 2), (RX5, TX5, 4), (RX6, TX6, 4), (RX7, TX7, 5), (RX8, TX8, 5), (RX9, TX9, 10), (RX10, TX10, 9), (RX11, TX11, 30)]
end
section
theorem dX11_init_0 : decode cX11_init 0 = .ok (.aload_n 0, 1) := by decide +kernel
theorem dX11_init_1 : decode cX11_init 1 = .ok (.invokespecial 1, 3) := by decide +kernel
theorem dX11_init_4 : decode cX11_init 4 = .ok (.aload_n 0, 1) := by decide +kernel
theorem dX11_init_5 : decode cX11_init 5 = .ok (.iconst 4, 1) := by decide +kernel
theorem dX11_init_6 : decode cX11_init 6 = .ok (.putfield 7, 3) := by decide +kernel
theorem dX11_init_9 : decode cX11_init 9 = .ok (.aload_n 0, 1) := by decide +kernel
theorem dX11_init_10 : decode cX11_init 10 = .ok (.iconst 4, 1) := by decide +kernel
theorem dX11_init_11 : decode cX11_init 11 = .ok (.putfield 13, 3) := by decide +kernel
theorem dX11_init_14 : decode cX11_init 14 = .ok (.aload_n 0, 1) := by decide +kernel
theorem dX11_init_15 : decode cX11_init 15 = .ok (.iconst 4, 1) := by decide +kernel
theorem dX11_init_16 : decode cX11_init 16 = .ok (.newarray .int, 2) := by decide +kernel
theorem dX11_init_18 : decode cX11_init 18 = .ok (.putfield 16, 3) := by decide +kernel
theorem dX11_init_21 : decode cX11_init 21 = .ok (.aload_n 0, 1) := by decide +kernel
theorem dX11_init_22 : decode cX11_init 22 = .ok (.iconst 4, 1) := by decide +kernel
theorem dX11_init_23 : decode cX11_init 23 = .ok (.newarray .int, 2) := by decide +kernel
theorem dX11_init_25 : decode cX11_init 25 = .ok (.putfield 20, 3) := by decide +kernel
theorem dX11_init_28 : decode cX11_init 28 = .ok (.aload_n 0, 1) := by decide +kernel
theorem dX11_init_29 : decode cX11_init 29 = .ok (.bipush 16, 2) := by decide +kernel
theorem dX11_init_31 : decode cX11_init 31 = .ok (.newarray .int, 2) := by decide +kernel
theorem dX11_init_33 : decode cX11_init 33 = .ok (.putfield 23, 3) := by decide +kernel
theorem dX11_init_36 : decode cX11_init 36 = .ok (.aload_n 0, 1) := by decide +kernel
theorem dX11_init_37 : decode cX11_init 37 = .ok (.bipush 16, 2) := by decide +kernel
theorem dX11_init_39 : decode cX11_init 39 = .ok (.newarray .int, 2) := by decide +kernel
theorem dX11_init_41 : decode cX11_init 41 = .ok (.putfield 26, 3) := by decide +kernel
theorem dX11_init_44 : decode cX11_init 44 = .ok (.aload_n 0, 1) := by decide +kernel
theorem dX11_init_45 : decode cX11_init 45 = .ok (.bipush 16, 2) := by decide +kernel
theorem dX11_init_47 : decode cX11_init 47 = .ok (.newarray .int, 2) := by decide +kernel
theorem dX11_init_49 : decode cX11_init 49 = .ok (.putfield 29, 3) := by decide +kernel
theorem dX11_init_52 : decode cX11_init 52 = .ok (.aload_n 0, 1) := by decide +kernel
theorem dX11_init_53 : decode cX11_init 53 = .ok (.bipush 16, 2) := by decide +kernel
theorem dX11_init_55 : decode cX11_init 55 = .ok (.newarray .int, 2) := by decide +kernel
theorem dX11_init_57 : decode cX11_init 57 = .ok (.putfield 32, 3) := by decide +kernel
theorem dX11_init_60 : decode cX11_init 60 = .ok (.aload_n 0, 1) := by decide +kernel
theorem dX11_init_61 : decode cX11_init 61 = .ok (.iconst 4, 1) := by decide +kernel
theorem dX11_init_62 : decode cX11_init 62 = .ok (.newarray .boolean, 2) := by decide +kernel
theorem dX11_init_64 : decode cX11_init 64 = .ok (.putfield 35, 3) := by decide +kernel
theorem dX11_init_67 : decode cX11_init 67 = .ok (.aload_n 0, 1) := by decide +kernel
theorem dX11_init_68 : decode cX11_init 68 = .ok (.iconst 4, 1) := by decide +kernel
theorem dX11_init_69 : decode cX11_init 69 = .ok (.newarray .int, 2) := by decide +kernel
theorem dX11_init_71 : decode cX11_init 71 = .ok (.putfield 39, 3) := by decide +kernel
theorem dX11_init_74 : decode cX11_init 74 = .ok (.aload_n 0, 1) := by decide +kernel
theorem dX11_init_75 : decode cX11_init 75 = .ok (.iconst 1, 1) := by decide +kernel
theorem dX11_init_76 : decode cX11_init 76 = .ok (.putfield 42, 3) := by decide +kernel
theorem dX11_init_79 : decode cX11_init 79 = .ok (.aload_n 0, 1) := by decide +kernel
theorem dX11_init_80 : decode cX11_init 80 = .ok (.iconst 4, 1) := by decide +kernel
theorem dX11_init_81 : decode cX11_init 81 = .ok (.newarray .int, 2) := by decide +kernel
theorem dX11_init_83 : decode cX11_init 83 = .ok (.putfield 45, 3) := by decide +kernel
theorem dX11_init_86 : decode cX11_init 86 = .ok (.aload_n 0, 1) := by decide +kernel
theorem dX11_init_87 : decode cX11_init 87 = .ok (.iconst 4, 1) := by decide +kernel
theorem dX11_init_88 : decode cX11_init 88 = .ok (.newarray .int, 2) := by decide +kernel
theorem dX11_init_90 : decode cX11_init 90 = .ok (.putfield 48, 3) := by decide +kernel
theorem dX11_init_93 : decode cX11_init 93 = .ok (.aload_n 0, 1) := by decide +kernel
theorem dX11_init_94 : decode cX11_init 94 = .ok (.iconst 4, 1) := by decide +kernel
theorem dX11_init_95 : decode cX11_init 95 = .ok (.newarray .int, 2) := by decide +kernel
theorem dX11_init_97 : decode cX11_init 97 = .ok (.putfield 51, 3) := by decide +kernel
theorem dX11_init_100 : decode cX11_init 100 = .ok (.aload_n 0, 1) := by decide +kernel
theorem dX11_init_101 : decode cX11_init 101 = .ok (.sipush 161, 3) := by decide +kernel
theorem dX11_init_104 : decode cX11_init 104 = .ok (.newarray .int, 2) := by decide +kernel
theorem dX11_init_106 : decode cX11_init 106 = .ok (.putfield 54, 3) := by decide +kernel
theorem dX11_init_109 : decode cX11_init 109 = .ok (.aload_n 0, 1) := by decide +kernel
theorem dX11_init_110 : decode cX11_init 110 = .ok (.sipush 256, 3) := by decide +kernel
theorem dX11_init_113 : decode cX11_init 113 = .ok (.newarray .int, 2) := by decide +kernel
theorem dX11_init_115 : decode cX11_init 115 = .ok (.putfield 57, 3) := by decide +kernel
theorem dX11_init_118 : decode cX11_init 118 = .ok (.aload_n 0, 1) := by decide +kernel
theorem dX11_init_119 : decode cX11_init 119 = .ok (.sipush 256, 3) := by decide +kernel
theorem dX11_init_122 : decode cX11_init 122 = .ok (.newarray .int, 2) := by decide +kernel
theorem dX11_init_124 : decode cX11_init 124 = .ok (.putfield 60, 3) := by decide +kernel
theorem dX11_init_127 : decode cX11_init 127 = .ok (.aload_n 0, 1) := by decide +kernel
theorem dX11_init_128 : decode cX11_init 128 = .ok (.sipush 256, 3) := by decide +kernel
theorem dX11_init_131 : decode cX11_init 131 = .ok (.newarray .int, 2) := by decide +kernel
theorem dX11_init_133 : decode cX11_init 133 = .ok (.putfield 63, 3) := by decide +kernel
theorem dX11_init_136 : decode cX11_init 136 = .ok (.aload_n 0, 1) := by decide +kernel
theorem dX11_init_137 : decode cX11_init 137 = .ok (.sipush 256, 3) := by decide +kernel
theorem dX11_init_140 : decode cX11_init 140 = .ok (.newarray .int, 2) := by decide +kernel
theorem dX11_init_142 : decode cX11_init 142 = .ok (.putfield 66, 3) := by decide +kernel
theorem dX11_init_145 : decode cX11_init 145 = .ok (.aload_n 0, 1) := by decide +kernel
theorem dX11_init_146 : decode cX11_init 146 = .ok (.sipush 2816, 3) := by decide +kernel
theorem dX11_init_149 : decode cX11_init 149 = .ok (.newarray .int, 2) := by decide +kernel
theorem dX11_init_151 : decode cX11_init 151 = .ok (.putfield 69, 3) := by decide +kernel
theorem dX11_init_154 : decode cX11_init 154 = .ok (.aload_n 0, 1) := by decide +kernel
theorem dX11_init_155 : decode cX11_init 155 = .ok (.sipush 256, 3) := by decide +kernel
theorem dX11_init_158 : decode cX11_init 158 = .ok (.newarray .int, 2) := by decide +kernel
theorem dX11_init_160 : decode cX11_init 160 = .ok (.putfield 72, 3) := by decide +kernel
theorem dX11_init_163 : decode cX11_init 163 = .ok (.aload_n 0, 1) := by decide +kernel
theorem dX11_init_164 : decode cX11_init 164 = .ok (.sipush 258, 3) := by decide +kernel
theorem dX11_init_167 : decode cX11_init 167 = .ok (.newarray .int, 2) := by decide +kernel
theorem dX11_init_169 : decode cX11_init 169 = .ok (.putfield 75, 3) := by decide +kernel
theorem dX11_init_172 : decode cX11_init 172 = .ok (.aload_n 0, 1) := by decide +kernel
theorem dX11_init_173 : decode cX11_init 173 = .ok (.sipush 225, 3) := by decide +kernel
theorem dX11_init_176 : decode cX11_init 176 = .ok (.newarray .boolean, 2) := by decide +kernel
theorem dX11_init_178 : decode cX11_init 178 = .ok (.putfield 78, 3) := by decide +kernel
theorem dX11_init_181 : decode cX11_init 181 = .ok (.aload_n 0, 1) := by decide +kernel
theorem dX11_init_182 : decode cX11_init 182 = .ok (.bipush 64, 2) := by decide +kernel
theorem dX11_init_184 : decode cX11_init 184 = .ok (.newarray .boolean, 2) := by decide +kernel
theorem dX11_init_186 : decode cX11_init 186 = .ok (.putfield 81, 3) := by decide +kernel
theorem dX11_init_189 : decode cX11_init 189 = .ok (.return_, 1) := by decide +kernel
theorem dX11_thrown_0 : decode cX11_thrown 0 = .ok (.aload_n 0, 1) := by decide +kernel
theorem dX11_thrown_1 : decode cX11_thrown 1 = .ok (.getfield 84, 3) := by decide +kernel
theorem dX11_thrown_4 : decode cX11_thrown 4 = .ok (.ireturn, 1) := by decide +kernel
theorem dX11_fails_0 : decode cX11_fails 0 = .ok (.aload_n 0, 1) := by decide +kernel
theorem dX11_fails_1 : decode cX11_fails 1 = .ok (.iload_n 1, 1) := by decide +kernel
theorem dX11_fails_2 : decode cX11_fails 2 = .ok (.putfield 84, 3) := by decide +kernel
theorem dX11_fails_5 : decode cX11_fails 5 = .ok (.iload_n 1, 1) := by decide +kernel
theorem dX11_fails_6 : decode cX11_fails 6 = .ok (.ifCond .le 7, 3) := by decide +kernel
theorem dX11_fails_9 : decode cX11_fails 9 = .ok (.iconst 1, 1) := by decide +kernel
theorem dX11_fails_10 : decode cX11_fails 10 = .ok (.goto 4, 3) := by decide +kernel
theorem dX11_fails_13 : decode cX11_fails 13 = .ok (.iconst 0, 1) := by decide +kernel
theorem dX11_fails_14 : decode cX11_fails 14 = .ok (.ireturn, 1) := by decide +kernel
theorem dX11_isIn_0 : decode cX11_isIn 0 = .ok (.iload_n 0, 1) := by decide +kernel
theorem dX11_isIn_1 : decode cX11_isIn 1 = .ok (.iload_n 1, 1) := by decide +kernel
theorem dX11_isIn_2 : decode cX11_isIn 2 = .ok (.if_icmp .lt 12, 3) := by decide +kernel
theorem dX11_isIn_5 : decode cX11_isIn 5 = .ok (.iload_n 0, 1) := by decide +kernel
theorem dX11_isIn_6 : decode cX11_isIn 6 = .ok (.iload_n 2, 1) := by decide +kernel
theorem dX11_isIn_7 : decode cX11_isIn 7 = .ok (.if_icmp .gt 7, 3) := by decide +kernel
theorem dX11_isIn_10 : decode cX11_isIn 10 = .ok (.iconst 1, 1) := by decide +kernel
theorem dX11_isIn_11 : decode cX11_isIn 11 = .ok (.goto 4, 3) := by decide +kernel
theorem dX11_isIn_14 : decode cX11_isIn 14 = .ok (.iconst 0, 1) := by decide +kernel
theorem dX11_isIn_15 : decode cX11_isIn 15 = .ok (.ireturn, 1) := by decide +kernel
theorem dX11_is_0 : decode cX11_is 0 = .ok (.iload_n 1, 1) := by decide +kernel
theorem dX11_is_1 : decode cX11_is 1 = .ok (.iconst 0, 1) := by decide +kernel
theorem dX11_is_2 : decode cX11_is 2 = .ok (.aload_n 0, 1) := by decide +kernel
theorem dX11_is_3 : decode cX11_is 3 = .ok (.getfield 87, 3) := by decide +kernel
theorem dX11_is_6 : decode cX11_is 6 = .ok (.iconst 1, 1) := by decide +kernel
theorem dX11_is_7 : decode cX11_is 7 = .ok (.isub, 1) := by decide +kernel
theorem dX11_is_8 : decode cX11_is 8 = .ok (.invokestatic 90, 3) := by decide +kernel
theorem dX11_is_11 : decode cX11_is 11 = .ok (.ireturn, 1) := by decide +kernel
theorem dX11_isCell_0 : decode cX11_isCell 0 = .ok (.aload_n 0, 1) := by decide +kernel
theorem dX11_isCell_1 : decode cX11_isCell 1 = .ok (.iload_n 1, 1) := by decide +kernel
theorem dX11_isCell_2 : decode cX11_isCell 2 = .ok (.invokevirtual 94, 3) := by decide +kernel
theorem dX11_isCell_5 : decode cX11_isCell 5 = .ok (.ifCond .eq 16, 3) := by decide +kernel
theorem dX11_isCell_8 : decode cX11_isCell 8 = .ok (.aload_n 0, 1) := by decide +kernel
theorem dX11_isCell_9 : decode cX11_isCell 9 = .ok (.iload_n 2, 1) := by decide +kernel
theorem dX11_isCell_10 : decode cX11_isCell 10 = .ok (.iload_n 3, 1) := by decide +kernel
theorem dX11_isCell_11 : decode cX11_isCell 11 = .ok (.invokevirtual 98, 3) := by decide +kernel
theorem dX11_isCell_14 : decode cX11_isCell 14 = .ok (.ifCond .eq 7, 3) := by decide +kernel
theorem dX11_isCell_17 : decode cX11_isCell 17 = .ok (.iconst 1, 1) := by decide +kernel
theorem dX11_isCell_18 : decode cX11_isCell 18 = .ok (.goto 4, 3) := by decide +kernel
theorem dX11_isCell_21 : decode cX11_isCell 21 = .ok (.iconst 0, 1) := by decide +kernel
theorem dX11_isCell_22 : decode cX11_isCell 22 = .ok (.ireturn, 1) := by decide +kernel
theorem dX11_isPoint_0 : decode cX11_isPoint 0 = .ok (.iload_n 1, 1) := by decide +kernel
theorem dX11_isPoint_1 : decode cX11_isPoint 1 = .ok (.iconst 0, 1) := by decide +kernel
theorem dX11_isPoint_2 : decode cX11_isPoint 2 = .ok (.aload_n 0, 1) := by decide +kernel
theorem dX11_isPoint_3 : decode cX11_isPoint 3 = .ok (.getfield 7, 3) := by decide +kernel
theorem dX11_isPoint_6 : decode cX11_isPoint 6 = .ok (.iconst 1, 1) := by decide +kernel
theorem dX11_isPoint_7 : decode cX11_isPoint 7 = .ok (.isub, 1) := by decide +kernel
theorem dX11_isPoint_8 : decode cX11_isPoint 8 = .ok (.invokestatic 90, 3) := by decide +kernel
theorem dX11_isPoint_11 : decode cX11_isPoint 11 = .ok (.ifCond .eq 21, 3) := by decide +kernel
theorem dX11_isPoint_14 : decode cX11_isPoint 14 = .ok (.iload_n 2, 1) := by decide +kernel
theorem dX11_isPoint_15 : decode cX11_isPoint 15 = .ok (.iconst 0, 1) := by decide +kernel
theorem dX11_isPoint_16 : decode cX11_isPoint 16 = .ok (.aload_n 0, 1) := by decide +kernel
theorem dX11_isPoint_17 : decode cX11_isPoint 17 = .ok (.getfield 13, 3) := by decide +kernel
theorem dX11_isPoint_20 : decode cX11_isPoint 20 = .ok (.iconst 1, 1) := by decide +kernel
theorem dX11_isPoint_21 : decode cX11_isPoint 21 = .ok (.isub, 1) := by decide +kernel
theorem dX11_isPoint_22 : decode cX11_isPoint 22 = .ok (.invokestatic 90, 3) := by decide +kernel
theorem dX11_isPoint_25 : decode cX11_isPoint 25 = .ok (.ifCond .eq 7, 3) := by decide +kernel
theorem dX11_isPoint_28 : decode cX11_isPoint 28 = .ok (.iconst 1, 1) := by decide +kernel
theorem dX11_isPoint_29 : decode cX11_isPoint 29 = .ok (.goto 4, 3) := by decide +kernel
theorem dX11_isPoint_32 : decode cX11_isPoint 32 = .ok (.iconst 0, 1) := by decide +kernel
theorem dX11_isPoint_33 : decode cX11_isPoint 33 = .ok (.ireturn, 1) := by decide +kernel
theorem dX11_cell_0 : decode cX11_cell 0 = .ok (.bipush 64, 2) := by decide +kernel
theorem dX11_cell_2 : decode cX11_cell 2 = .ok (.iload_n 1, 1) := by decide +kernel
theorem dX11_cell_3 : decode cX11_cell 3 = .ok (.imul, 1) := by decide +kernel
theorem dX11_cell_4 : decode cX11_cell 4 = .ok (.iload_n 2, 1) := by decide +kernel
theorem dX11_cell_5 : decode cX11_cell 5 = .ok (.aload_n 0, 1) := by decide +kernel
theorem dX11_cell_6 : decode cX11_cell 6 = .ok (.getfield 13, 3) := by decide +kernel
theorem dX11_cell_9 : decode cX11_cell 9 = .ok (.imul, 1) := by decide +kernel
theorem dX11_cell_10 : decode cX11_cell 10 = .ok (.iadd, 1) := by decide +kernel
theorem dX11_cell_11 : decode cX11_cell 11 = .ok (.iload_n 3, 1) := by decide +kernel
theorem dX11_cell_12 : decode cX11_cell 12 = .ok (.iadd, 1) := by decide +kernel
theorem dX11_cell_13 : decode cX11_cell 13 = .ok (.ireturn, 1) := by decide +kernel
theorem dX11_row_0 : decode cX11_row 0 = .ok (.iload_n 1, 1) := by decide +kernel
theorem dX11_row_1 : decode cX11_row 1 = .ok (.bipush 64, 2) := by decide +kernel
theorem dX11_row_3 : decode cX11_row 3 = .ok (.irem, 1) := by decide +kernel
theorem dX11_row_4 : decode cX11_row 4 = .ok (.aload_n 0, 1) := by decide +kernel
theorem dX11_row_5 : decode cX11_row 5 = .ok (.getfield 13, 3) := by decide +kernel
theorem dX11_row_8 : decode cX11_row 8 = .ok (.idiv, 1) := by decide +kernel
theorem dX11_row_9 : decode cX11_row 9 = .ok (.ireturn, 1) := by decide +kernel
theorem dX11_column_0 : decode cX11_column 0 = .ok (.iload_n 1, 1) := by decide +kernel
theorem dX11_column_1 : decode cX11_column 1 = .ok (.bipush 64, 2) := by decide +kernel
theorem dX11_column_3 : decode cX11_column 3 = .ok (.irem, 1) := by decide +kernel
theorem dX11_column_4 : decode cX11_column 4 = .ok (.aload_n 0, 1) := by decide +kernel
theorem dX11_column_5 : decode cX11_column 5 = .ok (.getfield 13, 3) := by decide +kernel
theorem dX11_column_8 : decode cX11_column 8 = .ok (.irem, 1) := by decide +kernel
theorem dX11_column_9 : decode cX11_column 9 = .ok (.ireturn, 1) := by decide +kernel
theorem dX11_all_0 : decode cX11_all 0 = .ok (.aload_n 0, 1) := by decide +kernel
theorem dX11_all_1 : decode cX11_all 1 = .ok (.getfield 87, 3) := by decide +kernel
theorem dX11_all_4 : decode cX11_all 4 = .ok (.aload_n 0, 1) := by decide +kernel
theorem dX11_all_5 : decode cX11_all 5 = .ok (.getfield 7, 3) := by decide +kernel
theorem dX11_all_8 : decode cX11_all 8 = .ok (.imul, 1) := by decide +kernel
theorem dX11_all_9 : decode cX11_all 9 = .ok (.aload_n 0, 1) := by decide +kernel
theorem dX11_all_10 : decode cX11_all 10 = .ok (.getfield 13, 3) := by decide +kernel
theorem dX11_all_13 : decode cX11_all 13 = .ok (.imul, 1) := by decide +kernel
theorem dX11_all_14 : decode cX11_all 14 = .ok (.ireturn, 1) := by decide +kernel
theorem dX11_addStatement_0 : decode cX11_addStatement 0 = .ok (.aload_n 0, 1) := by decide +kernel
theorem dX11_addStatement_1 : decode cX11_addStatement 1 = .ok (.iload_n 1, 1) := by decide +kernel
theorem dX11_addStatement_2 : decode cX11_addStatement 2 = .ok (.iconst 0, 1) := by decide +kernel
theorem dX11_addStatement_3 : decode cX11_addStatement 3 = .ok (.bipush 99, 2) := by decide +kernel
theorem dX11_addStatement_5 : decode cX11_addStatement 5 = .ok (.invokestatic 90, 3) := by decide +kernel
theorem dX11_addStatement_8 : decode cX11_addStatement 8 = .ok (.ifCond .ne 7, 3) := by decide +kernel
theorem dX11_addStatement_11 : decode cX11_addStatement 11 = .ok (.iconst 1, 1) := by decide +kernel
theorem dX11_addStatement_12 : decode cX11_addStatement 12 = .ok (.goto 16, 3) := by decide +kernel
theorem dX11_addStatement_15 : decode cX11_addStatement 15 = .ok (.aload_n 0, 1) := by decide +kernel
theorem dX11_addStatement_16 : decode cX11_addStatement 16 = .ok (.getfield 87, 3) := by decide +kernel
theorem dX11_addStatement_19 : decode cX11_addStatement 19 = .ok (.iconst 4, 1) := by decide +kernel
theorem dX11_addStatement_20 : decode cX11_addStatement 20 = .ok (.if_icmp .ne 7, 3) := by decide +kernel
theorem dX11_addStatement_23 : decode cX11_addStatement 23 = .ok (.iconst 2, 1) := by decide +kernel
theorem dX11_addStatement_24 : decode cX11_addStatement 24 = .ok (.goto 4, 3) := by decide +kernel
theorem dX11_addStatement_27 : decode cX11_addStatement 27 = .ok (.iconst 0, 1) := by decide +kernel
theorem dX11_addStatement_28 : decode cX11_addStatement 28 = .ok (.invokevirtual 102, 3) := by decide +kernel
theorem dX11_addStatement_31 : decode cX11_addStatement 31 = .ok (.ifCond .eq 5, 3) := by decide +kernel
theorem dX11_addStatement_34 : decode cX11_addStatement 34 = .ok (.iconst 0, 1) := by decide +kernel
theorem dX11_addStatement_35 : decode cX11_addStatement 35 = .ok (.ireturn, 1) := by decide +kernel
theorem dX11_addStatement_36 : decode cX11_addStatement 36 = .ok (.aload_n 0, 1) := by decide +kernel
theorem dX11_addStatement_37 : decode cX11_addStatement 37 = .ok (.getfield 16, 3) := by decide +kernel
theorem dX11_addStatement_40 : decode cX11_addStatement 40 = .ok (.aload_n 0, 1) := by decide +kernel
theorem dX11_addStatement_41 : decode cX11_addStatement 41 = .ok (.getfield 87, 3) := by decide +kernel
theorem dX11_addStatement_44 : decode cX11_addStatement 44 = .ok (.iload_n 1, 1) := by decide +kernel
theorem dX11_addStatement_45 : decode cX11_addStatement 45 = .ok (.iastore, 1) := by decide +kernel
theorem dX11_addStatement_46 : decode cX11_addStatement 46 = .ok (.aload_n 0, 1) := by decide +kernel
theorem dX11_addStatement_47 : decode cX11_addStatement 47 = .ok (.getfield 45, 3) := by decide +kernel
theorem dX11_addStatement_50 : decode cX11_addStatement 50 = .ok (.aload_n 0, 1) := by decide +kernel
theorem dX11_addStatement_51 : decode cX11_addStatement 51 = .ok (.getfield 87, 3) := by decide +kernel
theorem dX11_addStatement_54 : decode cX11_addStatement 54 = .ok (.iconst 0, 1) := by decide +kernel
theorem dX11_addStatement_55 : decode cX11_addStatement 55 = .ok (.iastore, 1) := by decide +kernel
theorem dX11_addStatement_56 : decode cX11_addStatement 56 = .ok (.aload_n 0, 1) := by decide +kernel
theorem dX11_addStatement_57 : decode cX11_addStatement 57 = .ok (.dup, 1) := by decide +kernel
theorem dX11_addStatement_58 : decode cX11_addStatement 58 = .ok (.getfield 87, 3) := by decide +kernel
theorem dX11_addStatement_61 : decode cX11_addStatement 61 = .ok (.iconst 1, 1) := by decide +kernel
theorem dX11_addStatement_62 : decode cX11_addStatement 62 = .ok (.iadd, 1) := by decide +kernel
theorem dX11_addStatement_63 : decode cX11_addStatement 63 = .ok (.putfield 87, 3) := by decide +kernel
theorem dX11_addStatement_66 : decode cX11_addStatement 66 = .ok (.aload_n 0, 1) := by decide +kernel
theorem dX11_addStatement_67 : decode cX11_addStatement 67 = .ok (.getfield 87, 3) := by decide +kernel
theorem dX11_addStatement_70 : decode cX11_addStatement 70 = .ok (.iconst 1, 1) := by decide +kernel
theorem dX11_addStatement_71 : decode cX11_addStatement 71 = .ok (.isub, 1) := by decide +kernel
theorem dX11_addStatement_72 : decode cX11_addStatement 72 = .ok (.ireturn, 1) := by decide +kernel
theorem dX11_addRead_0 : decode cX11_addRead 0 = .ok (.iload_n 3, 1) := by decide +kernel
theorem dX11_addRead_1 : decode cX11_addRead 1 = .ok (.iconst 1, 1) := by decide +kernel
theorem dX11_addRead_2 : decode cX11_addRead 2 = .ok (.bipush 9, 2) := by decide +kernel
theorem dX11_addRead_4 : decode cX11_addRead 4 = .ok (.invokestatic 90, 3) := by decide +kernel
theorem dX11_addRead_7 : decode cX11_addRead 7 = .ok (.ifCond .eq 28, 3) := by decide +kernel
theorem dX11_addRead_10 : decode cX11_addRead 10 = .ok (.iload 4, 2) := by decide +kernel
theorem dX11_addRead_12 : decode cX11_addRead 12 = .ok (.iconst 0, 1) := by decide +kernel
theorem dX11_addRead_13 : decode cX11_addRead 13 = .ok (.iconst 3, 1) := by decide +kernel
theorem dX11_addRead_14 : decode cX11_addRead 14 = .ok (.invokestatic 90, 3) := by decide +kernel
theorem dX11_addRead_17 : decode cX11_addRead 17 = .ok (.ifCond .eq 18, 3) := by decide +kernel
theorem dX11_addRead_20 : decode cX11_addRead 20 = .ok (.iload 5, 2) := by decide +kernel
theorem dX11_addRead_22 : decode cX11_addRead 22 = .ok (.bipush (-3), 2) := by decide +kernel
theorem dX11_addRead_24 : decode cX11_addRead 24 = .ok (.iconst 3, 1) := by decide +kernel
theorem dX11_addRead_25 : decode cX11_addRead 25 = .ok (.invokestatic 90, 3) := by decide +kernel
theorem dX11_addRead_28 : decode cX11_addRead 28 = .ok (.ifCond .eq 7, 3) := by decide +kernel
theorem dX11_addRead_31 : decode cX11_addRead 31 = .ok (.iconst 1, 1) := by decide +kernel
theorem dX11_addRead_32 : decode cX11_addRead 32 = .ok (.goto 4, 3) := by decide +kernel
theorem dX11_addRead_35 : decode cX11_addRead 35 = .ok (.iconst 0, 1) := by decide +kernel
theorem dX11_addRead_36 : decode cX11_addRead 36 = .ok (.istore 6, 2) := by decide +kernel
theorem dX11_addRead_38 : decode cX11_addRead 38 = .ok (.aload_n 0, 1) := by decide +kernel
theorem dX11_addRead_39 : decode cX11_addRead 39 = .ok (.aload_n 0, 1) := by decide +kernel
theorem dX11_addRead_40 : decode cX11_addRead 40 = .ok (.iload_n 1, 1) := by decide +kernel
theorem dX11_addRead_41 : decode cX11_addRead 41 = .ok (.invokevirtual 94, 3) := by decide +kernel
theorem dX11_addRead_44 : decode cX11_addRead 44 = .ok (.ifCond .eq 11, 3) := by decide +kernel
theorem dX11_addRead_47 : decode cX11_addRead 47 = .ok (.aload_n 0, 1) := by decide +kernel
theorem dX11_addRead_48 : decode cX11_addRead 48 = .ok (.iload_n 2, 1) := by decide +kernel
theorem dX11_addRead_49 : decode cX11_addRead 49 = .ok (.invokevirtual 94, 3) := by decide +kernel
theorem dX11_addRead_52 : decode cX11_addRead 52 = .ok (.ifCond .ne 7, 3) := by decide +kernel
theorem dX11_addRead_55 : decode cX11_addRead 55 = .ok (.iconst 1, 1) := by decide +kernel
theorem dX11_addRead_56 : decode cX11_addRead 56 = .ok (.goto 27, 3) := by decide +kernel
theorem dX11_addRead_59 : decode cX11_addRead 59 = .ok (.iload 6, 2) := by decide +kernel
theorem dX11_addRead_61 : decode cX11_addRead 61 = .ok (.ifCond .ne 7, 3) := by decide +kernel
theorem dX11_addRead_64 : decode cX11_addRead 64 = .ok (.iconst 2, 1) := by decide +kernel
theorem dX11_addRead_65 : decode cX11_addRead 65 = .ok (.goto 18, 3) := by decide +kernel
theorem dX11_addRead_68 : decode cX11_addRead 68 = .ok (.aload_n 0, 1) := by decide +kernel
theorem dX11_addRead_69 : decode cX11_addRead 69 = .ok (.getfield 20, 3) := by decide +kernel
theorem dX11_addRead_72 : decode cX11_addRead 72 = .ok (.iload_n 1, 1) := by decide +kernel
theorem dX11_addRead_73 : decode cX11_addRead 73 = .ok (.iaload, 1) := by decide +kernel
theorem dX11_addRead_74 : decode cX11_addRead 74 = .ok (.iconst 4, 1) := by decide +kernel
theorem dX11_addRead_75 : decode cX11_addRead 75 = .ok (.if_icmp .ne 7, 3) := by decide +kernel
theorem dX11_addRead_78 : decode cX11_addRead 78 = .ok (.iconst 3, 1) := by decide +kernel
theorem dX11_addRead_79 : decode cX11_addRead 79 = .ok (.goto 4, 3) := by decide +kernel
theorem dX11_addRead_82 : decode cX11_addRead 82 = .ok (.iconst 0, 1) := by decide +kernel
theorem dX11_addRead_83 : decode cX11_addRead 83 = .ok (.invokevirtual 102, 3) := by decide +kernel
theorem dX11_addRead_86 : decode cX11_addRead 86 = .ok (.ifCond .eq 5, 3) := by decide +kernel
theorem dX11_addRead_89 : decode cX11_addRead 89 = .ok (.iconst 0, 1) := by decide +kernel
theorem dX11_addRead_90 : decode cX11_addRead 90 = .ok (.ireturn, 1) := by decide +kernel
theorem dX11_addRead_91 : decode cX11_addRead 91 = .ok (.iconst 4, 1) := by decide +kernel
theorem dX11_addRead_92 : decode cX11_addRead 92 = .ok (.iload_n 1, 1) := by decide +kernel
theorem dX11_addRead_93 : decode cX11_addRead 93 = .ok (.imul, 1) := by decide +kernel
theorem dX11_addRead_94 : decode cX11_addRead 94 = .ok (.aload_n 0, 1) := by decide +kernel
theorem dX11_addRead_95 : decode cX11_addRead 95 = .ok (.getfield 20, 3) := by decide +kernel
theorem dX11_addRead_98 : decode cX11_addRead 98 = .ok (.iload_n 1, 1) := by decide +kernel
theorem dX11_addRead_99 : decode cX11_addRead 99 = .ok (.iaload, 1) := by decide +kernel
theorem dX11_addRead_100 : decode cX11_addRead 100 = .ok (.iadd, 1) := by decide +kernel
theorem dX11_addRead_101 : decode cX11_addRead 101 = .ok (.istore 7, 2) := by decide +kernel
theorem dX11_addRead_103 : decode cX11_addRead 103 = .ok (.aload_n 0, 1) := by decide +kernel
theorem dX11_addRead_104 : decode cX11_addRead 104 = .ok (.getfield 23, 3) := by decide +kernel
theorem dX11_addRead_107 : decode cX11_addRead 107 = .ok (.iload 7, 2) := by decide +kernel
theorem dX11_addRead_109 : decode cX11_addRead 109 = .ok (.iload_n 2, 1) := by decide +kernel
theorem dX11_addRead_110 : decode cX11_addRead 110 = .ok (.iastore, 1) := by decide +kernel
theorem dX11_addRead_111 : decode cX11_addRead 111 = .ok (.aload_n 0, 1) := by decide +kernel
theorem dX11_addRead_112 : decode cX11_addRead 112 = .ok (.getfield 26, 3) := by decide +kernel
theorem dX11_addRead_115 : decode cX11_addRead 115 = .ok (.iload 7, 2) := by decide +kernel
theorem dX11_addRead_117 : decode cX11_addRead 117 = .ok (.iload_n 3, 1) := by decide +kernel
theorem dX11_addRead_118 : decode cX11_addRead 118 = .ok (.iastore, 1) := by decide +kernel
theorem dX11_addRead_119 : decode cX11_addRead 119 = .ok (.aload_n 0, 1) := by decide +kernel
theorem dX11_addRead_120 : decode cX11_addRead 120 = .ok (.getfield 29, 3) := by decide +kernel
theorem dX11_addRead_123 : decode cX11_addRead 123 = .ok (.iload 7, 2) := by decide +kernel
theorem dX11_addRead_125 : decode cX11_addRead 125 = .ok (.iload 4, 2) := by decide +kernel
theorem dX11_addRead_127 : decode cX11_addRead 127 = .ok (.iastore, 1) := by decide +kernel
theorem dX11_addRead_128 : decode cX11_addRead 128 = .ok (.aload_n 0, 1) := by decide +kernel
theorem dX11_addRead_129 : decode cX11_addRead 129 = .ok (.getfield 32, 3) := by decide +kernel
theorem dX11_addRead_132 : decode cX11_addRead 132 = .ok (.iload 7, 2) := by decide +kernel
theorem dX11_addRead_134 : decode cX11_addRead 134 = .ok (.iload 5, 2) := by decide +kernel
theorem dX11_addRead_136 : decode cX11_addRead 136 = .ok (.iastore, 1) := by decide +kernel
theorem dX11_addRead_137 : decode cX11_addRead 137 = .ok (.aload_n 0, 1) := by decide +kernel
theorem dX11_addRead_138 : decode cX11_addRead 138 = .ok (.getfield 20, 3) := by decide +kernel
theorem dX11_addRead_141 : decode cX11_addRead 141 = .ok (.iload_n 1, 1) := by decide +kernel
theorem dX11_addRead_142 : decode cX11_addRead 142 = .ok (.dup2, 1) := by decide +kernel
theorem dX11_addRead_143 : decode cX11_addRead 143 = .ok (.iaload, 1) := by decide +kernel
theorem dX11_addRead_144 : decode cX11_addRead 144 = .ok (.iconst 1, 1) := by decide +kernel
theorem dX11_addRead_145 : decode cX11_addRead 145 = .ok (.iadd, 1) := by decide +kernel
theorem dX11_addRead_146 : decode cX11_addRead 146 = .ok (.iastore, 1) := by decide +kernel
theorem dX11_addRead_147 : decode cX11_addRead 147 = .ok (.aload_n 0, 1) := by decide +kernel
theorem dX11_addRead_148 : decode cX11_addRead 148 = .ok (.getfield 20, 3) := by decide +kernel
theorem dX11_addRead_151 : decode cX11_addRead 151 = .ok (.iload_n 1, 1) := by decide +kernel
theorem dX11_addRead_152 : decode cX11_addRead 152 = .ok (.iaload, 1) := by decide +kernel
theorem dX11_addRead_153 : decode cX11_addRead 153 = .ok (.iconst 1, 1) := by decide +kernel
theorem dX11_addRead_154 : decode cX11_addRead 154 = .ok (.isub, 1) := by decide +kernel
theorem dX11_addRead_155 : decode cX11_addRead 155 = .ok (.ireturn, 1) := by decide +kernel
theorem dX11_dropReads_0 : decode cX11_dropReads 0 = .ok (.aload_n 0, 1) := by decide +kernel
theorem dX11_dropReads_1 : decode cX11_dropReads 1 = .ok (.aload_n 0, 1) := by decide +kernel
theorem dX11_dropReads_2 : decode cX11_dropReads 2 = .ok (.iload_n 1, 1) := by decide +kernel
theorem dX11_dropReads_3 : decode cX11_dropReads 3 = .ok (.invokevirtual 94, 3) := by decide +kernel
theorem dX11_dropReads_6 : decode cX11_dropReads 6 = .ok (.ifCond .eq 7, 3) := by decide +kernel
theorem dX11_dropReads_9 : decode cX11_dropReads 9 = .ok (.iconst 0, 1) := by decide +kernel
theorem dX11_dropReads_10 : decode cX11_dropReads 10 = .ok (.goto 4, 3) := by decide +kernel
theorem dX11_dropReads_13 : decode cX11_dropReads 13 = .ok (.iconst 1, 1) := by decide +kernel
theorem dX11_dropReads_14 : decode cX11_dropReads 14 = .ok (.invokevirtual 102, 3) := by decide +kernel
theorem dX11_dropReads_17 : decode cX11_dropReads 17 = .ok (.ifCond .eq 5, 3) := by decide +kernel
theorem dX11_dropReads_20 : decode cX11_dropReads 20 = .ok (.iconst 0, 1) := by decide +kernel
theorem dX11_dropReads_21 : decode cX11_dropReads 21 = .ok (.ireturn, 1) := by decide +kernel
theorem dX11_dropReads_22 : decode cX11_dropReads 22 = .ok (.aload_n 0, 1) := by decide +kernel
theorem dX11_dropReads_23 : decode cX11_dropReads 23 = .ok (.getfield 20, 3) := by decide +kernel
theorem dX11_dropReads_26 : decode cX11_dropReads 26 = .ok (.iload_n 1, 1) := by decide +kernel
theorem dX11_dropReads_27 : decode cX11_dropReads 27 = .ok (.iaload, 1) := by decide +kernel
theorem dX11_dropReads_28 : decode cX11_dropReads 28 = .ok (.istore_n 2, 1) := by decide +kernel
theorem dX11_dropReads_29 : decode cX11_dropReads 29 = .ok (.aload_n 0, 1) := by decide +kernel
theorem dX11_dropReads_30 : decode cX11_dropReads 30 = .ok (.getfield 20, 3) := by decide +kernel
theorem dX11_dropReads_33 : decode cX11_dropReads 33 = .ok (.iload_n 1, 1) := by decide +kernel
theorem dX11_dropReads_34 : decode cX11_dropReads 34 = .ok (.iconst 0, 1) := by decide +kernel
theorem dX11_dropReads_35 : decode cX11_dropReads 35 = .ok (.iastore, 1) := by decide +kernel
theorem dX11_dropReads_36 : decode cX11_dropReads 36 = .ok (.iload_n 2, 1) := by decide +kernel
theorem dX11_dropReads_37 : decode cX11_dropReads 37 = .ok (.ireturn, 1) := by decide +kernel
theorem dX11_setLasting_0 : decode cX11_setLasting 0 = .ok (.aload_n 0, 1) := by decide +kernel
theorem dX11_setLasting_1 : decode cX11_setLasting 1 = .ok (.aload_n 0, 1) := by decide +kernel
theorem dX11_setLasting_2 : decode cX11_setLasting 2 = .ok (.iload_n 1, 1) := by decide +kernel
theorem dX11_setLasting_3 : decode cX11_setLasting 3 = .ok (.invokevirtual 94, 3) := by decide +kernel
theorem dX11_setLasting_6 : decode cX11_setLasting 6 = .ok (.ifCond .eq 7, 3) := by decide +kernel
theorem dX11_setLasting_9 : decode cX11_setLasting 9 = .ok (.iconst 0, 1) := by decide +kernel
theorem dX11_setLasting_10 : decode cX11_setLasting 10 = .ok (.goto 4, 3) := by decide +kernel
theorem dX11_setLasting_13 : decode cX11_setLasting 13 = .ok (.iconst 1, 1) := by decide +kernel
theorem dX11_setLasting_14 : decode cX11_setLasting 14 = .ok (.invokevirtual 102, 3) := by decide +kernel
theorem dX11_setLasting_17 : decode cX11_setLasting 17 = .ok (.ifCond .eq 5, 3) := by decide +kernel
theorem dX11_setLasting_20 : decode cX11_setLasting 20 = .ok (.iconst 0, 1) := by decide +kernel
theorem dX11_setLasting_21 : decode cX11_setLasting 21 = .ok (.ireturn, 1) := by decide +kernel
theorem dX11_setLasting_22 : decode cX11_setLasting 22 = .ok (.aload_n 0, 1) := by decide +kernel
theorem dX11_setLasting_23 : decode cX11_setLasting 23 = .ok (.getfield 35, 3) := by decide +kernel
theorem dX11_setLasting_26 : decode cX11_setLasting 26 = .ok (.iload_n 1, 1) := by decide +kernel
theorem dX11_setLasting_27 : decode cX11_setLasting 27 = .ok (.baload, 1) := by decide +kernel
theorem dX11_setLasting_28 : decode cX11_setLasting 28 = .ok (.istore_n 3, 1) := by decide +kernel
theorem dX11_setLasting_29 : decode cX11_setLasting 29 = .ok (.aload_n 0, 1) := by decide +kernel
theorem dX11_setLasting_30 : decode cX11_setLasting 30 = .ok (.getfield 35, 3) := by decide +kernel
theorem dX11_setLasting_33 : decode cX11_setLasting 33 = .ok (.iload_n 1, 1) := by decide +kernel
theorem dX11_setLasting_34 : decode cX11_setLasting 34 = .ok (.iload_n 2, 1) := by decide +kernel
theorem dX11_setLasting_35 : decode cX11_setLasting 35 = .ok (.bastore, 1) := by decide +kernel
theorem dX11_setLasting_36 : decode cX11_setLasting 36 = .ok (.iload_n 3, 1) := by decide +kernel
theorem dX11_setLasting_37 : decode cX11_setLasting 37 = .ok (.ireturn, 1) := by decide +kernel
theorem dX11_setField_0 : decode cX11_setField 0 = .ok (.aload_n 0, 1) := by decide +kernel
theorem dX11_setField_1 : decode cX11_setField 1 = .ok (.iload_n 1, 1) := by decide +kernel
theorem dX11_setField_2 : decode cX11_setField 2 = .ok (.iconst 1, 1) := by decide +kernel
theorem dX11_setField_3 : decode cX11_setField 3 = .ok (.bipush 8, 2) := by decide +kernel
theorem dX11_setField_5 : decode cX11_setField 5 = .ok (.invokestatic 90, 3) := by decide +kernel
theorem dX11_setField_8 : decode cX11_setField 8 = .ok (.ifCond .eq 17, 3) := by decide +kernel
theorem dX11_setField_11 : decode cX11_setField 11 = .ok (.iload_n 2, 1) := by decide +kernel
theorem dX11_setField_12 : decode cX11_setField 12 = .ok (.iconst 1, 1) := by decide +kernel
theorem dX11_setField_13 : decode cX11_setField 13 = .ok (.bipush 8, 2) := by decide +kernel
theorem dX11_setField_15 : decode cX11_setField 15 = .ok (.invokestatic 90, 3) := by decide +kernel
theorem dX11_setField_18 : decode cX11_setField 18 = .ok (.ifCond .eq 7, 3) := by decide +kernel
theorem dX11_setField_21 : decode cX11_setField 21 = .ok (.iconst 0, 1) := by decide +kernel
theorem dX11_setField_22 : decode cX11_setField 22 = .ok (.goto 4, 3) := by decide +kernel
theorem dX11_setField_25 : decode cX11_setField 25 = .ok (.iconst 1, 1) := by decide +kernel
theorem dX11_setField_26 : decode cX11_setField 26 = .ok (.invokevirtual 102, 3) := by decide +kernel
theorem dX11_setField_29 : decode cX11_setField 29 = .ok (.ifCond .eq 5, 3) := by decide +kernel
theorem dX11_setField_32 : decode cX11_setField 32 = .ok (.iconst 0, 1) := by decide +kernel
theorem dX11_setField_33 : decode cX11_setField 33 = .ok (.ireturn, 1) := by decide +kernel
theorem dX11_setField_34 : decode cX11_setField 34 = .ok (.aload_n 0, 1) := by decide +kernel
theorem dX11_setField_35 : decode cX11_setField 35 = .ok (.iload_n 1, 1) := by decide +kernel
theorem dX11_setField_36 : decode cX11_setField 36 = .ok (.putfield 7, 3) := by decide +kernel
theorem dX11_setField_39 : decode cX11_setField 39 = .ok (.aload_n 0, 1) := by decide +kernel
theorem dX11_setField_40 : decode cX11_setField 40 = .ok (.iload_n 2, 1) := by decide +kernel
theorem dX11_setField_41 : decode cX11_setField 41 = .ok (.putfield 13, 3) := by decide +kernel
theorem dX11_setField_44 : decode cX11_setField 44 = .ok (.aload_n 0, 1) := by decide +kernel
theorem dX11_setField_45 : decode cX11_setField 45 = .ok (.getfield 7, 3) := by decide +kernel
theorem dX11_setField_48 : decode cX11_setField 48 = .ok (.aload_n 0, 1) := by decide +kernel
theorem dX11_setField_49 : decode cX11_setField 49 = .ok (.getfield 13, 3) := by decide +kernel
theorem dX11_setField_52 : decode cX11_setField 52 = .ok (.imul, 1) := by decide +kernel
theorem dX11_setField_53 : decode cX11_setField 53 = .ok (.ireturn, 1) := by decide +kernel
theorem dX11_time_0 : decode cX11_time 0 = .ok (.aload_n 0, 1) := by decide +kernel
theorem dX11_time_1 : decode cX11_time 1 = .ok (.iload_n 1, 1) := by decide +kernel
theorem dX11_time_2 : decode cX11_time 2 = .ok (.invokevirtual 105, 3) := by decide +kernel
theorem dX11_time_5 : decode cX11_time 5 = .ok (.iload_n 2, 1) := by decide +kernel
theorem dX11_time_6 : decode cX11_time 6 = .ok (.imul, 1) := by decide +kernel
theorem dX11_time_7 : decode cX11_time 7 = .ok (.aload_n 0, 1) := by decide +kernel
theorem dX11_time_8 : decode cX11_time 8 = .ok (.iload_n 1, 1) := by decide +kernel
theorem dX11_time_9 : decode cX11_time 9 = .ok (.invokevirtual 109, 3) := by decide +kernel
theorem dX11_time_12 : decode cX11_time 12 = .ok (.iload_n 3, 1) := by decide +kernel
theorem dX11_time_13 : decode cX11_time 13 = .ok (.imul, 1) := by decide +kernel
theorem dX11_time_14 : decode cX11_time 14 = .ok (.iadd, 1) := by decide +kernel
theorem dX11_time_15 : decode cX11_time 15 = .ok (.aload_n 0, 1) := by decide +kernel
theorem dX11_time_16 : decode cX11_time 16 = .ok (.getfield 39, 3) := by decide +kernel
theorem dX11_time_19 : decode cX11_time 19 = .ok (.iload_n 1, 1) := by decide +kernel
theorem dX11_time_20 : decode cX11_time 20 = .ok (.bipush 64, 2) := by decide +kernel
theorem dX11_time_22 : decode cX11_time 22 = .ok (.idiv, 1) := by decide +kernel
theorem dX11_time_23 : decode cX11_time 23 = .ok (.iaload, 1) := by decide +kernel
theorem dX11_time_24 : decode cX11_time 24 = .ok (.iadd, 1) := by decide +kernel
theorem dX11_time_25 : decode cX11_time 25 = .ok (.ireturn, 1) := by decide +kernel
theorem dX11_deals_0 : decode cX11_deals 0 = .ok (.iconst 0, 1) := by decide +kernel
theorem dX11_deals_1 : decode cX11_deals 1 = .ok (.istore_n 3, 1) := by decide +kernel
theorem dX11_deals_2 : decode cX11_deals 2 = .ok (.iload_n 3, 1) := by decide +kernel
theorem dX11_deals_3 : decode cX11_deals 3 = .ok (.sipush 160, 3) := by decide +kernel
theorem dX11_deals_6 : decode cX11_deals 6 = .ok (.if_icmp .gt 16, 3) := by decide +kernel
theorem dX11_deals_9 : decode cX11_deals 9 = .ok (.aload_n 0, 1) := by decide +kernel
theorem dX11_deals_10 : decode cX11_deals 10 = .ok (.getfield 54, 3) := by decide +kernel
theorem dX11_deals_13 : decode cX11_deals 13 = .ok (.iload_n 3, 1) := by decide +kernel
theorem dX11_deals_14 : decode cX11_deals 14 = .ok (.iconst 0, 1) := by decide +kernel
theorem dX11_deals_15 : decode cX11_deals 15 = .ok (.iastore, 1) := by decide +kernel
theorem dX11_deals_16 : decode cX11_deals 16 = .ok (.iinc 3 1, 3) := by decide +kernel
theorem dX11_deals_19 : decode cX11_deals 19 = .ok (.goto (-17), 3) := by decide +kernel
theorem dX11_deals_22 : decode cX11_deals 22 = .ok (.aload_n 0, 1) := by decide +kernel
theorem dX11_deals_23 : decode cX11_deals 23 = .ok (.getfield 7, 3) := by decide +kernel
theorem dX11_deals_26 : decode cX11_deals 26 = .ok (.aload_n 0, 1) := by decide +kernel
theorem dX11_deals_27 : decode cX11_deals 27 = .ok (.getfield 13, 3) := by decide +kernel
theorem dX11_deals_30 : decode cX11_deals 30 = .ok (.imul, 1) := by decide +kernel
theorem dX11_deals_31 : decode cX11_deals 31 = .ok (.istore_n 3, 1) := by decide +kernel
theorem dX11_deals_32 : decode cX11_deals 32 = .ok (.iconst 0, 1) := by decide +kernel
theorem dX11_deals_33 : decode cX11_deals 33 = .ok (.istore 4, 2) := by decide +kernel
theorem dX11_deals_35 : decode cX11_deals 35 = .ok (.iload 4, 2) := by decide +kernel
theorem dX11_deals_37 : decode cX11_deals 37 = .ok (.aload_n 0, 1) := by decide +kernel
theorem dX11_deals_38 : decode cX11_deals 38 = .ok (.invokevirtual 112, 3) := by decide +kernel
theorem dX11_deals_41 : decode cX11_deals 41 = .ok (.if_icmp .ge 38, 3) := by decide +kernel
theorem dX11_deals_44 : decode cX11_deals 44 = .ok (.aload_n 0, 1) := by decide +kernel
theorem dX11_deals_45 : decode cX11_deals 45 = .ok (.getfield 54, 3) := by decide +kernel
theorem dX11_deals_48 : decode cX11_deals 48 = .ok (.aload_n 0, 1) := by decide +kernel
theorem dX11_deals_49 : decode cX11_deals 49 = .ok (.bipush 64, 2) := by decide +kernel
theorem dX11_deals_51 : decode cX11_deals 51 = .ok (.iload 4, 2) := by decide +kernel
theorem dX11_deals_53 : decode cX11_deals 53 = .ok (.iload_n 3, 1) := by decide +kernel
theorem dX11_deals_54 : decode cX11_deals 54 = .ok (.idiv, 1) := by decide +kernel
theorem dX11_deals_55 : decode cX11_deals 55 = .ok (.imul, 1) := by decide +kernel
theorem dX11_deals_56 : decode cX11_deals 56 = .ok (.iload 4, 2) := by decide +kernel
theorem dX11_deals_58 : decode cX11_deals 58 = .ok (.iload_n 3, 1) := by decide +kernel
theorem dX11_deals_59 : decode cX11_deals 59 = .ok (.irem, 1) := by decide +kernel
theorem dX11_deals_60 : decode cX11_deals 60 = .ok (.iadd, 1) := by decide +kernel
theorem dX11_deals_61 : decode cX11_deals 61 = .ok (.iload_n 1, 1) := by decide +kernel
theorem dX11_deals_62 : decode cX11_deals 62 = .ok (.iload_n 2, 1) := by decide +kernel
theorem dX11_deals_63 : decode cX11_deals 63 = .ok (.invokevirtual 116, 3) := by decide +kernel
theorem dX11_deals_66 : decode cX11_deals 66 = .ok (.iconst 1, 1) := by decide +kernel
theorem dX11_deals_67 : decode cX11_deals 67 = .ok (.iadd, 1) := by decide +kernel
theorem dX11_deals_68 : decode cX11_deals 68 = .ok (.dup2, 1) := by decide +kernel
theorem dX11_deals_69 : decode cX11_deals 69 = .ok (.iaload, 1) := by decide +kernel
theorem dX11_deals_70 : decode cX11_deals 70 = .ok (.iconst 1, 1) := by decide +kernel
theorem dX11_deals_71 : decode cX11_deals 71 = .ok (.iadd, 1) := by decide +kernel
theorem dX11_deals_72 : decode cX11_deals 72 = .ok (.iastore, 1) := by decide +kernel
theorem dX11_deals_73 : decode cX11_deals 73 = .ok (.iinc 4 1, 3) := by decide +kernel
theorem dX11_deals_76 : decode cX11_deals 76 = .ok (.goto (-41), 3) := by decide +kernel
theorem dX11_deals_79 : decode cX11_deals 79 = .ok (.iconst 1, 1) := by decide +kernel
theorem dX11_deals_80 : decode cX11_deals 80 = .ok (.istore 4, 2) := by decide +kernel
theorem dX11_deals_82 : decode cX11_deals 82 = .ok (.iload 4, 2) := by decide +kernel
theorem dX11_deals_84 : decode cX11_deals 84 = .ok (.sipush 160, 3) := by decide +kernel
theorem dX11_deals_87 : decode cX11_deals 87 = .ok (.if_icmp .gt 28, 3) := by decide +kernel
theorem dX11_deals_90 : decode cX11_deals 90 = .ok (.aload_n 0, 1) := by decide +kernel
theorem dX11_deals_91 : decode cX11_deals 91 = .ok (.getfield 54, 3) := by decide +kernel
theorem dX11_deals_94 : decode cX11_deals 94 = .ok (.iload 4, 2) := by decide +kernel
theorem dX11_deals_96 : decode cX11_deals 96 = .ok (.dup2, 1) := by decide +kernel
theorem dX11_deals_97 : decode cX11_deals 97 = .ok (.iaload, 1) := by decide +kernel
theorem dX11_deals_98 : decode cX11_deals 98 = .ok (.aload_n 0, 1) := by decide +kernel
theorem dX11_deals_99 : decode cX11_deals 99 = .ok (.getfield 54, 3) := by decide +kernel
theorem dX11_deals_102 : decode cX11_deals 102 = .ok (.iload 4, 2) := by decide +kernel
theorem dX11_deals_104 : decode cX11_deals 104 = .ok (.iconst 1, 1) := by decide +kernel
theorem dX11_deals_105 : decode cX11_deals 105 = .ok (.isub, 1) := by decide +kernel
theorem dX11_deals_106 : decode cX11_deals 106 = .ok (.iaload, 1) := by decide +kernel
theorem dX11_deals_107 : decode cX11_deals 107 = .ok (.iadd, 1) := by decide +kernel
theorem dX11_deals_108 : decode cX11_deals 108 = .ok (.iastore, 1) := by decide +kernel
theorem dX11_deals_109 : decode cX11_deals 109 = .ok (.iinc 4 1, 3) := by decide +kernel
theorem dX11_deals_112 : decode cX11_deals 112 = .ok (.goto (-30), 3) := by decide +kernel
theorem dX11_deals_115 : decode cX11_deals 115 = .ok (.iconst 0, 1) := by decide +kernel
theorem dX11_deals_116 : decode cX11_deals 116 = .ok (.istore 4, 2) := by decide +kernel
theorem dX11_deals_118 : decode cX11_deals 118 = .ok (.iload 4, 2) := by decide +kernel
theorem dX11_deals_120 : decode cX11_deals 120 = .ok (.aload_n 0, 1) := by decide +kernel
theorem dX11_deals_121 : decode cX11_deals 121 = .ok (.invokevirtual 112, 3) := by decide +kernel
theorem dX11_deals_124 : decode cX11_deals 124 = .ok (.if_icmp .ge 72, 3) := by decide +kernel
theorem dX11_deals_127 : decode cX11_deals 127 = .ok (.bipush 64, 2) := by decide +kernel
theorem dX11_deals_129 : decode cX11_deals 129 = .ok (.iload 4, 2) := by decide +kernel
theorem dX11_deals_131 : decode cX11_deals 131 = .ok (.iload_n 3, 1) := by decide +kernel
theorem dX11_deals_132 : decode cX11_deals 132 = .ok (.idiv, 1) := by decide +kernel
theorem dX11_deals_133 : decode cX11_deals 133 = .ok (.imul, 1) := by decide +kernel
theorem dX11_deals_134 : decode cX11_deals 134 = .ok (.iload 4, 2) := by decide +kernel
theorem dX11_deals_136 : decode cX11_deals 136 = .ok (.iload_n 3, 1) := by decide +kernel
theorem dX11_deals_137 : decode cX11_deals 137 = .ok (.irem, 1) := by decide +kernel
theorem dX11_deals_138 : decode cX11_deals 138 = .ok (.iadd, 1) := by decide +kernel
theorem dX11_deals_139 : decode cX11_deals 139 = .ok (.istore 5, 2) := by decide +kernel
theorem dX11_deals_141 : decode cX11_deals 141 = .ok (.aload_n 0, 1) := by decide +kernel
theorem dX11_deals_142 : decode cX11_deals 142 = .ok (.iload 5, 2) := by decide +kernel
theorem dX11_deals_144 : decode cX11_deals 144 = .ok (.iload_n 1, 1) := by decide +kernel
theorem dX11_deals_145 : decode cX11_deals 145 = .ok (.iload_n 2, 1) := by decide +kernel
theorem dX11_deals_146 : decode cX11_deals 146 = .ok (.invokevirtual 116, 3) := by decide +kernel
theorem dX11_deals_149 : decode cX11_deals 149 = .ok (.istore 6, 2) := by decide +kernel
theorem dX11_deals_151 : decode cX11_deals 151 = .ok (.aload_n 0, 1) := by decide +kernel
theorem dX11_deals_152 : decode cX11_deals 152 = .ok (.getfield 57, 3) := by decide +kernel
theorem dX11_deals_155 : decode cX11_deals 155 = .ok (.iload 5, 2) := by decide +kernel
theorem dX11_deals_157 : decode cX11_deals 157 = .ok (.aload_n 0, 1) := by decide +kernel
theorem dX11_deals_158 : decode cX11_deals 158 = .ok (.getfield 54, 3) := by decide +kernel
theorem dX11_deals_161 : decode cX11_deals 161 = .ok (.iload 6, 2) := by decide +kernel
theorem dX11_deals_163 : decode cX11_deals 163 = .ok (.iaload, 1) := by decide +kernel
theorem dX11_deals_164 : decode cX11_deals 164 = .ok (.iastore, 1) := by decide +kernel
theorem dX11_deals_165 : decode cX11_deals 165 = .ok (.aload_n 0, 1) := by decide +kernel
theorem dX11_deals_166 : decode cX11_deals 166 = .ok (.getfield 60, 3) := by decide +kernel
theorem dX11_deals_169 : decode cX11_deals 169 = .ok (.aload_n 0, 1) := by decide +kernel
theorem dX11_deals_170 : decode cX11_deals 170 = .ok (.getfield 54, 3) := by decide +kernel
theorem dX11_deals_173 : decode cX11_deals 173 = .ok (.iload 6, 2) := by decide +kernel
theorem dX11_deals_175 : decode cX11_deals 175 = .ok (.iaload, 1) := by decide +kernel
theorem dX11_deals_176 : decode cX11_deals 176 = .ok (.iload 5, 2) := by decide +kernel
theorem dX11_deals_178 : decode cX11_deals 178 = .ok (.iastore, 1) := by decide +kernel
theorem dX11_deals_179 : decode cX11_deals 179 = .ok (.aload_n 0, 1) := by decide +kernel
theorem dX11_deals_180 : decode cX11_deals 180 = .ok (.getfield 54, 3) := by decide +kernel
theorem dX11_deals_183 : decode cX11_deals 183 = .ok (.iload 6, 2) := by decide +kernel
theorem dX11_deals_185 : decode cX11_deals 185 = .ok (.dup2, 1) := by decide +kernel
theorem dX11_deals_186 : decode cX11_deals 186 = .ok (.iaload, 1) := by decide +kernel
theorem dX11_deals_187 : decode cX11_deals 187 = .ok (.iconst 1, 1) := by decide +kernel
theorem dX11_deals_188 : decode cX11_deals 188 = .ok (.iadd, 1) := by decide +kernel
theorem dX11_deals_189 : decode cX11_deals 189 = .ok (.iastore, 1) := by decide +kernel
theorem dX11_deals_190 : decode cX11_deals 190 = .ok (.iinc 4 1, 3) := by decide +kernel
theorem dX11_deals_193 : decode cX11_deals 193 = .ok (.goto (-75), 3) := by decide +kernel
theorem dX11_deals_196 : decode cX11_deals 196 = .ok (.return_, 1) := by decide +kernel
theorem dX11_orders_0 : decode cX11_orders 0 = .ok (.aload_n 0, 1) := by decide +kernel
theorem dX11_orders_1 : decode cX11_orders 1 = .ok (.aload_n 0, 1) := by decide +kernel
theorem dX11_orders_2 : decode cX11_orders 2 = .ok (.getfield 42, 3) := by decide +kernel
theorem dX11_orders_5 : decode cX11_orders 5 = .ok (.aload_n 0, 1) := by decide +kernel
theorem dX11_orders_6 : decode cX11_orders 6 = .ok (.getfield 120, 3) := by decide +kernel
theorem dX11_orders_9 : decode cX11_orders 9 = .ok (.invokevirtual 123, 3) := by decide +kernel
theorem dX11_orders_12 : decode cX11_orders 12 = .ok (.return_, 1) := by decide +kernel
theorem dX11_wanted_0 : decode cX11_wanted 0 = .ok (.aload_n 0, 1) := by decide +kernel
theorem dX11_wanted_1 : decode cX11_wanted 1 = .ok (.iload_n 1, 1) := by decide +kernel
theorem dX11_wanted_2 : decode cX11_wanted 2 = .ok (.invokevirtual 105, 3) := by decide +kernel
theorem dX11_wanted_5 : decode cX11_wanted 5 = .ok (.aload_n 0, 1) := by decide +kernel
theorem dX11_wanted_6 : decode cX11_wanted 6 = .ok (.getfield 29, 3) := by decide +kernel
theorem dX11_wanted_9 : decode cX11_wanted 9 = .ok (.iload_n 2, 1) := by decide +kernel
theorem dX11_wanted_10 : decode cX11_wanted 10 = .ok (.iaload, 1) := by decide +kernel
theorem dX11_wanted_11 : decode cX11_wanted 11 = .ok (.isub, 1) := by decide +kernel
theorem dX11_wanted_12 : decode cX11_wanted 12 = .ok (.istore_n 3, 1) := by decide +kernel
theorem dX11_wanted_13 : decode cX11_wanted 13 = .ok (.aload_n 0, 1) := by decide +kernel
theorem dX11_wanted_14 : decode cX11_wanted 14 = .ok (.iload_n 1, 1) := by decide +kernel
theorem dX11_wanted_15 : decode cX11_wanted 15 = .ok (.invokevirtual 109, 3) := by decide +kernel
theorem dX11_wanted_18 : decode cX11_wanted 18 = .ok (.aload_n 0, 1) := by decide +kernel
theorem dX11_wanted_19 : decode cX11_wanted 19 = .ok (.getfield 32, 3) := by decide +kernel
theorem dX11_wanted_22 : decode cX11_wanted 22 = .ok (.iload_n 2, 1) := by decide +kernel
theorem dX11_wanted_23 : decode cX11_wanted 23 = .ok (.iaload, 1) := by decide +kernel
theorem dX11_wanted_24 : decode cX11_wanted 24 = .ok (.isub, 1) := by decide +kernel
theorem dX11_wanted_25 : decode cX11_wanted 25 = .ok (.istore 4, 2) := by decide +kernel
theorem dX11_wanted_27 : decode cX11_wanted 27 = .ok (.aload_n 0, 1) := by decide +kernel
theorem dX11_wanted_28 : decode cX11_wanted 28 = .ok (.iload_n 3, 1) := by decide +kernel
theorem dX11_wanted_29 : decode cX11_wanted 29 = .ok (.iload 4, 2) := by decide +kernel
theorem dX11_wanted_31 : decode cX11_wanted 31 = .ok (.invokevirtual 98, 3) := by decide +kernel
theorem dX11_wanted_34 : decode cX11_wanted 34 = .ok (.ifCond .eq 19, 3) := by decide +kernel
theorem dX11_wanted_37 : decode cX11_wanted 37 = .ok (.aload_n 0, 1) := by decide +kernel
theorem dX11_wanted_38 : decode cX11_wanted 38 = .ok (.aload_n 0, 1) := by decide +kernel
theorem dX11_wanted_39 : decode cX11_wanted 39 = .ok (.getfield 23, 3) := by decide +kernel
theorem dX11_wanted_42 : decode cX11_wanted 42 = .ok (.iload_n 2, 1) := by decide +kernel
theorem dX11_wanted_43 : decode cX11_wanted 43 = .ok (.iaload, 1) := by decide +kernel
theorem dX11_wanted_44 : decode cX11_wanted 44 = .ok (.iload_n 3, 1) := by decide +kernel
theorem dX11_wanted_45 : decode cX11_wanted 45 = .ok (.iload 4, 2) := by decide +kernel
theorem dX11_wanted_47 : decode cX11_wanted 47 = .ok (.invokevirtual 127, 3) := by decide +kernel
theorem dX11_wanted_50 : decode cX11_wanted 50 = .ok (.goto 4, 3) := by decide +kernel
theorem dX11_wanted_53 : decode cX11_wanted 53 = .ok (.iconst (-1), 1) := by decide +kernel
theorem dX11_wanted_54 : decode cX11_wanted 54 = .ok (.ireturn, 1) := by decide +kernel
theorem dX11_isInOrder_0 : decode cX11_isInOrder 0 = .ok (.iconst 1, 1) := by decide +kernel
theorem dX11_isInOrder_1 : decode cX11_isInOrder 1 = .ok (.istore_n 3, 1) := by decide +kernel
theorem dX11_isInOrder_2 : decode cX11_isInOrder 2 = .ok (.iconst 0, 1) := by decide +kernel
theorem dX11_isInOrder_3 : decode cX11_isInOrder 3 = .ok (.istore 4, 2) := by decide +kernel
theorem dX11_isInOrder_5 : decode cX11_isInOrder 5 = .ok (.iload 4, 2) := by decide +kernel
theorem dX11_isInOrder_7 : decode cX11_isInOrder 7 = .ok (.aload_n 0, 1) := by decide +kernel
theorem dX11_isInOrder_8 : decode cX11_isInOrder 8 = .ok (.getfield 7, 3) := by decide +kernel
theorem dX11_isInOrder_11 : decode cX11_isInOrder 11 = .ok (.aload_n 0, 1) := by decide +kernel
theorem dX11_isInOrder_12 : decode cX11_isInOrder 12 = .ok (.getfield 13, 3) := by decide +kernel
theorem dX11_isInOrder_15 : decode cX11_isInOrder 15 = .ok (.imul, 1) := by decide +kernel
theorem dX11_isInOrder_16 : decode cX11_isInOrder 16 = .ok (.if_icmp .ge 63, 3) := by decide +kernel
theorem dX11_isInOrder_19 : decode cX11_isInOrder 19 = .ok (.bipush 64, 2) := by decide +kernel
theorem dX11_isInOrder_21 : decode cX11_isInOrder 21 = .ok (.iload_n 1, 1) := by decide +kernel
theorem dX11_isInOrder_22 : decode cX11_isInOrder 22 = .ok (.imul, 1) := by decide +kernel
theorem dX11_isInOrder_23 : decode cX11_isInOrder 23 = .ok (.iload 4, 2) := by decide +kernel
theorem dX11_isInOrder_25 : decode cX11_isInOrder 25 = .ok (.iadd, 1) := by decide +kernel
theorem dX11_isInOrder_26 : decode cX11_isInOrder 26 = .ok (.istore 5, 2) := by decide +kernel
theorem dX11_isInOrder_28 : decode cX11_isInOrder 28 = .ok (.aload_n 0, 1) := by decide +kernel
theorem dX11_isInOrder_29 : decode cX11_isInOrder 29 = .ok (.iload 5, 2) := by decide +kernel
theorem dX11_isInOrder_31 : decode cX11_isInOrder 31 = .ok (.iconst 4, 1) := by decide +kernel
theorem dX11_isInOrder_32 : decode cX11_isInOrder 32 = .ok (.iload_n 1, 1) := by decide +kernel
theorem dX11_isInOrder_33 : decode cX11_isInOrder 33 = .ok (.imul, 1) := by decide +kernel
theorem dX11_isInOrder_34 : decode cX11_isInOrder 34 = .ok (.iload_n 2, 1) := by decide +kernel
theorem dX11_isInOrder_35 : decode cX11_isInOrder 35 = .ok (.iadd, 1) := by decide +kernel
theorem dX11_isInOrder_36 : decode cX11_isInOrder 36 = .ok (.invokevirtual 130, 3) := by decide +kernel
theorem dX11_isInOrder_39 : decode cX11_isInOrder 39 = .ok (.istore 6, 2) := by decide +kernel
theorem dX11_isInOrder_41 : decode cX11_isInOrder 41 = .ok (.iload_n 3, 1) := by decide +kernel
theorem dX11_isInOrder_42 : decode cX11_isInOrder 42 = .ok (.ifCond .eq 29, 3) := by decide +kernel
theorem dX11_isInOrder_45 : decode cX11_isInOrder 45 = .ok (.iload 6, 2) := by decide +kernel
theorem dX11_isInOrder_47 : decode cX11_isInOrder 47 = .ok (.ifCond .lt 20, 3) := by decide +kernel
theorem dX11_isInOrder_50 : decode cX11_isInOrder 50 = .ok (.aload_n 0, 1) := by decide +kernel
theorem dX11_isInOrder_51 : decode cX11_isInOrder 51 = .ok (.getfield 57, 3) := by decide +kernel
theorem dX11_isInOrder_54 : decode cX11_isInOrder 54 = .ok (.iload 6, 2) := by decide +kernel
theorem dX11_isInOrder_56 : decode cX11_isInOrder 56 = .ok (.iaload, 1) := by decide +kernel
theorem dX11_isInOrder_57 : decode cX11_isInOrder 57 = .ok (.aload_n 0, 1) := by decide +kernel
theorem dX11_isInOrder_58 : decode cX11_isInOrder 58 = .ok (.getfield 57, 3) := by decide +kernel
theorem dX11_isInOrder_61 : decode cX11_isInOrder 61 = .ok (.iload 5, 2) := by decide +kernel
theorem dX11_isInOrder_63 : decode cX11_isInOrder 63 = .ok (.iaload, 1) := by decide +kernel
theorem dX11_isInOrder_64 : decode cX11_isInOrder 64 = .ok (.if_icmp .ge 7, 3) := by decide +kernel
theorem dX11_isInOrder_67 : decode cX11_isInOrder 67 = .ok (.iconst 1, 1) := by decide +kernel
theorem dX11_isInOrder_68 : decode cX11_isInOrder 68 = .ok (.goto 4, 3) := by decide +kernel
theorem dX11_isInOrder_71 : decode cX11_isInOrder 71 = .ok (.iconst 0, 1) := by decide +kernel
theorem dX11_isInOrder_72 : decode cX11_isInOrder 72 = .ok (.istore_n 3, 1) := by decide +kernel
theorem dX11_isInOrder_73 : decode cX11_isInOrder 73 = .ok (.iinc 4 1, 3) := by decide +kernel
theorem dX11_isInOrder_76 : decode cX11_isInOrder 76 = .ok (.goto (-71), 3) := by decide +kernel
theorem dX11_isInOrder_79 : decode cX11_isInOrder 79 = .ok (.iload_n 3, 1) := by decide +kernel
theorem dX11_isInOrder_80 : decode cX11_isInOrder 80 = .ok (.ireturn, 1) := by decide +kernel
theorem dX11_areInOrder_0 : decode cX11_areInOrder 0 = .ok (.iconst 1, 1) := by decide +kernel
theorem dX11_areInOrder_1 : decode cX11_areInOrder 1 = .ok (.istore_n 1, 1) := by decide +kernel
theorem dX11_areInOrder_2 : decode cX11_areInOrder 2 = .ok (.iconst 0, 1) := by decide +kernel
theorem dX11_areInOrder_3 : decode cX11_areInOrder 3 = .ok (.istore_n 2, 1) := by decide +kernel
theorem dX11_areInOrder_4 : decode cX11_areInOrder 4 = .ok (.iload_n 2, 1) := by decide +kernel
theorem dX11_areInOrder_5 : decode cX11_areInOrder 5 = .ok (.aload_n 0, 1) := by decide +kernel
theorem dX11_areInOrder_6 : decode cX11_areInOrder 6 = .ok (.getfield 87, 3) := by decide +kernel
theorem dX11_areInOrder_9 : decode cX11_areInOrder 9 = .ok (.if_icmp .ge 46, 3) := by decide +kernel
theorem dX11_areInOrder_12 : decode cX11_areInOrder 12 = .ok (.iconst 0, 1) := by decide +kernel
theorem dX11_areInOrder_13 : decode cX11_areInOrder 13 = .ok (.istore_n 3, 1) := by decide +kernel
theorem dX11_areInOrder_14 : decode cX11_areInOrder 14 = .ok (.iload_n 3, 1) := by decide +kernel
theorem dX11_areInOrder_15 : decode cX11_areInOrder 15 = .ok (.aload_n 0, 1) := by decide +kernel
theorem dX11_areInOrder_16 : decode cX11_areInOrder 16 = .ok (.getfield 20, 3) := by decide +kernel
theorem dX11_areInOrder_19 : decode cX11_areInOrder 19 = .ok (.iload_n 2, 1) := by decide +kernel
theorem dX11_areInOrder_20 : decode cX11_areInOrder 20 = .ok (.iaload, 1) := by decide +kernel
theorem dX11_areInOrder_21 : decode cX11_areInOrder 21 = .ok (.if_icmp .ge 28, 3) := by decide +kernel
theorem dX11_areInOrder_24 : decode cX11_areInOrder 24 = .ok (.iload_n 1, 1) := by decide +kernel
theorem dX11_areInOrder_25 : decode cX11_areInOrder 25 = .ok (.ifCond .eq 16, 3) := by decide +kernel
theorem dX11_areInOrder_28 : decode cX11_areInOrder 28 = .ok (.aload_n 0, 1) := by decide +kernel
theorem dX11_areInOrder_29 : decode cX11_areInOrder 29 = .ok (.iload_n 2, 1) := by decide +kernel
theorem dX11_areInOrder_30 : decode cX11_areInOrder 30 = .ok (.iload_n 3, 1) := by decide +kernel
theorem dX11_areInOrder_31 : decode cX11_areInOrder 31 = .ok (.invokevirtual 134, 3) := by decide +kernel
theorem dX11_areInOrder_34 : decode cX11_areInOrder 34 = .ok (.ifCond .eq 7, 3) := by decide +kernel
theorem dX11_areInOrder_37 : decode cX11_areInOrder 37 = .ok (.iconst 1, 1) := by decide +kernel
theorem dX11_areInOrder_38 : decode cX11_areInOrder 38 = .ok (.goto 4, 3) := by decide +kernel
theorem dX11_areInOrder_41 : decode cX11_areInOrder 41 = .ok (.iconst 0, 1) := by decide +kernel
theorem dX11_areInOrder_42 : decode cX11_areInOrder 42 = .ok (.istore_n 1, 1) := by decide +kernel
theorem dX11_areInOrder_43 : decode cX11_areInOrder 43 = .ok (.iinc 3 1, 3) := by decide +kernel
theorem dX11_areInOrder_46 : decode cX11_areInOrder 46 = .ok (.goto (-32), 3) := by decide +kernel
theorem dX11_areInOrder_49 : decode cX11_areInOrder 49 = .ok (.iinc 2 1, 3) := by decide +kernel
theorem dX11_areInOrder_52 : decode cX11_areInOrder 52 = .ok (.goto (-48), 3) := by decide +kernel
theorem dX11_areInOrder_55 : decode cX11_areInOrder 55 = .ok (.iload_n 1, 1) := by decide +kernel
theorem dX11_areInOrder_56 : decode cX11_areInOrder 56 = .ok (.ireturn, 1) := by decide +kernel
theorem dX11_allows_0 : decode cX11_allows 0 = .ok (.aload_n 0, 1) := by decide +kernel
theorem dX11_allows_1 : decode cX11_allows 1 = .ok (.iload_n 1, 1) := by decide +kernel
theorem dX11_allows_2 : decode cX11_allows 2 = .ok (.iload_n 2, 1) := by decide +kernel
theorem dX11_allows_3 : decode cX11_allows 3 = .ok (.invokevirtual 123, 3) := by decide +kernel
theorem dX11_allows_6 : decode cX11_allows 6 = .ok (.aload_n 0, 1) := by decide +kernel
theorem dX11_allows_7 : decode cX11_allows 7 = .ok (.invokevirtual 137, 3) := by decide +kernel
theorem dX11_allows_10 : decode cX11_allows 10 = .ok (.ireturn, 1) := by decide +kernel
theorem dX11_areWeights_0 : decode cX11_areWeights 0 = .ok (.iload_n 0, 1) := by decide +kernel
theorem dX11_areWeights_1 : decode cX11_areWeights 1 = .ok (.iconst 0, 1) := by decide +kernel
theorem dX11_areWeights_2 : decode cX11_areWeights 2 = .ok (.bipush 9, 2) := by decide +kernel
theorem dX11_areWeights_4 : decode cX11_areWeights 4 = .ok (.invokestatic 90, 3) := by decide +kernel
theorem dX11_areWeights_7 : decode cX11_areWeights 7 = .ok (.ifCond .eq 17, 3) := by decide +kernel
theorem dX11_areWeights_10 : decode cX11_areWeights 10 = .ok (.iload_n 1, 1) := by decide +kernel
theorem dX11_areWeights_11 : decode cX11_areWeights 11 = .ok (.iconst 0, 1) := by decide +kernel
theorem dX11_areWeights_12 : decode cX11_areWeights 12 = .ok (.bipush 9, 2) := by decide +kernel
theorem dX11_areWeights_14 : decode cX11_areWeights 14 = .ok (.invokestatic 90, 3) := by decide +kernel
theorem dX11_areWeights_17 : decode cX11_areWeights 17 = .ok (.ifCond .eq 7, 3) := by decide +kernel
theorem dX11_areWeights_20 : decode cX11_areWeights 20 = .ok (.iconst 1, 1) := by decide +kernel
theorem dX11_areWeights_21 : decode cX11_areWeights 21 = .ok (.goto 4, 3) := by decide +kernel
theorem dX11_areWeights_24 : decode cX11_areWeights 24 = .ok (.iconst 0, 1) := by decide +kernel
theorem dX11_areWeights_25 : decode cX11_areWeights 25 = .ok (.ireturn, 1) := by decide +kernel
theorem dX11_setSchedule_0 : decode cX11_setSchedule 0 = .ok (.aload_n 0, 1) := by decide +kernel
theorem dX11_setSchedule_1 : decode cX11_setSchedule 1 = .ok (.iload_n 1, 1) := by decide +kernel
theorem dX11_setSchedule_2 : decode cX11_setSchedule 2 = .ok (.iload_n 2, 1) := by decide +kernel
theorem dX11_setSchedule_3 : decode cX11_setSchedule 3 = .ok (.invokestatic 141, 3) := by decide +kernel
theorem dX11_setSchedule_6 : decode cX11_setSchedule 6 = .ok (.ifCond .eq 7, 3) := by decide +kernel
theorem dX11_setSchedule_9 : decode cX11_setSchedule 9 = .ok (.iconst 0, 1) := by decide +kernel
theorem dX11_setSchedule_10 : decode cX11_setSchedule 10 = .ok (.goto 4, 3) := by decide +kernel
theorem dX11_setSchedule_13 : decode cX11_setSchedule 13 = .ok (.iconst 1, 1) := by decide +kernel
theorem dX11_setSchedule_14 : decode cX11_setSchedule 14 = .ok (.invokevirtual 102, 3) := by decide +kernel
theorem dX11_setSchedule_17 : decode cX11_setSchedule 17 = .ok (.ifCond .eq 5, 3) := by decide +kernel
theorem dX11_setSchedule_20 : decode cX11_setSchedule 20 = .ok (.iconst 0, 1) := by decide +kernel
theorem dX11_setSchedule_21 : decode cX11_setSchedule 21 = .ok (.ireturn, 1) := by decide +kernel
theorem dX11_setSchedule_22 : decode cX11_setSchedule 22 = .ok (.aload_n 0, 1) := by decide +kernel
theorem dX11_setSchedule_23 : decode cX11_setSchedule 23 = .ok (.iload_n 1, 1) := by decide +kernel
theorem dX11_setSchedule_24 : decode cX11_setSchedule 24 = .ok (.putfield 42, 3) := by decide +kernel
theorem dX11_setSchedule_27 : decode cX11_setSchedule 27 = .ok (.aload_n 0, 1) := by decide +kernel
theorem dX11_setSchedule_28 : decode cX11_setSchedule 28 = .ok (.iload_n 2, 1) := by decide +kernel
theorem dX11_setSchedule_29 : decode cX11_setSchedule 29 = .ok (.putfield 120, 3) := by decide +kernel
theorem dX11_setSchedule_32 : decode cX11_setSchedule 32 = .ok (.aload_n 0, 1) := by decide +kernel
theorem dX11_setSchedule_33 : decode cX11_setSchedule 33 = .ok (.aload_n 0, 1) := by decide +kernel
theorem dX11_setSchedule_34 : decode cX11_setSchedule 34 = .ok (.getfield 42, 3) := by decide +kernel
theorem dX11_setSchedule_37 : decode cX11_setSchedule 37 = .ok (.aload_n 0, 1) := by decide +kernel
theorem dX11_setSchedule_38 : decode cX11_setSchedule 38 = .ok (.getfield 120, 3) := by decide +kernel
theorem dX11_setSchedule_41 : decode cX11_setSchedule 41 = .ok (.invokevirtual 144, 3) := by decide +kernel
theorem dX11_setSchedule_44 : decode cX11_setSchedule 44 = .ok (.ireturn, 1) := by decide +kernel
theorem dX11_setOffset_0 : decode cX11_setOffset 0 = .ok (.aload_n 0, 1) := by decide +kernel
theorem dX11_setOffset_1 : decode cX11_setOffset 1 = .ok (.aload_n 0, 1) := by decide +kernel
theorem dX11_setOffset_2 : decode cX11_setOffset 2 = .ok (.iload_n 1, 1) := by decide +kernel
theorem dX11_setOffset_3 : decode cX11_setOffset 3 = .ok (.invokevirtual 94, 3) := by decide +kernel
theorem dX11_setOffset_6 : decode cX11_setOffset 6 = .ok (.ifCond .ne 7, 3) := by decide +kernel
theorem dX11_setOffset_9 : decode cX11_setOffset 9 = .ok (.iconst 1, 1) := by decide +kernel
theorem dX11_setOffset_10 : decode cX11_setOffset 10 = .ok (.goto 18, 3) := by decide +kernel
theorem dX11_setOffset_13 : decode cX11_setOffset 13 = .ok (.iload_n 2, 1) := by decide +kernel
theorem dX11_setOffset_14 : decode cX11_setOffset 14 = .ok (.iconst 0, 1) := by decide +kernel
theorem dX11_setOffset_15 : decode cX11_setOffset 15 = .ok (.bipush 30, 2) := by decide +kernel
theorem dX11_setOffset_17 : decode cX11_setOffset 17 = .ok (.invokestatic 90, 3) := by decide +kernel
theorem dX11_setOffset_20 : decode cX11_setOffset 20 = .ok (.ifCond .eq 7, 3) := by decide +kernel
theorem dX11_setOffset_23 : decode cX11_setOffset 23 = .ok (.iconst 0, 1) := by decide +kernel
theorem dX11_setOffset_24 : decode cX11_setOffset 24 = .ok (.goto 4, 3) := by decide +kernel
theorem dX11_setOffset_27 : decode cX11_setOffset 27 = .ok (.iconst 2, 1) := by decide +kernel
theorem dX11_setOffset_28 : decode cX11_setOffset 28 = .ok (.invokevirtual 102, 3) := by decide +kernel
theorem dX11_setOffset_31 : decode cX11_setOffset 31 = .ok (.ifCond .eq 5, 3) := by decide +kernel
theorem dX11_setOffset_34 : decode cX11_setOffset 34 = .ok (.iconst 0, 1) := by decide +kernel
theorem dX11_setOffset_35 : decode cX11_setOffset 35 = .ok (.ireturn, 1) := by decide +kernel
theorem dX11_setOffset_36 : decode cX11_setOffset 36 = .ok (.aload_n 0, 1) := by decide +kernel
theorem dX11_setOffset_37 : decode cX11_setOffset 37 = .ok (.getfield 39, 3) := by decide +kernel
theorem dX11_setOffset_40 : decode cX11_setOffset 40 = .ok (.iload_n 1, 1) := by decide +kernel
theorem dX11_setOffset_41 : decode cX11_setOffset 41 = .ok (.iload_n 2, 1) := by decide +kernel
theorem dX11_setOffset_42 : decode cX11_setOffset 42 = .ok (.iastore, 1) := by decide +kernel
theorem dX11_setOffset_43 : decode cX11_setOffset 43 = .ok (.aload_n 0, 1) := by decide +kernel
theorem dX11_setOffset_44 : decode cX11_setOffset 44 = .ok (.aload_n 0, 1) := by decide +kernel
theorem dX11_setOffset_45 : decode cX11_setOffset 45 = .ok (.getfield 42, 3) := by decide +kernel
theorem dX11_setOffset_48 : decode cX11_setOffset 48 = .ok (.aload_n 0, 1) := by decide +kernel
theorem dX11_setOffset_49 : decode cX11_setOffset 49 = .ok (.getfield 120, 3) := by decide +kernel
theorem dX11_setOffset_52 : decode cX11_setOffset 52 = .ok (.invokevirtual 144, 3) := by decide +kernel
theorem dX11_setOffset_55 : decode cX11_setOffset 55 = .ok (.ireturn, 1) := by decide +kernel
theorem dX11_isAllowed_0 : decode cX11_isAllowed 0 = .ok (.aload_n 0, 1) := by decide +kernel
theorem dX11_isAllowed_1 : decode cX11_isAllowed 1 = .ok (.iconst 0, 1) := by decide +kernel
theorem dX11_isAllowed_2 : decode cX11_isAllowed 2 = .ok (.putfield 84, 3) := by decide +kernel
theorem dX11_isAllowed_5 : decode cX11_isAllowed 5 = .ok (.aload_n 0, 1) := by decide +kernel
theorem dX11_isAllowed_6 : decode cX11_isAllowed 6 = .ok (.aload_n 0, 1) := by decide +kernel
theorem dX11_isAllowed_7 : decode cX11_isAllowed 7 = .ok (.getfield 42, 3) := by decide +kernel
theorem dX11_isAllowed_10 : decode cX11_isAllowed 10 = .ok (.aload_n 0, 1) := by decide +kernel
theorem dX11_isAllowed_11 : decode cX11_isAllowed 11 = .ok (.getfield 120, 3) := by decide +kernel
theorem dX11_isAllowed_14 : decode cX11_isAllowed 14 = .ok (.invokevirtual 144, 3) := by decide +kernel
theorem dX11_isAllowed_17 : decode cX11_isAllowed 17 = .ok (.ireturn, 1) := by decide +kernel
theorem dX11_isAllowedWith_0 : decode cX11_isAllowedWith 0 = .ok (.aload_n 0, 1) := by decide +kernel
theorem dX11_isAllowedWith_1 : decode cX11_isAllowedWith 1 = .ok (.iload_n 1, 1) := by decide +kernel
theorem dX11_isAllowedWith_2 : decode cX11_isAllowedWith 2 = .ok (.iload_n 2, 1) := by decide +kernel
theorem dX11_isAllowedWith_3 : decode cX11_isAllowedWith 3 = .ok (.invokestatic 141, 3) := by decide +kernel
theorem dX11_isAllowedWith_6 : decode cX11_isAllowedWith 6 = .ok (.ifCond .eq 7, 3) := by decide +kernel
theorem dX11_isAllowedWith_9 : decode cX11_isAllowedWith 9 = .ok (.iconst 0, 1) := by decide +kernel
theorem dX11_isAllowedWith_10 : decode cX11_isAllowedWith 10 = .ok (.goto 4, 3) := by decide +kernel
theorem dX11_isAllowedWith_13 : decode cX11_isAllowedWith 13 = .ok (.iconst 1, 1) := by decide +kernel
theorem dX11_isAllowedWith_14 : decode cX11_isAllowedWith 14 = .ok (.invokevirtual 102, 3) := by decide +kernel
theorem dX11_isAllowedWith_17 : decode cX11_isAllowedWith 17 = .ok (.ifCond .ne 16, 3) := by decide +kernel
theorem dX11_isAllowedWith_20 : decode cX11_isAllowedWith 20 = .ok (.aload_n 0, 1) := by decide +kernel
theorem dX11_isAllowedWith_21 : decode cX11_isAllowedWith 21 = .ok (.iload_n 1, 1) := by decide +kernel
theorem dX11_isAllowedWith_22 : decode cX11_isAllowedWith 22 = .ok (.iload_n 2, 1) := by decide +kernel
theorem dX11_isAllowedWith_23 : decode cX11_isAllowedWith 23 = .ok (.invokevirtual 144, 3) := by decide +kernel
theorem dX11_isAllowedWith_26 : decode cX11_isAllowedWith 26 = .ok (.ifCond .eq 7, 3) := by decide +kernel
theorem dX11_isAllowedWith_29 : decode cX11_isAllowedWith 29 = .ok (.iconst 1, 1) := by decide +kernel
theorem dX11_isAllowedWith_30 : decode cX11_isAllowedWith 30 = .ok (.goto 4, 3) := by decide +kernel
theorem dX11_isAllowedWith_33 : decode cX11_isAllowedWith 33 = .ok (.iconst 0, 1) := by decide +kernel
theorem dX11_isAllowedWith_34 : decode cX11_isAllowedWith 34 = .ok (.ireturn, 1) := by decide +kernel
theorem dX11_isReadInOrder_0 : decode cX11_isReadInOrder 0 = .ok (.aload_n 0, 1) := by decide +kernel
theorem dX11_isReadInOrder_1 : decode cX11_isReadInOrder 1 = .ok (.aload_n 0, 1) := by decide +kernel
theorem dX11_isReadInOrder_2 : decode cX11_isReadInOrder 2 = .ok (.iload_n 1, 1) := by decide +kernel
theorem dX11_isReadInOrder_3 : decode cX11_isReadInOrder 3 = .ok (.invokevirtual 94, 3) := by decide +kernel
theorem dX11_isReadInOrder_6 : decode cX11_isReadInOrder 6 = .ok (.ifCond .eq 23, 3) := by decide +kernel
theorem dX11_isReadInOrder_9 : decode cX11_isReadInOrder 9 = .ok (.iload_n 2, 1) := by decide +kernel
theorem dX11_isReadInOrder_10 : decode cX11_isReadInOrder 10 = .ok (.iconst 0, 1) := by decide +kernel
theorem dX11_isReadInOrder_11 : decode cX11_isReadInOrder 11 = .ok (.aload_n 0, 1) := by decide +kernel
theorem dX11_isReadInOrder_12 : decode cX11_isReadInOrder 12 = .ok (.getfield 20, 3) := by decide +kernel
theorem dX11_isReadInOrder_15 : decode cX11_isReadInOrder 15 = .ok (.iload_n 1, 1) := by decide +kernel
theorem dX11_isReadInOrder_16 : decode cX11_isReadInOrder 16 = .ok (.iaload, 1) := by decide +kernel
theorem dX11_isReadInOrder_17 : decode cX11_isReadInOrder 17 = .ok (.iconst 1, 1) := by decide +kernel
theorem dX11_isReadInOrder_18 : decode cX11_isReadInOrder 18 = .ok (.isub, 1) := by decide +kernel
theorem dX11_isReadInOrder_19 : decode cX11_isReadInOrder 19 = .ok (.invokestatic 90, 3) := by decide +kernel
theorem dX11_isReadInOrder_22 : decode cX11_isReadInOrder 22 = .ok (.ifCond .eq 7, 3) := by decide +kernel
theorem dX11_isReadInOrder_25 : decode cX11_isReadInOrder 25 = .ok (.iconst 0, 1) := by decide +kernel
theorem dX11_isReadInOrder_26 : decode cX11_isReadInOrder 26 = .ok (.goto 4, 3) := by decide +kernel
theorem dX11_isReadInOrder_29 : decode cX11_isReadInOrder 29 = .ok (.iconst 1, 1) := by decide +kernel
theorem dX11_isReadInOrder_30 : decode cX11_isReadInOrder 30 = .ok (.invokevirtual 102, 3) := by decide +kernel
theorem dX11_isReadInOrder_33 : decode cX11_isReadInOrder 33 = .ok (.ifCond .eq 5, 3) := by decide +kernel
theorem dX11_isReadInOrder_36 : decode cX11_isReadInOrder 36 = .ok (.iconst 0, 1) := by decide +kernel
theorem dX11_isReadInOrder_37 : decode cX11_isReadInOrder 37 = .ok (.ireturn, 1) := by decide +kernel
theorem dX11_isReadInOrder_38 : decode cX11_isReadInOrder 38 = .ok (.aload_n 0, 1) := by decide +kernel
theorem dX11_isReadInOrder_39 : decode cX11_isReadInOrder 39 = .ok (.invokevirtual 147, 3) := by decide +kernel
theorem dX11_isReadInOrder_42 : decode cX11_isReadInOrder 42 = .ok (.aload_n 0, 1) := by decide +kernel
theorem dX11_isReadInOrder_43 : decode cX11_isReadInOrder 43 = .ok (.iload_n 1, 1) := by decide +kernel
theorem dX11_isReadInOrder_44 : decode cX11_isReadInOrder 44 = .ok (.iload_n 2, 1) := by decide +kernel
theorem dX11_isReadInOrder_45 : decode cX11_isReadInOrder 45 = .ok (.invokevirtual 134, 3) := by decide +kernel
theorem dX11_isReadInOrder_48 : decode cX11_isReadInOrder 48 = .ok (.ireturn, 1) := by decide +kernel
theorem dX11_steps_0 : decode cX11_steps 0 = .ok (.aload_n 0, 1) := by decide +kernel
theorem dX11_steps_1 : decode cX11_steps 1 = .ok (.iconst 0, 1) := by decide +kernel
theorem dX11_steps_2 : decode cX11_steps 2 = .ok (.putfield 84, 3) := by decide +kernel
theorem dX11_steps_5 : decode cX11_steps 5 = .ok (.aload_n 0, 1) := by decide +kernel
theorem dX11_steps_6 : decode cX11_steps 6 = .ok (.invokevirtual 112, 3) := by decide +kernel
theorem dX11_steps_9 : decode cX11_steps 9 = .ok (.ireturn, 1) := by decide +kernel
theorem dX11_stepOf_0 : decode cX11_stepOf 0 = .ok (.aload_n 0, 1) := by decide +kernel
theorem dX11_stepOf_1 : decode cX11_stepOf 1 = .ok (.aload_n 0, 1) := by decide +kernel
theorem dX11_stepOf_2 : decode cX11_stepOf 2 = .ok (.iload_n 1, 1) := by decide +kernel
theorem dX11_stepOf_3 : decode cX11_stepOf 3 = .ok (.iload_n 2, 1) := by decide +kernel
theorem dX11_stepOf_4 : decode cX11_stepOf 4 = .ok (.iload_n 3, 1) := by decide +kernel
theorem dX11_stepOf_5 : decode cX11_stepOf 5 = .ok (.invokevirtual 150, 3) := by decide +kernel
theorem dX11_stepOf_8 : decode cX11_stepOf 8 = .ok (.ifCond .eq 7, 3) := by decide +kernel
theorem dX11_stepOf_11 : decode cX11_stepOf 11 = .ok (.iconst 0, 1) := by decide +kernel
theorem dX11_stepOf_12 : decode cX11_stepOf 12 = .ok (.goto 4, 3) := by decide +kernel
theorem dX11_stepOf_15 : decode cX11_stepOf 15 = .ok (.iconst 1, 1) := by decide +kernel
theorem dX11_stepOf_16 : decode cX11_stepOf 16 = .ok (.invokevirtual 102, 3) := by decide +kernel
theorem dX11_stepOf_19 : decode cX11_stepOf 19 = .ok (.ifCond .eq 5, 3) := by decide +kernel
theorem dX11_stepOf_22 : decode cX11_stepOf 22 = .ok (.iconst 0, 1) := by decide +kernel
theorem dX11_stepOf_23 : decode cX11_stepOf 23 = .ok (.ireturn, 1) := by decide +kernel
theorem dX11_stepOf_24 : decode cX11_stepOf 24 = .ok (.aload_n 0, 1) := by decide +kernel
theorem dX11_stepOf_25 : decode cX11_stepOf 25 = .ok (.invokevirtual 147, 3) := by decide +kernel
theorem dX11_stepOf_28 : decode cX11_stepOf 28 = .ok (.aload_n 0, 1) := by decide +kernel
theorem dX11_stepOf_29 : decode cX11_stepOf 29 = .ok (.getfield 57, 3) := by decide +kernel
theorem dX11_stepOf_32 : decode cX11_stepOf 32 = .ok (.aload_n 0, 1) := by decide +kernel
theorem dX11_stepOf_33 : decode cX11_stepOf 33 = .ok (.iload_n 1, 1) := by decide +kernel
theorem dX11_stepOf_34 : decode cX11_stepOf 34 = .ok (.iload_n 2, 1) := by decide +kernel
theorem dX11_stepOf_35 : decode cX11_stepOf 35 = .ok (.iload_n 3, 1) := by decide +kernel
theorem dX11_stepOf_36 : decode cX11_stepOf 36 = .ok (.invokevirtual 127, 3) := by decide +kernel
theorem dX11_stepOf_39 : decode cX11_stepOf 39 = .ok (.iaload, 1) := by decide +kernel
theorem dX11_stepOf_40 : decode cX11_stepOf 40 = .ok (.ireturn, 1) := by decide +kernel
theorem dX11_isStep_0 : decode cX11_isStep 0 = .ok (.iload_n 1, 1) := by decide +kernel
theorem dX11_isStep_1 : decode cX11_isStep 1 = .ok (.iconst 0, 1) := by decide +kernel
theorem dX11_isStep_2 : decode cX11_isStep 2 = .ok (.aload_n 0, 1) := by decide +kernel
theorem dX11_isStep_3 : decode cX11_isStep 3 = .ok (.invokevirtual 112, 3) := by decide +kernel
theorem dX11_isStep_6 : decode cX11_isStep 6 = .ok (.iconst 1, 1) := by decide +kernel
theorem dX11_isStep_7 : decode cX11_isStep 7 = .ok (.isub, 1) := by decide +kernel
theorem dX11_isStep_8 : decode cX11_isStep 8 = .ok (.invokestatic 90, 3) := by decide +kernel
theorem dX11_isStep_11 : decode cX11_isStep 11 = .ok (.ireturn, 1) := by decide +kernel
theorem dX11_statementAt_0 : decode cX11_statementAt 0 = .ok (.aload_n 0, 1) := by decide +kernel
theorem dX11_statementAt_1 : decode cX11_statementAt 1 = .ok (.aload_n 0, 1) := by decide +kernel
theorem dX11_statementAt_2 : decode cX11_statementAt 2 = .ok (.iload_n 1, 1) := by decide +kernel
theorem dX11_statementAt_3 : decode cX11_statementAt 3 = .ok (.invokevirtual 153, 3) := by decide +kernel
theorem dX11_statementAt_6 : decode cX11_statementAt 6 = .ok (.ifCond .eq 7, 3) := by decide +kernel
theorem dX11_statementAt_9 : decode cX11_statementAt 9 = .ok (.iconst 0, 1) := by decide +kernel
theorem dX11_statementAt_10 : decode cX11_statementAt 10 = .ok (.goto 4, 3) := by decide +kernel
theorem dX11_statementAt_13 : decode cX11_statementAt 13 = .ok (.iconst 1, 1) := by decide +kernel
theorem dX11_statementAt_14 : decode cX11_statementAt 14 = .ok (.invokevirtual 102, 3) := by decide +kernel
theorem dX11_statementAt_17 : decode cX11_statementAt 17 = .ok (.ifCond .eq 5, 3) := by decide +kernel
theorem dX11_statementAt_20 : decode cX11_statementAt 20 = .ok (.iconst 0, 1) := by decide +kernel
theorem dX11_statementAt_21 : decode cX11_statementAt 21 = .ok (.ireturn, 1) := by decide +kernel
theorem dX11_statementAt_22 : decode cX11_statementAt 22 = .ok (.aload_n 0, 1) := by decide +kernel
theorem dX11_statementAt_23 : decode cX11_statementAt 23 = .ok (.invokevirtual 147, 3) := by decide +kernel
theorem dX11_statementAt_26 : decode cX11_statementAt 26 = .ok (.aload_n 0, 1) := by decide +kernel
theorem dX11_statementAt_27 : decode cX11_statementAt 27 = .ok (.getfield 60, 3) := by decide +kernel
theorem dX11_statementAt_30 : decode cX11_statementAt 30 = .ok (.iload_n 1, 1) := by decide +kernel
theorem dX11_statementAt_31 : decode cX11_statementAt 31 = .ok (.iaload, 1) := by decide +kernel
theorem dX11_statementAt_32 : decode cX11_statementAt 32 = .ok (.bipush 64, 2) := by decide +kernel
theorem dX11_statementAt_34 : decode cX11_statementAt 34 = .ok (.idiv, 1) := by decide +kernel
theorem dX11_statementAt_35 : decode cX11_statementAt 35 = .ok (.ireturn, 1) := by decide +kernel
theorem dX11_pointAt_0 : decode cX11_pointAt 0 = .ok (.aload_n 0, 1) := by decide +kernel
theorem dX11_pointAt_1 : decode cX11_pointAt 1 = .ok (.aload_n 0, 1) := by decide +kernel
theorem dX11_pointAt_2 : decode cX11_pointAt 2 = .ok (.iload_n 1, 1) := by decide +kernel
theorem dX11_pointAt_3 : decode cX11_pointAt 3 = .ok (.invokevirtual 153, 3) := by decide +kernel
theorem dX11_pointAt_6 : decode cX11_pointAt 6 = .ok (.ifCond .eq 7, 3) := by decide +kernel
theorem dX11_pointAt_9 : decode cX11_pointAt 9 = .ok (.iconst 0, 1) := by decide +kernel
theorem dX11_pointAt_10 : decode cX11_pointAt 10 = .ok (.goto 4, 3) := by decide +kernel
theorem dX11_pointAt_13 : decode cX11_pointAt 13 = .ok (.iconst 1, 1) := by decide +kernel
theorem dX11_pointAt_14 : decode cX11_pointAt 14 = .ok (.invokevirtual 102, 3) := by decide +kernel
theorem dX11_pointAt_17 : decode cX11_pointAt 17 = .ok (.ifCond .eq 5, 3) := by decide +kernel
theorem dX11_pointAt_20 : decode cX11_pointAt 20 = .ok (.iconst 0, 1) := by decide +kernel
theorem dX11_pointAt_21 : decode cX11_pointAt 21 = .ok (.ireturn, 1) := by decide +kernel
theorem dX11_pointAt_22 : decode cX11_pointAt 22 = .ok (.aload_n 0, 1) := by decide +kernel
theorem dX11_pointAt_23 : decode cX11_pointAt 23 = .ok (.invokevirtual 147, 3) := by decide +kernel
theorem dX11_pointAt_26 : decode cX11_pointAt 26 = .ok (.aload_n 0, 1) := by decide +kernel
theorem dX11_pointAt_27 : decode cX11_pointAt 27 = .ok (.getfield 60, 3) := by decide +kernel
theorem dX11_pointAt_30 : decode cX11_pointAt 30 = .ok (.iload_n 1, 1) := by decide +kernel
theorem dX11_pointAt_31 : decode cX11_pointAt 31 = .ok (.iaload, 1) := by decide +kernel
theorem dX11_pointAt_32 : decode cX11_pointAt 32 = .ok (.bipush 64, 2) := by decide +kernel
theorem dX11_pointAt_34 : decode cX11_pointAt 34 = .ok (.irem, 1) := by decide +kernel
theorem dX11_pointAt_35 : decode cX11_pointAt 35 = .ok (.ireturn, 1) := by decide +kernel
theorem dX11_lives_0 : decode cX11_lives 0 = .ok (.iconst 0, 1) := by decide +kernel
theorem dX11_lives_1 : decode cX11_lives 1 = .ok (.istore_n 1, 1) := by decide +kernel
theorem dX11_lives_2 : decode cX11_lives 2 = .ok (.iload_n 1, 1) := by decide +kernel
theorem dX11_lives_3 : decode cX11_lives 3 = .ok (.aload_n 0, 1) := by decide +kernel
theorem dX11_lives_4 : decode cX11_lives 4 = .ok (.invokevirtual 112, 3) := by decide +kernel
theorem dX11_lives_7 : decode cX11_lives 7 = .ok (.if_icmp .ge 42, 3) := by decide +kernel
theorem dX11_lives_10 : decode cX11_lives 10 = .ok (.aload_n 0, 1) := by decide +kernel
theorem dX11_lives_11 : decode cX11_lives 11 = .ok (.getfield 60, 3) := by decide +kernel
theorem dX11_lives_14 : decode cX11_lives 14 = .ok (.iload_n 1, 1) := by decide +kernel
theorem dX11_lives_15 : decode cX11_lives 15 = .ok (.iaload, 1) := by decide +kernel
theorem dX11_lives_16 : decode cX11_lives 16 = .ok (.istore_n 2, 1) := by decide +kernel
theorem dX11_lives_17 : decode cX11_lives 17 = .ok (.aload_n 0, 1) := by decide +kernel
theorem dX11_lives_18 : decode cX11_lives 18 = .ok (.getfield 63, 3) := by decide +kernel
theorem dX11_lives_21 : decode cX11_lives 21 = .ok (.iload_n 2, 1) := by decide +kernel
theorem dX11_lives_22 : decode cX11_lives 22 = .ok (.aload_n 0, 1) := by decide +kernel
theorem dX11_lives_23 : decode cX11_lives 23 = .ok (.getfield 35, 3) := by decide +kernel
theorem dX11_lives_26 : decode cX11_lives 26 = .ok (.iload_n 2, 1) := by decide +kernel
theorem dX11_lives_27 : decode cX11_lives 27 = .ok (.bipush 64, 2) := by decide +kernel
theorem dX11_lives_29 : decode cX11_lives 29 = .ok (.idiv, 1) := by decide +kernel
theorem dX11_lives_30 : decode cX11_lives 30 = .ok (.baload, 1) := by decide +kernel
theorem dX11_lives_31 : decode cX11_lives 31 = .ok (.ifCond .eq 10, 3) := by decide +kernel
theorem dX11_lives_34 : decode cX11_lives 34 = .ok (.aload_n 0, 1) := by decide +kernel
theorem dX11_lives_35 : decode cX11_lives 35 = .ok (.invokevirtual 112, 3) := by decide +kernel
theorem dX11_lives_38 : decode cX11_lives 38 = .ok (.goto 4, 3) := by decide +kernel
theorem dX11_lives_41 : decode cX11_lives 41 = .ok (.iload_n 1, 1) := by decide +kernel
theorem dX11_lives_42 : decode cX11_lives 42 = .ok (.iastore, 1) := by decide +kernel
theorem dX11_lives_43 : decode cX11_lives 43 = .ok (.iinc 1 1, 3) := by decide +kernel
theorem dX11_lives_46 : decode cX11_lives 46 = .ok (.goto (-44), 3) := by decide +kernel
theorem dX11_lives_49 : decode cX11_lives 49 = .ok (.iconst 0, 1) := by decide +kernel
theorem dX11_lives_50 : decode cX11_lives 50 = .ok (.istore_n 1, 1) := by decide +kernel
theorem dX11_lives_51 : decode cX11_lives 51 = .ok (.iload_n 1, 1) := by decide +kernel
theorem dX11_lives_52 : decode cX11_lives 52 = .ok (.aload_n 0, 1) := by decide +kernel
theorem dX11_lives_53 : decode cX11_lives 53 = .ok (.invokevirtual 112, 3) := by decide +kernel
theorem dX11_lives_56 : decode cX11_lives 56 = .ok (.if_icmp .ge 80, 3) := by decide +kernel
theorem dX11_lives_59 : decode cX11_lives 59 = .ok (.aload_n 0, 1) := by decide +kernel
theorem dX11_lives_60 : decode cX11_lives 60 = .ok (.getfield 60, 3) := by decide +kernel
theorem dX11_lives_63 : decode cX11_lives 63 = .ok (.iload_n 1, 1) := by decide +kernel
theorem dX11_lives_64 : decode cX11_lives 64 = .ok (.iaload, 1) := by decide +kernel
theorem dX11_lives_65 : decode cX11_lives 65 = .ok (.bipush 64, 2) := by decide +kernel
theorem dX11_lives_67 : decode cX11_lives 67 = .ok (.idiv, 1) := by decide +kernel
theorem dX11_lives_68 : decode cX11_lives 68 = .ok (.istore_n 2, 1) := by decide +kernel
theorem dX11_lives_69 : decode cX11_lives 69 = .ok (.iconst 4, 1) := by decide +kernel
theorem dX11_lives_70 : decode cX11_lives 70 = .ok (.iload_n 2, 1) := by decide +kernel
theorem dX11_lives_71 : decode cX11_lives 71 = .ok (.imul, 1) := by decide +kernel
theorem dX11_lives_72 : decode cX11_lives 72 = .ok (.istore_n 3, 1) := by decide +kernel
theorem dX11_lives_73 : decode cX11_lives 73 = .ok (.iload_n 3, 1) := by decide +kernel
theorem dX11_lives_74 : decode cX11_lives 74 = .ok (.iconst 4, 1) := by decide +kernel
theorem dX11_lives_75 : decode cX11_lives 75 = .ok (.iload_n 2, 1) := by decide +kernel
theorem dX11_lives_76 : decode cX11_lives 76 = .ok (.imul, 1) := by decide +kernel
theorem dX11_lives_77 : decode cX11_lives 77 = .ok (.aload_n 0, 1) := by decide +kernel
theorem dX11_lives_78 : decode cX11_lives 78 = .ok (.getfield 20, 3) := by decide +kernel
theorem dX11_lives_81 : decode cX11_lives 81 = .ok (.iload_n 2, 1) := by decide +kernel
theorem dX11_lives_82 : decode cX11_lives 82 = .ok (.iaload, 1) := by decide +kernel
theorem dX11_lives_83 : decode cX11_lives 83 = .ok (.iadd, 1) := by decide +kernel
theorem dX11_lives_84 : decode cX11_lives 84 = .ok (.if_icmp .ge 46, 3) := by decide +kernel
theorem dX11_lives_87 : decode cX11_lives 87 = .ok (.aload_n 0, 1) := by decide +kernel
theorem dX11_lives_88 : decode cX11_lives 88 = .ok (.aload_n 0, 1) := by decide +kernel
theorem dX11_lives_89 : decode cX11_lives 89 = .ok (.getfield 60, 3) := by decide +kernel
theorem dX11_lives_92 : decode cX11_lives 92 = .ok (.iload_n 1, 1) := by decide +kernel
theorem dX11_lives_93 : decode cX11_lives 93 = .ok (.iaload, 1) := by decide +kernel
theorem dX11_lives_94 : decode cX11_lives 94 = .ok (.iload_n 3, 1) := by decide +kernel
theorem dX11_lives_95 : decode cX11_lives 95 = .ok (.invokevirtual 130, 3) := by decide +kernel
theorem dX11_lives_98 : decode cX11_lives 98 = .ok (.istore 4, 2) := by decide +kernel
theorem dX11_lives_100 : decode cX11_lives 100 = .ok (.iload 4, 2) := by decide +kernel
theorem dX11_lives_102 : decode cX11_lives 102 = .ok (.ifCond .lt 22, 3) := by decide +kernel
theorem dX11_lives_105 : decode cX11_lives 105 = .ok (.aload_n 0, 1) := by decide +kernel
theorem dX11_lives_106 : decode cX11_lives 106 = .ok (.getfield 63, 3) := by decide +kernel
theorem dX11_lives_109 : decode cX11_lives 109 = .ok (.iload 4, 2) := by decide +kernel
theorem dX11_lives_111 : decode cX11_lives 111 = .ok (.iaload, 1) := by decide +kernel
theorem dX11_lives_112 : decode cX11_lives 112 = .ok (.iload_n 1, 1) := by decide +kernel
theorem dX11_lives_113 : decode cX11_lives 113 = .ok (.if_icmp .ge 11, 3) := by decide +kernel
theorem dX11_lives_116 : decode cX11_lives 116 = .ok (.aload_n 0, 1) := by decide +kernel
theorem dX11_lives_117 : decode cX11_lives 117 = .ok (.getfield 63, 3) := by decide +kernel
theorem dX11_lives_120 : decode cX11_lives 120 = .ok (.iload 4, 2) := by decide +kernel
theorem dX11_lives_122 : decode cX11_lives 122 = .ok (.iload_n 1, 1) := by decide +kernel
theorem dX11_lives_123 : decode cX11_lives 123 = .ok (.iastore, 1) := by decide +kernel
theorem dX11_lives_124 : decode cX11_lives 124 = .ok (.iinc 3 1, 3) := by decide +kernel
theorem dX11_lives_127 : decode cX11_lives 127 = .ok (.goto (-54), 3) := by decide +kernel
theorem dX11_lives_130 : decode cX11_lives 130 = .ok (.iinc 1 1, 3) := by decide +kernel
theorem dX11_lives_133 : decode cX11_lives 133 = .ok (.goto (-82), 3) := by decide +kernel
theorem dX11_lives_136 : decode cX11_lives 136 = .ok (.return_, 1) := by decide +kernel
theorem dX11_finds_0 : decode cX11_finds 0 = .ok (.aload_n 0, 1) := by decide +kernel
theorem dX11_finds_1 : decode cX11_finds 1 = .ok (.invokevirtual 147, 3) := by decide +kernel
theorem dX11_finds_4 : decode cX11_finds 4 = .ok (.aload_n 0, 1) := by decide +kernel
theorem dX11_finds_5 : decode cX11_finds 5 = .ok (.invokevirtual 156, 3) := by decide +kernel
theorem dX11_finds_8 : decode cX11_finds 8 = .ok (.return_, 1) := by decide +kernel
theorem dX11_endOf_0 : decode cX11_endOf 0 = .ok (.aload_n 0, 1) := by decide +kernel
theorem dX11_endOf_1 : decode cX11_endOf 1 = .ok (.aload_n 0, 1) := by decide +kernel
theorem dX11_endOf_2 : decode cX11_endOf 2 = .ok (.iload_n 1, 1) := by decide +kernel
theorem dX11_endOf_3 : decode cX11_endOf 3 = .ok (.iload_n 2, 1) := by decide +kernel
theorem dX11_endOf_4 : decode cX11_endOf 4 = .ok (.iload_n 3, 1) := by decide +kernel
theorem dX11_endOf_5 : decode cX11_endOf 5 = .ok (.invokevirtual 150, 3) := by decide +kernel
theorem dX11_endOf_8 : decode cX11_endOf 8 = .ok (.ifCond .eq 7, 3) := by decide +kernel
theorem dX11_endOf_11 : decode cX11_endOf 11 = .ok (.iconst 0, 1) := by decide +kernel
theorem dX11_endOf_12 : decode cX11_endOf 12 = .ok (.goto 4, 3) := by decide +kernel
theorem dX11_endOf_15 : decode cX11_endOf 15 = .ok (.iconst 1, 1) := by decide +kernel
theorem dX11_endOf_16 : decode cX11_endOf 16 = .ok (.invokevirtual 102, 3) := by decide +kernel
theorem dX11_endOf_19 : decode cX11_endOf 19 = .ok (.ifCond .eq 5, 3) := by decide +kernel
theorem dX11_endOf_22 : decode cX11_endOf 22 = .ok (.iconst 0, 1) := by decide +kernel
theorem dX11_endOf_23 : decode cX11_endOf 23 = .ok (.ireturn, 1) := by decide +kernel
theorem dX11_endOf_24 : decode cX11_endOf 24 = .ok (.aload_n 0, 1) := by decide +kernel
theorem dX11_endOf_25 : decode cX11_endOf 25 = .ok (.invokevirtual 159, 3) := by decide +kernel
theorem dX11_endOf_28 : decode cX11_endOf 28 = .ok (.aload_n 0, 1) := by decide +kernel
theorem dX11_endOf_29 : decode cX11_endOf 29 = .ok (.getfield 63, 3) := by decide +kernel
theorem dX11_endOf_32 : decode cX11_endOf 32 = .ok (.aload_n 0, 1) := by decide +kernel
theorem dX11_endOf_33 : decode cX11_endOf 33 = .ok (.iload_n 1, 1) := by decide +kernel
theorem dX11_endOf_34 : decode cX11_endOf 34 = .ok (.iload_n 2, 1) := by decide +kernel
theorem dX11_endOf_35 : decode cX11_endOf 35 = .ok (.iload_n 3, 1) := by decide +kernel
theorem dX11_endOf_36 : decode cX11_endOf 36 = .ok (.invokevirtual 127, 3) := by decide +kernel
theorem dX11_endOf_39 : decode cX11_endOf 39 = .ok (.iaload, 1) := by decide +kernel
theorem dX11_endOf_40 : decode cX11_endOf 40 = .ok (.ireturn, 1) := by decide +kernel
theorem dX11_most_0 : decode cX11_most 0 = .ok (.aload_n 0, 1) := by decide +kernel
theorem dX11_most_1 : decode cX11_most 1 = .ok (.invokevirtual 159, 3) := by decide +kernel
theorem dX11_most_4 : decode cX11_most 4 = .ok (.iconst 0, 1) := by decide +kernel
theorem dX11_most_5 : decode cX11_most 5 = .ok (.istore_n 3, 1) := by decide +kernel
theorem dX11_most_6 : decode cX11_most 6 = .ok (.iload_n 3, 1) := by decide +kernel
theorem dX11_most_7 : decode cX11_most 7 = .ok (.sipush 258, 3) := by decide +kernel
theorem dX11_most_10 : decode cX11_most 10 = .ok (.if_icmp .ge 16, 3) := by decide +kernel
theorem dX11_most_13 : decode cX11_most 13 = .ok (.aload_n 0, 1) := by decide +kernel
theorem dX11_most_14 : decode cX11_most 14 = .ok (.getfield 75, 3) := by decide +kernel
theorem dX11_most_17 : decode cX11_most 17 = .ok (.iload_n 3, 1) := by decide +kernel
theorem dX11_most_18 : decode cX11_most 18 = .ok (.iconst 0, 1) := by decide +kernel
theorem dX11_most_19 : decode cX11_most 19 = .ok (.iastore, 1) := by decide +kernel
theorem dX11_most_20 : decode cX11_most 20 = .ok (.iinc 3 1, 3) := by decide +kernel
theorem dX11_most_23 : decode cX11_most 23 = .ok (.goto (-17), 3) := by decide +kernel
theorem dX11_most_26 : decode cX11_most 26 = .ok (.iconst 0, 1) := by decide +kernel
theorem dX11_most_27 : decode cX11_most 27 = .ok (.istore_n 3, 1) := by decide +kernel
theorem dX11_most_28 : decode cX11_most 28 = .ok (.iload_n 3, 1) := by decide +kernel
theorem dX11_most_29 : decode cX11_most 29 = .ok (.aload_n 0, 1) := by decide +kernel
theorem dX11_most_30 : decode cX11_most 30 = .ok (.invokevirtual 112, 3) := by decide +kernel
theorem dX11_most_33 : decode cX11_most 33 = .ok (.if_icmp .ge 60, 3) := by decide +kernel
theorem dX11_most_36 : decode cX11_most 36 = .ok (.aload_n 0, 1) := by decide +kernel
theorem dX11_most_37 : decode cX11_most 37 = .ok (.getfield 60, 3) := by decide +kernel
theorem dX11_most_40 : decode cX11_most 40 = .ok (.iload_n 3, 1) := by decide +kernel
theorem dX11_most_41 : decode cX11_most 41 = .ok (.iaload, 1) := by decide +kernel
theorem dX11_most_42 : decode cX11_most 42 = .ok (.istore 4, 2) := by decide +kernel
theorem dX11_most_44 : decode cX11_most 44 = .ok (.iload_n 1, 1) := by decide +kernel
theorem dX11_most_45 : decode cX11_most 45 = .ok (.ifCond .lt 12, 3) := by decide +kernel
theorem dX11_most_48 : decode cX11_most 48 = .ok (.iload 4, 2) := by decide +kernel
theorem dX11_most_50 : decode cX11_most 50 = .ok (.bipush 64, 2) := by decide +kernel
theorem dX11_most_52 : decode cX11_most 52 = .ok (.idiv, 1) := by decide +kernel
theorem dX11_most_53 : decode cX11_most 53 = .ok (.iload_n 1, 1) := by decide +kernel
theorem dX11_most_54 : decode cX11_most 54 = .ok (.if_icmp .ne 33, 3) := by decide +kernel
theorem dX11_most_57 : decode cX11_most 57 = .ok (.aload_n 0, 1) := by decide +kernel
theorem dX11_most_58 : decode cX11_most 58 = .ok (.getfield 75, 3) := by decide +kernel
theorem dX11_most_61 : decode cX11_most 61 = .ok (.iload_n 3, 1) := by decide +kernel
theorem dX11_most_62 : decode cX11_most 62 = .ok (.iconst 1, 1) := by decide +kernel
theorem dX11_most_63 : decode cX11_most 63 = .ok (.iadd, 1) := by decide +kernel
theorem dX11_most_64 : decode cX11_most 64 = .ok (.dup2, 1) := by decide +kernel
theorem dX11_most_65 : decode cX11_most 65 = .ok (.iaload, 1) := by decide +kernel
theorem dX11_most_66 : decode cX11_most 66 = .ok (.iconst 1, 1) := by decide +kernel
theorem dX11_most_67 : decode cX11_most 67 = .ok (.iadd, 1) := by decide +kernel
theorem dX11_most_68 : decode cX11_most 68 = .ok (.iastore, 1) := by decide +kernel
theorem dX11_most_69 : decode cX11_most 69 = .ok (.aload_n 0, 1) := by decide +kernel
theorem dX11_most_70 : decode cX11_most 70 = .ok (.getfield 75, 3) := by decide +kernel
theorem dX11_most_73 : decode cX11_most 73 = .ok (.aload_n 0, 1) := by decide +kernel
theorem dX11_most_74 : decode cX11_most 74 = .ok (.getfield 63, 3) := by decide +kernel
theorem dX11_most_77 : decode cX11_most 77 = .ok (.iload 4, 2) := by decide +kernel
theorem dX11_most_79 : decode cX11_most 79 = .ok (.iaload, 1) := by decide +kernel
theorem dX11_most_80 : decode cX11_most 80 = .ok (.iconst 1, 1) := by decide +kernel
theorem dX11_most_81 : decode cX11_most 81 = .ok (.iadd, 1) := by decide +kernel
theorem dX11_most_82 : decode cX11_most 82 = .ok (.dup2, 1) := by decide +kernel
theorem dX11_most_83 : decode cX11_most 83 = .ok (.iaload, 1) := by decide +kernel
theorem dX11_most_84 : decode cX11_most 84 = .ok (.iconst 1, 1) := by decide +kernel
theorem dX11_most_85 : decode cX11_most 85 = .ok (.isub, 1) := by decide +kernel
theorem dX11_most_86 : decode cX11_most 86 = .ok (.iastore, 1) := by decide +kernel
theorem dX11_most_87 : decode cX11_most 87 = .ok (.iinc 3 1, 3) := by decide +kernel
theorem dX11_most_90 : decode cX11_most 90 = .ok (.goto (-62), 3) := by decide +kernel
theorem dX11_most_93 : decode cX11_most 93 = .ok (.iconst 0, 1) := by decide +kernel
theorem dX11_most_94 : decode cX11_most 94 = .ok (.istore_n 3, 1) := by decide +kernel
theorem dX11_most_95 : decode cX11_most 95 = .ok (.iconst 0, 1) := by decide +kernel
theorem dX11_most_96 : decode cX11_most 96 = .ok (.istore 4, 2) := by decide +kernel
theorem dX11_most_98 : decode cX11_most 98 = .ok (.iconst 0, 1) := by decide +kernel
theorem dX11_most_99 : decode cX11_most 99 = .ok (.istore 5, 2) := by decide +kernel
theorem dX11_most_101 : decode cX11_most 101 = .ok (.iload 5, 2) := by decide +kernel
theorem dX11_most_103 : decode cX11_most 103 = .ok (.aload_n 0, 1) := by decide +kernel
theorem dX11_most_104 : decode cX11_most 104 = .ok (.invokevirtual 112, 3) := by decide +kernel
theorem dX11_most_107 : decode cX11_most 107 = .ok (.if_icmp .ge 43, 3) := by decide +kernel
theorem dX11_most_110 : decode cX11_most 110 = .ok (.iload_n 3, 1) := by decide +kernel
theorem dX11_most_111 : decode cX11_most 111 = .ok (.aload_n 0, 1) := by decide +kernel
theorem dX11_most_112 : decode cX11_most 112 = .ok (.getfield 75, 3) := by decide +kernel
theorem dX11_most_115 : decode cX11_most 115 = .ok (.iload 5, 2) := by decide +kernel
theorem dX11_most_117 : decode cX11_most 117 = .ok (.iaload, 1) := by decide +kernel
theorem dX11_most_118 : decode cX11_most 118 = .ok (.iadd, 1) := by decide +kernel
theorem dX11_most_119 : decode cX11_most 119 = .ok (.istore_n 3, 1) := by decide +kernel
theorem dX11_most_120 : decode cX11_most 120 = .ok (.iload_n 2, 1) := by decide +kernel
theorem dX11_most_121 : decode cX11_most 121 = .ok (.ifCond .ge 9, 3) := by decide +kernel
theorem dX11_most_124 : decode cX11_most 124 = .ok (.iload_n 3, 1) := by decide +kernel
theorem dX11_most_125 : decode cX11_most 125 = .ok (.iload 4, 2) := by decide +kernel
theorem dX11_most_127 : decode cX11_most 127 = .ok (.if_icmp .gt 9, 3) := by decide +kernel
theorem dX11_most_130 : decode cX11_most 130 = .ok (.iload_n 2, 1) := by decide +kernel
theorem dX11_most_131 : decode cX11_most 131 = .ok (.iload 5, 2) := by decide +kernel
theorem dX11_most_133 : decode cX11_most 133 = .ok (.if_icmp .ne 7, 3) := by decide +kernel
theorem dX11_most_136 : decode cX11_most 136 = .ok (.iload_n 3, 1) := by decide +kernel
theorem dX11_most_137 : decode cX11_most 137 = .ok (.goto 5, 3) := by decide +kernel
theorem dX11_most_140 : decode cX11_most 140 = .ok (.iload 4, 2) := by decide +kernel
theorem dX11_most_142 : decode cX11_most 142 = .ok (.istore 4, 2) := by decide +kernel
theorem dX11_most_144 : decode cX11_most 144 = .ok (.iinc 5 1, 3) := by decide +kernel
theorem dX11_most_147 : decode cX11_most 147 = .ok (.goto (-46), 3) := by decide +kernel
theorem dX11_most_150 : decode cX11_most 150 = .ok (.iload 4, 2) := by decide +kernel
theorem dX11_most_152 : decode cX11_most 152 = .ok (.ireturn, 1) := by decide +kernel
theorem dX11_liveAt_0 : decode cX11_liveAt 0 = .ok (.aload_n 0, 1) := by decide +kernel
theorem dX11_liveAt_1 : decode cX11_liveAt 1 = .ok (.aload_n 0, 1) := by decide +kernel
theorem dX11_liveAt_2 : decode cX11_liveAt 2 = .ok (.iload_n 1, 1) := by decide +kernel
theorem dX11_liveAt_3 : decode cX11_liveAt 3 = .ok (.invokevirtual 153, 3) := by decide +kernel
theorem dX11_liveAt_6 : decode cX11_liveAt 6 = .ok (.ifCond .eq 7, 3) := by decide +kernel
theorem dX11_liveAt_9 : decode cX11_liveAt 9 = .ok (.iconst 0, 1) := by decide +kernel
theorem dX11_liveAt_10 : decode cX11_liveAt 10 = .ok (.goto 4, 3) := by decide +kernel
theorem dX11_liveAt_13 : decode cX11_liveAt 13 = .ok (.iconst 1, 1) := by decide +kernel
theorem dX11_liveAt_14 : decode cX11_liveAt 14 = .ok (.invokevirtual 102, 3) := by decide +kernel
theorem dX11_liveAt_17 : decode cX11_liveAt 17 = .ok (.ifCond .eq 7, 3) := by decide +kernel
theorem dX11_liveAt_20 : decode cX11_liveAt 20 = .ok (.iconst 0, 1) := by decide +kernel
theorem dX11_liveAt_21 : decode cX11_liveAt 21 = .ok (.goto 9, 3) := by decide +kernel
theorem dX11_liveAt_24 : decode cX11_liveAt 24 = .ok (.aload_n 0, 1) := by decide +kernel
theorem dX11_liveAt_25 : decode cX11_liveAt 25 = .ok (.iconst (-1), 1) := by decide +kernel
theorem dX11_liveAt_26 : decode cX11_liveAt 26 = .ok (.iload_n 1, 1) := by decide +kernel
theorem dX11_liveAt_27 : decode cX11_liveAt 27 = .ok (.invokevirtual 162, 3) := by decide +kernel
theorem dX11_liveAt_30 : decode cX11_liveAt 30 = .ok (.ireturn, 1) := by decide +kernel
theorem dX11_mostLive_0 : decode cX11_mostLive 0 = .ok (.aload_n 0, 1) := by decide +kernel
theorem dX11_mostLive_1 : decode cX11_mostLive 1 = .ok (.iconst 0, 1) := by decide +kernel
theorem dX11_mostLive_2 : decode cX11_mostLive 2 = .ok (.putfield 84, 3) := by decide +kernel
theorem dX11_mostLive_5 : decode cX11_mostLive 5 = .ok (.aload_n 0, 1) := by decide +kernel
theorem dX11_mostLive_6 : decode cX11_mostLive 6 = .ok (.iconst (-1), 1) := by decide +kernel
theorem dX11_mostLive_7 : decode cX11_mostLive 7 = .ok (.iconst (-1), 1) := by decide +kernel
theorem dX11_mostLive_8 : decode cX11_mostLive 8 = .ok (.invokevirtual 162, 3) := by decide +kernel
theorem dX11_mostLive_11 : decode cX11_mostLive 11 = .ok (.ireturn, 1) := by decide +kernel
theorem dX11_mostLiveOf_0 : decode cX11_mostLiveOf 0 = .ok (.aload_n 0, 1) := by decide +kernel
theorem dX11_mostLiveOf_1 : decode cX11_mostLiveOf 1 = .ok (.aload_n 0, 1) := by decide +kernel
theorem dX11_mostLiveOf_2 : decode cX11_mostLiveOf 2 = .ok (.iload_n 1, 1) := by decide +kernel
theorem dX11_mostLiveOf_3 : decode cX11_mostLiveOf 3 = .ok (.invokevirtual 94, 3) := by decide +kernel
theorem dX11_mostLiveOf_6 : decode cX11_mostLiveOf 6 = .ok (.ifCond .eq 7, 3) := by decide +kernel
theorem dX11_mostLiveOf_9 : decode cX11_mostLiveOf 9 = .ok (.iconst 0, 1) := by decide +kernel
theorem dX11_mostLiveOf_10 : decode cX11_mostLiveOf 10 = .ok (.goto 4, 3) := by decide +kernel
theorem dX11_mostLiveOf_13 : decode cX11_mostLiveOf 13 = .ok (.iconst 1, 1) := by decide +kernel
theorem dX11_mostLiveOf_14 : decode cX11_mostLiveOf 14 = .ok (.invokevirtual 102, 3) := by decide +kernel
theorem dX11_mostLiveOf_17 : decode cX11_mostLiveOf 17 = .ok (.ifCond .eq 7, 3) := by decide +kernel
theorem dX11_mostLiveOf_20 : decode cX11_mostLiveOf 20 = .ok (.iconst 0, 1) := by decide +kernel
theorem dX11_mostLiveOf_21 : decode cX11_mostLiveOf 21 = .ok (.goto 9, 3) := by decide +kernel
theorem dX11_mostLiveOf_24 : decode cX11_mostLiveOf 24 = .ok (.aload_n 0, 1) := by decide +kernel
theorem dX11_mostLiveOf_25 : decode cX11_mostLiveOf 25 = .ok (.iload_n 1, 1) := by decide +kernel
theorem dX11_mostLiveOf_26 : decode cX11_mostLiveOf 26 = .ok (.iconst (-1), 1) := by decide +kernel
theorem dX11_mostLiveOf_27 : decode cX11_mostLiveOf 27 = .ok (.invokevirtual 162, 3) := by decide +kernel
theorem dX11_mostLiveOf_30 : decode cX11_mostLiveOf 30 = .ok (.ireturn, 1) := by decide +kernel
theorem dX11_areInConflict_0 : decode cX11_areInConflict 0 = .ok (.aload_n 0, 1) := by decide +kernel
theorem dX11_areInConflict_1 : decode cX11_areInConflict 1 = .ok (.getfield 57, 3) := by decide +kernel
theorem dX11_areInConflict_4 : decode cX11_areInConflict 4 = .ok (.iload_n 1, 1) := by decide +kernel
theorem dX11_areInConflict_5 : decode cX11_areInConflict 5 = .ok (.iaload, 1) := by decide +kernel
theorem dX11_areInConflict_6 : decode cX11_areInConflict 6 = .ok (.aload_n 0, 1) := by decide +kernel
theorem dX11_areInConflict_7 : decode cX11_areInConflict 7 = .ok (.getfield 57, 3) := by decide +kernel
theorem dX11_areInConflict_10 : decode cX11_areInConflict 10 = .ok (.iload_n 2, 1) := by decide +kernel
theorem dX11_areInConflict_11 : decode cX11_areInConflict 11 = .ok (.iaload, 1) := by decide +kernel
theorem dX11_areInConflict_12 : decode cX11_areInConflict 12 = .ok (.if_icmp .ge 18, 3) := by decide +kernel
theorem dX11_areInConflict_15 : decode cX11_areInConflict 15 = .ok (.aload_n 0, 1) := by decide +kernel
theorem dX11_areInConflict_16 : decode cX11_areInConflict 16 = .ok (.getfield 57, 3) := by decide +kernel
theorem dX11_areInConflict_19 : decode cX11_areInConflict 19 = .ok (.iload_n 2, 1) := by decide +kernel
theorem dX11_areInConflict_20 : decode cX11_areInConflict 20 = .ok (.iaload, 1) := by decide +kernel
theorem dX11_areInConflict_21 : decode cX11_areInConflict 21 = .ok (.aload_n 0, 1) := by decide +kernel
theorem dX11_areInConflict_22 : decode cX11_areInConflict 22 = .ok (.getfield 63, 3) := by decide +kernel
theorem dX11_areInConflict_25 : decode cX11_areInConflict 25 = .ok (.iload_n 1, 1) := by decide +kernel
theorem dX11_areInConflict_26 : decode cX11_areInConflict 26 = .ok (.iaload, 1) := by decide +kernel
theorem dX11_areInConflict_27 : decode cX11_areInConflict 27 = .ok (.if_icmp .lt 33, 3) := by decide +kernel
theorem dX11_areInConflict_30 : decode cX11_areInConflict 30 = .ok (.aload_n 0, 1) := by decide +kernel
theorem dX11_areInConflict_31 : decode cX11_areInConflict 31 = .ok (.getfield 57, 3) := by decide +kernel
theorem dX11_areInConflict_34 : decode cX11_areInConflict 34 = .ok (.iload_n 2, 1) := by decide +kernel
theorem dX11_areInConflict_35 : decode cX11_areInConflict 35 = .ok (.iaload, 1) := by decide +kernel
theorem dX11_areInConflict_36 : decode cX11_areInConflict 36 = .ok (.aload_n 0, 1) := by decide +kernel
theorem dX11_areInConflict_37 : decode cX11_areInConflict 37 = .ok (.getfield 57, 3) := by decide +kernel
theorem dX11_areInConflict_40 : decode cX11_areInConflict 40 = .ok (.iload_n 1, 1) := by decide +kernel
theorem dX11_areInConflict_41 : decode cX11_areInConflict 41 = .ok (.iaload, 1) := by decide +kernel
theorem dX11_areInConflict_42 : decode cX11_areInConflict 42 = .ok (.if_icmp .ge 22, 3) := by decide +kernel
theorem dX11_areInConflict_45 : decode cX11_areInConflict 45 = .ok (.aload_n 0, 1) := by decide +kernel
theorem dX11_areInConflict_46 : decode cX11_areInConflict 46 = .ok (.getfield 57, 3) := by decide +kernel
theorem dX11_areInConflict_49 : decode cX11_areInConflict 49 = .ok (.iload_n 1, 1) := by decide +kernel
theorem dX11_areInConflict_50 : decode cX11_areInConflict 50 = .ok (.iaload, 1) := by decide +kernel
theorem dX11_areInConflict_51 : decode cX11_areInConflict 51 = .ok (.aload_n 0, 1) := by decide +kernel
theorem dX11_areInConflict_52 : decode cX11_areInConflict 52 = .ok (.getfield 63, 3) := by decide +kernel
theorem dX11_areInConflict_55 : decode cX11_areInConflict 55 = .ok (.iload_n 2, 1) := by decide +kernel
theorem dX11_areInConflict_56 : decode cX11_areInConflict 56 = .ok (.iaload, 1) := by decide +kernel
theorem dX11_areInConflict_57 : decode cX11_areInConflict 57 = .ok (.if_icmp .ge 7, 3) := by decide +kernel
theorem dX11_areInConflict_60 : decode cX11_areInConflict 60 = .ok (.iconst 1, 1) := by decide +kernel
theorem dX11_areInConflict_61 : decode cX11_areInConflict 61 = .ok (.goto 4, 3) := by decide +kernel
theorem dX11_areInConflict_64 : decode cX11_areInConflict 64 = .ok (.iconst 0, 1) := by decide +kernel
theorem dX11_areInConflict_65 : decode cX11_areInConflict 65 = .ok (.ireturn, 1) := by decide +kernel
theorem dX11_conflicts_0 : decode cX11_conflicts 0 = .ok (.iconst 0, 1) := by decide +kernel
theorem dX11_conflicts_1 : decode cX11_conflicts 1 = .ok (.istore_n 3, 1) := by decide +kernel
theorem dX11_conflicts_2 : decode cX11_conflicts 2 = .ok (.bipush 64, 2) := by decide +kernel
theorem dX11_conflicts_4 : decode cX11_conflicts 4 = .ok (.iload_n 2, 1) := by decide +kernel
theorem dX11_conflicts_5 : decode cX11_conflicts 5 = .ok (.imul, 1) := by decide +kernel
theorem dX11_conflicts_6 : decode cX11_conflicts 6 = .ok (.istore 4, 2) := by decide +kernel
theorem dX11_conflicts_8 : decode cX11_conflicts 8 = .ok (.iload 4, 2) := by decide +kernel
theorem dX11_conflicts_10 : decode cX11_conflicts 10 = .ok (.bipush 64, 2) := by decide +kernel
theorem dX11_conflicts_12 : decode cX11_conflicts 12 = .ok (.iload_n 2, 1) := by decide +kernel
theorem dX11_conflicts_13 : decode cX11_conflicts 13 = .ok (.imul, 1) := by decide +kernel
theorem dX11_conflicts_14 : decode cX11_conflicts 14 = .ok (.aload_n 0, 1) := by decide +kernel
theorem dX11_conflicts_15 : decode cX11_conflicts 15 = .ok (.getfield 7, 3) := by decide +kernel
theorem dX11_conflicts_18 : decode cX11_conflicts 18 = .ok (.aload_n 0, 1) := by decide +kernel
theorem dX11_conflicts_19 : decode cX11_conflicts 19 = .ok (.getfield 13, 3) := by decide +kernel
theorem dX11_conflicts_22 : decode cX11_conflicts 22 = .ok (.imul, 1) := by decide +kernel
theorem dX11_conflicts_23 : decode cX11_conflicts 23 = .ok (.iadd, 1) := by decide +kernel
theorem dX11_conflicts_24 : decode cX11_conflicts 24 = .ok (.if_icmp .ge 33, 3) := by decide +kernel
theorem dX11_conflicts_27 : decode cX11_conflicts 27 = .ok (.iload_n 3, 1) := by decide +kernel
theorem dX11_conflicts_28 : decode cX11_conflicts 28 = .ok (.iload 4, 2) := by decide +kernel
theorem dX11_conflicts_30 : decode cX11_conflicts 30 = .ok (.iload_n 1, 1) := by decide +kernel
theorem dX11_conflicts_31 : decode cX11_conflicts 31 = .ok (.if_icmp .eq 17, 3) := by decide +kernel
theorem dX11_conflicts_34 : decode cX11_conflicts 34 = .ok (.aload_n 0, 1) := by decide +kernel
theorem dX11_conflicts_35 : decode cX11_conflicts 35 = .ok (.iload_n 1, 1) := by decide +kernel
theorem dX11_conflicts_36 : decode cX11_conflicts 36 = .ok (.iload 4, 2) := by decide +kernel
theorem dX11_conflicts_38 : decode cX11_conflicts 38 = .ok (.invokevirtual 165, 3) := by decide +kernel
theorem dX11_conflicts_41 : decode cX11_conflicts 41 = .ok (.ifCond .eq 7, 3) := by decide +kernel
theorem dX11_conflicts_44 : decode cX11_conflicts 44 = .ok (.iconst 1, 1) := by decide +kernel
theorem dX11_conflicts_45 : decode cX11_conflicts 45 = .ok (.goto 4, 3) := by decide +kernel
theorem dX11_conflicts_48 : decode cX11_conflicts 48 = .ok (.iconst 0, 1) := by decide +kernel
theorem dX11_conflicts_49 : decode cX11_conflicts 49 = .ok (.iadd, 1) := by decide +kernel
theorem dX11_conflicts_50 : decode cX11_conflicts 50 = .ok (.istore_n 3, 1) := by decide +kernel
theorem dX11_conflicts_51 : decode cX11_conflicts 51 = .ok (.iinc 4 1, 3) := by decide +kernel
theorem dX11_conflicts_54 : decode cX11_conflicts 54 = .ok (.goto (-46), 3) := by decide +kernel
theorem dX11_conflicts_57 : decode cX11_conflicts 57 = .ok (.iload_n 3, 1) := by decide +kernel
theorem dX11_conflicts_58 : decode cX11_conflicts 58 = .ok (.ireturn, 1) := by decide +kernel
theorem dX11_conflictsOf_0 : decode cX11_conflictsOf 0 = .ok (.aload_n 0, 1) := by decide +kernel
theorem dX11_conflictsOf_1 : decode cX11_conflictsOf 1 = .ok (.aload_n 0, 1) := by decide +kernel
theorem dX11_conflictsOf_2 : decode cX11_conflictsOf 2 = .ok (.iload_n 1, 1) := by decide +kernel
theorem dX11_conflictsOf_3 : decode cX11_conflictsOf 3 = .ok (.iload_n 2, 1) := by decide +kernel
theorem dX11_conflictsOf_4 : decode cX11_conflictsOf 4 = .ok (.iload_n 3, 1) := by decide +kernel
theorem dX11_conflictsOf_5 : decode cX11_conflictsOf 5 = .ok (.invokevirtual 150, 3) := by decide +kernel
theorem dX11_conflictsOf_8 : decode cX11_conflictsOf 8 = .ok (.ifCond .eq 16, 3) := by decide +kernel
theorem dX11_conflictsOf_11 : decode cX11_conflictsOf 11 = .ok (.aload_n 0, 1) := by decide +kernel
theorem dX11_conflictsOf_12 : decode cX11_conflictsOf 12 = .ok (.iload 4, 2) := by decide +kernel
theorem dX11_conflictsOf_14 : decode cX11_conflictsOf 14 = .ok (.invokevirtual 94, 3) := by decide +kernel
theorem dX11_conflictsOf_17 : decode cX11_conflictsOf 17 = .ok (.ifCond .eq 7, 3) := by decide +kernel
theorem dX11_conflictsOf_20 : decode cX11_conflictsOf 20 = .ok (.iconst 0, 1) := by decide +kernel
theorem dX11_conflictsOf_21 : decode cX11_conflictsOf 21 = .ok (.goto 4, 3) := by decide +kernel
theorem dX11_conflictsOf_24 : decode cX11_conflictsOf 24 = .ok (.iconst 1, 1) := by decide +kernel
theorem dX11_conflictsOf_25 : decode cX11_conflictsOf 25 = .ok (.invokevirtual 102, 3) := by decide +kernel
theorem dX11_conflictsOf_28 : decode cX11_conflictsOf 28 = .ok (.ifCond .eq 5, 3) := by decide +kernel
theorem dX11_conflictsOf_31 : decode cX11_conflictsOf 31 = .ok (.iconst 0, 1) := by decide +kernel
theorem dX11_conflictsOf_32 : decode cX11_conflictsOf 32 = .ok (.ireturn, 1) := by decide +kernel
theorem dX11_conflictsOf_33 : decode cX11_conflictsOf 33 = .ok (.aload_n 0, 1) := by decide +kernel
theorem dX11_conflictsOf_34 : decode cX11_conflictsOf 34 = .ok (.invokevirtual 159, 3) := by decide +kernel
theorem dX11_conflictsOf_37 : decode cX11_conflictsOf 37 = .ok (.aload_n 0, 1) := by decide +kernel
theorem dX11_conflictsOf_38 : decode cX11_conflictsOf 38 = .ok (.aload_n 0, 1) := by decide +kernel
theorem dX11_conflictsOf_39 : decode cX11_conflictsOf 39 = .ok (.iload_n 1, 1) := by decide +kernel
theorem dX11_conflictsOf_40 : decode cX11_conflictsOf 40 = .ok (.iload_n 2, 1) := by decide +kernel
theorem dX11_conflictsOf_41 : decode cX11_conflictsOf 41 = .ok (.iload_n 3, 1) := by decide +kernel
theorem dX11_conflictsOf_42 : decode cX11_conflictsOf 42 = .ok (.invokevirtual 127, 3) := by decide +kernel
theorem dX11_conflictsOf_45 : decode cX11_conflictsOf 45 = .ok (.iload 4, 2) := by decide +kernel
theorem dX11_conflictsOf_47 : decode cX11_conflictsOf 47 = .ok (.invokevirtual 168, 3) := by decide +kernel
theorem dX11_conflictsOf_50 : decode cX11_conflictsOf 50 = .ok (.ireturn, 1) := by decide +kernel
theorem dX11_conflictPairs_0 : decode cX11_conflictPairs 0 = .ok (.aload_n 0, 1) := by decide +kernel
theorem dX11_conflictPairs_1 : decode cX11_conflictPairs 1 = .ok (.aload_n 0, 1) := by decide +kernel
theorem dX11_conflictPairs_2 : decode cX11_conflictPairs 2 = .ok (.iload_n 1, 1) := by decide +kernel
theorem dX11_conflictPairs_3 : decode cX11_conflictPairs 3 = .ok (.invokevirtual 94, 3) := by decide +kernel
theorem dX11_conflictPairs_6 : decode cX11_conflictPairs 6 = .ok (.ifCond .eq 7, 3) := by decide +kernel
theorem dX11_conflictPairs_9 : decode cX11_conflictPairs 9 = .ok (.iconst 0, 1) := by decide +kernel
theorem dX11_conflictPairs_10 : decode cX11_conflictPairs 10 = .ok (.goto 4, 3) := by decide +kernel
theorem dX11_conflictPairs_13 : decode cX11_conflictPairs 13 = .ok (.iconst 1, 1) := by decide +kernel
theorem dX11_conflictPairs_14 : decode cX11_conflictPairs 14 = .ok (.invokevirtual 102, 3) := by decide +kernel
theorem dX11_conflictPairs_17 : decode cX11_conflictPairs 17 = .ok (.ifCond .eq 5, 3) := by decide +kernel
theorem dX11_conflictPairs_20 : decode cX11_conflictPairs 20 = .ok (.iconst 0, 1) := by decide +kernel
theorem dX11_conflictPairs_21 : decode cX11_conflictPairs 21 = .ok (.ireturn, 1) := by decide +kernel
theorem dX11_conflictPairs_22 : decode cX11_conflictPairs 22 = .ok (.aload_n 0, 1) := by decide +kernel
theorem dX11_conflictPairs_23 : decode cX11_conflictPairs 23 = .ok (.invokevirtual 159, 3) := by decide +kernel
theorem dX11_conflictPairs_26 : decode cX11_conflictPairs 26 = .ok (.iconst 0, 1) := by decide +kernel
theorem dX11_conflictPairs_27 : decode cX11_conflictPairs 27 = .ok (.istore_n 2, 1) := by decide +kernel
theorem dX11_conflictPairs_28 : decode cX11_conflictPairs 28 = .ok (.iconst 0, 1) := by decide +kernel
theorem dX11_conflictPairs_29 : decode cX11_conflictPairs 29 = .ok (.istore_n 3, 1) := by decide +kernel
theorem dX11_conflictPairs_30 : decode cX11_conflictPairs 30 = .ok (.iload_n 3, 1) := by decide +kernel
theorem dX11_conflictPairs_31 : decode cX11_conflictPairs 31 = .ok (.aload_n 0, 1) := by decide +kernel
theorem dX11_conflictPairs_32 : decode cX11_conflictPairs 32 = .ok (.getfield 7, 3) := by decide +kernel
theorem dX11_conflictPairs_35 : decode cX11_conflictPairs 35 = .ok (.aload_n 0, 1) := by decide +kernel
theorem dX11_conflictPairs_36 : decode cX11_conflictPairs 36 = .ok (.getfield 13, 3) := by decide +kernel
theorem dX11_conflictPairs_39 : decode cX11_conflictPairs 39 = .ok (.imul, 1) := by decide +kernel
theorem dX11_conflictPairs_40 : decode cX11_conflictPairs 40 = .ok (.if_icmp .ge 23, 3) := by decide +kernel
theorem dX11_conflictPairs_43 : decode cX11_conflictPairs 43 = .ok (.iload_n 2, 1) := by decide +kernel
theorem dX11_conflictPairs_44 : decode cX11_conflictPairs 44 = .ok (.aload_n 0, 1) := by decide +kernel
theorem dX11_conflictPairs_45 : decode cX11_conflictPairs 45 = .ok (.bipush 64, 2) := by decide +kernel
theorem dX11_conflictPairs_47 : decode cX11_conflictPairs 47 = .ok (.iload_n 1, 1) := by decide +kernel
theorem dX11_conflictPairs_48 : decode cX11_conflictPairs 48 = .ok (.imul, 1) := by decide +kernel
theorem dX11_conflictPairs_49 : decode cX11_conflictPairs 49 = .ok (.iload_n 3, 1) := by decide +kernel
theorem dX11_conflictPairs_50 : decode cX11_conflictPairs 50 = .ok (.iadd, 1) := by decide +kernel
theorem dX11_conflictPairs_51 : decode cX11_conflictPairs 51 = .ok (.iload_n 1, 1) := by decide +kernel
theorem dX11_conflictPairs_52 : decode cX11_conflictPairs 52 = .ok (.invokevirtual 168, 3) := by decide +kernel
theorem dX11_conflictPairs_55 : decode cX11_conflictPairs 55 = .ok (.iadd, 1) := by decide +kernel
theorem dX11_conflictPairs_56 : decode cX11_conflictPairs 56 = .ok (.istore_n 2, 1) := by decide +kernel
theorem dX11_conflictPairs_57 : decode cX11_conflictPairs 57 = .ok (.iinc 3 1, 3) := by decide +kernel
theorem dX11_conflictPairs_60 : decode cX11_conflictPairs 60 = .ok (.goto (-30), 3) := by decide +kernel
theorem dX11_conflictPairs_63 : decode cX11_conflictPairs 63 = .ok (.iload_n 2, 1) := by decide +kernel
theorem dX11_conflictPairs_64 : decode cX11_conflictPairs 64 = .ok (.iconst 2, 1) := by decide +kernel
theorem dX11_conflictPairs_65 : decode cX11_conflictPairs 65 = .ok (.idiv, 1) := by decide +kernel
theorem dX11_conflictPairs_66 : decode cX11_conflictPairs 66 = .ok (.ireturn, 1) := by decide +kernel
theorem dX11_differs_0 : decode cX11_differs 0 = .ok (.iconst 0, 1) := by decide +kernel
theorem dX11_differs_1 : decode cX11_differs 1 = .ok (.istore_n 2, 1) := by decide +kernel
theorem dX11_differs_2 : decode cX11_differs 2 = .ok (.iload_n 2, 1) := by decide +kernel
theorem dX11_differs_3 : decode cX11_differs 3 = .ok (.sipush 225, 3) := by decide +kernel
theorem dX11_differs_6 : decode cX11_differs 6 = .ok (.if_icmp .ge 16, 3) := by decide +kernel
theorem dX11_differs_9 : decode cX11_differs 9 = .ok (.aload_n 0, 1) := by decide +kernel
theorem dX11_differs_10 : decode cX11_differs 10 = .ok (.getfield 78, 3) := by decide +kernel
theorem dX11_differs_13 : decode cX11_differs 13 = .ok (.iload_n 2, 1) := by decide +kernel
theorem dX11_differs_14 : decode cX11_differs 14 = .ok (.iconst 0, 1) := by decide +kernel
theorem dX11_differs_15 : decode cX11_differs 15 = .ok (.bastore, 1) := by decide +kernel
theorem dX11_differs_16 : decode cX11_differs 16 = .ok (.iinc 2 1, 3) := by decide +kernel
theorem dX11_differs_19 : decode cX11_differs 19 = .ok (.goto (-17), 3) := by decide +kernel
theorem dX11_differs_22 : decode cX11_differs 22 = .ok (.bipush 64, 2) := by decide +kernel
theorem dX11_differs_24 : decode cX11_differs 24 = .ok (.iload_n 1, 1) := by decide +kernel
theorem dX11_differs_25 : decode cX11_differs 25 = .ok (.imul, 1) := by decide +kernel
theorem dX11_differs_26 : decode cX11_differs 26 = .ok (.istore_n 2, 1) := by decide +kernel
theorem dX11_differs_27 : decode cX11_differs 27 = .ok (.iload_n 2, 1) := by decide +kernel
theorem dX11_differs_28 : decode cX11_differs 28 = .ok (.bipush 64, 2) := by decide +kernel
theorem dX11_differs_30 : decode cX11_differs 30 = .ok (.iload_n 1, 1) := by decide +kernel
theorem dX11_differs_31 : decode cX11_differs 31 = .ok (.imul, 1) := by decide +kernel
theorem dX11_differs_32 : decode cX11_differs 32 = .ok (.aload_n 0, 1) := by decide +kernel
theorem dX11_differs_33 : decode cX11_differs 33 = .ok (.getfield 7, 3) := by decide +kernel
theorem dX11_differs_36 : decode cX11_differs 36 = .ok (.aload_n 0, 1) := by decide +kernel
theorem dX11_differs_37 : decode cX11_differs 37 = .ok (.getfield 13, 3) := by decide +kernel
theorem dX11_differs_40 : decode cX11_differs 40 = .ok (.imul, 1) := by decide +kernel
theorem dX11_differs_41 : decode cX11_differs 41 = .ok (.iadd, 1) := by decide +kernel
theorem dX11_differs_42 : decode cX11_differs 42 = .ok (.if_icmp .ge 81, 3) := by decide +kernel
theorem dX11_differs_45 : decode cX11_differs 45 = .ok (.iload_n 2, 1) := by decide +kernel
theorem dX11_differs_46 : decode cX11_differs 46 = .ok (.iconst 1, 1) := by decide +kernel
theorem dX11_differs_47 : decode cX11_differs 47 = .ok (.iadd, 1) := by decide +kernel
theorem dX11_differs_48 : decode cX11_differs 48 = .ok (.istore_n 3, 1) := by decide +kernel
theorem dX11_differs_49 : decode cX11_differs 49 = .ok (.iload_n 3, 1) := by decide +kernel
theorem dX11_differs_50 : decode cX11_differs 50 = .ok (.bipush 64, 2) := by decide +kernel
theorem dX11_differs_52 : decode cX11_differs 52 = .ok (.iload_n 1, 1) := by decide +kernel
theorem dX11_differs_53 : decode cX11_differs 53 = .ok (.imul, 1) := by decide +kernel
theorem dX11_differs_54 : decode cX11_differs 54 = .ok (.aload_n 0, 1) := by decide +kernel
theorem dX11_differs_55 : decode cX11_differs 55 = .ok (.getfield 7, 3) := by decide +kernel
theorem dX11_differs_58 : decode cX11_differs 58 = .ok (.aload_n 0, 1) := by decide +kernel
theorem dX11_differs_59 : decode cX11_differs 59 = .ok (.getfield 13, 3) := by decide +kernel
theorem dX11_differs_62 : decode cX11_differs 62 = .ok (.imul, 1) := by decide +kernel
theorem dX11_differs_63 : decode cX11_differs 63 = .ok (.iadd, 1) := by decide +kernel
theorem dX11_differs_64 : decode cX11_differs 64 = .ok (.if_icmp .ge 53, 3) := by decide +kernel
theorem dX11_differs_67 : decode cX11_differs 67 = .ok (.aload_n 0, 1) := by decide +kernel
theorem dX11_differs_68 : decode cX11_differs 68 = .ok (.iload_n 2, 1) := by decide +kernel
theorem dX11_differs_69 : decode cX11_differs 69 = .ok (.iload_n 3, 1) := by decide +kernel
theorem dX11_differs_70 : decode cX11_differs 70 = .ok (.invokevirtual 165, 3) := by decide +kernel
theorem dX11_differs_73 : decode cX11_differs 73 = .ok (.ifCond .eq 38, 3) := by decide +kernel
theorem dX11_differs_76 : decode cX11_differs 76 = .ok (.aload_n 0, 1) := by decide +kernel
theorem dX11_differs_77 : decode cX11_differs 77 = .ok (.getfield 78, 3) := by decide +kernel
theorem dX11_differs_80 : decode cX11_differs 80 = .ok (.bipush 15, 2) := by decide +kernel
theorem dX11_differs_82 : decode cX11_differs 82 = .ok (.aload_n 0, 1) := by decide +kernel
theorem dX11_differs_83 : decode cX11_differs 83 = .ok (.iload_n 3, 1) := by decide +kernel
theorem dX11_differs_84 : decode cX11_differs 84 = .ok (.invokevirtual 105, 3) := by decide +kernel
theorem dX11_differs_87 : decode cX11_differs 87 = .ok (.aload_n 0, 1) := by decide +kernel
theorem dX11_differs_88 : decode cX11_differs 88 = .ok (.iload_n 2, 1) := by decide +kernel
theorem dX11_differs_89 : decode cX11_differs 89 = .ok (.invokevirtual 105, 3) := by decide +kernel
theorem dX11_differs_92 : decode cX11_differs 92 = .ok (.isub, 1) := by decide +kernel
theorem dX11_differs_93 : decode cX11_differs 93 = .ok (.imul, 1) := by decide +kernel
theorem dX11_differs_94 : decode cX11_differs 94 = .ok (.aload_n 0, 1) := by decide +kernel
theorem dX11_differs_95 : decode cX11_differs 95 = .ok (.iload_n 3, 1) := by decide +kernel
theorem dX11_differs_96 : decode cX11_differs 96 = .ok (.invokevirtual 109, 3) := by decide +kernel
theorem dX11_differs_99 : decode cX11_differs 99 = .ok (.iadd, 1) := by decide +kernel
theorem dX11_differs_100 : decode cX11_differs 100 = .ok (.aload_n 0, 1) := by decide +kernel
theorem dX11_differs_101 : decode cX11_differs 101 = .ok (.iload_n 2, 1) := by decide +kernel
theorem dX11_differs_102 : decode cX11_differs 102 = .ok (.invokevirtual 109, 3) := by decide +kernel
theorem dX11_differs_105 : decode cX11_differs 105 = .ok (.isub, 1) := by decide +kernel
theorem dX11_differs_106 : decode cX11_differs 106 = .ok (.bipush 7, 2) := by decide +kernel
theorem dX11_differs_108 : decode cX11_differs 108 = .ok (.iadd, 1) := by decide +kernel
theorem dX11_differs_109 : decode cX11_differs 109 = .ok (.iconst 1, 1) := by decide +kernel
theorem dX11_differs_110 : decode cX11_differs 110 = .ok (.bastore, 1) := by decide +kernel
theorem dX11_differs_111 : decode cX11_differs 111 = .ok (.iinc 3 1, 3) := by decide +kernel
theorem dX11_differs_114 : decode cX11_differs 114 = .ok (.goto (-65), 3) := by decide +kernel
theorem dX11_differs_117 : decode cX11_differs 117 = .ok (.iinc 2 1, 3) := by decide +kernel
theorem dX11_differs_120 : decode cX11_differs 120 = .ok (.goto (-93), 3) := by decide +kernel
theorem dX11_differs_123 : decode cX11_differs 123 = .ok (.return_, 1) := by decide +kernel
theorem dX11_gives_0 : decode cX11_gives 0 = .ok (.aload_n 0, 1) := by decide +kernel
theorem dX11_gives_1 : decode cX11_gives 1 = .ok (.getfield 45, 3) := by decide +kernel
theorem dX11_gives_4 : decode cX11_gives 4 = .ok (.iload_n 1, 1) := by decide +kernel
theorem dX11_gives_5 : decode cX11_gives 5 = .ok (.iload_n 2, 1) := by decide +kernel
theorem dX11_gives_6 : decode cX11_gives 6 = .ok (.iastore, 1) := by decide +kernel
theorem dX11_gives_7 : decode cX11_gives 7 = .ok (.aload_n 0, 1) := by decide +kernel
theorem dX11_gives_8 : decode cX11_gives 8 = .ok (.getfield 48, 3) := by decide +kernel
theorem dX11_gives_11 : decode cX11_gives 11 = .ok (.iload_n 1, 1) := by decide +kernel
theorem dX11_gives_12 : decode cX11_gives 12 = .ok (.iload_n 3, 1) := by decide +kernel
theorem dX11_gives_13 : decode cX11_gives 13 = .ok (.iastore, 1) := by decide +kernel
theorem dX11_gives_14 : decode cX11_gives 14 = .ok (.aload_n 0, 1) := by decide +kernel
theorem dX11_gives_15 : decode cX11_gives 15 = .ok (.getfield 51, 3) := by decide +kernel
theorem dX11_gives_18 : decode cX11_gives 18 = .ok (.iload_n 1, 1) := by decide +kernel
theorem dX11_gives_19 : decode cX11_gives 19 = .ok (.iload 4, 2) := by decide +kernel
theorem dX11_gives_21 : decode cX11_gives 21 = .ok (.iastore, 1) := by decide +kernel
theorem dX11_gives_22 : decode cX11_gives 22 = .ok (.aload_n 0, 1) := by decide +kernel
theorem dX11_gives_23 : decode cX11_gives 23 = .ok (.iload_n 1, 1) := by decide +kernel
theorem dX11_gives_24 : decode cX11_gives 24 = .ok (.invokevirtual 171, 3) := by decide +kernel
theorem dX11_gives_27 : decode cX11_gives 27 = .ok (.ireturn, 1) := by decide +kernel
theorem dX11_size_0 : decode cX11_size 0 = .ok (.aload_n 0, 1) := by decide +kernel
theorem dX11_size_1 : decode cX11_size 1 = .ok (.getfield 45, 3) := by decide +kernel
theorem dX11_size_4 : decode cX11_size 4 = .ok (.iload_n 1, 1) := by decide +kernel
theorem dX11_size_5 : decode cX11_size 5 = .ok (.iaload, 1) := by decide +kernel
theorem dX11_size_6 : decode cX11_size 6 = .ok (.ifCond .ne 15, 3) := by decide +kernel
theorem dX11_size_9 : decode cX11_size 9 = .ok (.aload_n 0, 1) := by decide +kernel
theorem dX11_size_10 : decode cX11_size 10 = .ok (.getfield 7, 3) := by decide +kernel
theorem dX11_size_13 : decode cX11_size 13 = .ok (.aload_n 0, 1) := by decide +kernel
theorem dX11_size_14 : decode cX11_size 14 = .ok (.getfield 13, 3) := by decide +kernel
theorem dX11_size_17 : decode cX11_size 17 = .ok (.imul, 1) := by decide +kernel
theorem dX11_size_18 : decode cX11_size 18 = .ok (.goto 54, 3) := by decide +kernel
theorem dX11_size_21 : decode cX11_size 21 = .ok (.aload_n 0, 1) := by decide +kernel
theorem dX11_size_22 : decode cX11_size 22 = .ok (.getfield 45, 3) := by decide +kernel
theorem dX11_size_25 : decode cX11_size 25 = .ok (.iload_n 1, 1) := by decide +kernel
theorem dX11_size_26 : decode cX11_size 26 = .ok (.iaload, 1) := by decide +kernel
theorem dX11_size_27 : decode cX11_size 27 = .ok (.iconst 2, 1) := by decide +kernel
theorem dX11_size_28 : decode cX11_size 28 = .ok (.if_icmp .ne 19, 3) := by decide +kernel
theorem dX11_size_31 : decode cX11_size 31 = .ok (.aload_n 0, 1) := by decide +kernel
theorem dX11_size_32 : decode cX11_size 32 = .ok (.getfield 48, 3) := by decide +kernel
theorem dX11_size_35 : decode cX11_size 35 = .ok (.iload_n 1, 1) := by decide +kernel
theorem dX11_size_36 : decode cX11_size 36 = .ok (.iaload, 1) := by decide +kernel
theorem dX11_size_37 : decode cX11_size 37 = .ok (.aload_n 0, 1) := by decide +kernel
theorem dX11_size_38 : decode cX11_size 38 = .ok (.getfield 51, 3) := by decide +kernel
theorem dX11_size_41 : decode cX11_size 41 = .ok (.iload_n 1, 1) := by decide +kernel
theorem dX11_size_42 : decode cX11_size 42 = .ok (.iaload, 1) := by decide +kernel
theorem dX11_size_43 : decode cX11_size 43 = .ok (.imul, 1) := by decide +kernel
theorem dX11_size_44 : decode cX11_size 44 = .ok (.goto 28, 3) := by decide +kernel
theorem dX11_size_47 : decode cX11_size 47 = .ok (.aload_n 0, 1) := by decide +kernel
theorem dX11_size_48 : decode cX11_size 48 = .ok (.getfield 45, 3) := by decide +kernel
theorem dX11_size_51 : decode cX11_size 51 = .ok (.iload_n 1, 1) := by decide +kernel
theorem dX11_size_52 : decode cX11_size 52 = .ok (.iaload, 1) := by decide +kernel
theorem dX11_size_53 : decode cX11_size 53 = .ok (.iconst 1, 1) := by decide +kernel
theorem dX11_size_54 : decode cX11_size 54 = .ok (.if_icmp .ne 12, 3) := by decide +kernel
theorem dX11_size_57 : decode cX11_size 57 = .ok (.aload_n 0, 1) := by decide +kernel
theorem dX11_size_58 : decode cX11_size 58 = .ok (.getfield 48, 3) := by decide +kernel
theorem dX11_size_61 : decode cX11_size 61 = .ok (.iload_n 1, 1) := by decide +kernel
theorem dX11_size_62 : decode cX11_size 62 = .ok (.iaload, 1) := by decide +kernel
theorem dX11_size_63 : decode cX11_size 63 = .ok (.goto 9, 3) := by decide +kernel
theorem dX11_size_66 : decode cX11_size 66 = .ok (.aload_n 0, 1) := by decide +kernel
theorem dX11_size_67 : decode cX11_size 67 = .ok (.getfield 51, 3) := by decide +kernel
theorem dX11_size_70 : decode cX11_size 70 = .ok (.iload_n 1, 1) := by decide +kernel
theorem dX11_size_71 : decode cX11_size 71 = .ok (.iaload, 1) := by decide +kernel
theorem dX11_size_72 : decode cX11_size 72 = .ok (.ireturn, 1) := by decide +kernel
theorem dX11_isModulus_0 : decode cX11_isModulus 0 = .ok (.iload_n 0, 1) := by decide +kernel
theorem dX11_isModulus_1 : decode cX11_isModulus 1 = .ok (.iconst 1, 1) := by decide +kernel
theorem dX11_isModulus_2 : decode cX11_isModulus 2 = .ok (.bipush 99, 2) := by decide +kernel
theorem dX11_isModulus_4 : decode cX11_isModulus 4 = .ok (.invokestatic 90, 3) := by decide +kernel
theorem dX11_isModulus_7 : decode cX11_isModulus 7 = .ok (.ireturn, 1) := by decide +kernel
theorem dX11_keepWhole_0 : decode cX11_keepWhole 0 = .ok (.aload_n 0, 1) := by decide +kernel
theorem dX11_keepWhole_1 : decode cX11_keepWhole 1 = .ok (.aload_n 0, 1) := by decide +kernel
theorem dX11_keepWhole_2 : decode cX11_keepWhole 2 = .ok (.iload_n 1, 1) := by decide +kernel
theorem dX11_keepWhole_3 : decode cX11_keepWhole 3 = .ok (.invokevirtual 94, 3) := by decide +kernel
theorem dX11_keepWhole_6 : decode cX11_keepWhole 6 = .ok (.ifCond .eq 7, 3) := by decide +kernel
theorem dX11_keepWhole_9 : decode cX11_keepWhole 9 = .ok (.iconst 0, 1) := by decide +kernel
theorem dX11_keepWhole_10 : decode cX11_keepWhole 10 = .ok (.goto 4, 3) := by decide +kernel
theorem dX11_keepWhole_13 : decode cX11_keepWhole 13 = .ok (.iconst 1, 1) := by decide +kernel
theorem dX11_keepWhole_14 : decode cX11_keepWhole 14 = .ok (.invokevirtual 102, 3) := by decide +kernel
theorem dX11_keepWhole_17 : decode cX11_keepWhole 17 = .ok (.ifCond .eq 7, 3) := by decide +kernel
theorem dX11_keepWhole_20 : decode cX11_keepWhole 20 = .ok (.iconst 0, 1) := by decide +kernel
theorem dX11_keepWhole_21 : decode cX11_keepWhole 21 = .ok (.goto 11, 3) := by decide +kernel
theorem dX11_keepWhole_24 : decode cX11_keepWhole 24 = .ok (.aload_n 0, 1) := by decide +kernel
theorem dX11_keepWhole_25 : decode cX11_keepWhole 25 = .ok (.iload_n 1, 1) := by decide +kernel
theorem dX11_keepWhole_26 : decode cX11_keepWhole 26 = .ok (.iconst 0, 1) := by decide +kernel
theorem dX11_keepWhole_27 : decode cX11_keepWhole 27 = .ok (.iconst 0, 1) := by decide +kernel
theorem dX11_keepWhole_28 : decode cX11_keepWhole 28 = .ok (.iconst 0, 1) := by decide +kernel
theorem dX11_keepWhole_29 : decode cX11_keepWhole 29 = .ok (.invokevirtual 174, 3) := by decide +kernel
theorem dX11_keepWhole_32 : decode cX11_keepWhole 32 = .ok (.ireturn, 1) := by decide +kernel
theorem dX11_keepRest_0 : decode cX11_keepRest 0 = .ok (.aload_n 0, 1) := by decide +kernel
theorem dX11_keepRest_1 : decode cX11_keepRest 1 = .ok (.aload_n 0, 1) := by decide +kernel
theorem dX11_keepRest_2 : decode cX11_keepRest 2 = .ok (.iload_n 1, 1) := by decide +kernel
theorem dX11_keepRest_3 : decode cX11_keepRest 3 = .ok (.invokevirtual 94, 3) := by decide +kernel
theorem dX11_keepRest_6 : decode cX11_keepRest 6 = .ok (.ifCond .ne 7, 3) := by decide +kernel
theorem dX11_keepRest_9 : decode cX11_keepRest 9 = .ok (.iconst 1, 1) := by decide +kernel
theorem dX11_keepRest_10 : decode cX11_keepRest 10 = .ok (.goto 15, 3) := by decide +kernel
theorem dX11_keepRest_13 : decode cX11_keepRest 13 = .ok (.iload_n 2, 1) := by decide +kernel
theorem dX11_keepRest_14 : decode cX11_keepRest 14 = .ok (.invokestatic 178, 3) := by decide +kernel
theorem dX11_keepRest_17 : decode cX11_keepRest 17 = .ok (.ifCond .eq 7, 3) := by decide +kernel
theorem dX11_keepRest_20 : decode cX11_keepRest 20 = .ok (.iconst 0, 1) := by decide +kernel
theorem dX11_keepRest_21 : decode cX11_keepRest 21 = .ok (.goto 4, 3) := by decide +kernel
theorem dX11_keepRest_24 : decode cX11_keepRest 24 = .ok (.iconst 2, 1) := by decide +kernel
theorem dX11_keepRest_25 : decode cX11_keepRest 25 = .ok (.invokevirtual 102, 3) := by decide +kernel
theorem dX11_keepRest_28 : decode cX11_keepRest 28 = .ok (.ifCond .eq 7, 3) := by decide +kernel
theorem dX11_keepRest_31 : decode cX11_keepRest 31 = .ok (.iconst 0, 1) := by decide +kernel
theorem dX11_keepRest_32 : decode cX11_keepRest 32 = .ok (.goto 11, 3) := by decide +kernel
theorem dX11_keepRest_35 : decode cX11_keepRest 35 = .ok (.aload_n 0, 1) := by decide +kernel
theorem dX11_keepRest_36 : decode cX11_keepRest 36 = .ok (.iload_n 1, 1) := by decide +kernel
theorem dX11_keepRest_37 : decode cX11_keepRest 37 = .ok (.iconst 1, 1) := by decide +kernel
theorem dX11_keepRest_38 : decode cX11_keepRest 38 = .ok (.iload_n 2, 1) := by decide +kernel
theorem dX11_keepRest_39 : decode cX11_keepRest 39 = .ok (.iconst 0, 1) := by decide +kernel
theorem dX11_keepRest_40 : decode cX11_keepRest 40 = .ok (.invokevirtual 174, 3) := by decide +kernel
theorem dX11_keepRest_43 : decode cX11_keepRest 43 = .ok (.ireturn, 1) := by decide +kernel
theorem dX11_keepTwoRests_0 : decode cX11_keepTwoRests 0 = .ok (.aload_n 0, 1) := by decide +kernel
theorem dX11_keepTwoRests_1 : decode cX11_keepTwoRests 1 = .ok (.aload_n 0, 1) := by decide +kernel
theorem dX11_keepTwoRests_2 : decode cX11_keepTwoRests 2 = .ok (.iload_n 1, 1) := by decide +kernel
theorem dX11_keepTwoRests_3 : decode cX11_keepTwoRests 3 = .ok (.invokevirtual 94, 3) := by decide +kernel
theorem dX11_keepTwoRests_6 : decode cX11_keepTwoRests 6 = .ok (.ifCond .ne 7, 3) := by decide +kernel
theorem dX11_keepTwoRests_9 : decode cX11_keepTwoRests 9 = .ok (.iconst 1, 1) := by decide +kernel
theorem dX11_keepTwoRests_10 : decode cX11_keepTwoRests 10 = .ok (.goto 22, 3) := by decide +kernel
theorem dX11_keepTwoRests_13 : decode cX11_keepTwoRests 13 = .ok (.iload_n 2, 1) := by decide +kernel
theorem dX11_keepTwoRests_14 : decode cX11_keepTwoRests 14 = .ok (.invokestatic 178, 3) := by decide +kernel
theorem dX11_keepTwoRests_17 : decode cX11_keepTwoRests 17 = .ok (.ifCond .eq 14, 3) := by decide +kernel
theorem dX11_keepTwoRests_20 : decode cX11_keepTwoRests 20 = .ok (.iload_n 3, 1) := by decide +kernel
theorem dX11_keepTwoRests_21 : decode cX11_keepTwoRests 21 = .ok (.invokestatic 178, 3) := by decide +kernel
theorem dX11_keepTwoRests_24 : decode cX11_keepTwoRests 24 = .ok (.ifCond .eq 7, 3) := by decide +kernel
theorem dX11_keepTwoRests_27 : decode cX11_keepTwoRests 27 = .ok (.iconst 0, 1) := by decide +kernel
theorem dX11_keepTwoRests_28 : decode cX11_keepTwoRests 28 = .ok (.goto 4, 3) := by decide +kernel
theorem dX11_keepTwoRests_31 : decode cX11_keepTwoRests 31 = .ok (.iconst 2, 1) := by decide +kernel
theorem dX11_keepTwoRests_32 : decode cX11_keepTwoRests 32 = .ok (.invokevirtual 102, 3) := by decide +kernel
theorem dX11_keepTwoRests_35 : decode cX11_keepTwoRests 35 = .ok (.ifCond .eq 7, 3) := by decide +kernel
theorem dX11_keepTwoRests_38 : decode cX11_keepTwoRests 38 = .ok (.iconst 0, 1) := by decide +kernel
theorem dX11_keepTwoRests_39 : decode cX11_keepTwoRests 39 = .ok (.goto 11, 3) := by decide +kernel
theorem dX11_keepTwoRests_42 : decode cX11_keepTwoRests 42 = .ok (.aload_n 0, 1) := by decide +kernel
theorem dX11_keepTwoRests_43 : decode cX11_keepTwoRests 43 = .ok (.iload_n 1, 1) := by decide +kernel
theorem dX11_keepTwoRests_44 : decode cX11_keepTwoRests 44 = .ok (.iconst 2, 1) := by decide +kernel
theorem dX11_keepTwoRests_45 : decode cX11_keepTwoRests 45 = .ok (.iload_n 2, 1) := by decide +kernel
theorem dX11_keepTwoRests_46 : decode cX11_keepTwoRests 46 = .ok (.iload_n 3, 1) := by decide +kernel
theorem dX11_keepTwoRests_47 : decode cX11_keepTwoRests 47 = .ok (.invokevirtual 174, 3) := by decide +kernel
theorem dX11_keepTwoRests_50 : decode cX11_keepTwoRests 50 = .ok (.ireturn, 1) := by decide +kernel
theorem dX11_keepSlant_0 : decode cX11_keepSlant 0 = .ok (.aload_n 0, 1) := by decide +kernel
theorem dX11_keepSlant_1 : decode cX11_keepSlant 1 = .ok (.aload_n 0, 1) := by decide +kernel
theorem dX11_keepSlant_2 : decode cX11_keepSlant 2 = .ok (.iload_n 1, 1) := by decide +kernel
theorem dX11_keepSlant_3 : decode cX11_keepSlant 3 = .ok (.invokevirtual 94, 3) := by decide +kernel
theorem dX11_keepSlant_6 : decode cX11_keepSlant 6 = .ok (.ifCond .ne 7, 3) := by decide +kernel
theorem dX11_keepSlant_9 : decode cX11_keepSlant 9 = .ok (.iconst 1, 1) := by decide +kernel
theorem dX11_keepSlant_10 : decode cX11_keepSlant 10 = .ok (.goto 25, 3) := by decide +kernel
theorem dX11_keepSlant_13 : decode cX11_keepSlant 13 = .ok (.iload_n 2, 1) := by decide +kernel
theorem dX11_keepSlant_14 : decode cX11_keepSlant 14 = .ok (.iconst 0, 1) := by decide +kernel
theorem dX11_keepSlant_15 : decode cX11_keepSlant 15 = .ok (.bipush 9, 2) := by decide +kernel
theorem dX11_keepSlant_17 : decode cX11_keepSlant 17 = .ok (.invokestatic 90, 3) := by decide +kernel
theorem dX11_keepSlant_20 : decode cX11_keepSlant 20 = .ok (.ifCond .eq 14, 3) := by decide +kernel
theorem dX11_keepSlant_23 : decode cX11_keepSlant 23 = .ok (.iload_n 3, 1) := by decide +kernel
theorem dX11_keepSlant_24 : decode cX11_keepSlant 24 = .ok (.invokestatic 178, 3) := by decide +kernel
theorem dX11_keepSlant_27 : decode cX11_keepSlant 27 = .ok (.ifCond .eq 7, 3) := by decide +kernel
theorem dX11_keepSlant_30 : decode cX11_keepSlant 30 = .ok (.iconst 0, 1) := by decide +kernel
theorem dX11_keepSlant_31 : decode cX11_keepSlant 31 = .ok (.goto 4, 3) := by decide +kernel
theorem dX11_keepSlant_34 : decode cX11_keepSlant 34 = .ok (.iconst 2, 1) := by decide +kernel
theorem dX11_keepSlant_35 : decode cX11_keepSlant 35 = .ok (.invokevirtual 102, 3) := by decide +kernel
theorem dX11_keepSlant_38 : decode cX11_keepSlant 38 = .ok (.ifCond .eq 7, 3) := by decide +kernel
theorem dX11_keepSlant_41 : decode cX11_keepSlant 41 = .ok (.iconst 0, 1) := by decide +kernel
theorem dX11_keepSlant_42 : decode cX11_keepSlant 42 = .ok (.goto 11, 3) := by decide +kernel
theorem dX11_keepSlant_45 : decode cX11_keepSlant 45 = .ok (.aload_n 0, 1) := by decide +kernel
theorem dX11_keepSlant_46 : decode cX11_keepSlant 46 = .ok (.iload_n 1, 1) := by decide +kernel
theorem dX11_keepSlant_47 : decode cX11_keepSlant 47 = .ok (.iconst 3, 1) := by decide +kernel
theorem dX11_keepSlant_48 : decode cX11_keepSlant 48 = .ok (.iload_n 2, 1) := by decide +kernel
theorem dX11_keepSlant_49 : decode cX11_keepSlant 49 = .ok (.iload_n 3, 1) := by decide +kernel
theorem dX11_keepSlant_50 : decode cX11_keepSlant 50 = .ok (.invokevirtual 174, 3) := by decide +kernel
theorem dX11_keepSlant_53 : decode cX11_keepSlant 53 = .ok (.ireturn, 1) := by decide +kernel
theorem dX11_rooms_0 : decode cX11_rooms 0 = .ok (.iconst 0, 1) := by decide +kernel
theorem dX11_rooms_1 : decode cX11_rooms 1 = .ok (.istore_n 1, 1) := by decide +kernel
theorem dX11_rooms_2 : decode cX11_rooms 2 = .ok (.iconst 0, 1) := by decide +kernel
theorem dX11_rooms_3 : decode cX11_rooms 3 = .ok (.istore_n 2, 1) := by decide +kernel
theorem dX11_rooms_4 : decode cX11_rooms 4 = .ok (.iload_n 2, 1) := by decide +kernel
theorem dX11_rooms_5 : decode cX11_rooms 5 = .ok (.aload_n 0, 1) := by decide +kernel
theorem dX11_rooms_6 : decode cX11_rooms 6 = .ok (.getfield 87, 3) := by decide +kernel
theorem dX11_rooms_9 : decode cX11_rooms 9 = .ok (.if_icmp .ge 17, 3) := by decide +kernel
theorem dX11_rooms_12 : decode cX11_rooms 12 = .ok (.iload_n 1, 1) := by decide +kernel
theorem dX11_rooms_13 : decode cX11_rooms 13 = .ok (.aload_n 0, 1) := by decide +kernel
theorem dX11_rooms_14 : decode cX11_rooms 14 = .ok (.iload_n 2, 1) := by decide +kernel
theorem dX11_rooms_15 : decode cX11_rooms 15 = .ok (.invokevirtual 171, 3) := by decide +kernel
theorem dX11_rooms_18 : decode cX11_rooms 18 = .ok (.iadd, 1) := by decide +kernel
theorem dX11_rooms_19 : decode cX11_rooms 19 = .ok (.istore_n 1, 1) := by decide +kernel
theorem dX11_rooms_20 : decode cX11_rooms 20 = .ok (.iinc 2 1, 3) := by decide +kernel
theorem dX11_rooms_23 : decode cX11_rooms 23 = .ok (.goto (-19), 3) := by decide +kernel
theorem dX11_rooms_26 : decode cX11_rooms 26 = .ok (.iload_n 1, 1) := by decide +kernel
theorem dX11_rooms_27 : decode cX11_rooms 27 = .ok (.ireturn, 1) := by decide +kernel
theorem dX11_contract_0 : decode cX11_contract 0 = .ok (.aload_n 0, 1) := by decide +kernel
theorem dX11_contract_1 : decode cX11_contract 1 = .ok (.iconst 0, 1) := by decide +kernel
theorem dX11_contract_2 : decode cX11_contract 2 = .ok (.putfield 84, 3) := by decide +kernel
theorem dX11_contract_5 : decode cX11_contract 5 = .ok (.aload_n 0, 1) := by decide +kernel
theorem dX11_contract_6 : decode cX11_contract 6 = .ok (.invokevirtual 159, 3) := by decide +kernel
theorem dX11_contract_9 : decode cX11_contract 9 = .ok (.iconst 0, 1) := by decide +kernel
theorem dX11_contract_10 : decode cX11_contract 10 = .ok (.istore_n 1, 1) := by decide +kernel
theorem dX11_contract_11 : decode cX11_contract 11 = .ok (.iload_n 1, 1) := by decide +kernel
theorem dX11_contract_12 : decode cX11_contract 12 = .ok (.aload_n 0, 1) := by decide +kernel
theorem dX11_contract_13 : decode cX11_contract 13 = .ok (.getfield 87, 3) := by decide +kernel
theorem dX11_contract_16 : decode cX11_contract 16 = .ok (.if_icmp .ge 119, 3) := by decide +kernel
theorem dX11_contract_19 : decode cX11_contract 19 = .ok (.aload_n 0, 1) := by decide +kernel
theorem dX11_contract_20 : decode cX11_contract 20 = .ok (.iload_n 1, 1) := by decide +kernel
theorem dX11_contract_21 : decode cX11_contract 21 = .ok (.invokevirtual 181, 3) := by decide +kernel
theorem dX11_contract_24 : decode cX11_contract 24 = .ok (.aload_n 0, 1) := by decide +kernel
theorem dX11_contract_25 : decode cX11_contract 25 = .ok (.iload_n 1, 1) := by decide +kernel
theorem dX11_contract_26 : decode cX11_contract 26 = .ok (.iconst 0, 1) := by decide +kernel
theorem dX11_contract_27 : decode cX11_contract 27 = .ok (.iconst 0, 1) := by decide +kernel
theorem dX11_contract_28 : decode cX11_contract 28 = .ok (.iconst 0, 1) := by decide +kernel
theorem dX11_contract_29 : decode cX11_contract 29 = .ok (.invokevirtual 174, 3) := by decide +kernel
theorem dX11_contract_32 : decode cX11_contract 32 = .ok (.pop, 1) := by decide +kernel
theorem dX11_contract_33 : decode cX11_contract 33 = .ok (.aload_n 0, 1) := by decide +kernel
theorem dX11_contract_34 : decode cX11_contract 34 = .ok (.invokevirtual 185, 3) := by decide +kernel
theorem dX11_contract_37 : decode cX11_contract 37 = .ok (.istore_n 2, 1) := by decide +kernel
theorem dX11_contract_38 : decode cX11_contract 38 = .ok (.iload_n 2, 1) := by decide +kernel
theorem dX11_contract_39 : decode cX11_contract 39 = .ok (.aload_n 0, 1) := by decide +kernel
theorem dX11_contract_40 : decode cX11_contract 40 = .ok (.iload_n 1, 1) := by decide +kernel
theorem dX11_contract_41 : decode cX11_contract 41 = .ok (.invokevirtual 171, 3) := by decide +kernel
theorem dX11_contract_44 : decode cX11_contract 44 = .ok (.if_icmp .ge 12, 3) := by decide +kernel
theorem dX11_contract_47 : decode cX11_contract 47 = .ok (.aload_n 0, 1) := by decide +kernel
theorem dX11_contract_48 : decode cX11_contract 48 = .ok (.iload_n 1, 1) := by decide +kernel
theorem dX11_contract_49 : decode cX11_contract 49 = .ok (.iconst 1, 1) := by decide +kernel
theorem dX11_contract_50 : decode cX11_contract 50 = .ok (.iload_n 2, 1) := by decide +kernel
theorem dX11_contract_51 : decode cX11_contract 51 = .ok (.iconst 0, 1) := by decide +kernel
theorem dX11_contract_52 : decode cX11_contract 52 = .ok (.invokevirtual 174, 3) := by decide +kernel
theorem dX11_contract_55 : decode cX11_contract 55 = .ok (.pop, 1) := by decide +kernel
theorem dX11_contract_56 : decode cX11_contract 56 = .ok (.aload_n 0, 1) := by decide +kernel
theorem dX11_contract_57 : decode cX11_contract 57 = .ok (.invokevirtual 188, 3) := by decide +kernel
theorem dX11_contract_60 : decode cX11_contract 60 = .ok (.istore_n 3, 1) := by decide +kernel
theorem dX11_contract_61 : decode cX11_contract 61 = .ok (.iload_n 3, 1) := by decide +kernel
theorem dX11_contract_62 : decode cX11_contract 62 = .ok (.bipush 100, 2) := by decide +kernel
theorem dX11_contract_64 : decode cX11_contract 64 = .ok (.idiv, 1) := by decide +kernel
theorem dX11_contract_65 : decode cX11_contract 65 = .ok (.iload_n 3, 1) := by decide +kernel
theorem dX11_contract_66 : decode cX11_contract 66 = .ok (.bipush 100, 2) := by decide +kernel
theorem dX11_contract_68 : decode cX11_contract 68 = .ok (.irem, 1) := by decide +kernel
theorem dX11_contract_69 : decode cX11_contract 69 = .ok (.imul, 1) := by decide +kernel
theorem dX11_contract_70 : decode cX11_contract 70 = .ok (.aload_n 0, 1) := by decide +kernel
theorem dX11_contract_71 : decode cX11_contract 71 = .ok (.iload_n 1, 1) := by decide +kernel
theorem dX11_contract_72 : decode cX11_contract 72 = .ok (.invokevirtual 171, 3) := by decide +kernel
theorem dX11_contract_75 : decode cX11_contract 75 = .ok (.if_icmp .ge 18, 3) := by decide +kernel
theorem dX11_contract_78 : decode cX11_contract 78 = .ok (.aload_n 0, 1) := by decide +kernel
theorem dX11_contract_79 : decode cX11_contract 79 = .ok (.iload_n 1, 1) := by decide +kernel
theorem dX11_contract_80 : decode cX11_contract 80 = .ok (.iconst 2, 1) := by decide +kernel
theorem dX11_contract_81 : decode cX11_contract 81 = .ok (.iload_n 3, 1) := by decide +kernel
theorem dX11_contract_82 : decode cX11_contract 82 = .ok (.bipush 100, 2) := by decide +kernel
theorem dX11_contract_84 : decode cX11_contract 84 = .ok (.idiv, 1) := by decide +kernel
theorem dX11_contract_85 : decode cX11_contract 85 = .ok (.iload_n 3, 1) := by decide +kernel
theorem dX11_contract_86 : decode cX11_contract 86 = .ok (.bipush 100, 2) := by decide +kernel
theorem dX11_contract_88 : decode cX11_contract 88 = .ok (.irem, 1) := by decide +kernel
theorem dX11_contract_89 : decode cX11_contract 89 = .ok (.invokevirtual 174, 3) := by decide +kernel
theorem dX11_contract_92 : decode cX11_contract 92 = .ok (.pop, 1) := by decide +kernel
theorem dX11_contract_93 : decode cX11_contract 93 = .ok (.aload_n 0, 1) := by decide +kernel
theorem dX11_contract_94 : decode cX11_contract 94 = .ok (.invokevirtual 191, 3) := by decide +kernel
theorem dX11_contract_97 : decode cX11_contract 97 = .ok (.istore 4, 2) := by decide +kernel
theorem dX11_contract_99 : decode cX11_contract 99 = .ok (.iload 4, 2) := by decide +kernel
theorem dX11_contract_101 : decode cX11_contract 101 = .ok (.bipush 10, 2) := by decide +kernel
theorem dX11_contract_103 : decode cX11_contract 103 = .ok (.idiv, 1) := by decide +kernel
theorem dX11_contract_104 : decode cX11_contract 104 = .ok (.aload_n 0, 1) := by decide +kernel
theorem dX11_contract_105 : decode cX11_contract 105 = .ok (.iload_n 1, 1) := by decide +kernel
theorem dX11_contract_106 : decode cX11_contract 106 = .ok (.invokevirtual 171, 3) := by decide +kernel
theorem dX11_contract_109 : decode cX11_contract 109 = .ok (.if_icmp .ge 20, 3) := by decide +kernel
theorem dX11_contract_112 : decode cX11_contract 112 = .ok (.aload_n 0, 1) := by decide +kernel
theorem dX11_contract_113 : decode cX11_contract 113 = .ok (.iload_n 1, 1) := by decide +kernel
theorem dX11_contract_114 : decode cX11_contract 114 = .ok (.iconst 3, 1) := by decide +kernel
theorem dX11_contract_115 : decode cX11_contract 115 = .ok (.iload 4, 2) := by decide +kernel
theorem dX11_contract_117 : decode cX11_contract 117 = .ok (.bipush 10, 2) := by decide +kernel
theorem dX11_contract_119 : decode cX11_contract 119 = .ok (.irem, 1) := by decide +kernel
theorem dX11_contract_120 : decode cX11_contract 120 = .ok (.iload 4, 2) := by decide +kernel
theorem dX11_contract_122 : decode cX11_contract 122 = .ok (.bipush 10, 2) := by decide +kernel
theorem dX11_contract_124 : decode cX11_contract 124 = .ok (.idiv, 1) := by decide +kernel
theorem dX11_contract_125 : decode cX11_contract 125 = .ok (.invokevirtual 174, 3) := by decide +kernel
theorem dX11_contract_128 : decode cX11_contract 128 = .ok (.pop, 1) := by decide +kernel
theorem dX11_contract_129 : decode cX11_contract 129 = .ok (.iinc 1 1, 3) := by decide +kernel
theorem dX11_contract_132 : decode cX11_contract 132 = .ok (.goto (-121), 3) := by decide +kernel
theorem dX11_contract_135 : decode cX11_contract 135 = .ok (.aload_n 0, 1) := by decide +kernel
theorem dX11_contract_136 : decode cX11_contract 136 = .ok (.invokevirtual 194, 3) := by decide +kernel
theorem dX11_contract_139 : decode cX11_contract 139 = .ok (.ireturn, 1) := by decide +kernel
theorem dX11_windowSize_0 : decode cX11_windowSize 0 = .ok (.aload_n 0, 1) := by decide +kernel
theorem dX11_windowSize_1 : decode cX11_windowSize 1 = .ok (.aload_n 0, 1) := by decide +kernel
theorem dX11_windowSize_2 : decode cX11_windowSize 2 = .ok (.iload_n 1, 1) := by decide +kernel
theorem dX11_windowSize_3 : decode cX11_windowSize 3 = .ok (.invokevirtual 94, 3) := by decide +kernel
theorem dX11_windowSize_6 : decode cX11_windowSize 6 = .ok (.ifCond .eq 7, 3) := by decide +kernel
theorem dX11_windowSize_9 : decode cX11_windowSize 9 = .ok (.iconst 0, 1) := by decide +kernel
theorem dX11_windowSize_10 : decode cX11_windowSize 10 = .ok (.goto 4, 3) := by decide +kernel
theorem dX11_windowSize_13 : decode cX11_windowSize 13 = .ok (.iconst 1, 1) := by decide +kernel
theorem dX11_windowSize_14 : decode cX11_windowSize 14 = .ok (.invokevirtual 102, 3) := by decide +kernel
theorem dX11_windowSize_17 : decode cX11_windowSize 17 = .ok (.ifCond .eq 7, 3) := by decide +kernel
theorem dX11_windowSize_20 : decode cX11_windowSize 20 = .ok (.iconst 0, 1) := by decide +kernel
theorem dX11_windowSize_21 : decode cX11_windowSize 21 = .ok (.goto 8, 3) := by decide +kernel
theorem dX11_windowSize_24 : decode cX11_windowSize 24 = .ok (.aload_n 0, 1) := by decide +kernel
theorem dX11_windowSize_25 : decode cX11_windowSize 25 = .ok (.iload_n 1, 1) := by decide +kernel
theorem dX11_windowSize_26 : decode cX11_windowSize 26 = .ok (.invokevirtual 171, 3) := by decide +kernel
theorem dX11_windowSize_29 : decode cX11_windowSize 29 = .ok (.ireturn, 1) := by decide +kernel
theorem dX11_room_0 : decode cX11_room 0 = .ok (.aload_n 0, 1) := by decide +kernel
theorem dX11_room_1 : decode cX11_room 1 = .ok (.iconst 0, 1) := by decide +kernel
theorem dX11_room_2 : decode cX11_room 2 = .ok (.putfield 84, 3) := by decide +kernel
theorem dX11_room_5 : decode cX11_room 5 = .ok (.aload_n 0, 1) := by decide +kernel
theorem dX11_room_6 : decode cX11_room 6 = .ok (.invokevirtual 194, 3) := by decide +kernel
theorem dX11_room_9 : decode cX11_room 9 = .ok (.ireturn, 1) := by decide +kernel
theorem dX11_place_0 : decode cX11_place 0 = .ok (.iload_n 1, 1) := by decide +kernel
theorem dX11_place_1 : decode cX11_place 1 = .ok (.bipush 64, 2) := by decide +kernel
theorem dX11_place_3 : decode cX11_place 3 = .ok (.idiv, 1) := by decide +kernel
theorem dX11_place_4 : decode cX11_place 4 = .ok (.istore_n 2, 1) := by decide +kernel
theorem dX11_place_5 : decode cX11_place 5 = .ok (.aload_n 0, 1) := by decide +kernel
theorem dX11_place_6 : decode cX11_place 6 = .ok (.iload_n 1, 1) := by decide +kernel
theorem dX11_place_7 : decode cX11_place 7 = .ok (.invokevirtual 105, 3) := by decide +kernel
theorem dX11_place_10 : decode cX11_place 10 = .ok (.istore_n 3, 1) := by decide +kernel
theorem dX11_place_11 : decode cX11_place 11 = .ok (.aload_n 0, 1) := by decide +kernel
theorem dX11_place_12 : decode cX11_place 12 = .ok (.iload_n 1, 1) := by decide +kernel
theorem dX11_place_13 : decode cX11_place 13 = .ok (.invokevirtual 109, 3) := by decide +kernel
theorem dX11_place_16 : decode cX11_place 16 = .ok (.istore 4, 2) := by decide +kernel
theorem dX11_place_18 : decode cX11_place 18 = .ok (.aload_n 0, 1) := by decide +kernel
theorem dX11_place_19 : decode cX11_place 19 = .ok (.getfield 45, 3) := by decide +kernel
theorem dX11_place_22 : decode cX11_place 22 = .ok (.iload_n 2, 1) := by decide +kernel
theorem dX11_place_23 : decode cX11_place 23 = .ok (.iaload, 1) := by decide +kernel
theorem dX11_place_24 : decode cX11_place 24 = .ok (.tableswitch 71 0 2 #[28, 33, 45], 28) := by decide +kernel
theorem dX11_place_52 : decode cX11_place 52 = .ok (.iload_n 1, 1) := by decide +kernel
theorem dX11_place_53 : decode cX11_place 53 = .ok (.bipush 64, 2) := by decide +kernel
theorem dX11_place_55 : decode cX11_place 55 = .ok (.irem, 1) := by decide +kernel
theorem dX11_place_56 : decode cX11_place 56 = .ok (.ireturn, 1) := by decide +kernel
theorem dX11_place_57 : decode cX11_place 57 = .ok (.iload_n 1, 1) := by decide +kernel
theorem dX11_place_58 : decode cX11_place 58 = .ok (.bipush 64, 2) := by decide +kernel
theorem dX11_place_60 : decode cX11_place 60 = .ok (.irem, 1) := by decide +kernel
theorem dX11_place_61 : decode cX11_place 61 = .ok (.aload_n 0, 1) := by decide +kernel
theorem dX11_place_62 : decode cX11_place 62 = .ok (.getfield 48, 3) := by decide +kernel
theorem dX11_place_65 : decode cX11_place 65 = .ok (.iload_n 2, 1) := by decide +kernel
theorem dX11_place_66 : decode cX11_place 66 = .ok (.iaload, 1) := by decide +kernel
theorem dX11_place_67 : decode cX11_place 67 = .ok (.irem, 1) := by decide +kernel
theorem dX11_place_68 : decode cX11_place 68 = .ok (.ireturn, 1) := by decide +kernel
theorem dX11_place_69 : decode cX11_place 69 = .ok (.iload_n 3, 1) := by decide +kernel
theorem dX11_place_70 : decode cX11_place 70 = .ok (.aload_n 0, 1) := by decide +kernel
theorem dX11_place_71 : decode cX11_place 71 = .ok (.getfield 48, 3) := by decide +kernel
theorem dX11_place_74 : decode cX11_place 74 = .ok (.iload_n 2, 1) := by decide +kernel
theorem dX11_place_75 : decode cX11_place 75 = .ok (.iaload, 1) := by decide +kernel
theorem dX11_place_76 : decode cX11_place 76 = .ok (.irem, 1) := by decide +kernel
theorem dX11_place_77 : decode cX11_place 77 = .ok (.aload_n 0, 1) := by decide +kernel
theorem dX11_place_78 : decode cX11_place 78 = .ok (.getfield 51, 3) := by decide +kernel
theorem dX11_place_81 : decode cX11_place 81 = .ok (.iload_n 2, 1) := by decide +kernel
theorem dX11_place_82 : decode cX11_place 82 = .ok (.iaload, 1) := by decide +kernel
theorem dX11_place_83 : decode cX11_place 83 = .ok (.imul, 1) := by decide +kernel
theorem dX11_place_84 : decode cX11_place 84 = .ok (.iload 4, 2) := by decide +kernel
theorem dX11_place_86 : decode cX11_place 86 = .ok (.aload_n 0, 1) := by decide +kernel
theorem dX11_place_87 : decode cX11_place 87 = .ok (.getfield 51, 3) := by decide +kernel
theorem dX11_place_90 : decode cX11_place 90 = .ok (.iload_n 2, 1) := by decide +kernel
theorem dX11_place_91 : decode cX11_place 91 = .ok (.iaload, 1) := by decide +kernel
theorem dX11_place_92 : decode cX11_place 92 = .ok (.irem, 1) := by decide +kernel
theorem dX11_place_93 : decode cX11_place 93 = .ok (.iadd, 1) := by decide +kernel
theorem dX11_place_94 : decode cX11_place 94 = .ok (.ireturn, 1) := by decide +kernel
theorem dX11_place_95 : decode cX11_place 95 = .ok (.iload_n 3, 1) := by decide +kernel
theorem dX11_place_96 : decode cX11_place 96 = .ok (.iload 4, 2) := by decide +kernel
theorem dX11_place_98 : decode cX11_place 98 = .ok (.aload_n 0, 1) := by decide +kernel
theorem dX11_place_99 : decode cX11_place 99 = .ok (.getfield 48, 3) := by decide +kernel
theorem dX11_place_102 : decode cX11_place 102 = .ok (.iload_n 2, 1) := by decide +kernel
theorem dX11_place_103 : decode cX11_place 103 = .ok (.iaload, 1) := by decide +kernel
theorem dX11_place_104 : decode cX11_place 104 = .ok (.imul, 1) := by decide +kernel
theorem dX11_place_105 : decode cX11_place 105 = .ok (.iadd, 1) := by decide +kernel
theorem dX11_place_106 : decode cX11_place 106 = .ok (.aload_n 0, 1) := by decide +kernel
theorem dX11_place_107 : decode cX11_place 107 = .ok (.getfield 51, 3) := by decide +kernel
theorem dX11_place_110 : decode cX11_place 110 = .ok (.iload_n 2, 1) := by decide +kernel
theorem dX11_place_111 : decode cX11_place 111 = .ok (.iaload, 1) := by decide +kernel
theorem dX11_place_112 : decode cX11_place 112 = .ok (.irem, 1) := by decide +kernel
theorem dX11_place_113 : decode cX11_place 113 = .ok (.ireturn, 1) := by decide +kernel
theorem dX11_placeOf_0 : decode cX11_placeOf 0 = .ok (.aload_n 0, 1) := by decide +kernel
theorem dX11_placeOf_1 : decode cX11_placeOf 1 = .ok (.aload_n 0, 1) := by decide +kernel
theorem dX11_placeOf_2 : decode cX11_placeOf 2 = .ok (.iload_n 1, 1) := by decide +kernel
theorem dX11_placeOf_3 : decode cX11_placeOf 3 = .ok (.iload_n 2, 1) := by decide +kernel
theorem dX11_placeOf_4 : decode cX11_placeOf 4 = .ok (.iload_n 3, 1) := by decide +kernel
theorem dX11_placeOf_5 : decode cX11_placeOf 5 = .ok (.invokevirtual 150, 3) := by decide +kernel
theorem dX11_placeOf_8 : decode cX11_placeOf 8 = .ok (.ifCond .eq 7, 3) := by decide +kernel
theorem dX11_placeOf_11 : decode cX11_placeOf 11 = .ok (.iconst 0, 1) := by decide +kernel
theorem dX11_placeOf_12 : decode cX11_placeOf 12 = .ok (.goto 4, 3) := by decide +kernel
theorem dX11_placeOf_15 : decode cX11_placeOf 15 = .ok (.iconst 1, 1) := by decide +kernel
theorem dX11_placeOf_16 : decode cX11_placeOf 16 = .ok (.invokevirtual 102, 3) := by decide +kernel
theorem dX11_placeOf_19 : decode cX11_placeOf 19 = .ok (.ifCond .eq 7, 3) := by decide +kernel
theorem dX11_placeOf_22 : decode cX11_placeOf 22 = .ok (.iconst 0, 1) := by decide +kernel
theorem dX11_placeOf_23 : decode cX11_placeOf 23 = .ok (.goto 14, 3) := by decide +kernel
theorem dX11_placeOf_26 : decode cX11_placeOf 26 = .ok (.aload_n 0, 1) := by decide +kernel
theorem dX11_placeOf_27 : decode cX11_placeOf 27 = .ok (.aload_n 0, 1) := by decide +kernel
theorem dX11_placeOf_28 : decode cX11_placeOf 28 = .ok (.iload_n 1, 1) := by decide +kernel
theorem dX11_placeOf_29 : decode cX11_placeOf 29 = .ok (.iload_n 2, 1) := by decide +kernel
theorem dX11_placeOf_30 : decode cX11_placeOf 30 = .ok (.iload_n 3, 1) := by decide +kernel
theorem dX11_placeOf_31 : decode cX11_placeOf 31 = .ok (.invokevirtual 127, 3) := by decide +kernel
theorem dX11_placeOf_34 : decode cX11_placeOf 34 = .ok (.invokevirtual 197, 3) := by decide +kernel
theorem dX11_placeOf_37 : decode cX11_placeOf 37 = .ok (.ireturn, 1) := by decide +kernel
theorem dX11_isRight_0 : decode cX11_isRight 0 = .ok (.aload_n 0, 1) := by decide +kernel
theorem dX11_isRight_1 : decode cX11_isRight 1 = .ok (.aload_n 0, 1) := by decide +kernel
theorem dX11_isRight_2 : decode cX11_isRight 2 = .ok (.iload_n 1, 1) := by decide +kernel
theorem dX11_isRight_3 : decode cX11_isRight 3 = .ok (.invokevirtual 94, 3) := by decide +kernel
theorem dX11_isRight_6 : decode cX11_isRight 6 = .ok (.ifCond .eq 7, 3) := by decide +kernel
theorem dX11_isRight_9 : decode cX11_isRight 9 = .ok (.iconst 0, 1) := by decide +kernel
theorem dX11_isRight_10 : decode cX11_isRight 10 = .ok (.goto 4, 3) := by decide +kernel
theorem dX11_isRight_13 : decode cX11_isRight 13 = .ok (.iconst 1, 1) := by decide +kernel
theorem dX11_isRight_14 : decode cX11_isRight 14 = .ok (.invokevirtual 102, 3) := by decide +kernel
theorem dX11_isRight_17 : decode cX11_isRight 17 = .ok (.ifCond .eq 5, 3) := by decide +kernel
theorem dX11_isRight_20 : decode cX11_isRight 20 = .ok (.iconst 0, 1) := by decide +kernel
theorem dX11_isRight_21 : decode cX11_isRight 21 = .ok (.ireturn, 1) := by decide +kernel
theorem dX11_isRight_22 : decode cX11_isRight 22 = .ok (.aload_n 0, 1) := by decide +kernel
theorem dX11_isRight_23 : decode cX11_isRight 23 = .ok (.invokevirtual 159, 3) := by decide +kernel
theorem dX11_isRight_26 : decode cX11_isRight 26 = .ok (.iconst 1, 1) := by decide +kernel
theorem dX11_isRight_27 : decode cX11_isRight 27 = .ok (.istore_n 2, 1) := by decide +kernel
theorem dX11_isRight_28 : decode cX11_isRight 28 = .ok (.bipush 64, 2) := by decide +kernel
theorem dX11_isRight_30 : decode cX11_isRight 30 = .ok (.iload_n 1, 1) := by decide +kernel
theorem dX11_isRight_31 : decode cX11_isRight 31 = .ok (.imul, 1) := by decide +kernel
theorem dX11_isRight_32 : decode cX11_isRight 32 = .ok (.istore_n 3, 1) := by decide +kernel
theorem dX11_isRight_33 : decode cX11_isRight 33 = .ok (.iload_n 3, 1) := by decide +kernel
theorem dX11_isRight_34 : decode cX11_isRight 34 = .ok (.bipush 64, 2) := by decide +kernel
theorem dX11_isRight_36 : decode cX11_isRight 36 = .ok (.iload_n 1, 1) := by decide +kernel
theorem dX11_isRight_37 : decode cX11_isRight 37 = .ok (.imul, 1) := by decide +kernel
theorem dX11_isRight_38 : decode cX11_isRight 38 = .ok (.aload_n 0, 1) := by decide +kernel
theorem dX11_isRight_39 : decode cX11_isRight 39 = .ok (.getfield 7, 3) := by decide +kernel
theorem dX11_isRight_42 : decode cX11_isRight 42 = .ok (.aload_n 0, 1) := by decide +kernel
theorem dX11_isRight_43 : decode cX11_isRight 43 = .ok (.getfield 13, 3) := by decide +kernel
theorem dX11_isRight_46 : decode cX11_isRight 46 = .ok (.imul, 1) := by decide +kernel
theorem dX11_isRight_47 : decode cX11_isRight 47 = .ok (.iadd, 1) := by decide +kernel
theorem dX11_isRight_48 : decode cX11_isRight 48 = .ok (.if_icmp .ge 61, 3) := by decide +kernel
theorem dX11_isRight_51 : decode cX11_isRight 51 = .ok (.bipush 64, 2) := by decide +kernel
theorem dX11_isRight_53 : decode cX11_isRight 53 = .ok (.iload_n 1, 1) := by decide +kernel
theorem dX11_isRight_54 : decode cX11_isRight 54 = .ok (.imul, 1) := by decide +kernel
theorem dX11_isRight_55 : decode cX11_isRight 55 = .ok (.istore 4, 2) := by decide +kernel
theorem dX11_isRight_57 : decode cX11_isRight 57 = .ok (.iload 4, 2) := by decide +kernel
theorem dX11_isRight_59 : decode cX11_isRight 59 = .ok (.iload_n 3, 1) := by decide +kernel
theorem dX11_isRight_60 : decode cX11_isRight 60 = .ok (.if_icmp .ge 43, 3) := by decide +kernel
theorem dX11_isRight_63 : decode cX11_isRight 63 = .ok (.iload_n 2, 1) := by decide +kernel
theorem dX11_isRight_64 : decode cX11_isRight 64 = .ok (.ifCond .eq 31, 3) := by decide +kernel
theorem dX11_isRight_67 : decode cX11_isRight 67 = .ok (.aload_n 0, 1) := by decide +kernel
theorem dX11_isRight_68 : decode cX11_isRight 68 = .ok (.iload_n 3, 1) := by decide +kernel
theorem dX11_isRight_69 : decode cX11_isRight 69 = .ok (.invokevirtual 197, 3) := by decide +kernel
theorem dX11_isRight_72 : decode cX11_isRight 72 = .ok (.aload_n 0, 1) := by decide +kernel
theorem dX11_isRight_73 : decode cX11_isRight 73 = .ok (.iload 4, 2) := by decide +kernel
theorem dX11_isRight_75 : decode cX11_isRight 75 = .ok (.invokevirtual 197, 3) := by decide +kernel
theorem dX11_isRight_78 : decode cX11_isRight 78 = .ok (.if_icmp .ne 13, 3) := by decide +kernel
theorem dX11_isRight_81 : decode cX11_isRight 81 = .ok (.aload_n 0, 1) := by decide +kernel
theorem dX11_isRight_82 : decode cX11_isRight 82 = .ok (.iload_n 3, 1) := by decide +kernel
theorem dX11_isRight_83 : decode cX11_isRight 83 = .ok (.iload 4, 2) := by decide +kernel
theorem dX11_isRight_85 : decode cX11_isRight 85 = .ok (.invokevirtual 165, 3) := by decide +kernel
theorem dX11_isRight_88 : decode cX11_isRight 88 = .ok (.ifCond .ne 7, 3) := by decide +kernel
theorem dX11_isRight_91 : decode cX11_isRight 91 = .ok (.iconst 1, 1) := by decide +kernel
theorem dX11_isRight_92 : decode cX11_isRight 92 = .ok (.goto 4, 3) := by decide +kernel
theorem dX11_isRight_95 : decode cX11_isRight 95 = .ok (.iconst 0, 1) := by decide +kernel
theorem dX11_isRight_96 : decode cX11_isRight 96 = .ok (.istore_n 2, 1) := by decide +kernel
theorem dX11_isRight_97 : decode cX11_isRight 97 = .ok (.iinc 4 1, 3) := by decide +kernel
theorem dX11_isRight_100 : decode cX11_isRight 100 = .ok (.goto (-43), 3) := by decide +kernel
theorem dX11_isRight_103 : decode cX11_isRight 103 = .ok (.iinc 3 1, 3) := by decide +kernel
theorem dX11_isRight_106 : decode cX11_isRight 106 = .ok (.goto (-73), 3) := by decide +kernel
theorem dX11_isRight_109 : decode cX11_isRight 109 = .ok (.iload_n 2, 1) := by decide +kernel
theorem dX11_isRight_110 : decode cX11_isRight 110 = .ok (.ireturn, 1) := by decide +kernel
theorem dX11_isRest_0 : decode cX11_isRest 0 = .ok (.iconst 1, 1) := by decide +kernel
theorem dX11_isRest_1 : decode cX11_isRest 1 = .ok (.istore_n 2, 1) := by decide +kernel
theorem dX11_isRest_2 : decode cX11_isRest 2 = .ok (.iconst 0, 1) := by decide +kernel
theorem dX11_isRest_3 : decode cX11_isRest 3 = .ok (.istore_n 3, 1) := by decide +kernel
theorem dX11_isRest_4 : decode cX11_isRest 4 = .ok (.iload_n 3, 1) := by decide +kernel
theorem dX11_isRest_5 : decode cX11_isRest 5 = .ok (.sipush 225, 3) := by decide +kernel
theorem dX11_isRest_8 : decode cX11_isRest 8 = .ok (.if_icmp .ge 54, 3) := by decide +kernel
theorem dX11_isRest_11 : decode cX11_isRest 11 = .ok (.iload_n 3, 1) := by decide +kernel
theorem dX11_isRest_12 : decode cX11_isRest 12 = .ok (.bipush 15, 2) := by decide +kernel
theorem dX11_isRest_14 : decode cX11_isRest 14 = .ok (.idiv, 1) := by decide +kernel
theorem dX11_isRest_15 : decode cX11_isRest 15 = .ok (.aload_n 0, 1) := by decide +kernel
theorem dX11_isRest_16 : decode cX11_isRest 16 = .ok (.getfield 13, 3) := by decide +kernel
theorem dX11_isRest_19 : decode cX11_isRest 19 = .ok (.imul, 1) := by decide +kernel
theorem dX11_isRest_20 : decode cX11_isRest 20 = .ok (.iload_n 3, 1) := by decide +kernel
theorem dX11_isRest_21 : decode cX11_isRest 21 = .ok (.bipush 15, 2) := by decide +kernel
theorem dX11_isRest_23 : decode cX11_isRest 23 = .ok (.irem, 1) := by decide +kernel
theorem dX11_isRest_24 : decode cX11_isRest 24 = .ok (.iadd, 1) := by decide +kernel
theorem dX11_isRest_25 : decode cX11_isRest 25 = .ok (.bipush 7, 2) := by decide +kernel
theorem dX11_isRest_27 : decode cX11_isRest 27 = .ok (.isub, 1) := by decide +kernel
theorem dX11_isRest_28 : decode cX11_isRest 28 = .ok (.istore 4, 2) := by decide +kernel
theorem dX11_isRest_30 : decode cX11_isRest 30 = .ok (.iload_n 2, 1) := by decide +kernel
theorem dX11_isRest_31 : decode cX11_isRest 31 = .ok (.ifCond .eq 23, 3) := by decide +kernel
theorem dX11_isRest_34 : decode cX11_isRest 34 = .ok (.aload_n 0, 1) := by decide +kernel
theorem dX11_isRest_35 : decode cX11_isRest 35 = .ok (.getfield 78, 3) := by decide +kernel
theorem dX11_isRest_38 : decode cX11_isRest 38 = .ok (.iload_n 3, 1) := by decide +kernel
theorem dX11_isRest_39 : decode cX11_isRest 39 = .ok (.baload, 1) := by decide +kernel
theorem dX11_isRest_40 : decode cX11_isRest 40 = .ok (.ifCond .eq 10, 3) := by decide +kernel
theorem dX11_isRest_43 : decode cX11_isRest 43 = .ok (.iload 4, 2) := by decide +kernel
theorem dX11_isRest_45 : decode cX11_isRest 45 = .ok (.iload_n 1, 1) := by decide +kernel
theorem dX11_isRest_46 : decode cX11_isRest 46 = .ok (.irem, 1) := by decide +kernel
theorem dX11_isRest_47 : decode cX11_isRest 47 = .ok (.ifCond .eq 7, 3) := by decide +kernel
theorem dX11_isRest_50 : decode cX11_isRest 50 = .ok (.iconst 1, 1) := by decide +kernel
theorem dX11_isRest_51 : decode cX11_isRest 51 = .ok (.goto 4, 3) := by decide +kernel
theorem dX11_isRest_54 : decode cX11_isRest 54 = .ok (.iconst 0, 1) := by decide +kernel
theorem dX11_isRest_55 : decode cX11_isRest 55 = .ok (.istore_n 2, 1) := by decide +kernel
theorem dX11_isRest_56 : decode cX11_isRest 56 = .ok (.iinc 3 1, 3) := by decide +kernel
theorem dX11_isRest_59 : decode cX11_isRest 59 = .ok (.goto (-55), 3) := by decide +kernel
theorem dX11_isRest_62 : decode cX11_isRest 62 = .ok (.iload_n 2, 1) := by decide +kernel
theorem dX11_isRest_63 : decode cX11_isRest 63 = .ok (.ireturn, 1) := by decide +kernel
theorem dX11_rest_0 : decode cX11_rest 0 = .ok (.iconst 1, 1) := by decide +kernel
theorem dX11_rest_1 : decode cX11_rest 1 = .ok (.istore_n 1, 1) := by decide +kernel
theorem dX11_rest_2 : decode cX11_rest 2 = .ok (.aload_n 0, 1) := by decide +kernel
theorem dX11_rest_3 : decode cX11_rest 3 = .ok (.iload_n 1, 1) := by decide +kernel
theorem dX11_rest_4 : decode cX11_rest 4 = .ok (.invokevirtual 200, 3) := by decide +kernel
theorem dX11_rest_7 : decode cX11_rest 7 = .ok (.ifCond .ne 9, 3) := by decide +kernel
theorem dX11_rest_10 : decode cX11_rest 10 = .ok (.iinc 1 1, 3) := by decide +kernel
theorem dX11_rest_13 : decode cX11_rest 13 = .ok (.goto (-11), 3) := by decide +kernel
theorem dX11_rest_16 : decode cX11_rest 16 = .ok (.iload_n 1, 1) := by decide +kernel
theorem dX11_rest_17 : decode cX11_rest 17 = .ok (.ireturn, 1) := by decide +kernel
theorem dX11_isTwo_0 : decode cX11_isTwo 0 = .ok (.iconst 1, 1) := by decide +kernel
theorem dX11_isTwo_1 : decode cX11_isTwo 1 = .ok (.istore_n 3, 1) := by decide +kernel
theorem dX11_isTwo_2 : decode cX11_isTwo 2 = .ok (.iconst 0, 1) := by decide +kernel
theorem dX11_isTwo_3 : decode cX11_isTwo 3 = .ok (.istore 4, 2) := by decide +kernel
theorem dX11_isTwo_5 : decode cX11_isTwo 5 = .ok (.iload 4, 2) := by decide +kernel
theorem dX11_isTwo_7 : decode cX11_isTwo 7 = .ok (.sipush 225, 3) := by decide +kernel
theorem dX11_isTwo_10 : decode cX11_isTwo 10 = .ok (.if_icmp .ge 52, 3) := by decide +kernel
theorem dX11_isTwo_13 : decode cX11_isTwo 13 = .ok (.iload_n 3, 1) := by decide +kernel
theorem dX11_isTwo_14 : decode cX11_isTwo 14 = .ok (.ifCond .eq 40, 3) := by decide +kernel
theorem dX11_isTwo_17 : decode cX11_isTwo 17 = .ok (.aload_n 0, 1) := by decide +kernel
theorem dX11_isTwo_18 : decode cX11_isTwo 18 = .ok (.getfield 78, 3) := by decide +kernel
theorem dX11_isTwo_21 : decode cX11_isTwo 21 = .ok (.iload 4, 2) := by decide +kernel
theorem dX11_isTwo_23 : decode cX11_isTwo 23 = .ok (.baload, 1) := by decide +kernel
theorem dX11_isTwo_24 : decode cX11_isTwo 24 = .ok (.ifCond .eq 26, 3) := by decide +kernel
theorem dX11_isTwo_27 : decode cX11_isTwo 27 = .ok (.iload 4, 2) := by decide +kernel
theorem dX11_isTwo_29 : decode cX11_isTwo 29 = .ok (.bipush 15, 2) := by decide +kernel
theorem dX11_isTwo_31 : decode cX11_isTwo 31 = .ok (.idiv, 1) := by decide +kernel
theorem dX11_isTwo_32 : decode cX11_isTwo 32 = .ok (.iload_n 1, 1) := by decide +kernel
theorem dX11_isTwo_33 : decode cX11_isTwo 33 = .ok (.irem, 1) := by decide +kernel
theorem dX11_isTwo_34 : decode cX11_isTwo 34 = .ok (.ifCond .ne 16, 3) := by decide +kernel
theorem dX11_isTwo_37 : decode cX11_isTwo 37 = .ok (.iload 4, 2) := by decide +kernel
theorem dX11_isTwo_39 : decode cX11_isTwo 39 = .ok (.bipush 15, 2) := by decide +kernel
theorem dX11_isTwo_41 : decode cX11_isTwo 41 = .ok (.irem, 1) := by decide +kernel
theorem dX11_isTwo_42 : decode cX11_isTwo 42 = .ok (.bipush 7, 2) := by decide +kernel
theorem dX11_isTwo_44 : decode cX11_isTwo 44 = .ok (.isub, 1) := by decide +kernel
theorem dX11_isTwo_45 : decode cX11_isTwo 45 = .ok (.iload_n 2, 1) := by decide +kernel
theorem dX11_isTwo_46 : decode cX11_isTwo 46 = .ok (.irem, 1) := by decide +kernel
theorem dX11_isTwo_47 : decode cX11_isTwo 47 = .ok (.ifCond .eq 7, 3) := by decide +kernel
theorem dX11_isTwo_50 : decode cX11_isTwo 50 = .ok (.iconst 1, 1) := by decide +kernel
theorem dX11_isTwo_51 : decode cX11_isTwo 51 = .ok (.goto 4, 3) := by decide +kernel
theorem dX11_isTwo_54 : decode cX11_isTwo 54 = .ok (.iconst 0, 1) := by decide +kernel
theorem dX11_isTwo_55 : decode cX11_isTwo 55 = .ok (.istore_n 3, 1) := by decide +kernel
theorem dX11_isTwo_56 : decode cX11_isTwo 56 = .ok (.iinc 4 1, 3) := by decide +kernel
theorem dX11_isTwo_59 : decode cX11_isTwo 59 = .ok (.goto (-54), 3) := by decide +kernel
theorem dX11_isTwo_62 : decode cX11_isTwo 62 = .ok (.iload_n 3, 1) := by decide +kernel
theorem dX11_isTwo_63 : decode cX11_isTwo 63 = .ok (.ireturn, 1) := by decide +kernel
theorem dX11_two_0 : decode cX11_two 0 = .ok (.bipush 100, 2) := by decide +kernel
theorem dX11_two_2 : decode cX11_two 2 = .ok (.aload_n 0, 1) := by decide +kernel
theorem dX11_two_3 : decode cX11_two 3 = .ok (.getfield 7, 3) := by decide +kernel
theorem dX11_two_6 : decode cX11_two 6 = .ok (.imul, 1) := by decide +kernel
theorem dX11_two_7 : decode cX11_two 7 = .ok (.aload_n 0, 1) := by decide +kernel
theorem dX11_two_8 : decode cX11_two 8 = .ok (.getfield 13, 3) := by decide +kernel
theorem dX11_two_11 : decode cX11_two 11 = .ok (.iadd, 1) := by decide +kernel
theorem dX11_two_12 : decode cX11_two 12 = .ok (.istore_n 1, 1) := by decide +kernel
theorem dX11_two_13 : decode cX11_two 13 = .ok (.aload_n 0, 1) := by decide +kernel
theorem dX11_two_14 : decode cX11_two 14 = .ok (.getfield 7, 3) := by decide +kernel
theorem dX11_two_17 : decode cX11_two 17 = .ok (.aload_n 0, 1) := by decide +kernel
theorem dX11_two_18 : decode cX11_two 18 = .ok (.getfield 13, 3) := by decide +kernel
theorem dX11_two_21 : decode cX11_two 21 = .ok (.imul, 1) := by decide +kernel
theorem dX11_two_22 : decode cX11_two 22 = .ok (.istore_n 2, 1) := by decide +kernel
theorem dX11_two_23 : decode cX11_two 23 = .ok (.aload_n 0, 1) := by decide +kernel
theorem dX11_two_24 : decode cX11_two 24 = .ok (.getfield 7, 3) := by decide +kernel
theorem dX11_two_27 : decode cX11_two 27 = .ok (.istore_n 3, 1) := by decide +kernel
theorem dX11_two_28 : decode cX11_two 28 = .ok (.iload_n 3, 1) := by decide +kernel
theorem dX11_two_29 : decode cX11_two 29 = .ok (.ifCond .le 57, 3) := by decide +kernel
theorem dX11_two_32 : decode cX11_two 32 = .ok (.aload_n 0, 1) := by decide +kernel
theorem dX11_two_33 : decode cX11_two 33 = .ok (.getfield 13, 3) := by decide +kernel
theorem dX11_two_36 : decode cX11_two 36 = .ok (.istore 4, 2) := by decide +kernel
theorem dX11_two_38 : decode cX11_two 38 = .ok (.iload 4, 2) := by decide +kernel
theorem dX11_two_40 : decode cX11_two 40 = .ok (.ifCond .le 40, 3) := by decide +kernel
theorem dX11_two_43 : decode cX11_two 43 = .ok (.iload_n 3, 1) := by decide +kernel
theorem dX11_two_44 : decode cX11_two 44 = .ok (.iload 4, 2) := by decide +kernel
theorem dX11_two_46 : decode cX11_two 46 = .ok (.imul, 1) := by decide +kernel
theorem dX11_two_47 : decode cX11_two 47 = .ok (.iload_n 2, 1) := by decide +kernel
theorem dX11_two_48 : decode cX11_two 48 = .ok (.if_icmp .gt 26, 3) := by decide +kernel
theorem dX11_two_51 : decode cX11_two 51 = .ok (.aload_n 0, 1) := by decide +kernel
theorem dX11_two_52 : decode cX11_two 52 = .ok (.iload_n 3, 1) := by decide +kernel
theorem dX11_two_53 : decode cX11_two 53 = .ok (.iload 4, 2) := by decide +kernel
theorem dX11_two_55 : decode cX11_two 55 = .ok (.invokevirtual 203, 3) := by decide +kernel
theorem dX11_two_58 : decode cX11_two 58 = .ok (.ifCond .eq 16, 3) := by decide +kernel
theorem dX11_two_61 : decode cX11_two 61 = .ok (.bipush 100, 2) := by decide +kernel
theorem dX11_two_63 : decode cX11_two 63 = .ok (.iload_n 3, 1) := by decide +kernel
theorem dX11_two_64 : decode cX11_two 64 = .ok (.imul, 1) := by decide +kernel
theorem dX11_two_65 : decode cX11_two 65 = .ok (.iload 4, 2) := by decide +kernel
theorem dX11_two_67 : decode cX11_two 67 = .ok (.iadd, 1) := by decide +kernel
theorem dX11_two_68 : decode cX11_two 68 = .ok (.istore_n 1, 1) := by decide +kernel
theorem dX11_two_69 : decode cX11_two 69 = .ok (.iload_n 3, 1) := by decide +kernel
theorem dX11_two_70 : decode cX11_two 70 = .ok (.iload 4, 2) := by decide +kernel
theorem dX11_two_72 : decode cX11_two 72 = .ok (.imul, 1) := by decide +kernel
theorem dX11_two_73 : decode cX11_two 73 = .ok (.istore_n 2, 1) := by decide +kernel
theorem dX11_two_74 : decode cX11_two 74 = .ok (.iinc 4 (-1), 3) := by decide +kernel
theorem dX11_two_77 : decode cX11_two 77 = .ok (.goto (-39), 3) := by decide +kernel
theorem dX11_two_80 : decode cX11_two 80 = .ok (.iinc 3 (-1), 3) := by decide +kernel
theorem dX11_two_83 : decode cX11_two 83 = .ok (.goto (-55), 3) := by decide +kernel
theorem dX11_two_86 : decode cX11_two 86 = .ok (.iload_n 1, 1) := by decide +kernel
theorem dX11_two_87 : decode cX11_two 87 = .ok (.ireturn, 1) := by decide +kernel
theorem dX11_isSlant_0 : decode cX11_isSlant 0 = .ok (.iconst 1, 1) := by decide +kernel
theorem dX11_isSlant_1 : decode cX11_isSlant 1 = .ok (.istore_n 3, 1) := by decide +kernel
theorem dX11_isSlant_2 : decode cX11_isSlant 2 = .ok (.iconst 0, 1) := by decide +kernel
theorem dX11_isSlant_3 : decode cX11_isSlant 3 = .ok (.istore 4, 2) := by decide +kernel
theorem dX11_isSlant_5 : decode cX11_isSlant 5 = .ok (.iload 4, 2) := by decide +kernel
theorem dX11_isSlant_7 : decode cX11_isSlant 7 = .ok (.sipush 225, 3) := by decide +kernel
theorem dX11_isSlant_10 : decode cX11_isSlant 10 = .ok (.if_icmp .ge 54, 3) := by decide +kernel
theorem dX11_isSlant_13 : decode cX11_isSlant 13 = .ok (.iload 4, 2) := by decide +kernel
theorem dX11_isSlant_15 : decode cX11_isSlant 15 = .ok (.bipush 15, 2) := by decide +kernel
theorem dX11_isSlant_17 : decode cX11_isSlant 17 = .ok (.idiv, 1) := by decide +kernel
theorem dX11_isSlant_18 : decode cX11_isSlant 18 = .ok (.iload 4, 2) := by decide +kernel
theorem dX11_isSlant_20 : decode cX11_isSlant 20 = .ok (.bipush 15, 2) := by decide +kernel
theorem dX11_isSlant_22 : decode cX11_isSlant 22 = .ok (.irem, 1) := by decide +kernel
theorem dX11_isSlant_23 : decode cX11_isSlant 23 = .ok (.bipush 7, 2) := by decide +kernel
theorem dX11_isSlant_25 : decode cX11_isSlant 25 = .ok (.isub, 1) := by decide +kernel
theorem dX11_isSlant_26 : decode cX11_isSlant 26 = .ok (.iload_n 1, 1) := by decide +kernel
theorem dX11_isSlant_27 : decode cX11_isSlant 27 = .ok (.imul, 1) := by decide +kernel
theorem dX11_isSlant_28 : decode cX11_isSlant 28 = .ok (.iadd, 1) := by decide +kernel
theorem dX11_isSlant_29 : decode cX11_isSlant 29 = .ok (.istore 5, 2) := by decide +kernel
theorem dX11_isSlant_31 : decode cX11_isSlant 31 = .ok (.iload_n 3, 1) := by decide +kernel
theorem dX11_isSlant_32 : decode cX11_isSlant 32 = .ok (.ifCond .eq 24, 3) := by decide +kernel
theorem dX11_isSlant_35 : decode cX11_isSlant 35 = .ok (.aload_n 0, 1) := by decide +kernel
theorem dX11_isSlant_36 : decode cX11_isSlant 36 = .ok (.getfield 78, 3) := by decide +kernel
theorem dX11_isSlant_39 : decode cX11_isSlant 39 = .ok (.iload 4, 2) := by decide +kernel
theorem dX11_isSlant_41 : decode cX11_isSlant 41 = .ok (.baload, 1) := by decide +kernel
theorem dX11_isSlant_42 : decode cX11_isSlant 42 = .ok (.ifCond .eq 10, 3) := by decide +kernel
theorem dX11_isSlant_45 : decode cX11_isSlant 45 = .ok (.iload 5, 2) := by decide +kernel
theorem dX11_isSlant_47 : decode cX11_isSlant 47 = .ok (.iload_n 2, 1) := by decide +kernel
theorem dX11_isSlant_48 : decode cX11_isSlant 48 = .ok (.irem, 1) := by decide +kernel
theorem dX11_isSlant_49 : decode cX11_isSlant 49 = .ok (.ifCond .eq 7, 3) := by decide +kernel
theorem dX11_isSlant_52 : decode cX11_isSlant 52 = .ok (.iconst 1, 1) := by decide +kernel
theorem dX11_isSlant_53 : decode cX11_isSlant 53 = .ok (.goto 4, 3) := by decide +kernel
theorem dX11_isSlant_56 : decode cX11_isSlant 56 = .ok (.iconst 0, 1) := by decide +kernel
theorem dX11_isSlant_57 : decode cX11_isSlant 57 = .ok (.istore_n 3, 1) := by decide +kernel
theorem dX11_isSlant_58 : decode cX11_isSlant 58 = .ok (.iinc 4 1, 3) := by decide +kernel
theorem dX11_isSlant_61 : decode cX11_isSlant 61 = .ok (.goto (-56), 3) := by decide +kernel
theorem dX11_isSlant_64 : decode cX11_isSlant 64 = .ok (.iload_n 3, 1) := by decide +kernel
theorem dX11_isSlant_65 : decode cX11_isSlant 65 = .ok (.ireturn, 1) := by decide +kernel
theorem dX11_slant_0 : decode cX11_slant 0 = .ok (.bipush 10, 2) := by decide +kernel
theorem dX11_slant_2 : decode cX11_slant 2 = .ok (.istore_n 1, 1) := by decide +kernel
theorem dX11_slant_3 : decode cX11_slant 3 = .ok (.aload_n 0, 1) := by decide +kernel
theorem dX11_slant_4 : decode cX11_slant 4 = .ok (.iload_n 1, 1) := by decide +kernel
theorem dX11_slant_5 : decode cX11_slant 5 = .ok (.bipush 10, 2) := by decide +kernel
theorem dX11_slant_7 : decode cX11_slant 7 = .ok (.irem, 1) := by decide +kernel
theorem dX11_slant_8 : decode cX11_slant 8 = .ok (.iload_n 1, 1) := by decide +kernel
theorem dX11_slant_9 : decode cX11_slant 9 = .ok (.bipush 10, 2) := by decide +kernel
theorem dX11_slant_11 : decode cX11_slant 11 = .ok (.idiv, 1) := by decide +kernel
theorem dX11_slant_12 : decode cX11_slant 12 = .ok (.invokevirtual 206, 3) := by decide +kernel
theorem dX11_slant_15 : decode cX11_slant 15 = .ok (.ifCond .ne 9, 3) := by decide +kernel
theorem dX11_slant_18 : decode cX11_slant 18 = .ok (.iinc 1 1, 3) := by decide +kernel
theorem dX11_slant_21 : decode cX11_slant 21 = .ok (.goto (-18), 3) := by decide +kernel
theorem dX11_slant_24 : decode cX11_slant 24 = .ok (.iload_n 1, 1) := by decide +kernel
theorem dX11_slant_25 : decode cX11_slant 25 = .ok (.ireturn, 1) := by decide +kernel
theorem dX11_seeks_0 : decode cX11_seeks 0 = .ok (.aload_n 0, 1) := by decide +kernel
theorem dX11_seeks_1 : decode cX11_seeks 1 = .ok (.invokevirtual 159, 3) := by decide +kernel
theorem dX11_seeks_4 : decode cX11_seeks 4 = .ok (.aload_n 0, 1) := by decide +kernel
theorem dX11_seeks_5 : decode cX11_seeks 5 = .ok (.iload_n 1, 1) := by decide +kernel
theorem dX11_seeks_6 : decode cX11_seeks 6 = .ok (.invokevirtual 181, 3) := by decide +kernel
theorem dX11_seeks_9 : decode cX11_seeks 9 = .ok (.return_, 1) := by decide +kernel
theorem dX11_leastRest_0 : decode cX11_leastRest 0 = .ok (.aload_n 0, 1) := by decide +kernel
theorem dX11_leastRest_1 : decode cX11_leastRest 1 = .ok (.aload_n 0, 1) := by decide +kernel
theorem dX11_leastRest_2 : decode cX11_leastRest 2 = .ok (.iload_n 1, 1) := by decide +kernel
theorem dX11_leastRest_3 : decode cX11_leastRest 3 = .ok (.invokevirtual 94, 3) := by decide +kernel
theorem dX11_leastRest_6 : decode cX11_leastRest 6 = .ok (.ifCond .eq 7, 3) := by decide +kernel
theorem dX11_leastRest_9 : decode cX11_leastRest 9 = .ok (.iconst 0, 1) := by decide +kernel
theorem dX11_leastRest_10 : decode cX11_leastRest 10 = .ok (.goto 4, 3) := by decide +kernel
theorem dX11_leastRest_13 : decode cX11_leastRest 13 = .ok (.iconst 1, 1) := by decide +kernel
theorem dX11_leastRest_14 : decode cX11_leastRest 14 = .ok (.invokevirtual 102, 3) := by decide +kernel
theorem dX11_leastRest_17 : decode cX11_leastRest 17 = .ok (.ifCond .eq 5, 3) := by decide +kernel
theorem dX11_leastRest_20 : decode cX11_leastRest 20 = .ok (.iconst 0, 1) := by decide +kernel
theorem dX11_leastRest_21 : decode cX11_leastRest 21 = .ok (.ireturn, 1) := by decide +kernel
theorem dX11_leastRest_22 : decode cX11_leastRest 22 = .ok (.aload_n 0, 1) := by decide +kernel
theorem dX11_leastRest_23 : decode cX11_leastRest 23 = .ok (.iload_n 1, 1) := by decide +kernel
theorem dX11_leastRest_24 : decode cX11_leastRest 24 = .ok (.invokevirtual 209, 3) := by decide +kernel
theorem dX11_leastRest_27 : decode cX11_leastRest 27 = .ok (.aload_n 0, 1) := by decide +kernel
theorem dX11_leastRest_28 : decode cX11_leastRest 28 = .ok (.invokevirtual 185, 3) := by decide +kernel
theorem dX11_leastRest_31 : decode cX11_leastRest 31 = .ok (.ireturn, 1) := by decide +kernel
theorem dX11_leastRestByDifferences_0 : decode cX11_leastRestByDifferences 0 = .ok (.aload_n 0, 1) := by decide +kernel
theorem dX11_leastRestByDifferences_1 : decode cX11_leastRestByDifferences 1 = .ok (.iload_n 1, 1) := by decide +kernel
theorem dX11_leastRestByDifferences_2 : decode cX11_leastRestByDifferences 2 = .ok (.invokevirtual 212, 3) := by decide +kernel
theorem dX11_leastRestByDifferences_5 : decode cX11_leastRestByDifferences 5 = .ok (.ireturn, 1) := by decide +kernel
theorem dX11_leastRowRest_0 : decode cX11_leastRowRest 0 = .ok (.aload_n 0, 1) := by decide +kernel
theorem dX11_leastRowRest_1 : decode cX11_leastRowRest 1 = .ok (.aload_n 0, 1) := by decide +kernel
theorem dX11_leastRowRest_2 : decode cX11_leastRowRest 2 = .ok (.iload_n 1, 1) := by decide +kernel
theorem dX11_leastRowRest_3 : decode cX11_leastRowRest 3 = .ok (.invokevirtual 94, 3) := by decide +kernel
theorem dX11_leastRowRest_6 : decode cX11_leastRowRest 6 = .ok (.ifCond .eq 7, 3) := by decide +kernel
theorem dX11_leastRowRest_9 : decode cX11_leastRowRest 9 = .ok (.iconst 0, 1) := by decide +kernel
theorem dX11_leastRowRest_10 : decode cX11_leastRowRest 10 = .ok (.goto 4, 3) := by decide +kernel
theorem dX11_leastRowRest_13 : decode cX11_leastRowRest 13 = .ok (.iconst 1, 1) := by decide +kernel
theorem dX11_leastRowRest_14 : decode cX11_leastRowRest 14 = .ok (.invokevirtual 102, 3) := by decide +kernel
theorem dX11_leastRowRest_17 : decode cX11_leastRowRest 17 = .ok (.ifCond .eq 5, 3) := by decide +kernel
theorem dX11_leastRowRest_20 : decode cX11_leastRowRest 20 = .ok (.iconst 0, 1) := by decide +kernel
theorem dX11_leastRowRest_21 : decode cX11_leastRowRest 21 = .ok (.ireturn, 1) := by decide +kernel
theorem dX11_leastRowRest_22 : decode cX11_leastRowRest 22 = .ok (.aload_n 0, 1) := by decide +kernel
theorem dX11_leastRowRest_23 : decode cX11_leastRowRest 23 = .ok (.iload_n 1, 1) := by decide +kernel
theorem dX11_leastRowRest_24 : decode cX11_leastRowRest 24 = .ok (.invokevirtual 209, 3) := by decide +kernel
theorem dX11_leastRowRest_27 : decode cX11_leastRowRest 27 = .ok (.aload_n 0, 1) := by decide +kernel
theorem dX11_leastRowRest_28 : decode cX11_leastRowRest 28 = .ok (.invokevirtual 188, 3) := by decide +kernel
theorem dX11_leastRowRest_31 : decode cX11_leastRowRest 31 = .ok (.bipush 100, 2) := by decide +kernel
theorem dX11_leastRowRest_33 : decode cX11_leastRowRest 33 = .ok (.idiv, 1) := by decide +kernel
theorem dX11_leastRowRest_34 : decode cX11_leastRowRest 34 = .ok (.ireturn, 1) := by decide +kernel
theorem dX11_leastColumnRest_0 : decode cX11_leastColumnRest 0 = .ok (.aload_n 0, 1) := by decide +kernel
theorem dX11_leastColumnRest_1 : decode cX11_leastColumnRest 1 = .ok (.aload_n 0, 1) := by decide +kernel
theorem dX11_leastColumnRest_2 : decode cX11_leastColumnRest 2 = .ok (.iload_n 1, 1) := by decide +kernel
theorem dX11_leastColumnRest_3 : decode cX11_leastColumnRest 3 = .ok (.invokevirtual 94, 3) := by decide +kernel
theorem dX11_leastColumnRest_6 : decode cX11_leastColumnRest 6 = .ok (.ifCond .eq 7, 3) := by decide +kernel
theorem dX11_leastColumnRest_9 : decode cX11_leastColumnRest 9 = .ok (.iconst 0, 1) := by decide +kernel
theorem dX11_leastColumnRest_10 : decode cX11_leastColumnRest 10 = .ok (.goto 4, 3) := by decide +kernel
theorem dX11_leastColumnRest_13 : decode cX11_leastColumnRest 13 = .ok (.iconst 1, 1) := by decide +kernel
theorem dX11_leastColumnRest_14 : decode cX11_leastColumnRest 14 = .ok (.invokevirtual 102, 3) := by decide +kernel
theorem dX11_leastColumnRest_17 : decode cX11_leastColumnRest 17 = .ok (.ifCond .eq 5, 3) := by decide +kernel
theorem dX11_leastColumnRest_20 : decode cX11_leastColumnRest 20 = .ok (.iconst 0, 1) := by decide +kernel
theorem dX11_leastColumnRest_21 : decode cX11_leastColumnRest 21 = .ok (.ireturn, 1) := by decide +kernel
theorem dX11_leastColumnRest_22 : decode cX11_leastColumnRest 22 = .ok (.aload_n 0, 1) := by decide +kernel
theorem dX11_leastColumnRest_23 : decode cX11_leastColumnRest 23 = .ok (.iload_n 1, 1) := by decide +kernel
theorem dX11_leastColumnRest_24 : decode cX11_leastColumnRest 24 = .ok (.invokevirtual 209, 3) := by decide +kernel
theorem dX11_leastColumnRest_27 : decode cX11_leastColumnRest 27 = .ok (.aload_n 0, 1) := by decide +kernel
theorem dX11_leastColumnRest_28 : decode cX11_leastColumnRest 28 = .ok (.invokevirtual 188, 3) := by decide +kernel
theorem dX11_leastColumnRest_31 : decode cX11_leastColumnRest 31 = .ok (.bipush 100, 2) := by decide +kernel
theorem dX11_leastColumnRest_33 : decode cX11_leastColumnRest 33 = .ok (.irem, 1) := by decide +kernel
theorem dX11_leastColumnRest_34 : decode cX11_leastColumnRest 34 = .ok (.ireturn, 1) := by decide +kernel
theorem dX11_leastSlantModulus_0 : decode cX11_leastSlantModulus 0 = .ok (.aload_n 0, 1) := by decide +kernel
theorem dX11_leastSlantModulus_1 : decode cX11_leastSlantModulus 1 = .ok (.aload_n 0, 1) := by decide +kernel
theorem dX11_leastSlantModulus_2 : decode cX11_leastSlantModulus 2 = .ok (.iload_n 1, 1) := by decide +kernel
theorem dX11_leastSlantModulus_3 : decode cX11_leastSlantModulus 3 = .ok (.invokevirtual 94, 3) := by decide +kernel
theorem dX11_leastSlantModulus_6 : decode cX11_leastSlantModulus 6 = .ok (.ifCond .eq 7, 3) := by decide +kernel
theorem dX11_leastSlantModulus_9 : decode cX11_leastSlantModulus 9 = .ok (.iconst 0, 1) := by decide +kernel
theorem dX11_leastSlantModulus_10 : decode cX11_leastSlantModulus 10 = .ok (.goto 4, 3) := by decide +kernel
theorem dX11_leastSlantModulus_13 : decode cX11_leastSlantModulus 13 = .ok (.iconst 1, 1) := by decide +kernel
theorem dX11_leastSlantModulus_14 : decode cX11_leastSlantModulus 14 = .ok (.invokevirtual 102, 3) := by decide +kernel
theorem dX11_leastSlantModulus_17 : decode cX11_leastSlantModulus 17 = .ok (.ifCond .eq 5, 3) := by decide +kernel
theorem dX11_leastSlantModulus_20 : decode cX11_leastSlantModulus 20 = .ok (.iconst 0, 1) := by decide +kernel
theorem dX11_leastSlantModulus_21 : decode cX11_leastSlantModulus 21 = .ok (.ireturn, 1) := by decide +kernel
theorem dX11_leastSlantModulus_22 : decode cX11_leastSlantModulus 22 = .ok (.aload_n 0, 1) := by decide +kernel
theorem dX11_leastSlantModulus_23 : decode cX11_leastSlantModulus 23 = .ok (.iload_n 1, 1) := by decide +kernel
theorem dX11_leastSlantModulus_24 : decode cX11_leastSlantModulus 24 = .ok (.invokevirtual 209, 3) := by decide +kernel
theorem dX11_leastSlantModulus_27 : decode cX11_leastSlantModulus 27 = .ok (.aload_n 0, 1) := by decide +kernel
theorem dX11_leastSlantModulus_28 : decode cX11_leastSlantModulus 28 = .ok (.invokevirtual 191, 3) := by decide +kernel
theorem dX11_leastSlantModulus_31 : decode cX11_leastSlantModulus 31 = .ok (.bipush 10, 2) := by decide +kernel
theorem dX11_leastSlantModulus_33 : decode cX11_leastSlantModulus 33 = .ok (.idiv, 1) := by decide +kernel
theorem dX11_leastSlantModulus_34 : decode cX11_leastSlantModulus 34 = .ok (.ireturn, 1) := by decide +kernel
theorem dX11_leastSlant_0 : decode cX11_leastSlant 0 = .ok (.aload_n 0, 1) := by decide +kernel
theorem dX11_leastSlant_1 : decode cX11_leastSlant 1 = .ok (.aload_n 0, 1) := by decide +kernel
theorem dX11_leastSlant_2 : decode cX11_leastSlant 2 = .ok (.iload_n 1, 1) := by decide +kernel
theorem dX11_leastSlant_3 : decode cX11_leastSlant 3 = .ok (.invokevirtual 94, 3) := by decide +kernel
theorem dX11_leastSlant_6 : decode cX11_leastSlant 6 = .ok (.ifCond .eq 7, 3) := by decide +kernel
theorem dX11_leastSlant_9 : decode cX11_leastSlant 9 = .ok (.iconst 0, 1) := by decide +kernel
theorem dX11_leastSlant_10 : decode cX11_leastSlant 10 = .ok (.goto 4, 3) := by decide +kernel
theorem dX11_leastSlant_13 : decode cX11_leastSlant 13 = .ok (.iconst 1, 1) := by decide +kernel
theorem dX11_leastSlant_14 : decode cX11_leastSlant 14 = .ok (.invokevirtual 102, 3) := by decide +kernel
theorem dX11_leastSlant_17 : decode cX11_leastSlant 17 = .ok (.ifCond .eq 5, 3) := by decide +kernel
theorem dX11_leastSlant_20 : decode cX11_leastSlant 20 = .ok (.iconst 0, 1) := by decide +kernel
theorem dX11_leastSlant_21 : decode cX11_leastSlant 21 = .ok (.ireturn, 1) := by decide +kernel
theorem dX11_leastSlant_22 : decode cX11_leastSlant 22 = .ok (.aload_n 0, 1) := by decide +kernel
theorem dX11_leastSlant_23 : decode cX11_leastSlant 23 = .ok (.iload_n 1, 1) := by decide +kernel
theorem dX11_leastSlant_24 : decode cX11_leastSlant 24 = .ok (.invokevirtual 209, 3) := by decide +kernel
theorem dX11_leastSlant_27 : decode cX11_leastSlant 27 = .ok (.aload_n 0, 1) := by decide +kernel
theorem dX11_leastSlant_28 : decode cX11_leastSlant 28 = .ok (.invokevirtual 191, 3) := by decide +kernel
theorem dX11_leastSlant_31 : decode cX11_leastSlant 31 = .ok (.bipush 10, 2) := by decide +kernel
theorem dX11_leastSlant_33 : decode cX11_leastSlant 33 = .ok (.irem, 1) := by decide +kernel
theorem dX11_leastSlant_34 : decode cX11_leastSlant 34 = .ok (.ireturn, 1) := by decide +kernel
theorem dX11_distances_0 : decode cX11_distances 0 = .ok (.iconst 0, 1) := by decide +kernel
theorem dX11_distances_1 : decode cX11_distances 1 = .ok (.istore_n 3, 1) := by decide +kernel
theorem dX11_distances_2 : decode cX11_distances 2 = .ok (.iload_n 3, 1) := by decide +kernel
theorem dX11_distances_3 : decode cX11_distances 3 = .ok (.aload_n 0, 1) := by decide +kernel
theorem dX11_distances_4 : decode cX11_distances 4 = .ok (.getfield 7, 3) := by decide +kernel
theorem dX11_distances_7 : decode cX11_distances 7 = .ok (.aload_n 0, 1) := by decide +kernel
theorem dX11_distances_8 : decode cX11_distances 8 = .ok (.getfield 13, 3) := by decide +kernel
theorem dX11_distances_11 : decode cX11_distances 11 = .ok (.imul, 1) := by decide +kernel
theorem dX11_distances_12 : decode cX11_distances 12 = .ok (.if_icmp .ge 78, 3) := by decide +kernel
theorem dX11_distances_15 : decode cX11_distances 15 = .ok (.iconst 0, 1) := by decide +kernel
theorem dX11_distances_16 : decode cX11_distances 16 = .ok (.istore 4, 2) := by decide +kernel
theorem dX11_distances_18 : decode cX11_distances 18 = .ok (.iload 4, 2) := by decide +kernel
theorem dX11_distances_20 : decode cX11_distances 20 = .ok (.aload_n 0, 1) := by decide +kernel
theorem dX11_distances_21 : decode cX11_distances 21 = .ok (.getfield 7, 3) := by decide +kernel
theorem dX11_distances_24 : decode cX11_distances 24 = .ok (.aload_n 0, 1) := by decide +kernel
theorem dX11_distances_25 : decode cX11_distances 25 = .ok (.getfield 13, 3) := by decide +kernel
theorem dX11_distances_28 : decode cX11_distances 28 = .ok (.imul, 1) := by decide +kernel
theorem dX11_distances_29 : decode cX11_distances 29 = .ok (.if_icmp .ge 55, 3) := by decide +kernel
theorem dX11_distances_32 : decode cX11_distances 32 = .ok (.aload_n 0, 1) := by decide +kernel
theorem dX11_distances_33 : decode cX11_distances 33 = .ok (.bipush 64, 2) := by decide +kernel
theorem dX11_distances_35 : decode cX11_distances 35 = .ok (.iload_n 1, 1) := by decide +kernel
theorem dX11_distances_36 : decode cX11_distances 36 = .ok (.imul, 1) := by decide +kernel
theorem dX11_distances_37 : decode cX11_distances 37 = .ok (.iload_n 3, 1) := by decide +kernel
theorem dX11_distances_38 : decode cX11_distances 38 = .ok (.iadd, 1) := by decide +kernel
theorem dX11_distances_39 : decode cX11_distances 39 = .ok (.bipush 64, 2) := by decide +kernel
theorem dX11_distances_41 : decode cX11_distances 41 = .ok (.iload_n 2, 1) := by decide +kernel
theorem dX11_distances_42 : decode cX11_distances 42 = .ok (.imul, 1) := by decide +kernel
theorem dX11_distances_43 : decode cX11_distances 43 = .ok (.iload 4, 2) := by decide +kernel
theorem dX11_distances_45 : decode cX11_distances 45 = .ok (.iadd, 1) := by decide +kernel
theorem dX11_distances_46 : decode cX11_distances 46 = .ok (.invokevirtual 165, 3) := by decide +kernel
theorem dX11_distances_49 : decode cX11_distances 49 = .ok (.istore 5, 2) := by decide +kernel
theorem dX11_distances_51 : decode cX11_distances 51 = .ok (.aload_n 0, 1) := by decide +kernel
theorem dX11_distances_52 : decode cX11_distances 52 = .ok (.getfield 81, 3) := by decide +kernel
theorem dX11_distances_55 : decode cX11_distances 55 = .ok (.iload_n 3, 1) := by decide +kernel
theorem dX11_distances_56 : decode cX11_distances 56 = .ok (.iload 4, 2) := by decide +kernel
theorem dX11_distances_58 : decode cX11_distances 58 = .ok (.if_icmp .ge 10, 3) := by decide +kernel
theorem dX11_distances_61 : decode cX11_distances 61 = .ok (.iload 4, 2) := by decide +kernel
theorem dX11_distances_63 : decode cX11_distances 63 = .ok (.iload_n 3, 1) := by decide +kernel
theorem dX11_distances_64 : decode cX11_distances 64 = .ok (.isub, 1) := by decide +kernel
theorem dX11_distances_65 : decode cX11_distances 65 = .ok (.goto 7, 3) := by decide +kernel
theorem dX11_distances_68 : decode cX11_distances 68 = .ok (.iload_n 3, 1) := by decide +kernel
theorem dX11_distances_69 : decode cX11_distances 69 = .ok (.iload 4, 2) := by decide +kernel
theorem dX11_distances_71 : decode cX11_distances 71 = .ok (.isub, 1) := by decide +kernel
theorem dX11_distances_72 : decode cX11_distances 72 = .ok (.dup2, 1) := by decide +kernel
theorem dX11_distances_73 : decode cX11_distances 73 = .ok (.baload, 1) := by decide +kernel
theorem dX11_distances_74 : decode cX11_distances 74 = .ok (.iload 5, 2) := by decide +kernel
theorem dX11_distances_76 : decode cX11_distances 76 = .ok (.ior, 1) := by decide +kernel
theorem dX11_distances_77 : decode cX11_distances 77 = .ok (.bastore, 1) := by decide +kernel
theorem dX11_distances_78 : decode cX11_distances 78 = .ok (.iinc 4 1, 3) := by decide +kernel
theorem dX11_distances_81 : decode cX11_distances 81 = .ok (.goto (-63), 3) := by decide +kernel
theorem dX11_distances_84 : decode cX11_distances 84 = .ok (.iinc 3 1, 3) := by decide +kernel
theorem dX11_distances_87 : decode cX11_distances 87 = .ok (.goto (-85), 3) := by decide +kernel
theorem dX11_distances_90 : decode cX11_distances 90 = .ok (.return_, 1) := by decide +kernel
theorem dX11_leastJointRest_0 : decode cX11_leastJointRest 0 = .ok (.aload_n 0, 1) := by decide +kernel
theorem dX11_leastJointRest_1 : decode cX11_leastJointRest 1 = .ok (.aload_n 0, 1) := by decide +kernel
theorem dX11_leastJointRest_2 : decode cX11_leastJointRest 2 = .ok (.iload_n 1, 1) := by decide +kernel
theorem dX11_leastJointRest_3 : decode cX11_leastJointRest 3 = .ok (.invokevirtual 94, 3) := by decide +kernel
theorem dX11_leastJointRest_6 : decode cX11_leastJointRest 6 = .ok (.ifCond .eq 15, 3) := by decide +kernel
theorem dX11_leastJointRest_9 : decode cX11_leastJointRest 9 = .ok (.aload_n 0, 1) := by decide +kernel
theorem dX11_leastJointRest_10 : decode cX11_leastJointRest 10 = .ok (.iload_n 2, 1) := by decide +kernel
theorem dX11_leastJointRest_11 : decode cX11_leastJointRest 11 = .ok (.invokevirtual 94, 3) := by decide +kernel
theorem dX11_leastJointRest_14 : decode cX11_leastJointRest 14 = .ok (.ifCond .eq 7, 3) := by decide +kernel
theorem dX11_leastJointRest_17 : decode cX11_leastJointRest 17 = .ok (.iconst 0, 1) := by decide +kernel
theorem dX11_leastJointRest_18 : decode cX11_leastJointRest 18 = .ok (.goto 4, 3) := by decide +kernel
theorem dX11_leastJointRest_21 : decode cX11_leastJointRest 21 = .ok (.iconst 1, 1) := by decide +kernel
theorem dX11_leastJointRest_22 : decode cX11_leastJointRest 22 = .ok (.invokevirtual 102, 3) := by decide +kernel
theorem dX11_leastJointRest_25 : decode cX11_leastJointRest 25 = .ok (.ifCond .eq 5, 3) := by decide +kernel
theorem dX11_leastJointRest_28 : decode cX11_leastJointRest 28 = .ok (.iconst 0, 1) := by decide +kernel
theorem dX11_leastJointRest_29 : decode cX11_leastJointRest 29 = .ok (.ireturn, 1) := by decide +kernel
theorem dX11_leastJointRest_30 : decode cX11_leastJointRest 30 = .ok (.aload_n 0, 1) := by decide +kernel
theorem dX11_leastJointRest_31 : decode cX11_leastJointRest 31 = .ok (.invokevirtual 159, 3) := by decide +kernel
theorem dX11_leastJointRest_34 : decode cX11_leastJointRest 34 = .ok (.iconst 0, 1) := by decide +kernel
theorem dX11_leastJointRest_35 : decode cX11_leastJointRest 35 = .ok (.istore_n 3, 1) := by decide +kernel
theorem dX11_leastJointRest_36 : decode cX11_leastJointRest 36 = .ok (.iload_n 3, 1) := by decide +kernel
theorem dX11_leastJointRest_37 : decode cX11_leastJointRest 37 = .ok (.bipush 64, 2) := by decide +kernel
theorem dX11_leastJointRest_39 : decode cX11_leastJointRest 39 = .ok (.if_icmp .ge 16, 3) := by decide +kernel
theorem dX11_leastJointRest_42 : decode cX11_leastJointRest 42 = .ok (.aload_n 0, 1) := by decide +kernel
theorem dX11_leastJointRest_43 : decode cX11_leastJointRest 43 = .ok (.getfield 81, 3) := by decide +kernel
theorem dX11_leastJointRest_46 : decode cX11_leastJointRest 46 = .ok (.iload_n 3, 1) := by decide +kernel
theorem dX11_leastJointRest_47 : decode cX11_leastJointRest 47 = .ok (.iconst 0, 1) := by decide +kernel
theorem dX11_leastJointRest_48 : decode cX11_leastJointRest 48 = .ok (.bastore, 1) := by decide +kernel
theorem dX11_leastJointRest_49 : decode cX11_leastJointRest 49 = .ok (.iinc 3 1, 3) := by decide +kernel
theorem dX11_leastJointRest_52 : decode cX11_leastJointRest 52 = .ok (.goto (-16), 3) := by decide +kernel
theorem dX11_leastJointRest_55 : decode cX11_leastJointRest 55 = .ok (.aload_n 0, 1) := by decide +kernel
theorem dX11_leastJointRest_56 : decode cX11_leastJointRest 56 = .ok (.iload_n 1, 1) := by decide +kernel
theorem dX11_leastJointRest_57 : decode cX11_leastJointRest 57 = .ok (.iload_n 1, 1) := by decide +kernel
theorem dX11_leastJointRest_58 : decode cX11_leastJointRest 58 = .ok (.invokevirtual 215, 3) := by decide +kernel
theorem dX11_leastJointRest_61 : decode cX11_leastJointRest 61 = .ok (.aload_n 0, 1) := by decide +kernel
theorem dX11_leastJointRest_62 : decode cX11_leastJointRest 62 = .ok (.iload_n 2, 1) := by decide +kernel
theorem dX11_leastJointRest_63 : decode cX11_leastJointRest 63 = .ok (.iload_n 2, 1) := by decide +kernel
theorem dX11_leastJointRest_64 : decode cX11_leastJointRest 64 = .ok (.invokevirtual 215, 3) := by decide +kernel
theorem dX11_leastJointRest_67 : decode cX11_leastJointRest 67 = .ok (.aload_n 0, 1) := by decide +kernel
theorem dX11_leastJointRest_68 : decode cX11_leastJointRest 68 = .ok (.iload_n 1, 1) := by decide +kernel
theorem dX11_leastJointRest_69 : decode cX11_leastJointRest 69 = .ok (.iload_n 2, 1) := by decide +kernel
theorem dX11_leastJointRest_70 : decode cX11_leastJointRest 70 = .ok (.invokevirtual 215, 3) := by decide +kernel
theorem dX11_leastJointRest_73 : decode cX11_leastJointRest 73 = .ok (.iconst 1, 1) := by decide +kernel
theorem dX11_leastJointRest_74 : decode cX11_leastJointRest 74 = .ok (.istore_n 3, 1) := by decide +kernel
theorem dX11_leastJointRest_75 : decode cX11_leastJointRest 75 = .ok (.iload_n 3, 1) := by decide +kernel
theorem dX11_leastJointRest_76 : decode cX11_leastJointRest 76 = .ok (.bipush 99, 2) := by decide +kernel
theorem dX11_leastJointRest_78 : decode cX11_leastJointRest 78 = .ok (.if_icmp .gt 17, 3) := by decide +kernel
theorem dX11_leastJointRest_81 : decode cX11_leastJointRest 81 = .ok (.aload_n 0, 1) := by decide +kernel
theorem dX11_leastJointRest_82 : decode cX11_leastJointRest 82 = .ok (.iload_n 3, 1) := by decide +kernel
theorem dX11_leastJointRest_83 : decode cX11_leastJointRest 83 = .ok (.invokevirtual 218, 3) := by decide +kernel
theorem dX11_leastJointRest_86 : decode cX11_leastJointRest 86 = .ok (.ifCond .eq 9, 3) := by decide +kernel
theorem dX11_leastJointRest_89 : decode cX11_leastJointRest 89 = .ok (.iinc 3 1, 3) := by decide +kernel
theorem dX11_leastJointRest_92 : decode cX11_leastJointRest 92 = .ok (.goto (-17), 3) := by decide +kernel
theorem dX11_leastJointRest_95 : decode cX11_leastJointRest 95 = .ok (.iload_n 3, 1) := by decide +kernel
theorem dX11_leastJointRest_96 : decode cX11_leastJointRest 96 = .ok (.bipush 99, 2) := by decide +kernel
theorem dX11_leastJointRest_98 : decode cX11_leastJointRest 98 = .ok (.if_icmp .le 7, 3) := by decide +kernel
theorem dX11_leastJointRest_101 : decode cX11_leastJointRest 101 = .ok (.iconst (-1), 1) := by decide +kernel
theorem dX11_leastJointRest_102 : decode cX11_leastJointRest 102 = .ok (.goto 4, 3) := by decide +kernel
theorem dX11_leastJointRest_105 : decode cX11_leastJointRest 105 = .ok (.iload_n 3, 1) := by decide +kernel
theorem dX11_leastJointRest_106 : decode cX11_leastJointRest 106 = .ok (.ireturn, 1) := by decide +kernel
theorem dX11_divides_0 : decode cX11_divides 0 = .ok (.iconst 0, 1) := by decide +kernel
theorem dX11_divides_1 : decode cX11_divides 1 = .ok (.istore_n 2, 1) := by decide +kernel
theorem dX11_divides_2 : decode cX11_divides 2 = .ok (.iconst 0, 1) := by decide +kernel
theorem dX11_divides_3 : decode cX11_divides 3 = .ok (.istore_n 3, 1) := by decide +kernel
theorem dX11_divides_4 : decode cX11_divides 4 = .ok (.iload_n 3, 1) := by decide +kernel
theorem dX11_divides_5 : decode cX11_divides 5 = .ok (.bipush 64, 2) := by decide +kernel
theorem dX11_divides_7 : decode cX11_divides 7 = .ok (.if_icmp .ge 34, 3) := by decide +kernel
theorem dX11_divides_10 : decode cX11_divides 10 = .ok (.iload_n 2, 1) := by decide +kernel
theorem dX11_divides_11 : decode cX11_divides 11 = .ok (.ifCond .ne 18, 3) := by decide +kernel
theorem dX11_divides_14 : decode cX11_divides 14 = .ok (.aload_n 0, 1) := by decide +kernel
theorem dX11_divides_15 : decode cX11_divides 15 = .ok (.getfield 81, 3) := by decide +kernel
theorem dX11_divides_18 : decode cX11_divides 18 = .ok (.iload_n 3, 1) := by decide +kernel
theorem dX11_divides_19 : decode cX11_divides 19 = .ok (.baload, 1) := by decide +kernel
theorem dX11_divides_20 : decode cX11_divides 20 = .ok (.ifCond .eq 13, 3) := by decide +kernel
theorem dX11_divides_23 : decode cX11_divides 23 = .ok (.iload_n 3, 1) := by decide +kernel
theorem dX11_divides_24 : decode cX11_divides 24 = .ok (.iload_n 1, 1) := by decide +kernel
theorem dX11_divides_25 : decode cX11_divides 25 = .ok (.irem, 1) := by decide +kernel
theorem dX11_divides_26 : decode cX11_divides 26 = .ok (.ifCond .ne 7, 3) := by decide +kernel
theorem dX11_divides_29 : decode cX11_divides 29 = .ok (.iconst 1, 1) := by decide +kernel
theorem dX11_divides_30 : decode cX11_divides 30 = .ok (.goto 4, 3) := by decide +kernel
theorem dX11_divides_33 : decode cX11_divides 33 = .ok (.iconst 0, 1) := by decide +kernel
theorem dX11_divides_34 : decode cX11_divides 34 = .ok (.istore_n 2, 1) := by decide +kernel
theorem dX11_divides_35 : decode cX11_divides 35 = .ok (.iinc 3 1, 3) := by decide +kernel
theorem dX11_divides_38 : decode cX11_divides 38 = .ok (.goto (-34), 3) := by decide +kernel
theorem dX11_divides_41 : decode cX11_divides 41 = .ok (.iload_n 2, 1) := by decide +kernel
theorem dX11_divides_42 : decode cX11_divides 42 = .ok (.ireturn, 1) := by decide +kernel
theorem dX11_border_0 : decode cX11_border 0 = .ok (.iconst 5, 1) := by decide +kernel
theorem dX11_border_1 : decode cX11_border 1 = .ok (.iload_n 0, 1) := by decide +kernel
theorem dX11_border_2 : decode cX11_border 2 = .ok (.imul, 1) := by decide +kernel
theorem dX11_border_3 : decode cX11_border 3 = .ok (.bipush 7, 2) := by decide +kernel
theorem dX11_border_5 : decode cX11_border 5 = .ok (.iload_n 1, 1) := by decide +kernel
theorem dX11_border_6 : decode cX11_border 6 = .ok (.imul, 1) := by decide +kernel
theorem dX11_border_7 : decode cX11_border 7 = .ok (.iadd, 1) := by decide +kernel
theorem dX11_border_8 : decode cX11_border 8 = .ok (.iload_n 2, 1) := by decide +kernel
theorem dX11_border_9 : decode cX11_border 9 = .ok (.iadd, 1) := by decide +kernel
theorem dX11_border_10 : decode cX11_border 10 = .ok (.bipush 100, 2) := by decide +kernel
theorem dX11_border_12 : decode cX11_border 12 = .ok (.irem, 1) := by decide +kernel
theorem dX11_border_13 : decode cX11_border 13 = .ok (.istore_n 3, 1) := by decide +kernel
theorem dX11_border_14 : decode cX11_border 14 = .ok (.iload_n 3, 1) := by decide +kernel
theorem dX11_border_15 : decode cX11_border 15 = .ok (.ifCond .ge 10, 3) := by decide +kernel
theorem dX11_border_18 : decode cX11_border 18 = .ok (.iload_n 3, 1) := by decide +kernel
theorem dX11_border_19 : decode cX11_border 19 = .ok (.bipush 100, 2) := by decide +kernel
theorem dX11_border_21 : decode cX11_border 21 = .ok (.iadd, 1) := by decide +kernel
theorem dX11_border_22 : decode cX11_border 22 = .ok (.goto 4, 3) := by decide +kernel
theorem dX11_border_25 : decode cX11_border 25 = .ok (.iload_n 3, 1) := by decide +kernel
theorem dX11_border_26 : decode cX11_border 26 = .ok (.ireturn, 1) := by decide +kernel
theorem dX11_works_0 : decode cX11_works 0 = .ok (.aload_n 0, 1) := by decide +kernel
theorem dX11_works_1 : decode cX11_works 1 = .ok (.invokevirtual 147, 3) := by decide +kernel
theorem dX11_works_4 : decode cX11_works 4 = .ok (.iconst 0, 1) := by decide +kernel
theorem dX11_works_5 : decode cX11_works 5 = .ok (.istore_n 1, 1) := by decide +kernel
theorem dX11_works_6 : decode cX11_works 6 = .ok (.iload_n 1, 1) := by decide +kernel
theorem dX11_works_7 : decode cX11_works 7 = .ok (.sipush 256, 3) := by decide +kernel
theorem dX11_works_10 : decode cX11_works 10 = .ok (.if_icmp .ge 16, 3) := by decide +kernel
theorem dX11_works_13 : decode cX11_works 13 = .ok (.aload_n 0, 1) := by decide +kernel
theorem dX11_works_14 : decode cX11_works 14 = .ok (.getfield 66, 3) := by decide +kernel
theorem dX11_works_17 : decode cX11_works 17 = .ok (.iload_n 1, 1) := by decide +kernel
theorem dX11_works_18 : decode cX11_works 18 = .ok (.iconst 0, 1) := by decide +kernel
theorem dX11_works_19 : decode cX11_works 19 = .ok (.iastore, 1) := by decide +kernel
theorem dX11_works_20 : decode cX11_works 20 = .ok (.iinc 1 1, 3) := by decide +kernel
theorem dX11_works_23 : decode cX11_works 23 = .ok (.goto (-17), 3) := by decide +kernel
theorem dX11_works_26 : decode cX11_works 26 = .ok (.iconst 0, 1) := by decide +kernel
theorem dX11_works_27 : decode cX11_works 27 = .ok (.istore_n 1, 1) := by decide +kernel
theorem dX11_works_28 : decode cX11_works 28 = .ok (.iload_n 1, 1) := by decide +kernel
theorem dX11_works_29 : decode cX11_works 29 = .ok (.sipush 2816, 3) := by decide +kernel
theorem dX11_works_32 : decode cX11_works 32 = .ok (.if_icmp .ge 16, 3) := by decide +kernel
theorem dX11_works_35 : decode cX11_works 35 = .ok (.aload_n 0, 1) := by decide +kernel
theorem dX11_works_36 : decode cX11_works 36 = .ok (.getfield 69, 3) := by decide +kernel
theorem dX11_works_39 : decode cX11_works 39 = .ok (.iload_n 1, 1) := by decide +kernel
theorem dX11_works_40 : decode cX11_works 40 = .ok (.iconst 0, 1) := by decide +kernel
theorem dX11_works_41 : decode cX11_works 41 = .ok (.iastore, 1) := by decide +kernel
theorem dX11_works_42 : decode cX11_works 42 = .ok (.iinc 1 1, 3) := by decide +kernel
theorem dX11_works_45 : decode cX11_works 45 = .ok (.goto (-17), 3) := by decide +kernel
theorem dX11_works_48 : decode cX11_works 48 = .ok (.iconst (-1), 1) := by decide +kernel
theorem dX11_works_49 : decode cX11_works 49 = .ok (.istore_n 1, 1) := by decide +kernel
theorem dX11_works_50 : decode cX11_works 50 = .ok (.iconst 0, 1) := by decide +kernel
theorem dX11_works_51 : decode cX11_works 51 = .ok (.istore_n 2, 1) := by decide +kernel
theorem dX11_works_52 : decode cX11_works 52 = .ok (.iload_n 2, 1) := by decide +kernel
theorem dX11_works_53 : decode cX11_works 53 = .ok (.aload_n 0, 1) := by decide +kernel
theorem dX11_works_54 : decode cX11_works 54 = .ok (.invokevirtual 112, 3) := by decide +kernel
theorem dX11_works_57 : decode cX11_works 57 = .ok (.if_icmp .ge 271, 3) := by decide +kernel
theorem dX11_works_60 : decode cX11_works 60 = .ok (.aload_n 0, 1) := by decide +kernel
theorem dX11_works_61 : decode cX11_works 61 = .ok (.getfield 60, 3) := by decide +kernel
theorem dX11_works_64 : decode cX11_works 64 = .ok (.iload_n 2, 1) := by decide +kernel
theorem dX11_works_65 : decode cX11_works 65 = .ok (.iaload, 1) := by decide +kernel
theorem dX11_works_66 : decode cX11_works 66 = .ok (.istore_n 3, 1) := by decide +kernel
theorem dX11_works_67 : decode cX11_works 67 = .ok (.iload_n 3, 1) := by decide +kernel
theorem dX11_works_68 : decode cX11_works 68 = .ok (.bipush 64, 2) := by decide +kernel
theorem dX11_works_70 : decode cX11_works 70 = .ok (.idiv, 1) := by decide +kernel
theorem dX11_works_71 : decode cX11_works 71 = .ok (.istore 4, 2) := by decide +kernel
theorem dX11_works_73 : decode cX11_works 73 = .ok (.aload_n 0, 1) := by decide +kernel
theorem dX11_works_74 : decode cX11_works 74 = .ok (.getfield 16, 3) := by decide +kernel
theorem dX11_works_77 : decode cX11_works 77 = .ok (.iload 4, 2) := by decide +kernel
theorem dX11_works_79 : decode cX11_works 79 = .ok (.iaload, 1) := by decide +kernel
theorem dX11_works_80 : decode cX11_works 80 = .ok (.istore 5, 2) := by decide +kernel
theorem dX11_works_82 : decode cX11_works 82 = .ok (.aload_n 0, 1) := by decide +kernel
theorem dX11_works_83 : decode cX11_works 83 = .ok (.getfield 16, 3) := by decide +kernel
theorem dX11_works_86 : decode cX11_works 86 = .ok (.iload 4, 2) := by decide +kernel
theorem dX11_works_88 : decode cX11_works 88 = .ok (.iaload, 1) := by decide +kernel
theorem dX11_works_89 : decode cX11_works 89 = .ok (.istore 6, 2) := by decide +kernel
theorem dX11_works_91 : decode cX11_works 91 = .ok (.iconst 4, 1) := by decide +kernel
theorem dX11_works_92 : decode cX11_works 92 = .ok (.iload 4, 2) := by decide +kernel
theorem dX11_works_94 : decode cX11_works 94 = .ok (.imul, 1) := by decide +kernel
theorem dX11_works_95 : decode cX11_works 95 = .ok (.istore 7, 2) := by decide +kernel
theorem dX11_works_97 : decode cX11_works 97 = .ok (.iload 7, 2) := by decide +kernel
theorem dX11_works_99 : decode cX11_works 99 = .ok (.iconst 4, 1) := by decide +kernel
theorem dX11_works_100 : decode cX11_works 100 = .ok (.iload 4, 2) := by decide +kernel
theorem dX11_works_102 : decode cX11_works 102 = .ok (.imul, 1) := by decide +kernel
theorem dX11_works_103 : decode cX11_works 103 = .ok (.aload_n 0, 1) := by decide +kernel
theorem dX11_works_104 : decode cX11_works 104 = .ok (.getfield 20, 3) := by decide +kernel
theorem dX11_works_107 : decode cX11_works 107 = .ok (.iload 4, 2) := by decide +kernel
theorem dX11_works_109 : decode cX11_works 109 = .ok (.iaload, 1) := by decide +kernel
theorem dX11_works_110 : decode cX11_works 110 = .ok (.iadd, 1) := by decide +kernel
theorem dX11_works_111 : decode cX11_works 111 = .ok (.if_icmp .ge 139, 3) := by decide +kernel
theorem dX11_works_114 : decode cX11_works 114 = .ok (.aload_n 0, 1) := by decide +kernel
theorem dX11_works_115 : decode cX11_works 115 = .ok (.iload_n 3, 1) := by decide +kernel
theorem dX11_works_116 : decode cX11_works 116 = .ok (.iload 7, 2) := by decide +kernel
theorem dX11_works_118 : decode cX11_works 118 = .ok (.invokevirtual 130, 3) := by decide +kernel
theorem dX11_works_121 : decode cX11_works 121 = .ok (.istore 8, 2) := by decide +kernel
theorem dX11_works_123 : decode cX11_works 123 = .ok (.iload 8, 2) := by decide +kernel
theorem dX11_works_125 : decode cX11_works 125 = .ok (.ifCond .ge 42, 3) := by decide +kernel
theorem dX11_works_128 : decode cX11_works 128 = .ok (.aload_n 0, 1) := by decide +kernel
theorem dX11_works_129 : decode cX11_works 129 = .ok (.iload_n 3, 1) := by decide +kernel
theorem dX11_works_130 : decode cX11_works 130 = .ok (.invokevirtual 105, 3) := by decide +kernel
theorem dX11_works_133 : decode cX11_works 133 = .ok (.aload_n 0, 1) := by decide +kernel
theorem dX11_works_134 : decode cX11_works 134 = .ok (.getfield 29, 3) := by decide +kernel
theorem dX11_works_137 : decode cX11_works 137 = .ok (.iload 7, 2) := by decide +kernel
theorem dX11_works_139 : decode cX11_works 139 = .ok (.iaload, 1) := by decide +kernel
theorem dX11_works_140 : decode cX11_works 140 = .ok (.isub, 1) := by decide +kernel
theorem dX11_works_141 : decode cX11_works 141 = .ok (.aload_n 0, 1) := by decide +kernel
theorem dX11_works_142 : decode cX11_works 142 = .ok (.iload_n 3, 1) := by decide +kernel
theorem dX11_works_143 : decode cX11_works 143 = .ok (.invokevirtual 109, 3) := by decide +kernel
theorem dX11_works_146 : decode cX11_works 146 = .ok (.aload_n 0, 1) := by decide +kernel
theorem dX11_works_147 : decode cX11_works 147 = .ok (.getfield 32, 3) := by decide +kernel
theorem dX11_works_150 : decode cX11_works 150 = .ok (.iload 7, 2) := by decide +kernel
theorem dX11_works_152 : decode cX11_works 152 = .ok (.iaload, 1) := by decide +kernel
theorem dX11_works_153 : decode cX11_works 153 = .ok (.isub, 1) := by decide +kernel
theorem dX11_works_154 : decode cX11_works 154 = .ok (.aload_n 0, 1) := by decide +kernel
theorem dX11_works_155 : decode cX11_works 155 = .ok (.getfield 23, 3) := by decide +kernel
theorem dX11_works_158 : decode cX11_works 158 = .ok (.iload 7, 2) := by decide +kernel
theorem dX11_works_160 : decode cX11_works 160 = .ok (.iaload, 1) := by decide +kernel
theorem dX11_works_161 : decode cX11_works 161 = .ok (.invokestatic 221, 3) := by decide +kernel
theorem dX11_works_164 : decode cX11_works 164 = .ok (.goto 4, 3) := by decide +kernel
theorem dX11_works_167 : decode cX11_works 167 = .ok (.iconst 0, 1) := by decide +kernel
theorem dX11_works_168 : decode cX11_works 168 = .ok (.istore 9, 2) := by decide +kernel
theorem dX11_works_170 : decode cX11_works 170 = .ok (.iload 5, 2) := by decide +kernel
theorem dX11_works_172 : decode cX11_works 172 = .ok (.aload_n 0, 1) := by decide +kernel
theorem dX11_works_173 : decode cX11_works 173 = .ok (.getfield 26, 3) := by decide +kernel
theorem dX11_works_176 : decode cX11_works 176 = .ok (.iload 7, 2) := by decide +kernel
theorem dX11_works_178 : decode cX11_works 178 = .ok (.iaload, 1) := by decide +kernel
theorem dX11_works_179 : decode cX11_works 179 = .ok (.iload 8, 2) := by decide +kernel
theorem dX11_works_181 : decode cX11_works 181 = .ok (.ifCond .ge 8, 3) := by decide +kernel
theorem dX11_works_184 : decode cX11_works 184 = .ok (.iload 9, 2) := by decide +kernel
theorem dX11_works_186 : decode cX11_works 186 = .ok (.goto 10, 3) := by decide +kernel
theorem dX11_works_189 : decode cX11_works 189 = .ok (.aload_n 0, 1) := by decide +kernel
theorem dX11_works_190 : decode cX11_works 190 = .ok (.getfield 66, 3) := by decide +kernel
theorem dX11_works_193 : decode cX11_works 193 = .ok (.iload 8, 2) := by decide +kernel
theorem dX11_works_195 : decode cX11_works 195 = .ok (.iaload, 1) := by decide +kernel
theorem dX11_works_196 : decode cX11_works 196 = .ok (.imul, 1) := by decide +kernel
theorem dX11_works_197 : decode cX11_works 197 = .ok (.iadd, 1) := by decide +kernel
theorem dX11_works_198 : decode cX11_works 198 = .ok (.istore 5, 2) := by decide +kernel
theorem dX11_works_200 : decode cX11_works 200 = .ok (.iload 6, 2) := by decide +kernel
theorem dX11_works_202 : decode cX11_works 202 = .ok (.aload_n 0, 1) := by decide +kernel
theorem dX11_works_203 : decode cX11_works 203 = .ok (.getfield 26, 3) := by decide +kernel
theorem dX11_works_206 : decode cX11_works 206 = .ok (.iload 7, 2) := by decide +kernel
theorem dX11_works_208 : decode cX11_works 208 = .ok (.iaload, 1) := by decide +kernel
theorem dX11_works_209 : decode cX11_works 209 = .ok (.iload 8, 2) := by decide +kernel
theorem dX11_works_211 : decode cX11_works 211 = .ok (.ifCond .ge 8, 3) := by decide +kernel
theorem dX11_works_214 : decode cX11_works 214 = .ok (.iload 9, 2) := by decide +kernel
theorem dX11_works_216 : decode cX11_works 216 = .ok (.goto 24, 3) := by decide +kernel
theorem dX11_works_219 : decode cX11_works 219 = .ok (.aload_n 0, 1) := by decide +kernel
theorem dX11_works_220 : decode cX11_works 220 = .ok (.getfield 69, 3) := by decide +kernel
theorem dX11_works_223 : decode cX11_works 223 = .ok (.sipush 704, 3) := by decide +kernel
theorem dX11_works_226 : decode cX11_works 226 = .ok (.iload 8, 2) := by decide +kernel
theorem dX11_works_228 : decode cX11_works 228 = .ok (.bipush 64, 2) := by decide +kernel
theorem dX11_works_230 : decode cX11_works 230 = .ok (.idiv, 1) := by decide +kernel
theorem dX11_works_231 : decode cX11_works 231 = .ok (.imul, 1) := by decide +kernel
theorem dX11_works_232 : decode cX11_works 232 = .ok (.aload_n 0, 1) := by decide +kernel
theorem dX11_works_233 : decode cX11_works 233 = .ok (.iload 8, 2) := by decide +kernel
theorem dX11_works_235 : decode cX11_works 235 = .ok (.invokevirtual 197, 3) := by decide +kernel
theorem dX11_works_238 : decode cX11_works 238 = .ok (.iadd, 1) := by decide +kernel
theorem dX11_works_239 : decode cX11_works 239 = .ok (.iaload, 1) := by decide +kernel
theorem dX11_works_240 : decode cX11_works 240 = .ok (.imul, 1) := by decide +kernel
theorem dX11_works_241 : decode cX11_works 241 = .ok (.iadd, 1) := by decide +kernel
theorem dX11_works_242 : decode cX11_works 242 = .ok (.istore 6, 2) := by decide +kernel
theorem dX11_works_244 : decode cX11_works 244 = .ok (.iinc 7 1, 3) := by decide +kernel
theorem dX11_works_247 : decode cX11_works 247 = .ok (.goto (-150), 3) := by decide +kernel
theorem dX11_works_250 : decode cX11_works 250 = .ok (.aload_n 0, 1) := by decide +kernel
theorem dX11_works_251 : decode cX11_works 251 = .ok (.getfield 66, 3) := by decide +kernel
theorem dX11_works_254 : decode cX11_works 254 = .ok (.iload_n 3, 1) := by decide +kernel
theorem dX11_works_255 : decode cX11_works 255 = .ok (.iload 5, 2) := by decide +kernel
theorem dX11_works_257 : decode cX11_works 257 = .ok (.sipush 9973, 3) := by decide +kernel
theorem dX11_works_260 : decode cX11_works 260 = .ok (.irem, 1) := by decide +kernel
theorem dX11_works_261 : decode cX11_works 261 = .ok (.iastore, 1) := by decide +kernel
theorem dX11_works_262 : decode cX11_works 262 = .ok (.aload_n 0, 1) := by decide +kernel
theorem dX11_works_263 : decode cX11_works 263 = .ok (.getfield 72, 3) := by decide +kernel
theorem dX11_works_266 : decode cX11_works 266 = .ok (.iload_n 3, 1) := by decide +kernel
theorem dX11_works_267 : decode cX11_works 267 = .ok (.iload 6, 2) := by decide +kernel
theorem dX11_works_269 : decode cX11_works 269 = .ok (.sipush 9973, 3) := by decide +kernel
theorem dX11_works_272 : decode cX11_works 272 = .ok (.irem, 1) := by decide +kernel
theorem dX11_works_273 : decode cX11_works 273 = .ok (.iastore, 1) := by decide +kernel
theorem dX11_works_274 : decode cX11_works 274 = .ok (.aload_n 0, 1) := by decide +kernel
theorem dX11_works_275 : decode cX11_works 275 = .ok (.getfield 69, 3) := by decide +kernel
theorem dX11_works_278 : decode cX11_works 278 = .ok (.sipush 704, 3) := by decide +kernel
theorem dX11_works_281 : decode cX11_works 281 = .ok (.iload 4, 2) := by decide +kernel
theorem dX11_works_283 : decode cX11_works 283 = .ok (.imul, 1) := by decide +kernel
theorem dX11_works_284 : decode cX11_works 284 = .ok (.aload_n 0, 1) := by decide +kernel
theorem dX11_works_285 : decode cX11_works 285 = .ok (.iload_n 3, 1) := by decide +kernel
theorem dX11_works_286 : decode cX11_works 286 = .ok (.invokevirtual 197, 3) := by decide +kernel
theorem dX11_works_289 : decode cX11_works 289 = .ok (.iadd, 1) := by decide +kernel
theorem dX11_works_290 : decode cX11_works 290 = .ok (.aload_n 0, 1) := by decide +kernel
theorem dX11_works_291 : decode cX11_works 291 = .ok (.getfield 72, 3) := by decide +kernel
theorem dX11_works_294 : decode cX11_works 294 = .ok (.iload_n 3, 1) := by decide +kernel
theorem dX11_works_295 : decode cX11_works 295 = .ok (.iaload, 1) := by decide +kernel
theorem dX11_works_296 : decode cX11_works 296 = .ok (.iastore, 1) := by decide +kernel
theorem dX11_works_297 : decode cX11_works 297 = .ok (.iload_n 1, 1) := by decide +kernel
theorem dX11_works_298 : decode cX11_works 298 = .ok (.ifCond .ge 22, 3) := by decide +kernel
theorem dX11_works_301 : decode cX11_works 301 = .ok (.aload_n 0, 1) := by decide +kernel
theorem dX11_works_302 : decode cX11_works 302 = .ok (.getfield 66, 3) := by decide +kernel
theorem dX11_works_305 : decode cX11_works 305 = .ok (.iload_n 3, 1) := by decide +kernel
theorem dX11_works_306 : decode cX11_works 306 = .ok (.iaload, 1) := by decide +kernel
theorem dX11_works_307 : decode cX11_works 307 = .ok (.aload_n 0, 1) := by decide +kernel
theorem dX11_works_308 : decode cX11_works 308 = .ok (.getfield 72, 3) := by decide +kernel
theorem dX11_works_311 : decode cX11_works 311 = .ok (.iload_n 3, 1) := by decide +kernel
theorem dX11_works_312 : decode cX11_works 312 = .ok (.iaload, 1) := by decide +kernel
theorem dX11_works_313 : decode cX11_works 313 = .ok (.if_icmp .eq 7, 3) := by decide +kernel
theorem dX11_works_316 : decode cX11_works 316 = .ok (.iload_n 2, 1) := by decide +kernel
theorem dX11_works_317 : decode cX11_works 317 = .ok (.goto 4, 3) := by decide +kernel
theorem dX11_works_320 : decode cX11_works 320 = .ok (.iload_n 1, 1) := by decide +kernel
theorem dX11_works_321 : decode cX11_works 321 = .ok (.istore_n 1, 1) := by decide +kernel
theorem dX11_works_322 : decode cX11_works 322 = .ok (.iinc 2 1, 3) := by decide +kernel
theorem dX11_works_325 : decode cX11_works 325 = .ok (.goto (-273), 3) := by decide +kernel
theorem dX11_works_328 : decode cX11_works 328 = .ok (.iload_n 1, 1) := by decide +kernel
theorem dX11_works_329 : decode cX11_works 329 = .ok (.ireturn, 1) := by decide +kernel
theorem dX11_valueOf_0 : decode cX11_valueOf 0 = .ok (.aload_n 0, 1) := by decide +kernel
theorem dX11_valueOf_1 : decode cX11_valueOf 1 = .ok (.aload_n 0, 1) := by decide +kernel
theorem dX11_valueOf_2 : decode cX11_valueOf 2 = .ok (.iload_n 1, 1) := by decide +kernel
theorem dX11_valueOf_3 : decode cX11_valueOf 3 = .ok (.iload_n 2, 1) := by decide +kernel
theorem dX11_valueOf_4 : decode cX11_valueOf 4 = .ok (.iload_n 3, 1) := by decide +kernel
theorem dX11_valueOf_5 : decode cX11_valueOf 5 = .ok (.invokevirtual 150, 3) := by decide +kernel
theorem dX11_valueOf_8 : decode cX11_valueOf 8 = .ok (.ifCond .eq 7, 3) := by decide +kernel
theorem dX11_valueOf_11 : decode cX11_valueOf 11 = .ok (.iconst 0, 1) := by decide +kernel
theorem dX11_valueOf_12 : decode cX11_valueOf 12 = .ok (.goto 4, 3) := by decide +kernel
theorem dX11_valueOf_15 : decode cX11_valueOf 15 = .ok (.iconst 1, 1) := by decide +kernel
theorem dX11_valueOf_16 : decode cX11_valueOf 16 = .ok (.invokevirtual 102, 3) := by decide +kernel
theorem dX11_valueOf_19 : decode cX11_valueOf 19 = .ok (.ifCond .eq 5, 3) := by decide +kernel
theorem dX11_valueOf_22 : decode cX11_valueOf 22 = .ok (.iconst 0, 1) := by decide +kernel
theorem dX11_valueOf_23 : decode cX11_valueOf 23 = .ok (.ireturn, 1) := by decide +kernel
theorem dX11_valueOf_24 : decode cX11_valueOf 24 = .ok (.aload_n 0, 1) := by decide +kernel
theorem dX11_valueOf_25 : decode cX11_valueOf 25 = .ok (.invokevirtual 224, 3) := by decide +kernel
theorem dX11_valueOf_28 : decode cX11_valueOf 28 = .ok (.pop, 1) := by decide +kernel
theorem dX11_valueOf_29 : decode cX11_valueOf 29 = .ok (.aload_n 0, 1) := by decide +kernel
theorem dX11_valueOf_30 : decode cX11_valueOf 30 = .ok (.getfield 66, 3) := by decide +kernel
theorem dX11_valueOf_33 : decode cX11_valueOf 33 = .ok (.aload_n 0, 1) := by decide +kernel
theorem dX11_valueOf_34 : decode cX11_valueOf 34 = .ok (.iload_n 1, 1) := by decide +kernel
theorem dX11_valueOf_35 : decode cX11_valueOf 35 = .ok (.iload_n 2, 1) := by decide +kernel
theorem dX11_valueOf_36 : decode cX11_valueOf 36 = .ok (.iload_n 3, 1) := by decide +kernel
theorem dX11_valueOf_37 : decode cX11_valueOf 37 = .ok (.invokevirtual 127, 3) := by decide +kernel
theorem dX11_valueOf_40 : decode cX11_valueOf 40 = .ok (.iaload, 1) := by decide +kernel
theorem dX11_valueOf_41 : decode cX11_valueOf 41 = .ok (.ireturn, 1) := by decide +kernel
theorem dX11_contractedValueOf_0 : decode cX11_contractedValueOf 0 = .ok (.aload_n 0, 1) := by decide +kernel
theorem dX11_contractedValueOf_1 : decode cX11_contractedValueOf 1 = .ok (.aload_n 0, 1) := by decide +kernel
theorem dX11_contractedValueOf_2 : decode cX11_contractedValueOf 2 = .ok (.iload_n 1, 1) := by decide +kernel
theorem dX11_contractedValueOf_3 : decode cX11_contractedValueOf 3 = .ok (.iload_n 2, 1) := by decide +kernel
theorem dX11_contractedValueOf_4 : decode cX11_contractedValueOf 4 = .ok (.iload_n 3, 1) := by decide +kernel
theorem dX11_contractedValueOf_5 : decode cX11_contractedValueOf 5 = .ok (.invokevirtual 150, 3) := by decide +kernel
theorem dX11_contractedValueOf_8 : decode cX11_contractedValueOf 8 = .ok (.ifCond .eq 7, 3) := by decide +kernel
theorem dX11_contractedValueOf_11 : decode cX11_contractedValueOf 11 = .ok (.iconst 0, 1) := by decide +kernel
theorem dX11_contractedValueOf_12 : decode cX11_contractedValueOf 12 = .ok (.goto 4, 3) := by decide +kernel
theorem dX11_contractedValueOf_15 : decode cX11_contractedValueOf 15 = .ok (.iconst 1, 1) := by decide +kernel
theorem dX11_contractedValueOf_16 : decode cX11_contractedValueOf 16 = .ok (.invokevirtual 102, 3) := by decide +kernel
theorem dX11_contractedValueOf_19 : decode cX11_contractedValueOf 19 = .ok (.ifCond .eq 5, 3) := by decide +kernel
theorem dX11_contractedValueOf_22 : decode cX11_contractedValueOf 22 = .ok (.iconst 0, 1) := by decide +kernel
theorem dX11_contractedValueOf_23 : decode cX11_contractedValueOf 23 = .ok (.ireturn, 1) := by decide +kernel
theorem dX11_contractedValueOf_24 : decode cX11_contractedValueOf 24 = .ok (.aload_n 0, 1) := by decide +kernel
theorem dX11_contractedValueOf_25 : decode cX11_contractedValueOf 25 = .ok (.invokevirtual 224, 3) := by decide +kernel
theorem dX11_contractedValueOf_28 : decode cX11_contractedValueOf 28 = .ok (.pop, 1) := by decide +kernel
theorem dX11_contractedValueOf_29 : decode cX11_contractedValueOf 29 = .ok (.aload_n 0, 1) := by decide +kernel
theorem dX11_contractedValueOf_30 : decode cX11_contractedValueOf 30 = .ok (.getfield 72, 3) := by decide +kernel
theorem dX11_contractedValueOf_33 : decode cX11_contractedValueOf 33 = .ok (.aload_n 0, 1) := by decide +kernel
theorem dX11_contractedValueOf_34 : decode cX11_contractedValueOf 34 = .ok (.iload_n 1, 1) := by decide +kernel
theorem dX11_contractedValueOf_35 : decode cX11_contractedValueOf 35 = .ok (.iload_n 2, 1) := by decide +kernel
theorem dX11_contractedValueOf_36 : decode cX11_contractedValueOf 36 = .ok (.iload_n 3, 1) := by decide +kernel
theorem dX11_contractedValueOf_37 : decode cX11_contractedValueOf 37 = .ok (.invokevirtual 127, 3) := by decide +kernel
theorem dX11_contractedValueOf_40 : decode cX11_contractedValueOf 40 = .ok (.iaload, 1) := by decide +kernel
theorem dX11_contractedValueOf_41 : decode cX11_contractedValueOf 41 = .ok (.ireturn, 1) := by decide +kernel
theorem dX11_firstWrongStep_0 : decode cX11_firstWrongStep 0 = .ok (.aload_n 0, 1) := by decide +kernel
theorem dX11_firstWrongStep_1 : decode cX11_firstWrongStep 1 = .ok (.iconst 0, 1) := by decide +kernel
theorem dX11_firstWrongStep_2 : decode cX11_firstWrongStep 2 = .ok (.putfield 84, 3) := by decide +kernel
theorem dX11_firstWrongStep_5 : decode cX11_firstWrongStep 5 = .ok (.aload_n 0, 1) := by decide +kernel
theorem dX11_firstWrongStep_6 : decode cX11_firstWrongStep 6 = .ok (.invokevirtual 224, 3) := by decide +kernel
theorem dX11_firstWrongStep_9 : decode cX11_firstWrongStep 9 = .ok (.ireturn, 1) := by decide +kernel
theorem dX11_hasBest_0 : decode cX11_hasBest 0 = .ok (.aload_n 0, 1) := by decide +kernel
theorem dX11_hasBest_1 : decode cX11_hasBest 1 = .ok (.iconst (-1), 1) := by decide +kernel
theorem dX11_hasBest_2 : decode cX11_hasBest 2 = .ok (.putfield 227, 3) := by decide +kernel
theorem dX11_hasBest_5 : decode cX11_hasBest 5 = .ok (.iconst 0, 1) := by decide +kernel
theorem dX11_hasBest_6 : decode cX11_hasBest 6 = .ok (.istore_n 1, 1) := by decide +kernel
theorem dX11_hasBest_7 : decode cX11_hasBest 7 = .ok (.iload_n 1, 1) := by decide +kernel
theorem dX11_hasBest_8 : decode cX11_hasBest 8 = .ok (.bipush 16, 2) := by decide +kernel
theorem dX11_hasBest_10 : decode cX11_hasBest 10 = .ok (.if_icmp .ge 90, 3) := by decide +kernel
theorem dX11_hasBest_13 : decode cX11_hasBest 13 = .ok (.aload_n 0, 1) := by decide +kernel
theorem dX11_hasBest_14 : decode cX11_hasBest 14 = .ok (.iload_n 1, 1) := by decide +kernel
theorem dX11_hasBest_15 : decode cX11_hasBest 15 = .ok (.iconst 4, 1) := by decide +kernel
theorem dX11_hasBest_16 : decode cX11_hasBest 16 = .ok (.idiv, 1) := by decide +kernel
theorem dX11_hasBest_17 : decode cX11_hasBest 17 = .ok (.iload_n 1, 1) := by decide +kernel
theorem dX11_hasBest_18 : decode cX11_hasBest 18 = .ok (.iconst 4, 1) := by decide +kernel
theorem dX11_hasBest_19 : decode cX11_hasBest 19 = .ok (.irem, 1) := by decide +kernel
theorem dX11_hasBest_20 : decode cX11_hasBest 20 = .ok (.invokevirtual 144, 3) := by decide +kernel
theorem dX11_hasBest_23 : decode cX11_hasBest 23 = .ok (.ifCond .eq 71, 3) := by decide +kernel
theorem dX11_hasBest_26 : decode cX11_hasBest 26 = .ok (.aload_n 0, 1) := by decide +kernel
theorem dX11_hasBest_27 : decode cX11_hasBest 27 = .ok (.invokevirtual 156, 3) := by decide +kernel
theorem dX11_hasBest_30 : decode cX11_hasBest 30 = .ok (.iconst 0, 1) := by decide +kernel
theorem dX11_hasBest_31 : decode cX11_hasBest 31 = .ok (.istore_n 2, 1) := by decide +kernel
theorem dX11_hasBest_32 : decode cX11_hasBest 32 = .ok (.iconst 0, 1) := by decide +kernel
theorem dX11_hasBest_33 : decode cX11_hasBest 33 = .ok (.istore_n 3, 1) := by decide +kernel
theorem dX11_hasBest_34 : decode cX11_hasBest 34 = .ok (.iload_n 3, 1) := by decide +kernel
theorem dX11_hasBest_35 : decode cX11_hasBest 35 = .ok (.aload_n 0, 1) := by decide +kernel
theorem dX11_hasBest_36 : decode cX11_hasBest 36 = .ok (.getfield 87, 3) := by decide +kernel
theorem dX11_hasBest_39 : decode cX11_hasBest 39 = .ok (.if_icmp .ge 21, 3) := by decide +kernel
theorem dX11_hasBest_42 : decode cX11_hasBest 42 = .ok (.aload_n 0, 1) := by decide +kernel
theorem dX11_hasBest_43 : decode cX11_hasBest 43 = .ok (.iload_n 3, 1) := by decide +kernel
theorem dX11_hasBest_44 : decode cX11_hasBest 44 = .ok (.invokevirtual 181, 3) := by decide +kernel
theorem dX11_hasBest_47 : decode cX11_hasBest 47 = .ok (.iload_n 2, 1) := by decide +kernel
theorem dX11_hasBest_48 : decode cX11_hasBest 48 = .ok (.aload_n 0, 1) := by decide +kernel
theorem dX11_hasBest_49 : decode cX11_hasBest 49 = .ok (.invokevirtual 185, 3) := by decide +kernel
theorem dX11_hasBest_52 : decode cX11_hasBest 52 = .ok (.iadd, 1) := by decide +kernel
theorem dX11_hasBest_53 : decode cX11_hasBest 53 = .ok (.istore_n 2, 1) := by decide +kernel
theorem dX11_hasBest_54 : decode cX11_hasBest 54 = .ok (.iinc 3 1, 3) := by decide +kernel
theorem dX11_hasBest_57 : decode cX11_hasBest 57 = .ok (.goto (-23), 3) := by decide +kernel
theorem dX11_hasBest_60 : decode cX11_hasBest 60 = .ok (.aload_n 0, 1) := by decide +kernel
theorem dX11_hasBest_61 : decode cX11_hasBest 61 = .ok (.getfield 227, 3) := by decide +kernel
theorem dX11_hasBest_64 : decode cX11_hasBest 64 = .ok (.ifCond .lt 11, 3) := by decide +kernel
theorem dX11_hasBest_67 : decode cX11_hasBest 67 = .ok (.iload_n 2, 1) := by decide +kernel
theorem dX11_hasBest_68 : decode cX11_hasBest 68 = .ok (.aload_n 0, 1) := by decide +kernel
theorem dX11_hasBest_69 : decode cX11_hasBest 69 = .ok (.getfield 227, 3) := by decide +kernel
theorem dX11_hasBest_72 : decode cX11_hasBest 72 = .ok (.if_icmp .ge 22, 3) := by decide +kernel
theorem dX11_hasBest_75 : decode cX11_hasBest 75 = .ok (.aload_n 0, 1) := by decide +kernel
theorem dX11_hasBest_76 : decode cX11_hasBest 76 = .ok (.iload_n 2, 1) := by decide +kernel
theorem dX11_hasBest_77 : decode cX11_hasBest 77 = .ok (.putfield 227, 3) := by decide +kernel
theorem dX11_hasBest_80 : decode cX11_hasBest 80 = .ok (.aload_n 0, 1) := by decide +kernel
theorem dX11_hasBest_81 : decode cX11_hasBest 81 = .ok (.iload_n 1, 1) := by decide +kernel
theorem dX11_hasBest_82 : decode cX11_hasBest 82 = .ok (.iconst 4, 1) := by decide +kernel
theorem dX11_hasBest_83 : decode cX11_hasBest 83 = .ok (.idiv, 1) := by decide +kernel
theorem dX11_hasBest_84 : decode cX11_hasBest 84 = .ok (.putfield 230, 3) := by decide +kernel
theorem dX11_hasBest_87 : decode cX11_hasBest 87 = .ok (.aload_n 0, 1) := by decide +kernel
theorem dX11_hasBest_88 : decode cX11_hasBest 88 = .ok (.iload_n 1, 1) := by decide +kernel
theorem dX11_hasBest_89 : decode cX11_hasBest 89 = .ok (.iconst 4, 1) := by decide +kernel
theorem dX11_hasBest_90 : decode cX11_hasBest 90 = .ok (.irem, 1) := by decide +kernel
theorem dX11_hasBest_91 : decode cX11_hasBest 91 = .ok (.putfield 233, 3) := by decide +kernel
theorem dX11_hasBest_94 : decode cX11_hasBest 94 = .ok (.iinc 1 1, 3) := by decide +kernel
theorem dX11_hasBest_97 : decode cX11_hasBest 97 = .ok (.goto (-90), 3) := by decide +kernel
theorem dX11_hasBest_100 : decode cX11_hasBest 100 = .ok (.aload_n 0, 1) := by decide +kernel
theorem dX11_hasBest_101 : decode cX11_hasBest 101 = .ok (.getfield 227, 3) := by decide +kernel
theorem dX11_hasBest_104 : decode cX11_hasBest 104 = .ok (.ifCond .lt 7, 3) := by decide +kernel
theorem dX11_hasBest_107 : decode cX11_hasBest 107 = .ok (.iconst 1, 1) := by decide +kernel
theorem dX11_hasBest_108 : decode cX11_hasBest 108 = .ok (.goto 4, 3) := by decide +kernel
theorem dX11_hasBest_111 : decode cX11_hasBest 111 = .ok (.iconst 0, 1) := by decide +kernel
theorem dX11_hasBest_112 : decode cX11_hasBest 112 = .ok (.ireturn, 1) := by decide +kernel
theorem dX11_bestRowWeight_0 : decode cX11_bestRowWeight 0 = .ok (.aload_n 0, 1) := by decide +kernel
theorem dX11_bestRowWeight_1 : decode cX11_bestRowWeight 1 = .ok (.aload_n 0, 1) := by decide +kernel
theorem dX11_bestRowWeight_2 : decode cX11_bestRowWeight 2 = .ok (.invokevirtual 236, 3) := by decide +kernel
theorem dX11_bestRowWeight_5 : decode cX11_bestRowWeight 5 = .ok (.ifCond .eq 7, 3) := by decide +kernel
theorem dX11_bestRowWeight_8 : decode cX11_bestRowWeight 8 = .ok (.iconst 0, 1) := by decide +kernel
theorem dX11_bestRowWeight_9 : decode cX11_bestRowWeight 9 = .ok (.goto 4, 3) := by decide +kernel
theorem dX11_bestRowWeight_12 : decode cX11_bestRowWeight 12 = .ok (.iconst 1, 1) := by decide +kernel
theorem dX11_bestRowWeight_13 : decode cX11_bestRowWeight 13 = .ok (.invokevirtual 102, 3) := by decide +kernel
theorem dX11_bestRowWeight_16 : decode cX11_bestRowWeight 16 = .ok (.ifCond .eq 7, 3) := by decide +kernel
theorem dX11_bestRowWeight_19 : decode cX11_bestRowWeight 19 = .ok (.iconst 0, 1) := by decide +kernel
theorem dX11_bestRowWeight_20 : decode cX11_bestRowWeight 20 = .ok (.goto 7, 3) := by decide +kernel
theorem dX11_bestRowWeight_23 : decode cX11_bestRowWeight 23 = .ok (.aload_n 0, 1) := by decide +kernel
theorem dX11_bestRowWeight_24 : decode cX11_bestRowWeight 24 = .ok (.getfield 230, 3) := by decide +kernel
theorem dX11_bestRowWeight_27 : decode cX11_bestRowWeight 27 = .ok (.ireturn, 1) := by decide +kernel
theorem dX11_bestColumnWeight_0 : decode cX11_bestColumnWeight 0 = .ok (.aload_n 0, 1) := by decide +kernel
theorem dX11_bestColumnWeight_1 : decode cX11_bestColumnWeight 1 = .ok (.aload_n 0, 1) := by decide +kernel
theorem dX11_bestColumnWeight_2 : decode cX11_bestColumnWeight 2 = .ok (.invokevirtual 236, 3) := by decide +kernel
theorem dX11_bestColumnWeight_5 : decode cX11_bestColumnWeight 5 = .ok (.ifCond .eq 7, 3) := by decide +kernel
theorem dX11_bestColumnWeight_8 : decode cX11_bestColumnWeight 8 = .ok (.iconst 0, 1) := by decide +kernel
theorem dX11_bestColumnWeight_9 : decode cX11_bestColumnWeight 9 = .ok (.goto 4, 3) := by decide +kernel
theorem dX11_bestColumnWeight_12 : decode cX11_bestColumnWeight 12 = .ok (.iconst 1, 1) := by decide +kernel
theorem dX11_bestColumnWeight_13 : decode cX11_bestColumnWeight 13 = .ok (.invokevirtual 102, 3) := by decide +kernel
theorem dX11_bestColumnWeight_16 : decode cX11_bestColumnWeight 16 = .ok (.ifCond .eq 7, 3) := by decide +kernel
theorem dX11_bestColumnWeight_19 : decode cX11_bestColumnWeight 19 = .ok (.iconst 0, 1) := by decide +kernel
theorem dX11_bestColumnWeight_20 : decode cX11_bestColumnWeight 20 = .ok (.goto 7, 3) := by decide +kernel
theorem dX11_bestColumnWeight_23 : decode cX11_bestColumnWeight 23 = .ok (.aload_n 0, 1) := by decide +kernel
theorem dX11_bestColumnWeight_24 : decode cX11_bestColumnWeight 24 = .ok (.getfield 233, 3) := by decide +kernel
theorem dX11_bestColumnWeight_27 : decode cX11_bestColumnWeight 27 = .ok (.ireturn, 1) := by decide +kernel
theorem dX11_bestRoom_0 : decode cX11_bestRoom 0 = .ok (.aload_n 0, 1) := by decide +kernel
theorem dX11_bestRoom_1 : decode cX11_bestRoom 1 = .ok (.aload_n 0, 1) := by decide +kernel
theorem dX11_bestRoom_2 : decode cX11_bestRoom 2 = .ok (.invokevirtual 236, 3) := by decide +kernel
theorem dX11_bestRoom_5 : decode cX11_bestRoom 5 = .ok (.ifCond .eq 7, 3) := by decide +kernel
theorem dX11_bestRoom_8 : decode cX11_bestRoom 8 = .ok (.iconst 0, 1) := by decide +kernel
theorem dX11_bestRoom_9 : decode cX11_bestRoom 9 = .ok (.goto 4, 3) := by decide +kernel
theorem dX11_bestRoom_12 : decode cX11_bestRoom 12 = .ok (.iconst 1, 1) := by decide +kernel
theorem dX11_bestRoom_13 : decode cX11_bestRoom 13 = .ok (.invokevirtual 102, 3) := by decide +kernel
theorem dX11_bestRoom_16 : decode cX11_bestRoom 16 = .ok (.ifCond .eq 7, 3) := by decide +kernel
theorem dX11_bestRoom_19 : decode cX11_bestRoom 19 = .ok (.iconst 0, 1) := by decide +kernel
theorem dX11_bestRoom_20 : decode cX11_bestRoom 20 = .ok (.goto 7, 3) := by decide +kernel
theorem dX11_bestRoom_23 : decode cX11_bestRoom 23 = .ok (.aload_n 0, 1) := by decide +kernel
theorem dX11_bestRoom_24 : decode cX11_bestRoom 24 = .ok (.getfield 227, 3) := by decide +kernel
theorem dX11_bestRoom_27 : decode cX11_bestRoom 27 = .ok (.ireturn, 1) := by decide +kernel
end
section
theorem dL_law_0 : decode cL_law 0 = .ok (.new 8, 3) := by decide +kernel
theorem dL_law_3 : decode cL_law 3 = .ok (.dup, 1) := by decide +kernel
theorem dL_law_4 : decode cL_law 4 = .ok (.invokespecial 132, 3) := by decide +kernel
theorem dL_law_7 : decode cL_law 7 = .ok (.astore_n 1, 1) := by decide +kernel
theorem dL_law_8 : decode cL_law 8 = .ok (.new 133, 3) := by decide +kernel
theorem dL_law_11 : decode cL_law 11 = .ok (.dup, 1) := by decide +kernel
theorem dL_law_12 : decode cL_law 12 = .ok (.invokespecial 135, 3) := by decide +kernel
theorem dL_law_15 : decode cL_law 15 = .ok (.astore_n 2, 1) := by decide +kernel
theorem dL_law_16 : decode cL_law 16 = .ok (.iconst 1, 1) := by decide +kernel
theorem dL_law_17 : decode cL_law 17 = .ok (.newarray .long, 2) := by decide +kernel
theorem dL_law_19 : decode cL_law 19 = .ok (.astore_n 3, 1) := by decide +kernel
theorem dL_law_20 : decode cL_law 20 = .ok (.iconst 0, 1) := by decide +kernel
theorem dL_law_21 : decode cL_law 21 = .ok (.istore 4, 2) := by decide +kernel
theorem dL_law_23 : decode cL_law 23 = .ok (.iload 4, 2) := by decide +kernel
theorem dL_law_25 : decode cL_law 25 = .ok (.aload_n 0, 1) := by decide +kernel
theorem dL_law_26 : decode cL_law 26 = .ok (.arraylength, 1) := by decide +kernel
theorem dL_law_27 : decode cL_law 27 = .ok (.bipush 6, 2) := by decide +kernel
theorem dL_law_29 : decode cL_law 29 = .ok (.isub, 1) := by decide +kernel
theorem dL_law_30 : decode cL_law 30 = .ok (.if_icmp .gt 2664, 3) := by decide +kernel
theorem dL_law_33 : decode cL_law 33 = .ok (.aload_n 0, 1) := by decide +kernel
theorem dL_law_34 : decode cL_law 34 = .ok (.iload 4, 2) := by decide +kernel
theorem dL_law_36 : decode cL_law 36 = .ok (.iaload, 1) := by decide +kernel
theorem dL_law_37 : decode cL_law 37 = .ok (.bipush 63, 2) := by decide +kernel
theorem dL_law_39 : decode cL_law 39 = .ok (.iand, 1) := by decide +kernel
theorem dL_law_40 : decode cL_law 40 = .ok (.tableswitch 2648 0 41 #[184, 240, 344, 400, 491, 559, 634, 709, 722, 797, 872, 885, 965, 1021, 1077, 1157, 1213, 1226, 1282, 1374, 1430, 1486, 1554, 1634, 1714, 1727, 1783, 1796, 1876, 1939, 1995, 2051, 2107, 2163, 2219, 2275, 2343, 2423, 2503, 2516, 2560, 2604], 184) := by decide +kernel
theorem dL_law_224 : decode cL_law 224 = .ok (.aload_n 1, 1) := by decide +kernel
theorem dL_law_225 : decode cL_law 225 = .ok (.aload_n 0, 1) := by decide +kernel
theorem dL_law_226 : decode cL_law 226 = .ok (.iload 4, 2) := by decide +kernel
theorem dL_law_228 : decode cL_law 228 = .ok (.iconst 1, 1) := by decide +kernel
theorem dL_law_229 : decode cL_law 229 = .ok (.iadd, 1) := by decide +kernel
theorem dL_law_230 : decode cL_law 230 = .ok (.iaload, 1) := by decide +kernel
theorem dL_law_231 : decode cL_law 231 = .ok (.aload_n 3, 1) := by decide +kernel
theorem dL_law_232 : decode cL_law 232 = .ok (.invokestatic 136, 3) := by decide +kernel
theorem dL_law_235 : decode cL_law 235 = .ok (.istore 5, 2) := by decide +kernel
theorem dL_law_237 : decode cL_law 237 = .ok (.aload_n 2, 1) := by decide +kernel
theorem dL_law_238 : decode cL_law 238 = .ok (.aload_n 0, 1) := by decide +kernel
theorem dL_law_239 : decode cL_law 239 = .ok (.iload 4, 2) := by decide +kernel
theorem dL_law_241 : decode cL_law 241 = .ok (.iconst 1, 1) := by decide +kernel
theorem dL_law_242 : decode cL_law 242 = .ok (.iadd, 1) := by decide +kernel
theorem dL_law_243 : decode cL_law 243 = .ok (.iaload, 1) := by decide +kernel
theorem dL_law_244 : decode cL_law 244 = .ok (.invokevirtual 141, 3) := by decide +kernel
theorem dL_law_247 : decode cL_law 247 = .ok (.istore 6, 2) := by decide +kernel
theorem dL_law_249 : decode cL_law 249 = .ok (.aload_n 2, 1) := by decide +kernel
theorem dL_law_250 : decode cL_law 250 = .ok (.invokevirtual 142, 3) := by decide +kernel
theorem dL_law_253 : decode cL_law 253 = .ok (.iload 5, 2) := by decide +kernel
theorem dL_law_255 : decode cL_law 255 = .ok (.if_icmp .eq 5, 3) := by decide +kernel
theorem dL_law_258 : decode cL_law 258 = .ok (.iconst 0, 1) := by decide +kernel
theorem dL_law_259 : decode cL_law 259 = .ok (.ireturn, 1) := by decide +kernel
theorem dL_law_260 : decode cL_law 260 = .ok (.iload 5, 2) := by decide +kernel
theorem dL_law_262 : decode cL_law 262 = .ok (.ifCond .ne 15, 3) := by decide +kernel
theorem dL_law_265 : decode cL_law 265 = .ok (.aload_n 3, 1) := by decide +kernel
theorem dL_law_266 : decode cL_law 266 = .ok (.iconst 0, 1) := by decide +kernel
theorem dL_law_267 : decode cL_law 267 = .ok (.laload, 1) := by decide +kernel
theorem dL_law_268 : decode cL_law 268 = .ok (.iload 6, 2) := by decide +kernel
theorem dL_law_270 : decode cL_law 270 = .ok (.i2l, 1) := by decide +kernel
theorem dL_law_271 : decode cL_law 271 = .ok (.lcmp, 1) := by decide +kernel
theorem dL_law_272 : decode cL_law 272 = .ok (.ifCond .eq 5, 3) := by decide +kernel
theorem dL_law_275 : decode cL_law 275 = .ok (.iconst 0, 1) := by decide +kernel
theorem dL_law_276 : decode cL_law 276 = .ok (.ireturn, 1) := by decide +kernel
theorem dL_law_277 : decode cL_law 277 = .ok (.goto 2411, 3) := by decide +kernel
theorem dL_law_280 : decode cL_law 280 = .ok (.aload_n 1, 1) := by decide +kernel
theorem dL_law_281 : decode cL_law 281 = .ok (.aload_n 0, 1) := by decide +kernel
theorem dL_law_282 : decode cL_law 282 = .ok (.iload 4, 2) := by decide +kernel
theorem dL_law_284 : decode cL_law 284 = .ok (.iconst 1, 1) := by decide +kernel
theorem dL_law_285 : decode cL_law 285 = .ok (.iadd, 1) := by decide +kernel
theorem dL_law_286 : decode cL_law 286 = .ok (.iaload, 1) := by decide +kernel
theorem dL_law_287 : decode cL_law 287 = .ok (.aload_n 0, 1) := by decide +kernel
theorem dL_law_288 : decode cL_law 288 = .ok (.iload 4, 2) := by decide +kernel
theorem dL_law_290 : decode cL_law 290 = .ok (.iconst 2, 1) := by decide +kernel
theorem dL_law_291 : decode cL_law 291 = .ok (.iadd, 1) := by decide +kernel
theorem dL_law_292 : decode cL_law 292 = .ok (.iaload, 1) := by decide +kernel
theorem dL_law_293 : decode cL_law 293 = .ok (.aload_n 0, 1) := by decide +kernel
theorem dL_law_294 : decode cL_law 294 = .ok (.iload 4, 2) := by decide +kernel
theorem dL_law_296 : decode cL_law 296 = .ok (.iconst 3, 1) := by decide +kernel
theorem dL_law_297 : decode cL_law 297 = .ok (.iadd, 1) := by decide +kernel
theorem dL_law_298 : decode cL_law 298 = .ok (.iaload, 1) := by decide +kernel
theorem dL_law_299 : decode cL_law 299 = .ok (.aload_n 0, 1) := by decide +kernel
theorem dL_law_300 : decode cL_law 300 = .ok (.iload 4, 2) := by decide +kernel
theorem dL_law_302 : decode cL_law 302 = .ok (.iconst 4, 1) := by decide +kernel
theorem dL_law_303 : decode cL_law 303 = .ok (.iadd, 1) := by decide +kernel
theorem dL_law_304 : decode cL_law 304 = .ok (.iaload, 1) := by decide +kernel
theorem dL_law_305 : decode cL_law 305 = .ok (.aload_n 0, 1) := by decide +kernel
theorem dL_law_306 : decode cL_law 306 = .ok (.iload 4, 2) := by decide +kernel
theorem dL_law_308 : decode cL_law 308 = .ok (.iconst 5, 1) := by decide +kernel
theorem dL_law_309 : decode cL_law 309 = .ok (.iadd, 1) := by decide +kernel
theorem dL_law_310 : decode cL_law 310 = .ok (.iaload, 1) := by decide +kernel
theorem dL_law_311 : decode cL_law 311 = .ok (.aload_n 3, 1) := by decide +kernel
theorem dL_law_312 : decode cL_law 312 = .ok (.invokestatic 145, 3) := by decide +kernel
theorem dL_law_315 : decode cL_law 315 = .ok (.istore 5, 2) := by decide +kernel
theorem dL_law_317 : decode cL_law 317 = .ok (.aload_n 2, 1) := by decide +kernel
theorem dL_law_318 : decode cL_law 318 = .ok (.aload_n 0, 1) := by decide +kernel
theorem dL_law_319 : decode cL_law 319 = .ok (.iload 4, 2) := by decide +kernel
theorem dL_law_321 : decode cL_law 321 = .ok (.iconst 1, 1) := by decide +kernel
theorem dL_law_322 : decode cL_law 322 = .ok (.iadd, 1) := by decide +kernel
theorem dL_law_323 : decode cL_law 323 = .ok (.iaload, 1) := by decide +kernel
theorem dL_law_324 : decode cL_law 324 = .ok (.aload_n 0, 1) := by decide +kernel
theorem dL_law_325 : decode cL_law 325 = .ok (.iload 4, 2) := by decide +kernel
theorem dL_law_327 : decode cL_law 327 = .ok (.iconst 2, 1) := by decide +kernel
theorem dL_law_328 : decode cL_law 328 = .ok (.iadd, 1) := by decide +kernel
theorem dL_law_329 : decode cL_law 329 = .ok (.iaload, 1) := by decide +kernel
theorem dL_law_330 : decode cL_law 330 = .ok (.aload_n 0, 1) := by decide +kernel
theorem dL_law_331 : decode cL_law 331 = .ok (.iload 4, 2) := by decide +kernel
theorem dL_law_333 : decode cL_law 333 = .ok (.iconst 3, 1) := by decide +kernel
theorem dL_law_334 : decode cL_law 334 = .ok (.iadd, 1) := by decide +kernel
theorem dL_law_335 : decode cL_law 335 = .ok (.iaload, 1) := by decide +kernel
theorem dL_law_336 : decode cL_law 336 = .ok (.aload_n 0, 1) := by decide +kernel
theorem dL_law_337 : decode cL_law 337 = .ok (.iload 4, 2) := by decide +kernel
theorem dL_law_339 : decode cL_law 339 = .ok (.iconst 4, 1) := by decide +kernel
theorem dL_law_340 : decode cL_law 340 = .ok (.iadd, 1) := by decide +kernel
theorem dL_law_341 : decode cL_law 341 = .ok (.iaload, 1) := by decide +kernel
theorem dL_law_342 : decode cL_law 342 = .ok (.aload_n 0, 1) := by decide +kernel
theorem dL_law_343 : decode cL_law 343 = .ok (.iload 4, 2) := by decide +kernel
theorem dL_law_345 : decode cL_law 345 = .ok (.iconst 5, 1) := by decide +kernel
theorem dL_law_346 : decode cL_law 346 = .ok (.iadd, 1) := by decide +kernel
theorem dL_law_347 : decode cL_law 347 = .ok (.iaload, 1) := by decide +kernel
theorem dL_law_348 : decode cL_law 348 = .ok (.invokevirtual 148, 3) := by decide +kernel
theorem dL_law_351 : decode cL_law 351 = .ok (.istore 6, 2) := by decide +kernel
theorem dL_law_353 : decode cL_law 353 = .ok (.aload_n 2, 1) := by decide +kernel
theorem dL_law_354 : decode cL_law 354 = .ok (.invokevirtual 142, 3) := by decide +kernel
theorem dL_law_357 : decode cL_law 357 = .ok (.iload 5, 2) := by decide +kernel
theorem dL_law_359 : decode cL_law 359 = .ok (.if_icmp .eq 5, 3) := by decide +kernel
theorem dL_law_362 : decode cL_law 362 = .ok (.iconst 0, 1) := by decide +kernel
theorem dL_law_363 : decode cL_law 363 = .ok (.ireturn, 1) := by decide +kernel
theorem dL_law_364 : decode cL_law 364 = .ok (.iload 5, 2) := by decide +kernel
theorem dL_law_366 : decode cL_law 366 = .ok (.ifCond .ne 15, 3) := by decide +kernel
theorem dL_law_369 : decode cL_law 369 = .ok (.aload_n 3, 1) := by decide +kernel
theorem dL_law_370 : decode cL_law 370 = .ok (.iconst 0, 1) := by decide +kernel
theorem dL_law_371 : decode cL_law 371 = .ok (.laload, 1) := by decide +kernel
theorem dL_law_372 : decode cL_law 372 = .ok (.iload 6, 2) := by decide +kernel
theorem dL_law_374 : decode cL_law 374 = .ok (.i2l, 1) := by decide +kernel
theorem dL_law_375 : decode cL_law 375 = .ok (.lcmp, 1) := by decide +kernel
theorem dL_law_376 : decode cL_law 376 = .ok (.ifCond .eq 5, 3) := by decide +kernel
theorem dL_law_379 : decode cL_law 379 = .ok (.iconst 0, 1) := by decide +kernel
theorem dL_law_380 : decode cL_law 380 = .ok (.ireturn, 1) := by decide +kernel
theorem dL_law_381 : decode cL_law 381 = .ok (.goto 2307, 3) := by decide +kernel
theorem dL_law_384 : decode cL_law 384 = .ok (.aload_n 1, 1) := by decide +kernel
theorem dL_law_385 : decode cL_law 385 = .ok (.aload_n 0, 1) := by decide +kernel
theorem dL_law_386 : decode cL_law 386 = .ok (.iload 4, 2) := by decide +kernel
theorem dL_law_388 : decode cL_law 388 = .ok (.iconst 1, 1) := by decide +kernel
theorem dL_law_389 : decode cL_law 389 = .ok (.iadd, 1) := by decide +kernel
theorem dL_law_390 : decode cL_law 390 = .ok (.iaload, 1) := by decide +kernel
theorem dL_law_391 : decode cL_law 391 = .ok (.aload_n 3, 1) := by decide +kernel
theorem dL_law_392 : decode cL_law 392 = .ok (.invokestatic 149, 3) := by decide +kernel
theorem dL_law_395 : decode cL_law 395 = .ok (.istore 5, 2) := by decide +kernel
theorem dL_law_397 : decode cL_law 397 = .ok (.aload_n 2, 1) := by decide +kernel
theorem dL_law_398 : decode cL_law 398 = .ok (.aload_n 0, 1) := by decide +kernel
theorem dL_law_399 : decode cL_law 399 = .ok (.iload 4, 2) := by decide +kernel
theorem dL_law_401 : decode cL_law 401 = .ok (.iconst 1, 1) := by decide +kernel
theorem dL_law_402 : decode cL_law 402 = .ok (.iadd, 1) := by decide +kernel
theorem dL_law_403 : decode cL_law 403 = .ok (.iaload, 1) := by decide +kernel
theorem dL_law_404 : decode cL_law 404 = .ok (.invokevirtual 151, 3) := by decide +kernel
theorem dL_law_407 : decode cL_law 407 = .ok (.istore 6, 2) := by decide +kernel
theorem dL_law_409 : decode cL_law 409 = .ok (.aload_n 2, 1) := by decide +kernel
theorem dL_law_410 : decode cL_law 410 = .ok (.invokevirtual 142, 3) := by decide +kernel
theorem dL_law_413 : decode cL_law 413 = .ok (.iload 5, 2) := by decide +kernel
theorem dL_law_415 : decode cL_law 415 = .ok (.if_icmp .eq 5, 3) := by decide +kernel
theorem dL_law_418 : decode cL_law 418 = .ok (.iconst 0, 1) := by decide +kernel
theorem dL_law_419 : decode cL_law 419 = .ok (.ireturn, 1) := by decide +kernel
theorem dL_law_420 : decode cL_law 420 = .ok (.iload 5, 2) := by decide +kernel
theorem dL_law_422 : decode cL_law 422 = .ok (.ifCond .ne 15, 3) := by decide +kernel
theorem dL_law_425 : decode cL_law 425 = .ok (.aload_n 3, 1) := by decide +kernel
theorem dL_law_426 : decode cL_law 426 = .ok (.iconst 0, 1) := by decide +kernel
theorem dL_law_427 : decode cL_law 427 = .ok (.laload, 1) := by decide +kernel
theorem dL_law_428 : decode cL_law 428 = .ok (.iload 6, 2) := by decide +kernel
theorem dL_law_430 : decode cL_law 430 = .ok (.i2l, 1) := by decide +kernel
theorem dL_law_431 : decode cL_law 431 = .ok (.lcmp, 1) := by decide +kernel
theorem dL_law_432 : decode cL_law 432 = .ok (.ifCond .eq 5, 3) := by decide +kernel
theorem dL_law_435 : decode cL_law 435 = .ok (.iconst 0, 1) := by decide +kernel
theorem dL_law_436 : decode cL_law 436 = .ok (.ireturn, 1) := by decide +kernel
theorem dL_law_437 : decode cL_law 437 = .ok (.goto 2251, 3) := by decide +kernel
theorem dL_law_440 : decode cL_law 440 = .ok (.aload_n 1, 1) := by decide +kernel
theorem dL_law_441 : decode cL_law 441 = .ok (.aload_n 0, 1) := by decide +kernel
theorem dL_law_442 : decode cL_law 442 = .ok (.iload 4, 2) := by decide +kernel
theorem dL_law_444 : decode cL_law 444 = .ok (.iconst 1, 1) := by decide +kernel
theorem dL_law_445 : decode cL_law 445 = .ok (.iadd, 1) := by decide +kernel
theorem dL_law_446 : decode cL_law 446 = .ok (.iaload, 1) := by decide +kernel
theorem dL_law_447 : decode cL_law 447 = .ok (.aload_n 0, 1) := by decide +kernel
theorem dL_law_448 : decode cL_law 448 = .ok (.iload 4, 2) := by decide +kernel
theorem dL_law_450 : decode cL_law 450 = .ok (.iconst 2, 1) := by decide +kernel
theorem dL_law_451 : decode cL_law 451 = .ok (.iadd, 1) := by decide +kernel
theorem dL_law_452 : decode cL_law 452 = .ok (.iaload, 1) := by decide +kernel
theorem dL_law_453 : decode cL_law 453 = .ok (.ifCond .eq 7, 3) := by decide +kernel
theorem dL_law_456 : decode cL_law 456 = .ok (.iconst 1, 1) := by decide +kernel
theorem dL_law_457 : decode cL_law 457 = .ok (.goto 4, 3) := by decide +kernel
theorem dL_law_460 : decode cL_law 460 = .ok (.iconst 0, 1) := by decide +kernel
theorem dL_law_461 : decode cL_law 461 = .ok (.aload_n 3, 1) := by decide +kernel
theorem dL_law_462 : decode cL_law 462 = .ok (.invokestatic 152, 3) := by decide +kernel
theorem dL_law_465 : decode cL_law 465 = .ok (.istore 5, 2) := by decide +kernel
theorem dL_law_467 : decode cL_law 467 = .ok (.aload_n 2, 1) := by decide +kernel
theorem dL_law_468 : decode cL_law 468 = .ok (.aload_n 0, 1) := by decide +kernel
theorem dL_law_469 : decode cL_law 469 = .ok (.iload 4, 2) := by decide +kernel
theorem dL_law_471 : decode cL_law 471 = .ok (.iconst 1, 1) := by decide +kernel
theorem dL_law_472 : decode cL_law 472 = .ok (.iadd, 1) := by decide +kernel
theorem dL_law_473 : decode cL_law 473 = .ok (.iaload, 1) := by decide +kernel
theorem dL_law_474 : decode cL_law 474 = .ok (.aload_n 0, 1) := by decide +kernel
theorem dL_law_475 : decode cL_law 475 = .ok (.iload 4, 2) := by decide +kernel
theorem dL_law_477 : decode cL_law 477 = .ok (.iconst 2, 1) := by decide +kernel
theorem dL_law_478 : decode cL_law 478 = .ok (.iadd, 1) := by decide +kernel
theorem dL_law_479 : decode cL_law 479 = .ok (.iaload, 1) := by decide +kernel
theorem dL_law_480 : decode cL_law 480 = .ok (.ifCond .eq 7, 3) := by decide +kernel
theorem dL_law_483 : decode cL_law 483 = .ok (.iconst 1, 1) := by decide +kernel
theorem dL_law_484 : decode cL_law 484 = .ok (.goto 4, 3) := by decide +kernel
theorem dL_law_487 : decode cL_law 487 = .ok (.iconst 0, 1) := by decide +kernel
theorem dL_law_488 : decode cL_law 488 = .ok (.invokevirtual 155, 3) := by decide +kernel
theorem dL_law_491 : decode cL_law 491 = .ok (.istore 6, 2) := by decide +kernel
theorem dL_law_493 : decode cL_law 493 = .ok (.aload_n 2, 1) := by decide +kernel
theorem dL_law_494 : decode cL_law 494 = .ok (.invokevirtual 142, 3) := by decide +kernel
theorem dL_law_497 : decode cL_law 497 = .ok (.iload 5, 2) := by decide +kernel
theorem dL_law_499 : decode cL_law 499 = .ok (.if_icmp .eq 5, 3) := by decide +kernel
theorem dL_law_502 : decode cL_law 502 = .ok (.iconst 0, 1) := by decide +kernel
theorem dL_law_503 : decode cL_law 503 = .ok (.ireturn, 1) := by decide +kernel
theorem dL_law_504 : decode cL_law 504 = .ok (.iload 5, 2) := by decide +kernel
theorem dL_law_506 : decode cL_law 506 = .ok (.ifCond .ne 22, 3) := by decide +kernel
theorem dL_law_509 : decode cL_law 509 = .ok (.aload_n 3, 1) := by decide +kernel
theorem dL_law_510 : decode cL_law 510 = .ok (.iconst 0, 1) := by decide +kernel
theorem dL_law_511 : decode cL_law 511 = .ok (.laload, 1) := by decide +kernel
theorem dL_law_512 : decode cL_law 512 = .ok (.iload 6, 2) := by decide +kernel
theorem dL_law_514 : decode cL_law 514 = .ok (.ifCond .eq 7, 3) := by decide +kernel
theorem dL_law_517 : decode cL_law 517 = .ok (.lconst 1, 1) := by decide +kernel
theorem dL_law_518 : decode cL_law 518 = .ok (.goto 4, 3) := by decide +kernel
theorem dL_law_521 : decode cL_law 521 = .ok (.lconst 0, 1) := by decide +kernel
theorem dL_law_522 : decode cL_law 522 = .ok (.lcmp, 1) := by decide +kernel
theorem dL_law_523 : decode cL_law 523 = .ok (.ifCond .eq 5, 3) := by decide +kernel
theorem dL_law_526 : decode cL_law 526 = .ok (.iconst 0, 1) := by decide +kernel
theorem dL_law_527 : decode cL_law 527 = .ok (.ireturn, 1) := by decide +kernel
theorem dL_law_528 : decode cL_law 528 = .ok (.goto 2160, 3) := by decide +kernel
theorem dL_law_531 : decode cL_law 531 = .ok (.aload_n 1, 1) := by decide +kernel
theorem dL_law_532 : decode cL_law 532 = .ok (.aload_n 0, 1) := by decide +kernel
theorem dL_law_533 : decode cL_law 533 = .ok (.iload 4, 2) := by decide +kernel
theorem dL_law_535 : decode cL_law 535 = .ok (.iconst 1, 1) := by decide +kernel
theorem dL_law_536 : decode cL_law 536 = .ok (.iadd, 1) := by decide +kernel
theorem dL_law_537 : decode cL_law 537 = .ok (.iaload, 1) := by decide +kernel
theorem dL_law_538 : decode cL_law 538 = .ok (.aload_n 0, 1) := by decide +kernel
theorem dL_law_539 : decode cL_law 539 = .ok (.iload 4, 2) := by decide +kernel
theorem dL_law_541 : decode cL_law 541 = .ok (.iconst 2, 1) := by decide +kernel
theorem dL_law_542 : decode cL_law 542 = .ok (.iadd, 1) := by decide +kernel
theorem dL_law_543 : decode cL_law 543 = .ok (.iaload, 1) := by decide +kernel
theorem dL_law_544 : decode cL_law 544 = .ok (.aload_n 3, 1) := by decide +kernel
theorem dL_law_545 : decode cL_law 545 = .ok (.invokestatic 156, 3) := by decide +kernel
theorem dL_law_548 : decode cL_law 548 = .ok (.istore 5, 2) := by decide +kernel
theorem dL_law_550 : decode cL_law 550 = .ok (.aload_n 2, 1) := by decide +kernel
theorem dL_law_551 : decode cL_law 551 = .ok (.aload_n 0, 1) := by decide +kernel
theorem dL_law_552 : decode cL_law 552 = .ok (.iload 4, 2) := by decide +kernel
theorem dL_law_554 : decode cL_law 554 = .ok (.iconst 1, 1) := by decide +kernel
theorem dL_law_555 : decode cL_law 555 = .ok (.iadd, 1) := by decide +kernel
theorem dL_law_556 : decode cL_law 556 = .ok (.iaload, 1) := by decide +kernel
theorem dL_law_557 : decode cL_law 557 = .ok (.aload_n 0, 1) := by decide +kernel
theorem dL_law_558 : decode cL_law 558 = .ok (.iload 4, 2) := by decide +kernel
theorem dL_law_560 : decode cL_law 560 = .ok (.iconst 2, 1) := by decide +kernel
theorem dL_law_561 : decode cL_law 561 = .ok (.iadd, 1) := by decide +kernel
theorem dL_law_562 : decode cL_law 562 = .ok (.iaload, 1) := by decide +kernel
theorem dL_law_563 : decode cL_law 563 = .ok (.invokevirtual 159, 3) := by decide +kernel
theorem dL_law_566 : decode cL_law 566 = .ok (.istore 6, 2) := by decide +kernel
theorem dL_law_568 : decode cL_law 568 = .ok (.aload_n 2, 1) := by decide +kernel
theorem dL_law_569 : decode cL_law 569 = .ok (.invokevirtual 142, 3) := by decide +kernel
theorem dL_law_572 : decode cL_law 572 = .ok (.iload 5, 2) := by decide +kernel
theorem dL_law_574 : decode cL_law 574 = .ok (.if_icmp .eq 5, 3) := by decide +kernel
theorem dL_law_577 : decode cL_law 577 = .ok (.iconst 0, 1) := by decide +kernel
theorem dL_law_578 : decode cL_law 578 = .ok (.ireturn, 1) := by decide +kernel
theorem dL_law_579 : decode cL_law 579 = .ok (.iload 5, 2) := by decide +kernel
theorem dL_law_581 : decode cL_law 581 = .ok (.ifCond .ne 15, 3) := by decide +kernel
theorem dL_law_584 : decode cL_law 584 = .ok (.aload_n 3, 1) := by decide +kernel
theorem dL_law_585 : decode cL_law 585 = .ok (.iconst 0, 1) := by decide +kernel
theorem dL_law_586 : decode cL_law 586 = .ok (.laload, 1) := by decide +kernel
theorem dL_law_587 : decode cL_law 587 = .ok (.iload 6, 2) := by decide +kernel
theorem dL_law_589 : decode cL_law 589 = .ok (.i2l, 1) := by decide +kernel
theorem dL_law_590 : decode cL_law 590 = .ok (.lcmp, 1) := by decide +kernel
theorem dL_law_591 : decode cL_law 591 = .ok (.ifCond .eq 5, 3) := by decide +kernel
theorem dL_law_594 : decode cL_law 594 = .ok (.iconst 0, 1) := by decide +kernel
theorem dL_law_595 : decode cL_law 595 = .ok (.ireturn, 1) := by decide +kernel
theorem dL_law_596 : decode cL_law 596 = .ok (.goto 2092, 3) := by decide +kernel
theorem dL_law_599 : decode cL_law 599 = .ok (.aload_n 1, 1) := by decide +kernel
theorem dL_law_600 : decode cL_law 600 = .ok (.aload_n 0, 1) := by decide +kernel
theorem dL_law_601 : decode cL_law 601 = .ok (.iload 4, 2) := by decide +kernel
theorem dL_law_603 : decode cL_law 603 = .ok (.iconst 1, 1) := by decide +kernel
theorem dL_law_604 : decode cL_law 604 = .ok (.iadd, 1) := by decide +kernel
theorem dL_law_605 : decode cL_law 605 = .ok (.iaload, 1) := by decide +kernel
theorem dL_law_606 : decode cL_law 606 = .ok (.aload_n 0, 1) := by decide +kernel
theorem dL_law_607 : decode cL_law 607 = .ok (.iload 4, 2) := by decide +kernel
theorem dL_law_609 : decode cL_law 609 = .ok (.iconst 2, 1) := by decide +kernel
theorem dL_law_610 : decode cL_law 610 = .ok (.iadd, 1) := by decide +kernel
theorem dL_law_611 : decode cL_law 611 = .ok (.iaload, 1) := by decide +kernel
theorem dL_law_612 : decode cL_law 612 = .ok (.aload_n 3, 1) := by decide +kernel
theorem dL_law_613 : decode cL_law 613 = .ok (.invokestatic 160, 3) := by decide +kernel
theorem dL_law_616 : decode cL_law 616 = .ok (.istore 5, 2) := by decide +kernel
theorem dL_law_618 : decode cL_law 618 = .ok (.aload_n 2, 1) := by decide +kernel
theorem dL_law_619 : decode cL_law 619 = .ok (.aload_n 0, 1) := by decide +kernel
theorem dL_law_620 : decode cL_law 620 = .ok (.iload 4, 2) := by decide +kernel
theorem dL_law_622 : decode cL_law 622 = .ok (.iconst 1, 1) := by decide +kernel
theorem dL_law_623 : decode cL_law 623 = .ok (.iadd, 1) := by decide +kernel
theorem dL_law_624 : decode cL_law 624 = .ok (.iaload, 1) := by decide +kernel
theorem dL_law_625 : decode cL_law 625 = .ok (.aload_n 0, 1) := by decide +kernel
theorem dL_law_626 : decode cL_law 626 = .ok (.iload 4, 2) := by decide +kernel
theorem dL_law_628 : decode cL_law 628 = .ok (.iconst 2, 1) := by decide +kernel
theorem dL_law_629 : decode cL_law 629 = .ok (.iadd, 1) := by decide +kernel
theorem dL_law_630 : decode cL_law 630 = .ok (.iaload, 1) := by decide +kernel
theorem dL_law_631 : decode cL_law 631 = .ok (.invokevirtual 162, 3) := by decide +kernel
theorem dL_law_634 : decode cL_law 634 = .ok (.istore 6, 2) := by decide +kernel
theorem dL_law_636 : decode cL_law 636 = .ok (.aload_n 2, 1) := by decide +kernel
theorem dL_law_637 : decode cL_law 637 = .ok (.invokevirtual 142, 3) := by decide +kernel
theorem dL_law_640 : decode cL_law 640 = .ok (.iload 5, 2) := by decide +kernel
theorem dL_law_642 : decode cL_law 642 = .ok (.if_icmp .eq 5, 3) := by decide +kernel
theorem dL_law_645 : decode cL_law 645 = .ok (.iconst 0, 1) := by decide +kernel
theorem dL_law_646 : decode cL_law 646 = .ok (.ireturn, 1) := by decide +kernel
theorem dL_law_647 : decode cL_law 647 = .ok (.iload 5, 2) := by decide +kernel
theorem dL_law_649 : decode cL_law 649 = .ok (.ifCond .ne 22, 3) := by decide +kernel
theorem dL_law_652 : decode cL_law 652 = .ok (.aload_n 3, 1) := by decide +kernel
theorem dL_law_653 : decode cL_law 653 = .ok (.iconst 0, 1) := by decide +kernel
theorem dL_law_654 : decode cL_law 654 = .ok (.laload, 1) := by decide +kernel
theorem dL_law_655 : decode cL_law 655 = .ok (.iload 6, 2) := by decide +kernel
theorem dL_law_657 : decode cL_law 657 = .ok (.ifCond .eq 7, 3) := by decide +kernel
theorem dL_law_660 : decode cL_law 660 = .ok (.lconst 1, 1) := by decide +kernel
theorem dL_law_661 : decode cL_law 661 = .ok (.goto 4, 3) := by decide +kernel
theorem dL_law_664 : decode cL_law 664 = .ok (.lconst 0, 1) := by decide +kernel
theorem dL_law_665 : decode cL_law 665 = .ok (.lcmp, 1) := by decide +kernel
theorem dL_law_666 : decode cL_law 666 = .ok (.ifCond .eq 5, 3) := by decide +kernel
theorem dL_law_669 : decode cL_law 669 = .ok (.iconst 0, 1) := by decide +kernel
theorem dL_law_670 : decode cL_law 670 = .ok (.ireturn, 1) := by decide +kernel
theorem dL_law_671 : decode cL_law 671 = .ok (.goto 2017, 3) := by decide +kernel
theorem dL_law_674 : decode cL_law 674 = .ok (.aload_n 1, 1) := by decide +kernel
theorem dL_law_675 : decode cL_law 675 = .ok (.aload_n 0, 1) := by decide +kernel
theorem dL_law_676 : decode cL_law 676 = .ok (.iload 4, 2) := by decide +kernel
theorem dL_law_678 : decode cL_law 678 = .ok (.iconst 1, 1) := by decide +kernel
theorem dL_law_679 : decode cL_law 679 = .ok (.iadd, 1) := by decide +kernel
theorem dL_law_680 : decode cL_law 680 = .ok (.iaload, 1) := by decide +kernel
theorem dL_law_681 : decode cL_law 681 = .ok (.aload_n 0, 1) := by decide +kernel
theorem dL_law_682 : decode cL_law 682 = .ok (.iload 4, 2) := by decide +kernel
theorem dL_law_684 : decode cL_law 684 = .ok (.iconst 2, 1) := by decide +kernel
theorem dL_law_685 : decode cL_law 685 = .ok (.iadd, 1) := by decide +kernel
theorem dL_law_686 : decode cL_law 686 = .ok (.iaload, 1) := by decide +kernel
theorem dL_law_687 : decode cL_law 687 = .ok (.aload_n 3, 1) := by decide +kernel
theorem dL_law_688 : decode cL_law 688 = .ok (.invokestatic 163, 3) := by decide +kernel
theorem dL_law_691 : decode cL_law 691 = .ok (.istore 5, 2) := by decide +kernel
theorem dL_law_693 : decode cL_law 693 = .ok (.aload_n 2, 1) := by decide +kernel
theorem dL_law_694 : decode cL_law 694 = .ok (.aload_n 0, 1) := by decide +kernel
theorem dL_law_695 : decode cL_law 695 = .ok (.iload 4, 2) := by decide +kernel
theorem dL_law_697 : decode cL_law 697 = .ok (.iconst 1, 1) := by decide +kernel
theorem dL_law_698 : decode cL_law 698 = .ok (.iadd, 1) := by decide +kernel
theorem dL_law_699 : decode cL_law 699 = .ok (.iaload, 1) := by decide +kernel
theorem dL_law_700 : decode cL_law 700 = .ok (.aload_n 0, 1) := by decide +kernel
theorem dL_law_701 : decode cL_law 701 = .ok (.iload 4, 2) := by decide +kernel
theorem dL_law_703 : decode cL_law 703 = .ok (.iconst 2, 1) := by decide +kernel
theorem dL_law_704 : decode cL_law 704 = .ok (.iadd, 1) := by decide +kernel
theorem dL_law_705 : decode cL_law 705 = .ok (.iaload, 1) := by decide +kernel
theorem dL_law_706 : decode cL_law 706 = .ok (.invokevirtual 165, 3) := by decide +kernel
theorem dL_law_709 : decode cL_law 709 = .ok (.istore 6, 2) := by decide +kernel
theorem dL_law_711 : decode cL_law 711 = .ok (.aload_n 2, 1) := by decide +kernel
theorem dL_law_712 : decode cL_law 712 = .ok (.invokevirtual 142, 3) := by decide +kernel
theorem dL_law_715 : decode cL_law 715 = .ok (.iload 5, 2) := by decide +kernel
theorem dL_law_717 : decode cL_law 717 = .ok (.if_icmp .eq 5, 3) := by decide +kernel
theorem dL_law_720 : decode cL_law 720 = .ok (.iconst 0, 1) := by decide +kernel
theorem dL_law_721 : decode cL_law 721 = .ok (.ireturn, 1) := by decide +kernel
theorem dL_law_722 : decode cL_law 722 = .ok (.iload 5, 2) := by decide +kernel
theorem dL_law_724 : decode cL_law 724 = .ok (.ifCond .ne 22, 3) := by decide +kernel
theorem dL_law_727 : decode cL_law 727 = .ok (.aload_n 3, 1) := by decide +kernel
theorem dL_law_728 : decode cL_law 728 = .ok (.iconst 0, 1) := by decide +kernel
theorem dL_law_729 : decode cL_law 729 = .ok (.laload, 1) := by decide +kernel
theorem dL_law_730 : decode cL_law 730 = .ok (.iload 6, 2) := by decide +kernel
theorem dL_law_732 : decode cL_law 732 = .ok (.ifCond .eq 7, 3) := by decide +kernel
theorem dL_law_735 : decode cL_law 735 = .ok (.lconst 1, 1) := by decide +kernel
theorem dL_law_736 : decode cL_law 736 = .ok (.goto 4, 3) := by decide +kernel
theorem dL_law_739 : decode cL_law 739 = .ok (.lconst 0, 1) := by decide +kernel
theorem dL_law_740 : decode cL_law 740 = .ok (.lcmp, 1) := by decide +kernel
theorem dL_law_741 : decode cL_law 741 = .ok (.ifCond .eq 5, 3) := by decide +kernel
theorem dL_law_744 : decode cL_law 744 = .ok (.iconst 0, 1) := by decide +kernel
theorem dL_law_745 : decode cL_law 745 = .ok (.ireturn, 1) := by decide +kernel
theorem dL_law_746 : decode cL_law 746 = .ok (.goto 1942, 3) := by decide +kernel
theorem dL_law_749 : decode cL_law 749 = .ok (.aload_n 1, 1) := by decide +kernel
theorem dL_law_750 : decode cL_law 750 = .ok (.invokevirtual 166, 3) := by decide +kernel
theorem dL_law_753 : decode cL_law 753 = .ok (.aload_n 2, 1) := by decide +kernel
theorem dL_law_754 : decode cL_law 754 = .ok (.invokevirtual 170, 3) := by decide +kernel
theorem dL_law_757 : decode cL_law 757 = .ok (.if_icmp .eq 1931, 3) := by decide +kernel
theorem dL_law_760 : decode cL_law 760 = .ok (.iconst 0, 1) := by decide +kernel
theorem dL_law_761 : decode cL_law 761 = .ok (.ireturn, 1) := by decide +kernel
theorem dL_law_762 : decode cL_law 762 = .ok (.aload_n 1, 1) := by decide +kernel
theorem dL_law_763 : decode cL_law 763 = .ok (.aload_n 0, 1) := by decide +kernel
theorem dL_law_764 : decode cL_law 764 = .ok (.iload 4, 2) := by decide +kernel
theorem dL_law_766 : decode cL_law 766 = .ok (.iconst 1, 1) := by decide +kernel
theorem dL_law_767 : decode cL_law 767 = .ok (.iadd, 1) := by decide +kernel
theorem dL_law_768 : decode cL_law 768 = .ok (.iaload, 1) := by decide +kernel
theorem dL_law_769 : decode cL_law 769 = .ok (.aload_n 0, 1) := by decide +kernel
theorem dL_law_770 : decode cL_law 770 = .ok (.iload 4, 2) := by decide +kernel
theorem dL_law_772 : decode cL_law 772 = .ok (.iconst 2, 1) := by decide +kernel
theorem dL_law_773 : decode cL_law 773 = .ok (.iadd, 1) := by decide +kernel
theorem dL_law_774 : decode cL_law 774 = .ok (.iaload, 1) := by decide +kernel
theorem dL_law_775 : decode cL_law 775 = .ok (.aload_n 3, 1) := by decide +kernel
theorem dL_law_776 : decode cL_law 776 = .ok (.invokestatic 171, 3) := by decide +kernel
theorem dL_law_779 : decode cL_law 779 = .ok (.istore 5, 2) := by decide +kernel
theorem dL_law_781 : decode cL_law 781 = .ok (.aload_n 2, 1) := by decide +kernel
theorem dL_law_782 : decode cL_law 782 = .ok (.aload_n 0, 1) := by decide +kernel
theorem dL_law_783 : decode cL_law 783 = .ok (.iload 4, 2) := by decide +kernel
theorem dL_law_785 : decode cL_law 785 = .ok (.iconst 1, 1) := by decide +kernel
theorem dL_law_786 : decode cL_law 786 = .ok (.iadd, 1) := by decide +kernel
theorem dL_law_787 : decode cL_law 787 = .ok (.iaload, 1) := by decide +kernel
theorem dL_law_788 : decode cL_law 788 = .ok (.aload_n 0, 1) := by decide +kernel
theorem dL_law_789 : decode cL_law 789 = .ok (.iload 4, 2) := by decide +kernel
theorem dL_law_791 : decode cL_law 791 = .ok (.iconst 2, 1) := by decide +kernel
theorem dL_law_792 : decode cL_law 792 = .ok (.iadd, 1) := by decide +kernel
theorem dL_law_793 : decode cL_law 793 = .ok (.iaload, 1) := by decide +kernel
theorem dL_law_794 : decode cL_law 794 = .ok (.invokevirtual 173, 3) := by decide +kernel
theorem dL_law_797 : decode cL_law 797 = .ok (.istore 6, 2) := by decide +kernel
theorem dL_law_799 : decode cL_law 799 = .ok (.aload_n 2, 1) := by decide +kernel
theorem dL_law_800 : decode cL_law 800 = .ok (.invokevirtual 142, 3) := by decide +kernel
theorem dL_law_803 : decode cL_law 803 = .ok (.iload 5, 2) := by decide +kernel
theorem dL_law_805 : decode cL_law 805 = .ok (.if_icmp .eq 5, 3) := by decide +kernel
theorem dL_law_808 : decode cL_law 808 = .ok (.iconst 0, 1) := by decide +kernel
theorem dL_law_809 : decode cL_law 809 = .ok (.ireturn, 1) := by decide +kernel
theorem dL_law_810 : decode cL_law 810 = .ok (.iload 5, 2) := by decide +kernel
theorem dL_law_812 : decode cL_law 812 = .ok (.ifCond .ne 22, 3) := by decide +kernel
theorem dL_law_815 : decode cL_law 815 = .ok (.aload_n 3, 1) := by decide +kernel
theorem dL_law_816 : decode cL_law 816 = .ok (.iconst 0, 1) := by decide +kernel
theorem dL_law_817 : decode cL_law 817 = .ok (.laload, 1) := by decide +kernel
theorem dL_law_818 : decode cL_law 818 = .ok (.iload 6, 2) := by decide +kernel
theorem dL_law_820 : decode cL_law 820 = .ok (.ifCond .eq 7, 3) := by decide +kernel
theorem dL_law_823 : decode cL_law 823 = .ok (.lconst 1, 1) := by decide +kernel
theorem dL_law_824 : decode cL_law 824 = .ok (.goto 4, 3) := by decide +kernel
theorem dL_law_827 : decode cL_law 827 = .ok (.lconst 0, 1) := by decide +kernel
theorem dL_law_828 : decode cL_law 828 = .ok (.lcmp, 1) := by decide +kernel
theorem dL_law_829 : decode cL_law 829 = .ok (.ifCond .eq 5, 3) := by decide +kernel
theorem dL_law_832 : decode cL_law 832 = .ok (.iconst 0, 1) := by decide +kernel
theorem dL_law_833 : decode cL_law 833 = .ok (.ireturn, 1) := by decide +kernel
theorem dL_law_834 : decode cL_law 834 = .ok (.goto 1854, 3) := by decide +kernel
theorem dL_law_837 : decode cL_law 837 = .ok (.aload_n 1, 1) := by decide +kernel
theorem dL_law_838 : decode cL_law 838 = .ok (.aload_n 0, 1) := by decide +kernel
theorem dL_law_839 : decode cL_law 839 = .ok (.iload 4, 2) := by decide +kernel
theorem dL_law_841 : decode cL_law 841 = .ok (.iconst 1, 1) := by decide +kernel
theorem dL_law_842 : decode cL_law 842 = .ok (.iadd, 1) := by decide +kernel
theorem dL_law_843 : decode cL_law 843 = .ok (.iaload, 1) := by decide +kernel
theorem dL_law_844 : decode cL_law 844 = .ok (.aload_n 0, 1) := by decide +kernel
theorem dL_law_845 : decode cL_law 845 = .ok (.iload 4, 2) := by decide +kernel
theorem dL_law_847 : decode cL_law 847 = .ok (.iconst 2, 1) := by decide +kernel
theorem dL_law_848 : decode cL_law 848 = .ok (.iadd, 1) := by decide +kernel
theorem dL_law_849 : decode cL_law 849 = .ok (.iaload, 1) := by decide +kernel
theorem dL_law_850 : decode cL_law 850 = .ok (.aload_n 3, 1) := by decide +kernel
theorem dL_law_851 : decode cL_law 851 = .ok (.invokestatic 174, 3) := by decide +kernel
theorem dL_law_854 : decode cL_law 854 = .ok (.istore 5, 2) := by decide +kernel
theorem dL_law_856 : decode cL_law 856 = .ok (.aload_n 2, 1) := by decide +kernel
theorem dL_law_857 : decode cL_law 857 = .ok (.aload_n 0, 1) := by decide +kernel
theorem dL_law_858 : decode cL_law 858 = .ok (.iload 4, 2) := by decide +kernel
theorem dL_law_860 : decode cL_law 860 = .ok (.iconst 1, 1) := by decide +kernel
theorem dL_law_861 : decode cL_law 861 = .ok (.iadd, 1) := by decide +kernel
theorem dL_law_862 : decode cL_law 862 = .ok (.iaload, 1) := by decide +kernel
theorem dL_law_863 : decode cL_law 863 = .ok (.aload_n 0, 1) := by decide +kernel
theorem dL_law_864 : decode cL_law 864 = .ok (.iload 4, 2) := by decide +kernel
theorem dL_law_866 : decode cL_law 866 = .ok (.iconst 2, 1) := by decide +kernel
theorem dL_law_867 : decode cL_law 867 = .ok (.iadd, 1) := by decide +kernel
theorem dL_law_868 : decode cL_law 868 = .ok (.iaload, 1) := by decide +kernel
theorem dL_law_869 : decode cL_law 869 = .ok (.invokevirtual 176, 3) := by decide +kernel
theorem dL_law_872 : decode cL_law 872 = .ok (.istore 6, 2) := by decide +kernel
theorem dL_law_874 : decode cL_law 874 = .ok (.aload_n 2, 1) := by decide +kernel
theorem dL_law_875 : decode cL_law 875 = .ok (.invokevirtual 142, 3) := by decide +kernel
theorem dL_law_878 : decode cL_law 878 = .ok (.iload 5, 2) := by decide +kernel
theorem dL_law_880 : decode cL_law 880 = .ok (.if_icmp .eq 5, 3) := by decide +kernel
theorem dL_law_883 : decode cL_law 883 = .ok (.iconst 0, 1) := by decide +kernel
theorem dL_law_884 : decode cL_law 884 = .ok (.ireturn, 1) := by decide +kernel
theorem dL_law_885 : decode cL_law 885 = .ok (.iload 5, 2) := by decide +kernel
theorem dL_law_887 : decode cL_law 887 = .ok (.ifCond .ne 22, 3) := by decide +kernel
theorem dL_law_890 : decode cL_law 890 = .ok (.aload_n 3, 1) := by decide +kernel
theorem dL_law_891 : decode cL_law 891 = .ok (.iconst 0, 1) := by decide +kernel
theorem dL_law_892 : decode cL_law 892 = .ok (.laload, 1) := by decide +kernel
theorem dL_law_893 : decode cL_law 893 = .ok (.iload 6, 2) := by decide +kernel
theorem dL_law_895 : decode cL_law 895 = .ok (.ifCond .eq 7, 3) := by decide +kernel
theorem dL_law_898 : decode cL_law 898 = .ok (.lconst 1, 1) := by decide +kernel
theorem dL_law_899 : decode cL_law 899 = .ok (.goto 4, 3) := by decide +kernel
theorem dL_law_902 : decode cL_law 902 = .ok (.lconst 0, 1) := by decide +kernel
theorem dL_law_903 : decode cL_law 903 = .ok (.lcmp, 1) := by decide +kernel
theorem dL_law_904 : decode cL_law 904 = .ok (.ifCond .eq 5, 3) := by decide +kernel
theorem dL_law_907 : decode cL_law 907 = .ok (.iconst 0, 1) := by decide +kernel
theorem dL_law_908 : decode cL_law 908 = .ok (.ireturn, 1) := by decide +kernel
theorem dL_law_909 : decode cL_law 909 = .ok (.goto 1779, 3) := by decide +kernel
theorem dL_law_912 : decode cL_law 912 = .ok (.aload_n 1, 1) := by decide +kernel
theorem dL_law_913 : decode cL_law 913 = .ok (.invokevirtual 177, 3) := by decide +kernel
theorem dL_law_916 : decode cL_law 916 = .ok (.aload_n 2, 1) := by decide +kernel
theorem dL_law_917 : decode cL_law 917 = .ok (.invokevirtual 180, 3) := by decide +kernel
theorem dL_law_920 : decode cL_law 920 = .ok (.if_icmp .eq 1768, 3) := by decide +kernel
theorem dL_law_923 : decode cL_law 923 = .ok (.iconst 0, 1) := by decide +kernel
theorem dL_law_924 : decode cL_law 924 = .ok (.ireturn, 1) := by decide +kernel
theorem dL_law_925 : decode cL_law 925 = .ok (.aload_n 1, 1) := by decide +kernel
theorem dL_law_926 : decode cL_law 926 = .ok (.aload_n 0, 1) := by decide +kernel
theorem dL_law_927 : decode cL_law 927 = .ok (.iload 4, 2) := by decide +kernel
theorem dL_law_929 : decode cL_law 929 = .ok (.iconst 1, 1) := by decide +kernel
theorem dL_law_930 : decode cL_law 930 = .ok (.iadd, 1) := by decide +kernel
theorem dL_law_931 : decode cL_law 931 = .ok (.iaload, 1) := by decide +kernel
theorem dL_law_932 : decode cL_law 932 = .ok (.aload_n 0, 1) := by decide +kernel
theorem dL_law_933 : decode cL_law 933 = .ok (.iload 4, 2) := by decide +kernel
theorem dL_law_935 : decode cL_law 935 = .ok (.iconst 2, 1) := by decide +kernel
theorem dL_law_936 : decode cL_law 936 = .ok (.iadd, 1) := by decide +kernel
theorem dL_law_937 : decode cL_law 937 = .ok (.iaload, 1) := by decide +kernel
theorem dL_law_938 : decode cL_law 938 = .ok (.aload_n 0, 1) := by decide +kernel
theorem dL_law_939 : decode cL_law 939 = .ok (.iload 4, 2) := by decide +kernel
theorem dL_law_941 : decode cL_law 941 = .ok (.iconst 3, 1) := by decide +kernel
theorem dL_law_942 : decode cL_law 942 = .ok (.iadd, 1) := by decide +kernel
theorem dL_law_943 : decode cL_law 943 = .ok (.iaload, 1) := by decide +kernel
theorem dL_law_944 : decode cL_law 944 = .ok (.aload_n 3, 1) := by decide +kernel
theorem dL_law_945 : decode cL_law 945 = .ok (.invokestatic 181, 3) := by decide +kernel
theorem dL_law_948 : decode cL_law 948 = .ok (.istore 5, 2) := by decide +kernel
theorem dL_law_950 : decode cL_law 950 = .ok (.aload_n 2, 1) := by decide +kernel
theorem dL_law_951 : decode cL_law 951 = .ok (.aload_n 0, 1) := by decide +kernel
theorem dL_law_952 : decode cL_law 952 = .ok (.iload 4, 2) := by decide +kernel
theorem dL_law_954 : decode cL_law 954 = .ok (.iconst 1, 1) := by decide +kernel
theorem dL_law_955 : decode cL_law 955 = .ok (.iadd, 1) := by decide +kernel
theorem dL_law_956 : decode cL_law 956 = .ok (.iaload, 1) := by decide +kernel
theorem dL_law_957 : decode cL_law 957 = .ok (.aload_n 0, 1) := by decide +kernel
theorem dL_law_958 : decode cL_law 958 = .ok (.iload 4, 2) := by decide +kernel
theorem dL_law_960 : decode cL_law 960 = .ok (.iconst 2, 1) := by decide +kernel
theorem dL_law_961 : decode cL_law 961 = .ok (.iadd, 1) := by decide +kernel
theorem dL_law_962 : decode cL_law 962 = .ok (.iaload, 1) := by decide +kernel
theorem dL_law_963 : decode cL_law 963 = .ok (.aload_n 0, 1) := by decide +kernel
theorem dL_law_964 : decode cL_law 964 = .ok (.iload 4, 2) := by decide +kernel
theorem dL_law_966 : decode cL_law 966 = .ok (.iconst 3, 1) := by decide +kernel
theorem dL_law_967 : decode cL_law 967 = .ok (.iadd, 1) := by decide +kernel
theorem dL_law_968 : decode cL_law 968 = .ok (.iaload, 1) := by decide +kernel
theorem dL_law_969 : decode cL_law 969 = .ok (.invokevirtual 184, 3) := by decide +kernel
theorem dL_law_972 : decode cL_law 972 = .ok (.istore 6, 2) := by decide +kernel
theorem dL_law_974 : decode cL_law 974 = .ok (.aload_n 2, 1) := by decide +kernel
theorem dL_law_975 : decode cL_law 975 = .ok (.invokevirtual 142, 3) := by decide +kernel
theorem dL_law_978 : decode cL_law 978 = .ok (.iload 5, 2) := by decide +kernel
theorem dL_law_980 : decode cL_law 980 = .ok (.if_icmp .eq 5, 3) := by decide +kernel
theorem dL_law_983 : decode cL_law 983 = .ok (.iconst 0, 1) := by decide +kernel
theorem dL_law_984 : decode cL_law 984 = .ok (.ireturn, 1) := by decide +kernel
theorem dL_law_985 : decode cL_law 985 = .ok (.iload 5, 2) := by decide +kernel
theorem dL_law_987 : decode cL_law 987 = .ok (.ifCond .ne 15, 3) := by decide +kernel
theorem dL_law_990 : decode cL_law 990 = .ok (.aload_n 3, 1) := by decide +kernel
theorem dL_law_991 : decode cL_law 991 = .ok (.iconst 0, 1) := by decide +kernel
theorem dL_law_992 : decode cL_law 992 = .ok (.laload, 1) := by decide +kernel
theorem dL_law_993 : decode cL_law 993 = .ok (.iload 6, 2) := by decide +kernel
theorem dL_law_995 : decode cL_law 995 = .ok (.i2l, 1) := by decide +kernel
theorem dL_law_996 : decode cL_law 996 = .ok (.lcmp, 1) := by decide +kernel
theorem dL_law_997 : decode cL_law 997 = .ok (.ifCond .eq 5, 3) := by decide +kernel
theorem dL_law_1000 : decode cL_law 1000 = .ok (.iconst 0, 1) := by decide +kernel
theorem dL_law_1001 : decode cL_law 1001 = .ok (.ireturn, 1) := by decide +kernel
theorem dL_law_1002 : decode cL_law 1002 = .ok (.goto 1686, 3) := by decide +kernel
theorem dL_law_1005 : decode cL_law 1005 = .ok (.aload_n 1, 1) := by decide +kernel
theorem dL_law_1006 : decode cL_law 1006 = .ok (.aload_n 0, 1) := by decide +kernel
theorem dL_law_1007 : decode cL_law 1007 = .ok (.iload 4, 2) := by decide +kernel
theorem dL_law_1009 : decode cL_law 1009 = .ok (.iconst 1, 1) := by decide +kernel
theorem dL_law_1010 : decode cL_law 1010 = .ok (.iadd, 1) := by decide +kernel
theorem dL_law_1011 : decode cL_law 1011 = .ok (.iaload, 1) := by decide +kernel
theorem dL_law_1012 : decode cL_law 1012 = .ok (.aload_n 3, 1) := by decide +kernel
theorem dL_law_1013 : decode cL_law 1013 = .ok (.invokestatic 185, 3) := by decide +kernel
theorem dL_law_1016 : decode cL_law 1016 = .ok (.istore 5, 2) := by decide +kernel
theorem dL_law_1018 : decode cL_law 1018 = .ok (.aload_n 2, 1) := by decide +kernel
theorem dL_law_1019 : decode cL_law 1019 = .ok (.aload_n 0, 1) := by decide +kernel
theorem dL_law_1020 : decode cL_law 1020 = .ok (.iload 4, 2) := by decide +kernel
theorem dL_law_1022 : decode cL_law 1022 = .ok (.iconst 1, 1) := by decide +kernel
theorem dL_law_1023 : decode cL_law 1023 = .ok (.iadd, 1) := by decide +kernel
theorem dL_law_1024 : decode cL_law 1024 = .ok (.iaload, 1) := by decide +kernel
theorem dL_law_1025 : decode cL_law 1025 = .ok (.invokevirtual 187, 3) := by decide +kernel
theorem dL_law_1028 : decode cL_law 1028 = .ok (.istore 6, 2) := by decide +kernel
theorem dL_law_1030 : decode cL_law 1030 = .ok (.aload_n 2, 1) := by decide +kernel
theorem dL_law_1031 : decode cL_law 1031 = .ok (.invokevirtual 142, 3) := by decide +kernel
theorem dL_law_1034 : decode cL_law 1034 = .ok (.iload 5, 2) := by decide +kernel
theorem dL_law_1036 : decode cL_law 1036 = .ok (.if_icmp .eq 5, 3) := by decide +kernel
theorem dL_law_1039 : decode cL_law 1039 = .ok (.iconst 0, 1) := by decide +kernel
theorem dL_law_1040 : decode cL_law 1040 = .ok (.ireturn, 1) := by decide +kernel
theorem dL_law_1041 : decode cL_law 1041 = .ok (.iload 5, 2) := by decide +kernel
theorem dL_law_1043 : decode cL_law 1043 = .ok (.ifCond .ne 15, 3) := by decide +kernel
theorem dL_law_1046 : decode cL_law 1046 = .ok (.aload_n 3, 1) := by decide +kernel
theorem dL_law_1047 : decode cL_law 1047 = .ok (.iconst 0, 1) := by decide +kernel
theorem dL_law_1048 : decode cL_law 1048 = .ok (.laload, 1) := by decide +kernel
theorem dL_law_1049 : decode cL_law 1049 = .ok (.iload 6, 2) := by decide +kernel
theorem dL_law_1051 : decode cL_law 1051 = .ok (.i2l, 1) := by decide +kernel
theorem dL_law_1052 : decode cL_law 1052 = .ok (.lcmp, 1) := by decide +kernel
theorem dL_law_1053 : decode cL_law 1053 = .ok (.ifCond .eq 5, 3) := by decide +kernel
theorem dL_law_1056 : decode cL_law 1056 = .ok (.iconst 0, 1) := by decide +kernel
theorem dL_law_1057 : decode cL_law 1057 = .ok (.ireturn, 1) := by decide +kernel
theorem dL_law_1058 : decode cL_law 1058 = .ok (.goto 1630, 3) := by decide +kernel
theorem dL_law_1061 : decode cL_law 1061 = .ok (.aload_n 1, 1) := by decide +kernel
theorem dL_law_1062 : decode cL_law 1062 = .ok (.aload_n 0, 1) := by decide +kernel
theorem dL_law_1063 : decode cL_law 1063 = .ok (.iload 4, 2) := by decide +kernel
theorem dL_law_1065 : decode cL_law 1065 = .ok (.iconst 1, 1) := by decide +kernel
theorem dL_law_1066 : decode cL_law 1066 = .ok (.iadd, 1) := by decide +kernel
theorem dL_law_1067 : decode cL_law 1067 = .ok (.iaload, 1) := by decide +kernel
theorem dL_law_1068 : decode cL_law 1068 = .ok (.aload_n 3, 1) := by decide +kernel
theorem dL_law_1069 : decode cL_law 1069 = .ok (.invokestatic 188, 3) := by decide +kernel
theorem dL_law_1072 : decode cL_law 1072 = .ok (.istore 5, 2) := by decide +kernel
theorem dL_law_1074 : decode cL_law 1074 = .ok (.aload_n 2, 1) := by decide +kernel
theorem dL_law_1075 : decode cL_law 1075 = .ok (.aload_n 0, 1) := by decide +kernel
theorem dL_law_1076 : decode cL_law 1076 = .ok (.iload 4, 2) := by decide +kernel
theorem dL_law_1078 : decode cL_law 1078 = .ok (.iconst 1, 1) := by decide +kernel
theorem dL_law_1079 : decode cL_law 1079 = .ok (.iadd, 1) := by decide +kernel
theorem dL_law_1080 : decode cL_law 1080 = .ok (.iaload, 1) := by decide +kernel
theorem dL_law_1081 : decode cL_law 1081 = .ok (.invokevirtual 190, 3) := by decide +kernel
theorem dL_law_1084 : decode cL_law 1084 = .ok (.istore 6, 2) := by decide +kernel
theorem dL_law_1086 : decode cL_law 1086 = .ok (.aload_n 2, 1) := by decide +kernel
theorem dL_law_1087 : decode cL_law 1087 = .ok (.invokevirtual 142, 3) := by decide +kernel
theorem dL_law_1090 : decode cL_law 1090 = .ok (.iload 5, 2) := by decide +kernel
theorem dL_law_1092 : decode cL_law 1092 = .ok (.if_icmp .eq 5, 3) := by decide +kernel
theorem dL_law_1095 : decode cL_law 1095 = .ok (.iconst 0, 1) := by decide +kernel
theorem dL_law_1096 : decode cL_law 1096 = .ok (.ireturn, 1) := by decide +kernel
theorem dL_law_1097 : decode cL_law 1097 = .ok (.iload 5, 2) := by decide +kernel
theorem dL_law_1099 : decode cL_law 1099 = .ok (.ifCond .ne 15, 3) := by decide +kernel
theorem dL_law_1102 : decode cL_law 1102 = .ok (.aload_n 3, 1) := by decide +kernel
theorem dL_law_1103 : decode cL_law 1103 = .ok (.iconst 0, 1) := by decide +kernel
theorem dL_law_1104 : decode cL_law 1104 = .ok (.laload, 1) := by decide +kernel
theorem dL_law_1105 : decode cL_law 1105 = .ok (.iload 6, 2) := by decide +kernel
theorem dL_law_1107 : decode cL_law 1107 = .ok (.i2l, 1) := by decide +kernel
theorem dL_law_1108 : decode cL_law 1108 = .ok (.lcmp, 1) := by decide +kernel
theorem dL_law_1109 : decode cL_law 1109 = .ok (.ifCond .eq 5, 3) := by decide +kernel
theorem dL_law_1112 : decode cL_law 1112 = .ok (.iconst 0, 1) := by decide +kernel
theorem dL_law_1113 : decode cL_law 1113 = .ok (.ireturn, 1) := by decide +kernel
theorem dL_law_1114 : decode cL_law 1114 = .ok (.goto 1574, 3) := by decide +kernel
theorem dL_law_1117 : decode cL_law 1117 = .ok (.aload_n 1, 1) := by decide +kernel
theorem dL_law_1118 : decode cL_law 1118 = .ok (.aload_n 0, 1) := by decide +kernel
theorem dL_law_1119 : decode cL_law 1119 = .ok (.iload 4, 2) := by decide +kernel
theorem dL_law_1121 : decode cL_law 1121 = .ok (.iconst 1, 1) := by decide +kernel
theorem dL_law_1122 : decode cL_law 1122 = .ok (.iadd, 1) := by decide +kernel
theorem dL_law_1123 : decode cL_law 1123 = .ok (.iaload, 1) := by decide +kernel
theorem dL_law_1124 : decode cL_law 1124 = .ok (.aload_n 0, 1) := by decide +kernel
theorem dL_law_1125 : decode cL_law 1125 = .ok (.iload 4, 2) := by decide +kernel
theorem dL_law_1127 : decode cL_law 1127 = .ok (.iconst 2, 1) := by decide +kernel
theorem dL_law_1128 : decode cL_law 1128 = .ok (.iadd, 1) := by decide +kernel
theorem dL_law_1129 : decode cL_law 1129 = .ok (.iaload, 1) := by decide +kernel
theorem dL_law_1130 : decode cL_law 1130 = .ok (.aload_n 0, 1) := by decide +kernel
theorem dL_law_1131 : decode cL_law 1131 = .ok (.iload 4, 2) := by decide +kernel
theorem dL_law_1133 : decode cL_law 1133 = .ok (.iconst 3, 1) := by decide +kernel
theorem dL_law_1134 : decode cL_law 1134 = .ok (.iadd, 1) := by decide +kernel
theorem dL_law_1135 : decode cL_law 1135 = .ok (.iaload, 1) := by decide +kernel
theorem dL_law_1136 : decode cL_law 1136 = .ok (.aload_n 3, 1) := by decide +kernel
theorem dL_law_1137 : decode cL_law 1137 = .ok (.invokestatic 191, 3) := by decide +kernel
theorem dL_law_1140 : decode cL_law 1140 = .ok (.istore 5, 2) := by decide +kernel
theorem dL_law_1142 : decode cL_law 1142 = .ok (.aload_n 2, 1) := by decide +kernel
theorem dL_law_1143 : decode cL_law 1143 = .ok (.aload_n 0, 1) := by decide +kernel
theorem dL_law_1144 : decode cL_law 1144 = .ok (.iload 4, 2) := by decide +kernel
theorem dL_law_1146 : decode cL_law 1146 = .ok (.iconst 1, 1) := by decide +kernel
theorem dL_law_1147 : decode cL_law 1147 = .ok (.iadd, 1) := by decide +kernel
theorem dL_law_1148 : decode cL_law 1148 = .ok (.iaload, 1) := by decide +kernel
theorem dL_law_1149 : decode cL_law 1149 = .ok (.aload_n 0, 1) := by decide +kernel
theorem dL_law_1150 : decode cL_law 1150 = .ok (.iload 4, 2) := by decide +kernel
theorem dL_law_1152 : decode cL_law 1152 = .ok (.iconst 2, 1) := by decide +kernel
theorem dL_law_1153 : decode cL_law 1153 = .ok (.iadd, 1) := by decide +kernel
theorem dL_law_1154 : decode cL_law 1154 = .ok (.iaload, 1) := by decide +kernel
theorem dL_law_1155 : decode cL_law 1155 = .ok (.aload_n 0, 1) := by decide +kernel
theorem dL_law_1156 : decode cL_law 1156 = .ok (.iload 4, 2) := by decide +kernel
theorem dL_law_1158 : decode cL_law 1158 = .ok (.iconst 3, 1) := by decide +kernel
theorem dL_law_1159 : decode cL_law 1159 = .ok (.iadd, 1) := by decide +kernel
theorem dL_law_1160 : decode cL_law 1160 = .ok (.iaload, 1) := by decide +kernel
theorem dL_law_1161 : decode cL_law 1161 = .ok (.invokevirtual 193, 3) := by decide +kernel
theorem dL_law_1164 : decode cL_law 1164 = .ok (.istore 6, 2) := by decide +kernel
theorem dL_law_1166 : decode cL_law 1166 = .ok (.aload_n 2, 1) := by decide +kernel
theorem dL_law_1167 : decode cL_law 1167 = .ok (.invokevirtual 142, 3) := by decide +kernel
theorem dL_law_1170 : decode cL_law 1170 = .ok (.iload 5, 2) := by decide +kernel
theorem dL_law_1172 : decode cL_law 1172 = .ok (.if_icmp .eq 5, 3) := by decide +kernel
theorem dL_law_1175 : decode cL_law 1175 = .ok (.iconst 0, 1) := by decide +kernel
theorem dL_law_1176 : decode cL_law 1176 = .ok (.ireturn, 1) := by decide +kernel
theorem dL_law_1177 : decode cL_law 1177 = .ok (.iload 5, 2) := by decide +kernel
theorem dL_law_1179 : decode cL_law 1179 = .ok (.ifCond .ne 15, 3) := by decide +kernel
theorem dL_law_1182 : decode cL_law 1182 = .ok (.aload_n 3, 1) := by decide +kernel
theorem dL_law_1183 : decode cL_law 1183 = .ok (.iconst 0, 1) := by decide +kernel
theorem dL_law_1184 : decode cL_law 1184 = .ok (.laload, 1) := by decide +kernel
theorem dL_law_1185 : decode cL_law 1185 = .ok (.iload 6, 2) := by decide +kernel
theorem dL_law_1187 : decode cL_law 1187 = .ok (.i2l, 1) := by decide +kernel
theorem dL_law_1188 : decode cL_law 1188 = .ok (.lcmp, 1) := by decide +kernel
theorem dL_law_1189 : decode cL_law 1189 = .ok (.ifCond .eq 5, 3) := by decide +kernel
theorem dL_law_1192 : decode cL_law 1192 = .ok (.iconst 0, 1) := by decide +kernel
theorem dL_law_1193 : decode cL_law 1193 = .ok (.ireturn, 1) := by decide +kernel
theorem dL_law_1194 : decode cL_law 1194 = .ok (.goto 1494, 3) := by decide +kernel
theorem dL_law_1197 : decode cL_law 1197 = .ok (.aload_n 1, 1) := by decide +kernel
theorem dL_law_1198 : decode cL_law 1198 = .ok (.aload_n 0, 1) := by decide +kernel
theorem dL_law_1199 : decode cL_law 1199 = .ok (.iload 4, 2) := by decide +kernel
theorem dL_law_1201 : decode cL_law 1201 = .ok (.iconst 1, 1) := by decide +kernel
theorem dL_law_1202 : decode cL_law 1202 = .ok (.iadd, 1) := by decide +kernel
theorem dL_law_1203 : decode cL_law 1203 = .ok (.iaload, 1) := by decide +kernel
theorem dL_law_1204 : decode cL_law 1204 = .ok (.aload_n 3, 1) := by decide +kernel
theorem dL_law_1205 : decode cL_law 1205 = .ok (.invokestatic 194, 3) := by decide +kernel
theorem dL_law_1208 : decode cL_law 1208 = .ok (.istore 5, 2) := by decide +kernel
theorem dL_law_1210 : decode cL_law 1210 = .ok (.aload_n 2, 1) := by decide +kernel
theorem dL_law_1211 : decode cL_law 1211 = .ok (.aload_n 0, 1) := by decide +kernel
theorem dL_law_1212 : decode cL_law 1212 = .ok (.iload 4, 2) := by decide +kernel
theorem dL_law_1214 : decode cL_law 1214 = .ok (.iconst 1, 1) := by decide +kernel
theorem dL_law_1215 : decode cL_law 1215 = .ok (.iadd, 1) := by decide +kernel
theorem dL_law_1216 : decode cL_law 1216 = .ok (.iaload, 1) := by decide +kernel
theorem dL_law_1217 : decode cL_law 1217 = .ok (.invokevirtual 196, 3) := by decide +kernel
theorem dL_law_1220 : decode cL_law 1220 = .ok (.istore 6, 2) := by decide +kernel
theorem dL_law_1222 : decode cL_law 1222 = .ok (.aload_n 2, 1) := by decide +kernel
theorem dL_law_1223 : decode cL_law 1223 = .ok (.invokevirtual 142, 3) := by decide +kernel
theorem dL_law_1226 : decode cL_law 1226 = .ok (.iload 5, 2) := by decide +kernel
theorem dL_law_1228 : decode cL_law 1228 = .ok (.if_icmp .eq 5, 3) := by decide +kernel
theorem dL_law_1231 : decode cL_law 1231 = .ok (.iconst 0, 1) := by decide +kernel
theorem dL_law_1232 : decode cL_law 1232 = .ok (.ireturn, 1) := by decide +kernel
theorem dL_law_1233 : decode cL_law 1233 = .ok (.iload 5, 2) := by decide +kernel
theorem dL_law_1235 : decode cL_law 1235 = .ok (.ifCond .ne 15, 3) := by decide +kernel
theorem dL_law_1238 : decode cL_law 1238 = .ok (.aload_n 3, 1) := by decide +kernel
theorem dL_law_1239 : decode cL_law 1239 = .ok (.iconst 0, 1) := by decide +kernel
theorem dL_law_1240 : decode cL_law 1240 = .ok (.laload, 1) := by decide +kernel
theorem dL_law_1241 : decode cL_law 1241 = .ok (.iload 6, 2) := by decide +kernel
theorem dL_law_1243 : decode cL_law 1243 = .ok (.i2l, 1) := by decide +kernel
theorem dL_law_1244 : decode cL_law 1244 = .ok (.lcmp, 1) := by decide +kernel
theorem dL_law_1245 : decode cL_law 1245 = .ok (.ifCond .eq 5, 3) := by decide +kernel
theorem dL_law_1248 : decode cL_law 1248 = .ok (.iconst 0, 1) := by decide +kernel
theorem dL_law_1249 : decode cL_law 1249 = .ok (.ireturn, 1) := by decide +kernel
theorem dL_law_1250 : decode cL_law 1250 = .ok (.goto 1438, 3) := by decide +kernel
theorem dL_law_1253 : decode cL_law 1253 = .ok (.aload_n 1, 1) := by decide +kernel
theorem dL_law_1254 : decode cL_law 1254 = .ok (.invokevirtual 197, 3) := by decide +kernel
theorem dL_law_1257 : decode cL_law 1257 = .ok (.aload_n 2, 1) := by decide +kernel
theorem dL_law_1258 : decode cL_law 1258 = .ok (.invokevirtual 200, 3) := by decide +kernel
theorem dL_law_1261 : decode cL_law 1261 = .ok (.if_icmp .eq 1427, 3) := by decide +kernel
theorem dL_law_1264 : decode cL_law 1264 = .ok (.iconst 0, 1) := by decide +kernel
theorem dL_law_1265 : decode cL_law 1265 = .ok (.ireturn, 1) := by decide +kernel
theorem dL_law_1266 : decode cL_law 1266 = .ok (.aload_n 1, 1) := by decide +kernel
theorem dL_law_1267 : decode cL_law 1267 = .ok (.aload_n 0, 1) := by decide +kernel
theorem dL_law_1268 : decode cL_law 1268 = .ok (.iload 4, 2) := by decide +kernel
theorem dL_law_1270 : decode cL_law 1270 = .ok (.iconst 1, 1) := by decide +kernel
theorem dL_law_1271 : decode cL_law 1271 = .ok (.iadd, 1) := by decide +kernel
theorem dL_law_1272 : decode cL_law 1272 = .ok (.iaload, 1) := by decide +kernel
theorem dL_law_1273 : decode cL_law 1273 = .ok (.aload_n 3, 1) := by decide +kernel
theorem dL_law_1274 : decode cL_law 1274 = .ok (.invokestatic 201, 3) := by decide +kernel
theorem dL_law_1277 : decode cL_law 1277 = .ok (.istore 5, 2) := by decide +kernel
theorem dL_law_1279 : decode cL_law 1279 = .ok (.aload_n 2, 1) := by decide +kernel
theorem dL_law_1280 : decode cL_law 1280 = .ok (.aload_n 0, 1) := by decide +kernel
theorem dL_law_1281 : decode cL_law 1281 = .ok (.iload 4, 2) := by decide +kernel
theorem dL_law_1283 : decode cL_law 1283 = .ok (.iconst 1, 1) := by decide +kernel
theorem dL_law_1284 : decode cL_law 1284 = .ok (.iadd, 1) := by decide +kernel
theorem dL_law_1285 : decode cL_law 1285 = .ok (.iaload, 1) := by decide +kernel
theorem dL_law_1286 : decode cL_law 1286 = .ok (.invokevirtual 203, 3) := by decide +kernel
theorem dL_law_1289 : decode cL_law 1289 = .ok (.istore 6, 2) := by decide +kernel
theorem dL_law_1291 : decode cL_law 1291 = .ok (.aload_n 2, 1) := by decide +kernel
theorem dL_law_1292 : decode cL_law 1292 = .ok (.invokevirtual 142, 3) := by decide +kernel
theorem dL_law_1295 : decode cL_law 1295 = .ok (.iload 5, 2) := by decide +kernel
theorem dL_law_1297 : decode cL_law 1297 = .ok (.if_icmp .eq 5, 3) := by decide +kernel
theorem dL_law_1300 : decode cL_law 1300 = .ok (.iconst 0, 1) := by decide +kernel
theorem dL_law_1301 : decode cL_law 1301 = .ok (.ireturn, 1) := by decide +kernel
theorem dL_law_1302 : decode cL_law 1302 = .ok (.iload 5, 2) := by decide +kernel
theorem dL_law_1304 : decode cL_law 1304 = .ok (.ifCond .ne 15, 3) := by decide +kernel
theorem dL_law_1307 : decode cL_law 1307 = .ok (.aload_n 3, 1) := by decide +kernel
theorem dL_law_1308 : decode cL_law 1308 = .ok (.iconst 0, 1) := by decide +kernel
theorem dL_law_1309 : decode cL_law 1309 = .ok (.laload, 1) := by decide +kernel
theorem dL_law_1310 : decode cL_law 1310 = .ok (.iload 6, 2) := by decide +kernel
theorem dL_law_1312 : decode cL_law 1312 = .ok (.i2l, 1) := by decide +kernel
theorem dL_law_1313 : decode cL_law 1313 = .ok (.lcmp, 1) := by decide +kernel
theorem dL_law_1314 : decode cL_law 1314 = .ok (.ifCond .eq 5, 3) := by decide +kernel
theorem dL_law_1317 : decode cL_law 1317 = .ok (.iconst 0, 1) := by decide +kernel
theorem dL_law_1318 : decode cL_law 1318 = .ok (.ireturn, 1) := by decide +kernel
theorem dL_law_1319 : decode cL_law 1319 = .ok (.goto 1369, 3) := by decide +kernel
theorem dL_law_1322 : decode cL_law 1322 = .ok (.aload_n 1, 1) := by decide +kernel
theorem dL_law_1323 : decode cL_law 1323 = .ok (.aload_n 0, 1) := by decide +kernel
theorem dL_law_1324 : decode cL_law 1324 = .ok (.iload 4, 2) := by decide +kernel
theorem dL_law_1326 : decode cL_law 1326 = .ok (.iconst 1, 1) := by decide +kernel
theorem dL_law_1327 : decode cL_law 1327 = .ok (.iadd, 1) := by decide +kernel
theorem dL_law_1328 : decode cL_law 1328 = .ok (.iaload, 1) := by decide +kernel
theorem dL_law_1329 : decode cL_law 1329 = .ok (.aload_n 0, 1) := by decide +kernel
theorem dL_law_1330 : decode cL_law 1330 = .ok (.iload 4, 2) := by decide +kernel
theorem dL_law_1332 : decode cL_law 1332 = .ok (.iconst 2, 1) := by decide +kernel
theorem dL_law_1333 : decode cL_law 1333 = .ok (.iadd, 1) := by decide +kernel
theorem dL_law_1334 : decode cL_law 1334 = .ok (.iaload, 1) := by decide +kernel
theorem dL_law_1335 : decode cL_law 1335 = .ok (.aload_n 0, 1) := by decide +kernel
theorem dL_law_1336 : decode cL_law 1336 = .ok (.iload 4, 2) := by decide +kernel
theorem dL_law_1338 : decode cL_law 1338 = .ok (.iconst 3, 1) := by decide +kernel
theorem dL_law_1339 : decode cL_law 1339 = .ok (.iadd, 1) := by decide +kernel
theorem dL_law_1340 : decode cL_law 1340 = .ok (.iaload, 1) := by decide +kernel
theorem dL_law_1341 : decode cL_law 1341 = .ok (.aload_n 0, 1) := by decide +kernel
theorem dL_law_1342 : decode cL_law 1342 = .ok (.iload 4, 2) := by decide +kernel
theorem dL_law_1344 : decode cL_law 1344 = .ok (.iconst 4, 1) := by decide +kernel
theorem dL_law_1345 : decode cL_law 1345 = .ok (.iadd, 1) := by decide +kernel
theorem dL_law_1346 : decode cL_law 1346 = .ok (.iaload, 1) := by decide +kernel
theorem dL_law_1347 : decode cL_law 1347 = .ok (.aload_n 3, 1) := by decide +kernel
theorem dL_law_1348 : decode cL_law 1348 = .ok (.invokestatic 204, 3) := by decide +kernel
theorem dL_law_1351 : decode cL_law 1351 = .ok (.istore 5, 2) := by decide +kernel
theorem dL_law_1353 : decode cL_law 1353 = .ok (.aload_n 2, 1) := by decide +kernel
theorem dL_law_1354 : decode cL_law 1354 = .ok (.aload_n 0, 1) := by decide +kernel
theorem dL_law_1355 : decode cL_law 1355 = .ok (.iload 4, 2) := by decide +kernel
theorem dL_law_1357 : decode cL_law 1357 = .ok (.iconst 1, 1) := by decide +kernel
theorem dL_law_1358 : decode cL_law 1358 = .ok (.iadd, 1) := by decide +kernel
theorem dL_law_1359 : decode cL_law 1359 = .ok (.iaload, 1) := by decide +kernel
theorem dL_law_1360 : decode cL_law 1360 = .ok (.aload_n 0, 1) := by decide +kernel
theorem dL_law_1361 : decode cL_law 1361 = .ok (.iload 4, 2) := by decide +kernel
theorem dL_law_1363 : decode cL_law 1363 = .ok (.iconst 2, 1) := by decide +kernel
theorem dL_law_1364 : decode cL_law 1364 = .ok (.iadd, 1) := by decide +kernel
theorem dL_law_1365 : decode cL_law 1365 = .ok (.iaload, 1) := by decide +kernel
theorem dL_law_1366 : decode cL_law 1366 = .ok (.aload_n 0, 1) := by decide +kernel
theorem dL_law_1367 : decode cL_law 1367 = .ok (.iload 4, 2) := by decide +kernel
theorem dL_law_1369 : decode cL_law 1369 = .ok (.iconst 3, 1) := by decide +kernel
theorem dL_law_1370 : decode cL_law 1370 = .ok (.iadd, 1) := by decide +kernel
theorem dL_law_1371 : decode cL_law 1371 = .ok (.iaload, 1) := by decide +kernel
theorem dL_law_1372 : decode cL_law 1372 = .ok (.aload_n 0, 1) := by decide +kernel
theorem dL_law_1373 : decode cL_law 1373 = .ok (.iload 4, 2) := by decide +kernel
theorem dL_law_1375 : decode cL_law 1375 = .ok (.iconst 4, 1) := by decide +kernel
theorem dL_law_1376 : decode cL_law 1376 = .ok (.iadd, 1) := by decide +kernel
theorem dL_law_1377 : decode cL_law 1377 = .ok (.iaload, 1) := by decide +kernel
theorem dL_law_1378 : decode cL_law 1378 = .ok (.invokevirtual 207, 3) := by decide +kernel
theorem dL_law_1381 : decode cL_law 1381 = .ok (.istore 6, 2) := by decide +kernel
theorem dL_law_1383 : decode cL_law 1383 = .ok (.aload_n 2, 1) := by decide +kernel
theorem dL_law_1384 : decode cL_law 1384 = .ok (.invokevirtual 142, 3) := by decide +kernel
theorem dL_law_1387 : decode cL_law 1387 = .ok (.iload 5, 2) := by decide +kernel
theorem dL_law_1389 : decode cL_law 1389 = .ok (.if_icmp .eq 5, 3) := by decide +kernel
theorem dL_law_1392 : decode cL_law 1392 = .ok (.iconst 0, 1) := by decide +kernel
theorem dL_law_1393 : decode cL_law 1393 = .ok (.ireturn, 1) := by decide +kernel
theorem dL_law_1394 : decode cL_law 1394 = .ok (.iload 5, 2) := by decide +kernel
theorem dL_law_1396 : decode cL_law 1396 = .ok (.ifCond .ne 15, 3) := by decide +kernel
theorem dL_law_1399 : decode cL_law 1399 = .ok (.aload_n 3, 1) := by decide +kernel
theorem dL_law_1400 : decode cL_law 1400 = .ok (.iconst 0, 1) := by decide +kernel
theorem dL_law_1401 : decode cL_law 1401 = .ok (.laload, 1) := by decide +kernel
theorem dL_law_1402 : decode cL_law 1402 = .ok (.iload 6, 2) := by decide +kernel
theorem dL_law_1404 : decode cL_law 1404 = .ok (.i2l, 1) := by decide +kernel
theorem dL_law_1405 : decode cL_law 1405 = .ok (.lcmp, 1) := by decide +kernel
theorem dL_law_1406 : decode cL_law 1406 = .ok (.ifCond .eq 5, 3) := by decide +kernel
theorem dL_law_1409 : decode cL_law 1409 = .ok (.iconst 0, 1) := by decide +kernel
theorem dL_law_1410 : decode cL_law 1410 = .ok (.ireturn, 1) := by decide +kernel
theorem dL_law_1411 : decode cL_law 1411 = .ok (.goto 1277, 3) := by decide +kernel
theorem dL_law_1414 : decode cL_law 1414 = .ok (.aload_n 1, 1) := by decide +kernel
theorem dL_law_1415 : decode cL_law 1415 = .ok (.aload_n 0, 1) := by decide +kernel
theorem dL_law_1416 : decode cL_law 1416 = .ok (.iload 4, 2) := by decide +kernel
theorem dL_law_1418 : decode cL_law 1418 = .ok (.iconst 1, 1) := by decide +kernel
theorem dL_law_1419 : decode cL_law 1419 = .ok (.iadd, 1) := by decide +kernel
theorem dL_law_1420 : decode cL_law 1420 = .ok (.iaload, 1) := by decide +kernel
theorem dL_law_1421 : decode cL_law 1421 = .ok (.aload_n 3, 1) := by decide +kernel
theorem dL_law_1422 : decode cL_law 1422 = .ok (.invokestatic 208, 3) := by decide +kernel
theorem dL_law_1425 : decode cL_law 1425 = .ok (.istore 5, 2) := by decide +kernel
theorem dL_law_1427 : decode cL_law 1427 = .ok (.aload_n 2, 1) := by decide +kernel
theorem dL_law_1428 : decode cL_law 1428 = .ok (.aload_n 0, 1) := by decide +kernel
theorem dL_law_1429 : decode cL_law 1429 = .ok (.iload 4, 2) := by decide +kernel
theorem dL_law_1431 : decode cL_law 1431 = .ok (.iconst 1, 1) := by decide +kernel
theorem dL_law_1432 : decode cL_law 1432 = .ok (.iadd, 1) := by decide +kernel
theorem dL_law_1433 : decode cL_law 1433 = .ok (.iaload, 1) := by decide +kernel
theorem dL_law_1434 : decode cL_law 1434 = .ok (.invokevirtual 210, 3) := by decide +kernel
theorem dL_law_1437 : decode cL_law 1437 = .ok (.istore 6, 2) := by decide +kernel
theorem dL_law_1439 : decode cL_law 1439 = .ok (.aload_n 2, 1) := by decide +kernel
theorem dL_law_1440 : decode cL_law 1440 = .ok (.invokevirtual 142, 3) := by decide +kernel
theorem dL_law_1443 : decode cL_law 1443 = .ok (.iload 5, 2) := by decide +kernel
theorem dL_law_1445 : decode cL_law 1445 = .ok (.if_icmp .eq 5, 3) := by decide +kernel
theorem dL_law_1448 : decode cL_law 1448 = .ok (.iconst 0, 1) := by decide +kernel
theorem dL_law_1449 : decode cL_law 1449 = .ok (.ireturn, 1) := by decide +kernel
theorem dL_law_1450 : decode cL_law 1450 = .ok (.iload 5, 2) := by decide +kernel
theorem dL_law_1452 : decode cL_law 1452 = .ok (.ifCond .ne 15, 3) := by decide +kernel
theorem dL_law_1455 : decode cL_law 1455 = .ok (.aload_n 3, 1) := by decide +kernel
theorem dL_law_1456 : decode cL_law 1456 = .ok (.iconst 0, 1) := by decide +kernel
theorem dL_law_1457 : decode cL_law 1457 = .ok (.laload, 1) := by decide +kernel
theorem dL_law_1458 : decode cL_law 1458 = .ok (.iload 6, 2) := by decide +kernel
theorem dL_law_1460 : decode cL_law 1460 = .ok (.i2l, 1) := by decide +kernel
theorem dL_law_1461 : decode cL_law 1461 = .ok (.lcmp, 1) := by decide +kernel
theorem dL_law_1462 : decode cL_law 1462 = .ok (.ifCond .eq 5, 3) := by decide +kernel
theorem dL_law_1465 : decode cL_law 1465 = .ok (.iconst 0, 1) := by decide +kernel
theorem dL_law_1466 : decode cL_law 1466 = .ok (.ireturn, 1) := by decide +kernel
theorem dL_law_1467 : decode cL_law 1467 = .ok (.goto 1221, 3) := by decide +kernel
theorem dL_law_1470 : decode cL_law 1470 = .ok (.aload_n 1, 1) := by decide +kernel
theorem dL_law_1471 : decode cL_law 1471 = .ok (.aload_n 0, 1) := by decide +kernel
theorem dL_law_1472 : decode cL_law 1472 = .ok (.iload 4, 2) := by decide +kernel
theorem dL_law_1474 : decode cL_law 1474 = .ok (.iconst 1, 1) := by decide +kernel
theorem dL_law_1475 : decode cL_law 1475 = .ok (.iadd, 1) := by decide +kernel
theorem dL_law_1476 : decode cL_law 1476 = .ok (.iaload, 1) := by decide +kernel
theorem dL_law_1477 : decode cL_law 1477 = .ok (.aload_n 3, 1) := by decide +kernel
theorem dL_law_1478 : decode cL_law 1478 = .ok (.invokestatic 211, 3) := by decide +kernel
theorem dL_law_1481 : decode cL_law 1481 = .ok (.istore 5, 2) := by decide +kernel
theorem dL_law_1483 : decode cL_law 1483 = .ok (.aload_n 2, 1) := by decide +kernel
theorem dL_law_1484 : decode cL_law 1484 = .ok (.aload_n 0, 1) := by decide +kernel
theorem dL_law_1485 : decode cL_law 1485 = .ok (.iload 4, 2) := by decide +kernel
theorem dL_law_1487 : decode cL_law 1487 = .ok (.iconst 1, 1) := by decide +kernel
theorem dL_law_1488 : decode cL_law 1488 = .ok (.iadd, 1) := by decide +kernel
theorem dL_law_1489 : decode cL_law 1489 = .ok (.iaload, 1) := by decide +kernel
theorem dL_law_1490 : decode cL_law 1490 = .ok (.invokevirtual 213, 3) := by decide +kernel
theorem dL_law_1493 : decode cL_law 1493 = .ok (.istore 6, 2) := by decide +kernel
theorem dL_law_1495 : decode cL_law 1495 = .ok (.aload_n 2, 1) := by decide +kernel
theorem dL_law_1496 : decode cL_law 1496 = .ok (.invokevirtual 142, 3) := by decide +kernel
theorem dL_law_1499 : decode cL_law 1499 = .ok (.iload 5, 2) := by decide +kernel
theorem dL_law_1501 : decode cL_law 1501 = .ok (.if_icmp .eq 5, 3) := by decide +kernel
theorem dL_law_1504 : decode cL_law 1504 = .ok (.iconst 0, 1) := by decide +kernel
theorem dL_law_1505 : decode cL_law 1505 = .ok (.ireturn, 1) := by decide +kernel
theorem dL_law_1506 : decode cL_law 1506 = .ok (.iload 5, 2) := by decide +kernel
theorem dL_law_1508 : decode cL_law 1508 = .ok (.ifCond .ne 15, 3) := by decide +kernel
theorem dL_law_1511 : decode cL_law 1511 = .ok (.aload_n 3, 1) := by decide +kernel
theorem dL_law_1512 : decode cL_law 1512 = .ok (.iconst 0, 1) := by decide +kernel
theorem dL_law_1513 : decode cL_law 1513 = .ok (.laload, 1) := by decide +kernel
theorem dL_law_1514 : decode cL_law 1514 = .ok (.iload 6, 2) := by decide +kernel
theorem dL_law_1516 : decode cL_law 1516 = .ok (.i2l, 1) := by decide +kernel
theorem dL_law_1517 : decode cL_law 1517 = .ok (.lcmp, 1) := by decide +kernel
theorem dL_law_1518 : decode cL_law 1518 = .ok (.ifCond .eq 5, 3) := by decide +kernel
theorem dL_law_1521 : decode cL_law 1521 = .ok (.iconst 0, 1) := by decide +kernel
theorem dL_law_1522 : decode cL_law 1522 = .ok (.ireturn, 1) := by decide +kernel
theorem dL_law_1523 : decode cL_law 1523 = .ok (.goto 1165, 3) := by decide +kernel
theorem dL_law_1526 : decode cL_law 1526 = .ok (.aload_n 1, 1) := by decide +kernel
theorem dL_law_1527 : decode cL_law 1527 = .ok (.aload_n 0, 1) := by decide +kernel
theorem dL_law_1528 : decode cL_law 1528 = .ok (.iload 4, 2) := by decide +kernel
theorem dL_law_1530 : decode cL_law 1530 = .ok (.iconst 1, 1) := by decide +kernel
theorem dL_law_1531 : decode cL_law 1531 = .ok (.iadd, 1) := by decide +kernel
theorem dL_law_1532 : decode cL_law 1532 = .ok (.iaload, 1) := by decide +kernel
theorem dL_law_1533 : decode cL_law 1533 = .ok (.aload_n 0, 1) := by decide +kernel
theorem dL_law_1534 : decode cL_law 1534 = .ok (.iload 4, 2) := by decide +kernel
theorem dL_law_1536 : decode cL_law 1536 = .ok (.iconst 2, 1) := by decide +kernel
theorem dL_law_1537 : decode cL_law 1537 = .ok (.iadd, 1) := by decide +kernel
theorem dL_law_1538 : decode cL_law 1538 = .ok (.iaload, 1) := by decide +kernel
theorem dL_law_1539 : decode cL_law 1539 = .ok (.aload_n 3, 1) := by decide +kernel
theorem dL_law_1540 : decode cL_law 1540 = .ok (.invokestatic 214, 3) := by decide +kernel
theorem dL_law_1543 : decode cL_law 1543 = .ok (.istore 5, 2) := by decide +kernel
theorem dL_law_1545 : decode cL_law 1545 = .ok (.aload_n 2, 1) := by decide +kernel
theorem dL_law_1546 : decode cL_law 1546 = .ok (.aload_n 0, 1) := by decide +kernel
theorem dL_law_1547 : decode cL_law 1547 = .ok (.iload 4, 2) := by decide +kernel
theorem dL_law_1549 : decode cL_law 1549 = .ok (.iconst 1, 1) := by decide +kernel
theorem dL_law_1550 : decode cL_law 1550 = .ok (.iadd, 1) := by decide +kernel
theorem dL_law_1551 : decode cL_law 1551 = .ok (.iaload, 1) := by decide +kernel
theorem dL_law_1552 : decode cL_law 1552 = .ok (.aload_n 0, 1) := by decide +kernel
theorem dL_law_1553 : decode cL_law 1553 = .ok (.iload 4, 2) := by decide +kernel
theorem dL_law_1555 : decode cL_law 1555 = .ok (.iconst 2, 1) := by decide +kernel
theorem dL_law_1556 : decode cL_law 1556 = .ok (.iadd, 1) := by decide +kernel
theorem dL_law_1557 : decode cL_law 1557 = .ok (.iaload, 1) := by decide +kernel
theorem dL_law_1558 : decode cL_law 1558 = .ok (.invokevirtual 216, 3) := by decide +kernel
theorem dL_law_1561 : decode cL_law 1561 = .ok (.istore 6, 2) := by decide +kernel
theorem dL_law_1563 : decode cL_law 1563 = .ok (.aload_n 2, 1) := by decide +kernel
theorem dL_law_1564 : decode cL_law 1564 = .ok (.invokevirtual 142, 3) := by decide +kernel
theorem dL_law_1567 : decode cL_law 1567 = .ok (.iload 5, 2) := by decide +kernel
theorem dL_law_1569 : decode cL_law 1569 = .ok (.if_icmp .eq 5, 3) := by decide +kernel
theorem dL_law_1572 : decode cL_law 1572 = .ok (.iconst 0, 1) := by decide +kernel
theorem dL_law_1573 : decode cL_law 1573 = .ok (.ireturn, 1) := by decide +kernel
theorem dL_law_1574 : decode cL_law 1574 = .ok (.iload 5, 2) := by decide +kernel
theorem dL_law_1576 : decode cL_law 1576 = .ok (.ifCond .ne 15, 3) := by decide +kernel
theorem dL_law_1579 : decode cL_law 1579 = .ok (.aload_n 3, 1) := by decide +kernel
theorem dL_law_1580 : decode cL_law 1580 = .ok (.iconst 0, 1) := by decide +kernel
theorem dL_law_1581 : decode cL_law 1581 = .ok (.laload, 1) := by decide +kernel
theorem dL_law_1582 : decode cL_law 1582 = .ok (.iload 6, 2) := by decide +kernel
theorem dL_law_1584 : decode cL_law 1584 = .ok (.i2l, 1) := by decide +kernel
theorem dL_law_1585 : decode cL_law 1585 = .ok (.lcmp, 1) := by decide +kernel
theorem dL_law_1586 : decode cL_law 1586 = .ok (.ifCond .eq 5, 3) := by decide +kernel
theorem dL_law_1589 : decode cL_law 1589 = .ok (.iconst 0, 1) := by decide +kernel
theorem dL_law_1590 : decode cL_law 1590 = .ok (.ireturn, 1) := by decide +kernel
theorem dL_law_1591 : decode cL_law 1591 = .ok (.goto 1097, 3) := by decide +kernel
theorem dL_law_1594 : decode cL_law 1594 = .ok (.aload_n 1, 1) := by decide +kernel
theorem dL_law_1595 : decode cL_law 1595 = .ok (.aload_n 0, 1) := by decide +kernel
theorem dL_law_1596 : decode cL_law 1596 = .ok (.iload 4, 2) := by decide +kernel
theorem dL_law_1598 : decode cL_law 1598 = .ok (.iconst 1, 1) := by decide +kernel
theorem dL_law_1599 : decode cL_law 1599 = .ok (.iadd, 1) := by decide +kernel
theorem dL_law_1600 : decode cL_law 1600 = .ok (.iaload, 1) := by decide +kernel
theorem dL_law_1601 : decode cL_law 1601 = .ok (.aload_n 0, 1) := by decide +kernel
theorem dL_law_1602 : decode cL_law 1602 = .ok (.iload 4, 2) := by decide +kernel
theorem dL_law_1604 : decode cL_law 1604 = .ok (.iconst 2, 1) := by decide +kernel
theorem dL_law_1605 : decode cL_law 1605 = .ok (.iadd, 1) := by decide +kernel
theorem dL_law_1606 : decode cL_law 1606 = .ok (.iaload, 1) := by decide +kernel
theorem dL_law_1607 : decode cL_law 1607 = .ok (.aload_n 0, 1) := by decide +kernel
theorem dL_law_1608 : decode cL_law 1608 = .ok (.iload 4, 2) := by decide +kernel
theorem dL_law_1610 : decode cL_law 1610 = .ok (.iconst 3, 1) := by decide +kernel
theorem dL_law_1611 : decode cL_law 1611 = .ok (.iadd, 1) := by decide +kernel
theorem dL_law_1612 : decode cL_law 1612 = .ok (.iaload, 1) := by decide +kernel
theorem dL_law_1613 : decode cL_law 1613 = .ok (.aload_n 3, 1) := by decide +kernel
theorem dL_law_1614 : decode cL_law 1614 = .ok (.invokestatic 217, 3) := by decide +kernel
theorem dL_law_1617 : decode cL_law 1617 = .ok (.istore 5, 2) := by decide +kernel
theorem dL_law_1619 : decode cL_law 1619 = .ok (.aload_n 2, 1) := by decide +kernel
theorem dL_law_1620 : decode cL_law 1620 = .ok (.aload_n 0, 1) := by decide +kernel
theorem dL_law_1621 : decode cL_law 1621 = .ok (.iload 4, 2) := by decide +kernel
theorem dL_law_1623 : decode cL_law 1623 = .ok (.iconst 1, 1) := by decide +kernel
theorem dL_law_1624 : decode cL_law 1624 = .ok (.iadd, 1) := by decide +kernel
theorem dL_law_1625 : decode cL_law 1625 = .ok (.iaload, 1) := by decide +kernel
theorem dL_law_1626 : decode cL_law 1626 = .ok (.aload_n 0, 1) := by decide +kernel
theorem dL_law_1627 : decode cL_law 1627 = .ok (.iload 4, 2) := by decide +kernel
theorem dL_law_1629 : decode cL_law 1629 = .ok (.iconst 2, 1) := by decide +kernel
theorem dL_law_1630 : decode cL_law 1630 = .ok (.iadd, 1) := by decide +kernel
theorem dL_law_1631 : decode cL_law 1631 = .ok (.iaload, 1) := by decide +kernel
theorem dL_law_1632 : decode cL_law 1632 = .ok (.aload_n 0, 1) := by decide +kernel
theorem dL_law_1633 : decode cL_law 1633 = .ok (.iload 4, 2) := by decide +kernel
theorem dL_law_1635 : decode cL_law 1635 = .ok (.iconst 3, 1) := by decide +kernel
theorem dL_law_1636 : decode cL_law 1636 = .ok (.iadd, 1) := by decide +kernel
theorem dL_law_1637 : decode cL_law 1637 = .ok (.iaload, 1) := by decide +kernel
theorem dL_law_1638 : decode cL_law 1638 = .ok (.invokevirtual 219, 3) := by decide +kernel
theorem dL_law_1641 : decode cL_law 1641 = .ok (.istore 6, 2) := by decide +kernel
theorem dL_law_1643 : decode cL_law 1643 = .ok (.aload_n 2, 1) := by decide +kernel
theorem dL_law_1644 : decode cL_law 1644 = .ok (.invokevirtual 142, 3) := by decide +kernel
theorem dL_law_1647 : decode cL_law 1647 = .ok (.iload 5, 2) := by decide +kernel
theorem dL_law_1649 : decode cL_law 1649 = .ok (.if_icmp .eq 5, 3) := by decide +kernel
theorem dL_law_1652 : decode cL_law 1652 = .ok (.iconst 0, 1) := by decide +kernel
theorem dL_law_1653 : decode cL_law 1653 = .ok (.ireturn, 1) := by decide +kernel
theorem dL_law_1654 : decode cL_law 1654 = .ok (.iload 5, 2) := by decide +kernel
theorem dL_law_1656 : decode cL_law 1656 = .ok (.ifCond .ne 15, 3) := by decide +kernel
theorem dL_law_1659 : decode cL_law 1659 = .ok (.aload_n 3, 1) := by decide +kernel
theorem dL_law_1660 : decode cL_law 1660 = .ok (.iconst 0, 1) := by decide +kernel
theorem dL_law_1661 : decode cL_law 1661 = .ok (.laload, 1) := by decide +kernel
theorem dL_law_1662 : decode cL_law 1662 = .ok (.iload 6, 2) := by decide +kernel
theorem dL_law_1664 : decode cL_law 1664 = .ok (.i2l, 1) := by decide +kernel
theorem dL_law_1665 : decode cL_law 1665 = .ok (.lcmp, 1) := by decide +kernel
theorem dL_law_1666 : decode cL_law 1666 = .ok (.ifCond .eq 5, 3) := by decide +kernel
theorem dL_law_1669 : decode cL_law 1669 = .ok (.iconst 0, 1) := by decide +kernel
theorem dL_law_1670 : decode cL_law 1670 = .ok (.ireturn, 1) := by decide +kernel
theorem dL_law_1671 : decode cL_law 1671 = .ok (.goto 1017, 3) := by decide +kernel
theorem dL_law_1674 : decode cL_law 1674 = .ok (.aload_n 1, 1) := by decide +kernel
theorem dL_law_1675 : decode cL_law 1675 = .ok (.aload_n 0, 1) := by decide +kernel
theorem dL_law_1676 : decode cL_law 1676 = .ok (.iload 4, 2) := by decide +kernel
theorem dL_law_1678 : decode cL_law 1678 = .ok (.iconst 1, 1) := by decide +kernel
theorem dL_law_1679 : decode cL_law 1679 = .ok (.iadd, 1) := by decide +kernel
theorem dL_law_1680 : decode cL_law 1680 = .ok (.iaload, 1) := by decide +kernel
theorem dL_law_1681 : decode cL_law 1681 = .ok (.aload_n 0, 1) := by decide +kernel
theorem dL_law_1682 : decode cL_law 1682 = .ok (.iload 4, 2) := by decide +kernel
theorem dL_law_1684 : decode cL_law 1684 = .ok (.iconst 2, 1) := by decide +kernel
theorem dL_law_1685 : decode cL_law 1685 = .ok (.iadd, 1) := by decide +kernel
theorem dL_law_1686 : decode cL_law 1686 = .ok (.iaload, 1) := by decide +kernel
theorem dL_law_1687 : decode cL_law 1687 = .ok (.aload_n 0, 1) := by decide +kernel
theorem dL_law_1688 : decode cL_law 1688 = .ok (.iload 4, 2) := by decide +kernel
theorem dL_law_1690 : decode cL_law 1690 = .ok (.iconst 3, 1) := by decide +kernel
theorem dL_law_1691 : decode cL_law 1691 = .ok (.iadd, 1) := by decide +kernel
theorem dL_law_1692 : decode cL_law 1692 = .ok (.iaload, 1) := by decide +kernel
theorem dL_law_1693 : decode cL_law 1693 = .ok (.aload_n 3, 1) := by decide +kernel
theorem dL_law_1694 : decode cL_law 1694 = .ok (.invokestatic 220, 3) := by decide +kernel
theorem dL_law_1697 : decode cL_law 1697 = .ok (.istore 5, 2) := by decide +kernel
theorem dL_law_1699 : decode cL_law 1699 = .ok (.aload_n 2, 1) := by decide +kernel
theorem dL_law_1700 : decode cL_law 1700 = .ok (.aload_n 0, 1) := by decide +kernel
theorem dL_law_1701 : decode cL_law 1701 = .ok (.iload 4, 2) := by decide +kernel
theorem dL_law_1703 : decode cL_law 1703 = .ok (.iconst 1, 1) := by decide +kernel
theorem dL_law_1704 : decode cL_law 1704 = .ok (.iadd, 1) := by decide +kernel
theorem dL_law_1705 : decode cL_law 1705 = .ok (.iaload, 1) := by decide +kernel
theorem dL_law_1706 : decode cL_law 1706 = .ok (.aload_n 0, 1) := by decide +kernel
theorem dL_law_1707 : decode cL_law 1707 = .ok (.iload 4, 2) := by decide +kernel
theorem dL_law_1709 : decode cL_law 1709 = .ok (.iconst 2, 1) := by decide +kernel
theorem dL_law_1710 : decode cL_law 1710 = .ok (.iadd, 1) := by decide +kernel
theorem dL_law_1711 : decode cL_law 1711 = .ok (.iaload, 1) := by decide +kernel
theorem dL_law_1712 : decode cL_law 1712 = .ok (.aload_n 0, 1) := by decide +kernel
theorem dL_law_1713 : decode cL_law 1713 = .ok (.iload 4, 2) := by decide +kernel
theorem dL_law_1715 : decode cL_law 1715 = .ok (.iconst 3, 1) := by decide +kernel
theorem dL_law_1716 : decode cL_law 1716 = .ok (.iadd, 1) := by decide +kernel
theorem dL_law_1717 : decode cL_law 1717 = .ok (.iaload, 1) := by decide +kernel
theorem dL_law_1718 : decode cL_law 1718 = .ok (.invokevirtual 222, 3) := by decide +kernel
theorem dL_law_1721 : decode cL_law 1721 = .ok (.istore 6, 2) := by decide +kernel
theorem dL_law_1723 : decode cL_law 1723 = .ok (.aload_n 2, 1) := by decide +kernel
theorem dL_law_1724 : decode cL_law 1724 = .ok (.invokevirtual 142, 3) := by decide +kernel
theorem dL_law_1727 : decode cL_law 1727 = .ok (.iload 5, 2) := by decide +kernel
theorem dL_law_1729 : decode cL_law 1729 = .ok (.if_icmp .eq 5, 3) := by decide +kernel
theorem dL_law_1732 : decode cL_law 1732 = .ok (.iconst 0, 1) := by decide +kernel
theorem dL_law_1733 : decode cL_law 1733 = .ok (.ireturn, 1) := by decide +kernel
theorem dL_law_1734 : decode cL_law 1734 = .ok (.iload 5, 2) := by decide +kernel
theorem dL_law_1736 : decode cL_law 1736 = .ok (.ifCond .ne 15, 3) := by decide +kernel
theorem dL_law_1739 : decode cL_law 1739 = .ok (.aload_n 3, 1) := by decide +kernel
theorem dL_law_1740 : decode cL_law 1740 = .ok (.iconst 0, 1) := by decide +kernel
theorem dL_law_1741 : decode cL_law 1741 = .ok (.laload, 1) := by decide +kernel
theorem dL_law_1742 : decode cL_law 1742 = .ok (.iload 6, 2) := by decide +kernel
theorem dL_law_1744 : decode cL_law 1744 = .ok (.i2l, 1) := by decide +kernel
theorem dL_law_1745 : decode cL_law 1745 = .ok (.lcmp, 1) := by decide +kernel
theorem dL_law_1746 : decode cL_law 1746 = .ok (.ifCond .eq 5, 3) := by decide +kernel
theorem dL_law_1749 : decode cL_law 1749 = .ok (.iconst 0, 1) := by decide +kernel
theorem dL_law_1750 : decode cL_law 1750 = .ok (.ireturn, 1) := by decide +kernel
theorem dL_law_1751 : decode cL_law 1751 = .ok (.goto 937, 3) := by decide +kernel
theorem dL_law_1754 : decode cL_law 1754 = .ok (.aload_n 1, 1) := by decide +kernel
theorem dL_law_1755 : decode cL_law 1755 = .ok (.invokevirtual 223, 3) := by decide +kernel
theorem dL_law_1758 : decode cL_law 1758 = .ok (.aload_n 2, 1) := by decide +kernel
theorem dL_law_1759 : decode cL_law 1759 = .ok (.invokevirtual 226, 3) := by decide +kernel
theorem dL_law_1762 : decode cL_law 1762 = .ok (.if_icmp .eq 926, 3) := by decide +kernel
theorem dL_law_1765 : decode cL_law 1765 = .ok (.iconst 0, 1) := by decide +kernel
theorem dL_law_1766 : decode cL_law 1766 = .ok (.ireturn, 1) := by decide +kernel
theorem dL_law_1767 : decode cL_law 1767 = .ok (.aload_n 1, 1) := by decide +kernel
theorem dL_law_1768 : decode cL_law 1768 = .ok (.aload_n 0, 1) := by decide +kernel
theorem dL_law_1769 : decode cL_law 1769 = .ok (.iload 4, 2) := by decide +kernel
theorem dL_law_1771 : decode cL_law 1771 = .ok (.iconst 1, 1) := by decide +kernel
theorem dL_law_1772 : decode cL_law 1772 = .ok (.iadd, 1) := by decide +kernel
theorem dL_law_1773 : decode cL_law 1773 = .ok (.iaload, 1) := by decide +kernel
theorem dL_law_1774 : decode cL_law 1774 = .ok (.aload_n 3, 1) := by decide +kernel
theorem dL_law_1775 : decode cL_law 1775 = .ok (.invokestatic 227, 3) := by decide +kernel
theorem dL_law_1778 : decode cL_law 1778 = .ok (.istore 5, 2) := by decide +kernel
theorem dL_law_1780 : decode cL_law 1780 = .ok (.aload_n 2, 1) := by decide +kernel
theorem dL_law_1781 : decode cL_law 1781 = .ok (.aload_n 0, 1) := by decide +kernel
theorem dL_law_1782 : decode cL_law 1782 = .ok (.iload 4, 2) := by decide +kernel
theorem dL_law_1784 : decode cL_law 1784 = .ok (.iconst 1, 1) := by decide +kernel
theorem dL_law_1785 : decode cL_law 1785 = .ok (.iadd, 1) := by decide +kernel
theorem dL_law_1786 : decode cL_law 1786 = .ok (.iaload, 1) := by decide +kernel
theorem dL_law_1787 : decode cL_law 1787 = .ok (.invokevirtual 229, 3) := by decide +kernel
theorem dL_law_1790 : decode cL_law 1790 = .ok (.istore 6, 2) := by decide +kernel
theorem dL_law_1792 : decode cL_law 1792 = .ok (.aload_n 2, 1) := by decide +kernel
theorem dL_law_1793 : decode cL_law 1793 = .ok (.invokevirtual 142, 3) := by decide +kernel
theorem dL_law_1796 : decode cL_law 1796 = .ok (.iload 5, 2) := by decide +kernel
theorem dL_law_1798 : decode cL_law 1798 = .ok (.if_icmp .eq 5, 3) := by decide +kernel
theorem dL_law_1801 : decode cL_law 1801 = .ok (.iconst 0, 1) := by decide +kernel
theorem dL_law_1802 : decode cL_law 1802 = .ok (.ireturn, 1) := by decide +kernel
theorem dL_law_1803 : decode cL_law 1803 = .ok (.iload 5, 2) := by decide +kernel
theorem dL_law_1805 : decode cL_law 1805 = .ok (.ifCond .ne 15, 3) := by decide +kernel
theorem dL_law_1808 : decode cL_law 1808 = .ok (.aload_n 3, 1) := by decide +kernel
theorem dL_law_1809 : decode cL_law 1809 = .ok (.iconst 0, 1) := by decide +kernel
theorem dL_law_1810 : decode cL_law 1810 = .ok (.laload, 1) := by decide +kernel
theorem dL_law_1811 : decode cL_law 1811 = .ok (.iload 6, 2) := by decide +kernel
theorem dL_law_1813 : decode cL_law 1813 = .ok (.i2l, 1) := by decide +kernel
theorem dL_law_1814 : decode cL_law 1814 = .ok (.lcmp, 1) := by decide +kernel
theorem dL_law_1815 : decode cL_law 1815 = .ok (.ifCond .eq 5, 3) := by decide +kernel
theorem dL_law_1818 : decode cL_law 1818 = .ok (.iconst 0, 1) := by decide +kernel
theorem dL_law_1819 : decode cL_law 1819 = .ok (.ireturn, 1) := by decide +kernel
theorem dL_law_1820 : decode cL_law 1820 = .ok (.goto 868, 3) := by decide +kernel
theorem dL_law_1823 : decode cL_law 1823 = .ok (.aload_n 1, 1) := by decide +kernel
theorem dL_law_1824 : decode cL_law 1824 = .ok (.invokevirtual 230, 3) := by decide +kernel
theorem dL_law_1827 : decode cL_law 1827 = .ok (.aload_n 2, 1) := by decide +kernel
theorem dL_law_1828 : decode cL_law 1828 = .ok (.invokevirtual 233, 3) := by decide +kernel
theorem dL_law_1831 : decode cL_law 1831 = .ok (.if_icmp .eq 857, 3) := by decide +kernel
theorem dL_law_1834 : decode cL_law 1834 = .ok (.iconst 0, 1) := by decide +kernel
theorem dL_law_1835 : decode cL_law 1835 = .ok (.ireturn, 1) := by decide +kernel
theorem dL_law_1836 : decode cL_law 1836 = .ok (.aload_n 1, 1) := by decide +kernel
theorem dL_law_1837 : decode cL_law 1837 = .ok (.aload_n 0, 1) := by decide +kernel
theorem dL_law_1838 : decode cL_law 1838 = .ok (.iload 4, 2) := by decide +kernel
theorem dL_law_1840 : decode cL_law 1840 = .ok (.iconst 1, 1) := by decide +kernel
theorem dL_law_1841 : decode cL_law 1841 = .ok (.iadd, 1) := by decide +kernel
theorem dL_law_1842 : decode cL_law 1842 = .ok (.iaload, 1) := by decide +kernel
theorem dL_law_1843 : decode cL_law 1843 = .ok (.aload_n 0, 1) := by decide +kernel
theorem dL_law_1844 : decode cL_law 1844 = .ok (.iload 4, 2) := by decide +kernel
theorem dL_law_1846 : decode cL_law 1846 = .ok (.iconst 2, 1) := by decide +kernel
theorem dL_law_1847 : decode cL_law 1847 = .ok (.iadd, 1) := by decide +kernel
theorem dL_law_1848 : decode cL_law 1848 = .ok (.iaload, 1) := by decide +kernel
theorem dL_law_1849 : decode cL_law 1849 = .ok (.aload_n 0, 1) := by decide +kernel
theorem dL_law_1850 : decode cL_law 1850 = .ok (.iload 4, 2) := by decide +kernel
theorem dL_law_1852 : decode cL_law 1852 = .ok (.iconst 3, 1) := by decide +kernel
theorem dL_law_1853 : decode cL_law 1853 = .ok (.iadd, 1) := by decide +kernel
theorem dL_law_1854 : decode cL_law 1854 = .ok (.iaload, 1) := by decide +kernel
theorem dL_law_1855 : decode cL_law 1855 = .ok (.aload_n 3, 1) := by decide +kernel
theorem dL_law_1856 : decode cL_law 1856 = .ok (.invokestatic 234, 3) := by decide +kernel
theorem dL_law_1859 : decode cL_law 1859 = .ok (.istore 5, 2) := by decide +kernel
theorem dL_law_1861 : decode cL_law 1861 = .ok (.aload_n 2, 1) := by decide +kernel
theorem dL_law_1862 : decode cL_law 1862 = .ok (.aload_n 0, 1) := by decide +kernel
theorem dL_law_1863 : decode cL_law 1863 = .ok (.iload 4, 2) := by decide +kernel
theorem dL_law_1865 : decode cL_law 1865 = .ok (.iconst 1, 1) := by decide +kernel
theorem dL_law_1866 : decode cL_law 1866 = .ok (.iadd, 1) := by decide +kernel
theorem dL_law_1867 : decode cL_law 1867 = .ok (.iaload, 1) := by decide +kernel
theorem dL_law_1868 : decode cL_law 1868 = .ok (.aload_n 0, 1) := by decide +kernel
theorem dL_law_1869 : decode cL_law 1869 = .ok (.iload 4, 2) := by decide +kernel
theorem dL_law_1871 : decode cL_law 1871 = .ok (.iconst 2, 1) := by decide +kernel
theorem dL_law_1872 : decode cL_law 1872 = .ok (.iadd, 1) := by decide +kernel
theorem dL_law_1873 : decode cL_law 1873 = .ok (.iaload, 1) := by decide +kernel
theorem dL_law_1874 : decode cL_law 1874 = .ok (.aload_n 0, 1) := by decide +kernel
theorem dL_law_1875 : decode cL_law 1875 = .ok (.iload 4, 2) := by decide +kernel
theorem dL_law_1877 : decode cL_law 1877 = .ok (.iconst 3, 1) := by decide +kernel
theorem dL_law_1878 : decode cL_law 1878 = .ok (.iadd, 1) := by decide +kernel
theorem dL_law_1879 : decode cL_law 1879 = .ok (.iaload, 1) := by decide +kernel
theorem dL_law_1880 : decode cL_law 1880 = .ok (.invokevirtual 236, 3) := by decide +kernel
theorem dL_law_1883 : decode cL_law 1883 = .ok (.istore 6, 2) := by decide +kernel
theorem dL_law_1885 : decode cL_law 1885 = .ok (.aload_n 2, 1) := by decide +kernel
theorem dL_law_1886 : decode cL_law 1886 = .ok (.invokevirtual 142, 3) := by decide +kernel
theorem dL_law_1889 : decode cL_law 1889 = .ok (.iload 5, 2) := by decide +kernel
theorem dL_law_1891 : decode cL_law 1891 = .ok (.if_icmp .eq 5, 3) := by decide +kernel
theorem dL_law_1894 : decode cL_law 1894 = .ok (.iconst 0, 1) := by decide +kernel
theorem dL_law_1895 : decode cL_law 1895 = .ok (.ireturn, 1) := by decide +kernel
theorem dL_law_1896 : decode cL_law 1896 = .ok (.iload 5, 2) := by decide +kernel
theorem dL_law_1898 : decode cL_law 1898 = .ok (.ifCond .ne 15, 3) := by decide +kernel
theorem dL_law_1901 : decode cL_law 1901 = .ok (.aload_n 3, 1) := by decide +kernel
theorem dL_law_1902 : decode cL_law 1902 = .ok (.iconst 0, 1) := by decide +kernel
theorem dL_law_1903 : decode cL_law 1903 = .ok (.laload, 1) := by decide +kernel
theorem dL_law_1904 : decode cL_law 1904 = .ok (.iload 6, 2) := by decide +kernel
theorem dL_law_1906 : decode cL_law 1906 = .ok (.i2l, 1) := by decide +kernel
theorem dL_law_1907 : decode cL_law 1907 = .ok (.lcmp, 1) := by decide +kernel
theorem dL_law_1908 : decode cL_law 1908 = .ok (.ifCond .eq 5, 3) := by decide +kernel
theorem dL_law_1911 : decode cL_law 1911 = .ok (.iconst 0, 1) := by decide +kernel
theorem dL_law_1912 : decode cL_law 1912 = .ok (.ireturn, 1) := by decide +kernel
theorem dL_law_1913 : decode cL_law 1913 = .ok (.goto 775, 3) := by decide +kernel
theorem dL_law_1916 : decode cL_law 1916 = .ok (.aload_n 1, 1) := by decide +kernel
theorem dL_law_1917 : decode cL_law 1917 = .ok (.aload_n 0, 1) := by decide +kernel
theorem dL_law_1918 : decode cL_law 1918 = .ok (.iload 4, 2) := by decide +kernel
theorem dL_law_1920 : decode cL_law 1920 = .ok (.iconst 1, 1) := by decide +kernel
theorem dL_law_1921 : decode cL_law 1921 = .ok (.iadd, 1) := by decide +kernel
theorem dL_law_1922 : decode cL_law 1922 = .ok (.iaload, 1) := by decide +kernel
theorem dL_law_1923 : decode cL_law 1923 = .ok (.aload_n 3, 1) := by decide +kernel
theorem dL_law_1924 : decode cL_law 1924 = .ok (.invokestatic 237, 3) := by decide +kernel
theorem dL_law_1927 : decode cL_law 1927 = .ok (.istore 5, 2) := by decide +kernel
theorem dL_law_1929 : decode cL_law 1929 = .ok (.aload_n 2, 1) := by decide +kernel
theorem dL_law_1930 : decode cL_law 1930 = .ok (.aload_n 0, 1) := by decide +kernel
theorem dL_law_1931 : decode cL_law 1931 = .ok (.iload 4, 2) := by decide +kernel
theorem dL_law_1933 : decode cL_law 1933 = .ok (.iconst 1, 1) := by decide +kernel
theorem dL_law_1934 : decode cL_law 1934 = .ok (.iadd, 1) := by decide +kernel
theorem dL_law_1935 : decode cL_law 1935 = .ok (.iaload, 1) := by decide +kernel
theorem dL_law_1936 : decode cL_law 1936 = .ok (.invokevirtual 239, 3) := by decide +kernel
theorem dL_law_1939 : decode cL_law 1939 = .ok (.istore 6, 2) := by decide +kernel
theorem dL_law_1941 : decode cL_law 1941 = .ok (.aload_n 2, 1) := by decide +kernel
theorem dL_law_1942 : decode cL_law 1942 = .ok (.invokevirtual 142, 3) := by decide +kernel
theorem dL_law_1945 : decode cL_law 1945 = .ok (.iload 5, 2) := by decide +kernel
theorem dL_law_1947 : decode cL_law 1947 = .ok (.if_icmp .eq 5, 3) := by decide +kernel
theorem dL_law_1950 : decode cL_law 1950 = .ok (.iconst 0, 1) := by decide +kernel
theorem dL_law_1951 : decode cL_law 1951 = .ok (.ireturn, 1) := by decide +kernel
theorem dL_law_1952 : decode cL_law 1952 = .ok (.iload 5, 2) := by decide +kernel
theorem dL_law_1954 : decode cL_law 1954 = .ok (.ifCond .ne 22, 3) := by decide +kernel
theorem dL_law_1957 : decode cL_law 1957 = .ok (.aload_n 3, 1) := by decide +kernel
theorem dL_law_1958 : decode cL_law 1958 = .ok (.iconst 0, 1) := by decide +kernel
theorem dL_law_1959 : decode cL_law 1959 = .ok (.laload, 1) := by decide +kernel
theorem dL_law_1960 : decode cL_law 1960 = .ok (.iload 6, 2) := by decide +kernel
theorem dL_law_1962 : decode cL_law 1962 = .ok (.ifCond .eq 7, 3) := by decide +kernel
theorem dL_law_1965 : decode cL_law 1965 = .ok (.lconst 1, 1) := by decide +kernel
theorem dL_law_1966 : decode cL_law 1966 = .ok (.goto 4, 3) := by decide +kernel
theorem dL_law_1969 : decode cL_law 1969 = .ok (.lconst 0, 1) := by decide +kernel
theorem dL_law_1970 : decode cL_law 1970 = .ok (.lcmp, 1) := by decide +kernel
theorem dL_law_1971 : decode cL_law 1971 = .ok (.ifCond .eq 5, 3) := by decide +kernel
theorem dL_law_1974 : decode cL_law 1974 = .ok (.iconst 0, 1) := by decide +kernel
theorem dL_law_1975 : decode cL_law 1975 = .ok (.ireturn, 1) := by decide +kernel
theorem dL_law_1976 : decode cL_law 1976 = .ok (.goto 712, 3) := by decide +kernel
theorem dL_law_1979 : decode cL_law 1979 = .ok (.aload_n 1, 1) := by decide +kernel
theorem dL_law_1980 : decode cL_law 1980 = .ok (.aload_n 0, 1) := by decide +kernel
theorem dL_law_1981 : decode cL_law 1981 = .ok (.iload 4, 2) := by decide +kernel
theorem dL_law_1983 : decode cL_law 1983 = .ok (.iconst 1, 1) := by decide +kernel
theorem dL_law_1984 : decode cL_law 1984 = .ok (.iadd, 1) := by decide +kernel
theorem dL_law_1985 : decode cL_law 1985 = .ok (.iaload, 1) := by decide +kernel
theorem dL_law_1986 : decode cL_law 1986 = .ok (.aload_n 3, 1) := by decide +kernel
theorem dL_law_1987 : decode cL_law 1987 = .ok (.invokestatic 240, 3) := by decide +kernel
theorem dL_law_1990 : decode cL_law 1990 = .ok (.istore 5, 2) := by decide +kernel
theorem dL_law_1992 : decode cL_law 1992 = .ok (.aload_n 2, 1) := by decide +kernel
theorem dL_law_1993 : decode cL_law 1993 = .ok (.aload_n 0, 1) := by decide +kernel
theorem dL_law_1994 : decode cL_law 1994 = .ok (.iload 4, 2) := by decide +kernel
theorem dL_law_1996 : decode cL_law 1996 = .ok (.iconst 1, 1) := by decide +kernel
theorem dL_law_1997 : decode cL_law 1997 = .ok (.iadd, 1) := by decide +kernel
theorem dL_law_1998 : decode cL_law 1998 = .ok (.iaload, 1) := by decide +kernel
theorem dL_law_1999 : decode cL_law 1999 = .ok (.invokevirtual 242, 3) := by decide +kernel
theorem dL_law_2002 : decode cL_law 2002 = .ok (.istore 6, 2) := by decide +kernel
theorem dL_law_2004 : decode cL_law 2004 = .ok (.aload_n 2, 1) := by decide +kernel
theorem dL_law_2005 : decode cL_law 2005 = .ok (.invokevirtual 142, 3) := by decide +kernel
theorem dL_law_2008 : decode cL_law 2008 = .ok (.iload 5, 2) := by decide +kernel
theorem dL_law_2010 : decode cL_law 2010 = .ok (.if_icmp .eq 5, 3) := by decide +kernel
theorem dL_law_2013 : decode cL_law 2013 = .ok (.iconst 0, 1) := by decide +kernel
theorem dL_law_2014 : decode cL_law 2014 = .ok (.ireturn, 1) := by decide +kernel
theorem dL_law_2015 : decode cL_law 2015 = .ok (.iload 5, 2) := by decide +kernel
theorem dL_law_2017 : decode cL_law 2017 = .ok (.ifCond .ne 15, 3) := by decide +kernel
theorem dL_law_2020 : decode cL_law 2020 = .ok (.aload_n 3, 1) := by decide +kernel
theorem dL_law_2021 : decode cL_law 2021 = .ok (.iconst 0, 1) := by decide +kernel
theorem dL_law_2022 : decode cL_law 2022 = .ok (.laload, 1) := by decide +kernel
theorem dL_law_2023 : decode cL_law 2023 = .ok (.iload 6, 2) := by decide +kernel
theorem dL_law_2025 : decode cL_law 2025 = .ok (.i2l, 1) := by decide +kernel
theorem dL_law_2026 : decode cL_law 2026 = .ok (.lcmp, 1) := by decide +kernel
theorem dL_law_2027 : decode cL_law 2027 = .ok (.ifCond .eq 5, 3) := by decide +kernel
theorem dL_law_2030 : decode cL_law 2030 = .ok (.iconst 0, 1) := by decide +kernel
theorem dL_law_2031 : decode cL_law 2031 = .ok (.ireturn, 1) := by decide +kernel
theorem dL_law_2032 : decode cL_law 2032 = .ok (.goto 656, 3) := by decide +kernel
theorem dL_law_2035 : decode cL_law 2035 = .ok (.aload_n 1, 1) := by decide +kernel
theorem dL_law_2036 : decode cL_law 2036 = .ok (.aload_n 0, 1) := by decide +kernel
theorem dL_law_2037 : decode cL_law 2037 = .ok (.iload 4, 2) := by decide +kernel
theorem dL_law_2039 : decode cL_law 2039 = .ok (.iconst 1, 1) := by decide +kernel
theorem dL_law_2040 : decode cL_law 2040 = .ok (.iadd, 1) := by decide +kernel
theorem dL_law_2041 : decode cL_law 2041 = .ok (.iaload, 1) := by decide +kernel
theorem dL_law_2042 : decode cL_law 2042 = .ok (.aload_n 3, 1) := by decide +kernel
theorem dL_law_2043 : decode cL_law 2043 = .ok (.invokestatic 243, 3) := by decide +kernel
theorem dL_law_2046 : decode cL_law 2046 = .ok (.istore 5, 2) := by decide +kernel
theorem dL_law_2048 : decode cL_law 2048 = .ok (.aload_n 2, 1) := by decide +kernel
theorem dL_law_2049 : decode cL_law 2049 = .ok (.aload_n 0, 1) := by decide +kernel
theorem dL_law_2050 : decode cL_law 2050 = .ok (.iload 4, 2) := by decide +kernel
theorem dL_law_2052 : decode cL_law 2052 = .ok (.iconst 1, 1) := by decide +kernel
theorem dL_law_2053 : decode cL_law 2053 = .ok (.iadd, 1) := by decide +kernel
theorem dL_law_2054 : decode cL_law 2054 = .ok (.iaload, 1) := by decide +kernel
theorem dL_law_2055 : decode cL_law 2055 = .ok (.invokevirtual 245, 3) := by decide +kernel
theorem dL_law_2058 : decode cL_law 2058 = .ok (.istore 6, 2) := by decide +kernel
theorem dL_law_2060 : decode cL_law 2060 = .ok (.aload_n 2, 1) := by decide +kernel
theorem dL_law_2061 : decode cL_law 2061 = .ok (.invokevirtual 142, 3) := by decide +kernel
theorem dL_law_2064 : decode cL_law 2064 = .ok (.iload 5, 2) := by decide +kernel
theorem dL_law_2066 : decode cL_law 2066 = .ok (.if_icmp .eq 5, 3) := by decide +kernel
theorem dL_law_2069 : decode cL_law 2069 = .ok (.iconst 0, 1) := by decide +kernel
theorem dL_law_2070 : decode cL_law 2070 = .ok (.ireturn, 1) := by decide +kernel
theorem dL_law_2071 : decode cL_law 2071 = .ok (.iload 5, 2) := by decide +kernel
theorem dL_law_2073 : decode cL_law 2073 = .ok (.ifCond .ne 15, 3) := by decide +kernel
theorem dL_law_2076 : decode cL_law 2076 = .ok (.aload_n 3, 1) := by decide +kernel
theorem dL_law_2077 : decode cL_law 2077 = .ok (.iconst 0, 1) := by decide +kernel
theorem dL_law_2078 : decode cL_law 2078 = .ok (.laload, 1) := by decide +kernel
theorem dL_law_2079 : decode cL_law 2079 = .ok (.iload 6, 2) := by decide +kernel
theorem dL_law_2081 : decode cL_law 2081 = .ok (.i2l, 1) := by decide +kernel
theorem dL_law_2082 : decode cL_law 2082 = .ok (.lcmp, 1) := by decide +kernel
theorem dL_law_2083 : decode cL_law 2083 = .ok (.ifCond .eq 5, 3) := by decide +kernel
theorem dL_law_2086 : decode cL_law 2086 = .ok (.iconst 0, 1) := by decide +kernel
theorem dL_law_2087 : decode cL_law 2087 = .ok (.ireturn, 1) := by decide +kernel
theorem dL_law_2088 : decode cL_law 2088 = .ok (.goto 600, 3) := by decide +kernel
theorem dL_law_2091 : decode cL_law 2091 = .ok (.aload_n 1, 1) := by decide +kernel
theorem dL_law_2092 : decode cL_law 2092 = .ok (.aload_n 0, 1) := by decide +kernel
theorem dL_law_2093 : decode cL_law 2093 = .ok (.iload 4, 2) := by decide +kernel
theorem dL_law_2095 : decode cL_law 2095 = .ok (.iconst 1, 1) := by decide +kernel
theorem dL_law_2096 : decode cL_law 2096 = .ok (.iadd, 1) := by decide +kernel
theorem dL_law_2097 : decode cL_law 2097 = .ok (.iaload, 1) := by decide +kernel
theorem dL_law_2098 : decode cL_law 2098 = .ok (.aload_n 3, 1) := by decide +kernel
theorem dL_law_2099 : decode cL_law 2099 = .ok (.invokestatic 246, 3) := by decide +kernel
theorem dL_law_2102 : decode cL_law 2102 = .ok (.istore 5, 2) := by decide +kernel
theorem dL_law_2104 : decode cL_law 2104 = .ok (.aload_n 2, 1) := by decide +kernel
theorem dL_law_2105 : decode cL_law 2105 = .ok (.aload_n 0, 1) := by decide +kernel
theorem dL_law_2106 : decode cL_law 2106 = .ok (.iload 4, 2) := by decide +kernel
theorem dL_law_2108 : decode cL_law 2108 = .ok (.iconst 1, 1) := by decide +kernel
theorem dL_law_2109 : decode cL_law 2109 = .ok (.iadd, 1) := by decide +kernel
theorem dL_law_2110 : decode cL_law 2110 = .ok (.iaload, 1) := by decide +kernel
theorem dL_law_2111 : decode cL_law 2111 = .ok (.invokevirtual 248, 3) := by decide +kernel
theorem dL_law_2114 : decode cL_law 2114 = .ok (.istore 6, 2) := by decide +kernel
theorem dL_law_2116 : decode cL_law 2116 = .ok (.aload_n 2, 1) := by decide +kernel
theorem dL_law_2117 : decode cL_law 2117 = .ok (.invokevirtual 142, 3) := by decide +kernel
theorem dL_law_2120 : decode cL_law 2120 = .ok (.iload 5, 2) := by decide +kernel
theorem dL_law_2122 : decode cL_law 2122 = .ok (.if_icmp .eq 5, 3) := by decide +kernel
theorem dL_law_2125 : decode cL_law 2125 = .ok (.iconst 0, 1) := by decide +kernel
theorem dL_law_2126 : decode cL_law 2126 = .ok (.ireturn, 1) := by decide +kernel
theorem dL_law_2127 : decode cL_law 2127 = .ok (.iload 5, 2) := by decide +kernel
theorem dL_law_2129 : decode cL_law 2129 = .ok (.ifCond .ne 15, 3) := by decide +kernel
theorem dL_law_2132 : decode cL_law 2132 = .ok (.aload_n 3, 1) := by decide +kernel
theorem dL_law_2133 : decode cL_law 2133 = .ok (.iconst 0, 1) := by decide +kernel
theorem dL_law_2134 : decode cL_law 2134 = .ok (.laload, 1) := by decide +kernel
theorem dL_law_2135 : decode cL_law 2135 = .ok (.iload 6, 2) := by decide +kernel
theorem dL_law_2137 : decode cL_law 2137 = .ok (.i2l, 1) := by decide +kernel
theorem dL_law_2138 : decode cL_law 2138 = .ok (.lcmp, 1) := by decide +kernel
theorem dL_law_2139 : decode cL_law 2139 = .ok (.ifCond .eq 5, 3) := by decide +kernel
theorem dL_law_2142 : decode cL_law 2142 = .ok (.iconst 0, 1) := by decide +kernel
theorem dL_law_2143 : decode cL_law 2143 = .ok (.ireturn, 1) := by decide +kernel
theorem dL_law_2144 : decode cL_law 2144 = .ok (.goto 544, 3) := by decide +kernel
theorem dL_law_2147 : decode cL_law 2147 = .ok (.aload_n 1, 1) := by decide +kernel
theorem dL_law_2148 : decode cL_law 2148 = .ok (.aload_n 0, 1) := by decide +kernel
theorem dL_law_2149 : decode cL_law 2149 = .ok (.iload 4, 2) := by decide +kernel
theorem dL_law_2151 : decode cL_law 2151 = .ok (.iconst 1, 1) := by decide +kernel
theorem dL_law_2152 : decode cL_law 2152 = .ok (.iadd, 1) := by decide +kernel
theorem dL_law_2153 : decode cL_law 2153 = .ok (.iaload, 1) := by decide +kernel
theorem dL_law_2154 : decode cL_law 2154 = .ok (.aload_n 3, 1) := by decide +kernel
theorem dL_law_2155 : decode cL_law 2155 = .ok (.invokestatic 249, 3) := by decide +kernel
theorem dL_law_2158 : decode cL_law 2158 = .ok (.istore 5, 2) := by decide +kernel
theorem dL_law_2160 : decode cL_law 2160 = .ok (.aload_n 2, 1) := by decide +kernel
theorem dL_law_2161 : decode cL_law 2161 = .ok (.aload_n 0, 1) := by decide +kernel
theorem dL_law_2162 : decode cL_law 2162 = .ok (.iload 4, 2) := by decide +kernel
theorem dL_law_2164 : decode cL_law 2164 = .ok (.iconst 1, 1) := by decide +kernel
theorem dL_law_2165 : decode cL_law 2165 = .ok (.iadd, 1) := by decide +kernel
theorem dL_law_2166 : decode cL_law 2166 = .ok (.iaload, 1) := by decide +kernel
theorem dL_law_2167 : decode cL_law 2167 = .ok (.invokevirtual 251, 3) := by decide +kernel
theorem dL_law_2170 : decode cL_law 2170 = .ok (.istore 6, 2) := by decide +kernel
theorem dL_law_2172 : decode cL_law 2172 = .ok (.aload_n 2, 1) := by decide +kernel
theorem dL_law_2173 : decode cL_law 2173 = .ok (.invokevirtual 142, 3) := by decide +kernel
theorem dL_law_2176 : decode cL_law 2176 = .ok (.iload 5, 2) := by decide +kernel
theorem dL_law_2178 : decode cL_law 2178 = .ok (.if_icmp .eq 5, 3) := by decide +kernel
theorem dL_law_2181 : decode cL_law 2181 = .ok (.iconst 0, 1) := by decide +kernel
theorem dL_law_2182 : decode cL_law 2182 = .ok (.ireturn, 1) := by decide +kernel
theorem dL_law_2183 : decode cL_law 2183 = .ok (.iload 5, 2) := by decide +kernel
theorem dL_law_2185 : decode cL_law 2185 = .ok (.ifCond .ne 15, 3) := by decide +kernel
theorem dL_law_2188 : decode cL_law 2188 = .ok (.aload_n 3, 1) := by decide +kernel
theorem dL_law_2189 : decode cL_law 2189 = .ok (.iconst 0, 1) := by decide +kernel
theorem dL_law_2190 : decode cL_law 2190 = .ok (.laload, 1) := by decide +kernel
theorem dL_law_2191 : decode cL_law 2191 = .ok (.iload 6, 2) := by decide +kernel
theorem dL_law_2193 : decode cL_law 2193 = .ok (.i2l, 1) := by decide +kernel
theorem dL_law_2194 : decode cL_law 2194 = .ok (.lcmp, 1) := by decide +kernel
theorem dL_law_2195 : decode cL_law 2195 = .ok (.ifCond .eq 5, 3) := by decide +kernel
theorem dL_law_2198 : decode cL_law 2198 = .ok (.iconst 0, 1) := by decide +kernel
theorem dL_law_2199 : decode cL_law 2199 = .ok (.ireturn, 1) := by decide +kernel
theorem dL_law_2200 : decode cL_law 2200 = .ok (.goto 488, 3) := by decide +kernel
theorem dL_law_2203 : decode cL_law 2203 = .ok (.aload_n 1, 1) := by decide +kernel
theorem dL_law_2204 : decode cL_law 2204 = .ok (.aload_n 0, 1) := by decide +kernel
theorem dL_law_2205 : decode cL_law 2205 = .ok (.iload 4, 2) := by decide +kernel
theorem dL_law_2207 : decode cL_law 2207 = .ok (.iconst 1, 1) := by decide +kernel
theorem dL_law_2208 : decode cL_law 2208 = .ok (.iadd, 1) := by decide +kernel
theorem dL_law_2209 : decode cL_law 2209 = .ok (.iaload, 1) := by decide +kernel
theorem dL_law_2210 : decode cL_law 2210 = .ok (.aload_n 3, 1) := by decide +kernel
theorem dL_law_2211 : decode cL_law 2211 = .ok (.invokestatic 252, 3) := by decide +kernel
theorem dL_law_2214 : decode cL_law 2214 = .ok (.istore 5, 2) := by decide +kernel
theorem dL_law_2216 : decode cL_law 2216 = .ok (.aload_n 2, 1) := by decide +kernel
theorem dL_law_2217 : decode cL_law 2217 = .ok (.aload_n 0, 1) := by decide +kernel
theorem dL_law_2218 : decode cL_law 2218 = .ok (.iload 4, 2) := by decide +kernel
theorem dL_law_2220 : decode cL_law 2220 = .ok (.iconst 1, 1) := by decide +kernel
theorem dL_law_2221 : decode cL_law 2221 = .ok (.iadd, 1) := by decide +kernel
theorem dL_law_2222 : decode cL_law 2222 = .ok (.iaload, 1) := by decide +kernel
theorem dL_law_2223 : decode cL_law 2223 = .ok (.invokevirtual 254, 3) := by decide +kernel
theorem dL_law_2226 : decode cL_law 2226 = .ok (.istore 6, 2) := by decide +kernel
theorem dL_law_2228 : decode cL_law 2228 = .ok (.aload_n 2, 1) := by decide +kernel
theorem dL_law_2229 : decode cL_law 2229 = .ok (.invokevirtual 142, 3) := by decide +kernel
theorem dL_law_2232 : decode cL_law 2232 = .ok (.iload 5, 2) := by decide +kernel
theorem dL_law_2234 : decode cL_law 2234 = .ok (.if_icmp .eq 5, 3) := by decide +kernel
theorem dL_law_2237 : decode cL_law 2237 = .ok (.iconst 0, 1) := by decide +kernel
theorem dL_law_2238 : decode cL_law 2238 = .ok (.ireturn, 1) := by decide +kernel
theorem dL_law_2239 : decode cL_law 2239 = .ok (.iload 5, 2) := by decide +kernel
theorem dL_law_2241 : decode cL_law 2241 = .ok (.ifCond .ne 15, 3) := by decide +kernel
theorem dL_law_2244 : decode cL_law 2244 = .ok (.aload_n 3, 1) := by decide +kernel
theorem dL_law_2245 : decode cL_law 2245 = .ok (.iconst 0, 1) := by decide +kernel
theorem dL_law_2246 : decode cL_law 2246 = .ok (.laload, 1) := by decide +kernel
theorem dL_law_2247 : decode cL_law 2247 = .ok (.iload 6, 2) := by decide +kernel
theorem dL_law_2249 : decode cL_law 2249 = .ok (.i2l, 1) := by decide +kernel
theorem dL_law_2250 : decode cL_law 2250 = .ok (.lcmp, 1) := by decide +kernel
theorem dL_law_2251 : decode cL_law 2251 = .ok (.ifCond .eq 5, 3) := by decide +kernel
theorem dL_law_2254 : decode cL_law 2254 = .ok (.iconst 0, 1) := by decide +kernel
theorem dL_law_2255 : decode cL_law 2255 = .ok (.ireturn, 1) := by decide +kernel
theorem dL_law_2256 : decode cL_law 2256 = .ok (.goto 432, 3) := by decide +kernel
theorem dL_law_2259 : decode cL_law 2259 = .ok (.aload_n 1, 1) := by decide +kernel
theorem dL_law_2260 : decode cL_law 2260 = .ok (.aload_n 0, 1) := by decide +kernel
theorem dL_law_2261 : decode cL_law 2261 = .ok (.iload 4, 2) := by decide +kernel
theorem dL_law_2263 : decode cL_law 2263 = .ok (.iconst 1, 1) := by decide +kernel
theorem dL_law_2264 : decode cL_law 2264 = .ok (.iadd, 1) := by decide +kernel
theorem dL_law_2265 : decode cL_law 2265 = .ok (.iaload, 1) := by decide +kernel
theorem dL_law_2266 : decode cL_law 2266 = .ok (.aload_n 3, 1) := by decide +kernel
theorem dL_law_2267 : decode cL_law 2267 = .ok (.invokestatic 255, 3) := by decide +kernel
theorem dL_law_2270 : decode cL_law 2270 = .ok (.istore 5, 2) := by decide +kernel
theorem dL_law_2272 : decode cL_law 2272 = .ok (.aload_n 2, 1) := by decide +kernel
theorem dL_law_2273 : decode cL_law 2273 = .ok (.aload_n 0, 1) := by decide +kernel
theorem dL_law_2274 : decode cL_law 2274 = .ok (.iload 4, 2) := by decide +kernel
theorem dL_law_2276 : decode cL_law 2276 = .ok (.iconst 1, 1) := by decide +kernel
theorem dL_law_2277 : decode cL_law 2277 = .ok (.iadd, 1) := by decide +kernel
theorem dL_law_2278 : decode cL_law 2278 = .ok (.iaload, 1) := by decide +kernel
theorem dL_law_2279 : decode cL_law 2279 = .ok (.invokevirtual 257, 3) := by decide +kernel
theorem dL_law_2282 : decode cL_law 2282 = .ok (.istore 6, 2) := by decide +kernel
theorem dL_law_2284 : decode cL_law 2284 = .ok (.aload_n 2, 1) := by decide +kernel
theorem dL_law_2285 : decode cL_law 2285 = .ok (.invokevirtual 142, 3) := by decide +kernel
theorem dL_law_2288 : decode cL_law 2288 = .ok (.iload 5, 2) := by decide +kernel
theorem dL_law_2290 : decode cL_law 2290 = .ok (.if_icmp .eq 5, 3) := by decide +kernel
theorem dL_law_2293 : decode cL_law 2293 = .ok (.iconst 0, 1) := by decide +kernel
theorem dL_law_2294 : decode cL_law 2294 = .ok (.ireturn, 1) := by decide +kernel
theorem dL_law_2295 : decode cL_law 2295 = .ok (.iload 5, 2) := by decide +kernel
theorem dL_law_2297 : decode cL_law 2297 = .ok (.ifCond .ne 15, 3) := by decide +kernel
theorem dL_law_2300 : decode cL_law 2300 = .ok (.aload_n 3, 1) := by decide +kernel
theorem dL_law_2301 : decode cL_law 2301 = .ok (.iconst 0, 1) := by decide +kernel
theorem dL_law_2302 : decode cL_law 2302 = .ok (.laload, 1) := by decide +kernel
theorem dL_law_2303 : decode cL_law 2303 = .ok (.iload 6, 2) := by decide +kernel
theorem dL_law_2305 : decode cL_law 2305 = .ok (.i2l, 1) := by decide +kernel
theorem dL_law_2306 : decode cL_law 2306 = .ok (.lcmp, 1) := by decide +kernel
theorem dL_law_2307 : decode cL_law 2307 = .ok (.ifCond .eq 5, 3) := by decide +kernel
theorem dL_law_2310 : decode cL_law 2310 = .ok (.iconst 0, 1) := by decide +kernel
theorem dL_law_2311 : decode cL_law 2311 = .ok (.ireturn, 1) := by decide +kernel
theorem dL_law_2312 : decode cL_law 2312 = .ok (.goto 376, 3) := by decide +kernel
theorem dL_law_2315 : decode cL_law 2315 = .ok (.aload_n 1, 1) := by decide +kernel
theorem dL_law_2316 : decode cL_law 2316 = .ok (.aload_n 0, 1) := by decide +kernel
theorem dL_law_2317 : decode cL_law 2317 = .ok (.iload 4, 2) := by decide +kernel
theorem dL_law_2319 : decode cL_law 2319 = .ok (.iconst 1, 1) := by decide +kernel
theorem dL_law_2320 : decode cL_law 2320 = .ok (.iadd, 1) := by decide +kernel
theorem dL_law_2321 : decode cL_law 2321 = .ok (.iaload, 1) := by decide +kernel
theorem dL_law_2322 : decode cL_law 2322 = .ok (.aload_n 0, 1) := by decide +kernel
theorem dL_law_2323 : decode cL_law 2323 = .ok (.iload 4, 2) := by decide +kernel
theorem dL_law_2325 : decode cL_law 2325 = .ok (.iconst 2, 1) := by decide +kernel
theorem dL_law_2326 : decode cL_law 2326 = .ok (.iadd, 1) := by decide +kernel
theorem dL_law_2327 : decode cL_law 2327 = .ok (.iaload, 1) := by decide +kernel
theorem dL_law_2328 : decode cL_law 2328 = .ok (.aload_n 3, 1) := by decide +kernel
theorem dL_law_2329 : decode cL_law 2329 = .ok (.invokestatic 258, 3) := by decide +kernel
theorem dL_law_2332 : decode cL_law 2332 = .ok (.istore 5, 2) := by decide +kernel
theorem dL_law_2334 : decode cL_law 2334 = .ok (.aload_n 2, 1) := by decide +kernel
theorem dL_law_2335 : decode cL_law 2335 = .ok (.aload_n 0, 1) := by decide +kernel
theorem dL_law_2336 : decode cL_law 2336 = .ok (.iload 4, 2) := by decide +kernel
theorem dL_law_2338 : decode cL_law 2338 = .ok (.iconst 1, 1) := by decide +kernel
theorem dL_law_2339 : decode cL_law 2339 = .ok (.iadd, 1) := by decide +kernel
theorem dL_law_2340 : decode cL_law 2340 = .ok (.iaload, 1) := by decide +kernel
theorem dL_law_2341 : decode cL_law 2341 = .ok (.aload_n 0, 1) := by decide +kernel
theorem dL_law_2342 : decode cL_law 2342 = .ok (.iload 4, 2) := by decide +kernel
theorem dL_law_2344 : decode cL_law 2344 = .ok (.iconst 2, 1) := by decide +kernel
theorem dL_law_2345 : decode cL_law 2345 = .ok (.iadd, 1) := by decide +kernel
theorem dL_law_2346 : decode cL_law 2346 = .ok (.iaload, 1) := by decide +kernel
theorem dL_law_2347 : decode cL_law 2347 = .ok (.invokevirtual 260, 3) := by decide +kernel
theorem dL_law_2350 : decode cL_law 2350 = .ok (.istore 6, 2) := by decide +kernel
theorem dL_law_2352 : decode cL_law 2352 = .ok (.aload_n 2, 1) := by decide +kernel
theorem dL_law_2353 : decode cL_law 2353 = .ok (.invokevirtual 142, 3) := by decide +kernel
theorem dL_law_2356 : decode cL_law 2356 = .ok (.iload 5, 2) := by decide +kernel
theorem dL_law_2358 : decode cL_law 2358 = .ok (.if_icmp .eq 5, 3) := by decide +kernel
theorem dL_law_2361 : decode cL_law 2361 = .ok (.iconst 0, 1) := by decide +kernel
theorem dL_law_2362 : decode cL_law 2362 = .ok (.ireturn, 1) := by decide +kernel
theorem dL_law_2363 : decode cL_law 2363 = .ok (.iload 5, 2) := by decide +kernel
theorem dL_law_2365 : decode cL_law 2365 = .ok (.ifCond .ne 15, 3) := by decide +kernel
theorem dL_law_2368 : decode cL_law 2368 = .ok (.aload_n 3, 1) := by decide +kernel
theorem dL_law_2369 : decode cL_law 2369 = .ok (.iconst 0, 1) := by decide +kernel
theorem dL_law_2370 : decode cL_law 2370 = .ok (.laload, 1) := by decide +kernel
theorem dL_law_2371 : decode cL_law 2371 = .ok (.iload 6, 2) := by decide +kernel
theorem dL_law_2373 : decode cL_law 2373 = .ok (.i2l, 1) := by decide +kernel
theorem dL_law_2374 : decode cL_law 2374 = .ok (.lcmp, 1) := by decide +kernel
theorem dL_law_2375 : decode cL_law 2375 = .ok (.ifCond .eq 5, 3) := by decide +kernel
theorem dL_law_2378 : decode cL_law 2378 = .ok (.iconst 0, 1) := by decide +kernel
theorem dL_law_2379 : decode cL_law 2379 = .ok (.ireturn, 1) := by decide +kernel
theorem dL_law_2380 : decode cL_law 2380 = .ok (.goto 308, 3) := by decide +kernel
theorem dL_law_2383 : decode cL_law 2383 = .ok (.aload_n 1, 1) := by decide +kernel
theorem dL_law_2384 : decode cL_law 2384 = .ok (.aload_n 0, 1) := by decide +kernel
theorem dL_law_2385 : decode cL_law 2385 = .ok (.iload 4, 2) := by decide +kernel
theorem dL_law_2387 : decode cL_law 2387 = .ok (.iconst 1, 1) := by decide +kernel
theorem dL_law_2388 : decode cL_law 2388 = .ok (.iadd, 1) := by decide +kernel
theorem dL_law_2389 : decode cL_law 2389 = .ok (.iaload, 1) := by decide +kernel
theorem dL_law_2390 : decode cL_law 2390 = .ok (.aload_n 0, 1) := by decide +kernel
theorem dL_law_2391 : decode cL_law 2391 = .ok (.iload 4, 2) := by decide +kernel
theorem dL_law_2393 : decode cL_law 2393 = .ok (.iconst 2, 1) := by decide +kernel
theorem dL_law_2394 : decode cL_law 2394 = .ok (.iadd, 1) := by decide +kernel
theorem dL_law_2395 : decode cL_law 2395 = .ok (.iaload, 1) := by decide +kernel
theorem dL_law_2396 : decode cL_law 2396 = .ok (.aload_n 0, 1) := by decide +kernel
theorem dL_law_2397 : decode cL_law 2397 = .ok (.iload 4, 2) := by decide +kernel
theorem dL_law_2399 : decode cL_law 2399 = .ok (.iconst 3, 1) := by decide +kernel
theorem dL_law_2400 : decode cL_law 2400 = .ok (.iadd, 1) := by decide +kernel
theorem dL_law_2401 : decode cL_law 2401 = .ok (.iaload, 1) := by decide +kernel
theorem dL_law_2402 : decode cL_law 2402 = .ok (.aload_n 3, 1) := by decide +kernel
theorem dL_law_2403 : decode cL_law 2403 = .ok (.invokestatic 261, 3) := by decide +kernel
theorem dL_law_2406 : decode cL_law 2406 = .ok (.istore 5, 2) := by decide +kernel
theorem dL_law_2408 : decode cL_law 2408 = .ok (.aload_n 2, 1) := by decide +kernel
theorem dL_law_2409 : decode cL_law 2409 = .ok (.aload_n 0, 1) := by decide +kernel
theorem dL_law_2410 : decode cL_law 2410 = .ok (.iload 4, 2) := by decide +kernel
theorem dL_law_2412 : decode cL_law 2412 = .ok (.iconst 1, 1) := by decide +kernel
theorem dL_law_2413 : decode cL_law 2413 = .ok (.iadd, 1) := by decide +kernel
theorem dL_law_2414 : decode cL_law 2414 = .ok (.iaload, 1) := by decide +kernel
theorem dL_law_2415 : decode cL_law 2415 = .ok (.aload_n 0, 1) := by decide +kernel
theorem dL_law_2416 : decode cL_law 2416 = .ok (.iload 4, 2) := by decide +kernel
theorem dL_law_2418 : decode cL_law 2418 = .ok (.iconst 2, 1) := by decide +kernel
theorem dL_law_2419 : decode cL_law 2419 = .ok (.iadd, 1) := by decide +kernel
theorem dL_law_2420 : decode cL_law 2420 = .ok (.iaload, 1) := by decide +kernel
theorem dL_law_2421 : decode cL_law 2421 = .ok (.aload_n 0, 1) := by decide +kernel
theorem dL_law_2422 : decode cL_law 2422 = .ok (.iload 4, 2) := by decide +kernel
theorem dL_law_2424 : decode cL_law 2424 = .ok (.iconst 3, 1) := by decide +kernel
theorem dL_law_2425 : decode cL_law 2425 = .ok (.iadd, 1) := by decide +kernel
theorem dL_law_2426 : decode cL_law 2426 = .ok (.iaload, 1) := by decide +kernel
theorem dL_law_2427 : decode cL_law 2427 = .ok (.invokevirtual 263, 3) := by decide +kernel
theorem dL_law_2430 : decode cL_law 2430 = .ok (.istore 6, 2) := by decide +kernel
theorem dL_law_2432 : decode cL_law 2432 = .ok (.aload_n 2, 1) := by decide +kernel
theorem dL_law_2433 : decode cL_law 2433 = .ok (.invokevirtual 142, 3) := by decide +kernel
theorem dL_law_2436 : decode cL_law 2436 = .ok (.iload 5, 2) := by decide +kernel
theorem dL_law_2438 : decode cL_law 2438 = .ok (.if_icmp .eq 5, 3) := by decide +kernel
theorem dL_law_2441 : decode cL_law 2441 = .ok (.iconst 0, 1) := by decide +kernel
theorem dL_law_2442 : decode cL_law 2442 = .ok (.ireturn, 1) := by decide +kernel
theorem dL_law_2443 : decode cL_law 2443 = .ok (.iload 5, 2) := by decide +kernel
theorem dL_law_2445 : decode cL_law 2445 = .ok (.ifCond .ne 15, 3) := by decide +kernel
theorem dL_law_2448 : decode cL_law 2448 = .ok (.aload_n 3, 1) := by decide +kernel
theorem dL_law_2449 : decode cL_law 2449 = .ok (.iconst 0, 1) := by decide +kernel
theorem dL_law_2450 : decode cL_law 2450 = .ok (.laload, 1) := by decide +kernel
theorem dL_law_2451 : decode cL_law 2451 = .ok (.iload 6, 2) := by decide +kernel
theorem dL_law_2453 : decode cL_law 2453 = .ok (.i2l, 1) := by decide +kernel
theorem dL_law_2454 : decode cL_law 2454 = .ok (.lcmp, 1) := by decide +kernel
theorem dL_law_2455 : decode cL_law 2455 = .ok (.ifCond .eq 5, 3) := by decide +kernel
theorem dL_law_2458 : decode cL_law 2458 = .ok (.iconst 0, 1) := by decide +kernel
theorem dL_law_2459 : decode cL_law 2459 = .ok (.ireturn, 1) := by decide +kernel
theorem dL_law_2460 : decode cL_law 2460 = .ok (.goto 228, 3) := by decide +kernel
theorem dL_law_2463 : decode cL_law 2463 = .ok (.aload_n 1, 1) := by decide +kernel
theorem dL_law_2464 : decode cL_law 2464 = .ok (.aload_n 0, 1) := by decide +kernel
theorem dL_law_2465 : decode cL_law 2465 = .ok (.iload 4, 2) := by decide +kernel
theorem dL_law_2467 : decode cL_law 2467 = .ok (.iconst 1, 1) := by decide +kernel
theorem dL_law_2468 : decode cL_law 2468 = .ok (.iadd, 1) := by decide +kernel
theorem dL_law_2469 : decode cL_law 2469 = .ok (.iaload, 1) := by decide +kernel
theorem dL_law_2470 : decode cL_law 2470 = .ok (.aload_n 0, 1) := by decide +kernel
theorem dL_law_2471 : decode cL_law 2471 = .ok (.iload 4, 2) := by decide +kernel
theorem dL_law_2473 : decode cL_law 2473 = .ok (.iconst 2, 1) := by decide +kernel
theorem dL_law_2474 : decode cL_law 2474 = .ok (.iadd, 1) := by decide +kernel
theorem dL_law_2475 : decode cL_law 2475 = .ok (.iaload, 1) := by decide +kernel
theorem dL_law_2476 : decode cL_law 2476 = .ok (.aload_n 0, 1) := by decide +kernel
theorem dL_law_2477 : decode cL_law 2477 = .ok (.iload 4, 2) := by decide +kernel
theorem dL_law_2479 : decode cL_law 2479 = .ok (.iconst 3, 1) := by decide +kernel
theorem dL_law_2480 : decode cL_law 2480 = .ok (.iadd, 1) := by decide +kernel
theorem dL_law_2481 : decode cL_law 2481 = .ok (.iaload, 1) := by decide +kernel
theorem dL_law_2482 : decode cL_law 2482 = .ok (.aload_n 3, 1) := by decide +kernel
theorem dL_law_2483 : decode cL_law 2483 = .ok (.invokestatic 264, 3) := by decide +kernel
theorem dL_law_2486 : decode cL_law 2486 = .ok (.istore 5, 2) := by decide +kernel
theorem dL_law_2488 : decode cL_law 2488 = .ok (.aload_n 2, 1) := by decide +kernel
theorem dL_law_2489 : decode cL_law 2489 = .ok (.aload_n 0, 1) := by decide +kernel
theorem dL_law_2490 : decode cL_law 2490 = .ok (.iload 4, 2) := by decide +kernel
theorem dL_law_2492 : decode cL_law 2492 = .ok (.iconst 1, 1) := by decide +kernel
theorem dL_law_2493 : decode cL_law 2493 = .ok (.iadd, 1) := by decide +kernel
theorem dL_law_2494 : decode cL_law 2494 = .ok (.iaload, 1) := by decide +kernel
theorem dL_law_2495 : decode cL_law 2495 = .ok (.aload_n 0, 1) := by decide +kernel
theorem dL_law_2496 : decode cL_law 2496 = .ok (.iload 4, 2) := by decide +kernel
theorem dL_law_2498 : decode cL_law 2498 = .ok (.iconst 2, 1) := by decide +kernel
theorem dL_law_2499 : decode cL_law 2499 = .ok (.iadd, 1) := by decide +kernel
theorem dL_law_2500 : decode cL_law 2500 = .ok (.iaload, 1) := by decide +kernel
theorem dL_law_2501 : decode cL_law 2501 = .ok (.aload_n 0, 1) := by decide +kernel
theorem dL_law_2502 : decode cL_law 2502 = .ok (.iload 4, 2) := by decide +kernel
theorem dL_law_2504 : decode cL_law 2504 = .ok (.iconst 3, 1) := by decide +kernel
theorem dL_law_2505 : decode cL_law 2505 = .ok (.iadd, 1) := by decide +kernel
theorem dL_law_2506 : decode cL_law 2506 = .ok (.iaload, 1) := by decide +kernel
theorem dL_law_2507 : decode cL_law 2507 = .ok (.invokevirtual 266, 3) := by decide +kernel
theorem dL_law_2510 : decode cL_law 2510 = .ok (.istore 6, 2) := by decide +kernel
theorem dL_law_2512 : decode cL_law 2512 = .ok (.aload_n 2, 1) := by decide +kernel
theorem dL_law_2513 : decode cL_law 2513 = .ok (.invokevirtual 142, 3) := by decide +kernel
theorem dL_law_2516 : decode cL_law 2516 = .ok (.iload 5, 2) := by decide +kernel
theorem dL_law_2518 : decode cL_law 2518 = .ok (.if_icmp .eq 5, 3) := by decide +kernel
theorem dL_law_2521 : decode cL_law 2521 = .ok (.iconst 0, 1) := by decide +kernel
theorem dL_law_2522 : decode cL_law 2522 = .ok (.ireturn, 1) := by decide +kernel
theorem dL_law_2523 : decode cL_law 2523 = .ok (.iload 5, 2) := by decide +kernel
theorem dL_law_2525 : decode cL_law 2525 = .ok (.ifCond .ne 15, 3) := by decide +kernel
theorem dL_law_2528 : decode cL_law 2528 = .ok (.aload_n 3, 1) := by decide +kernel
theorem dL_law_2529 : decode cL_law 2529 = .ok (.iconst 0, 1) := by decide +kernel
theorem dL_law_2530 : decode cL_law 2530 = .ok (.laload, 1) := by decide +kernel
theorem dL_law_2531 : decode cL_law 2531 = .ok (.iload 6, 2) := by decide +kernel
theorem dL_law_2533 : decode cL_law 2533 = .ok (.i2l, 1) := by decide +kernel
theorem dL_law_2534 : decode cL_law 2534 = .ok (.lcmp, 1) := by decide +kernel
theorem dL_law_2535 : decode cL_law 2535 = .ok (.ifCond .eq 5, 3) := by decide +kernel
theorem dL_law_2538 : decode cL_law 2538 = .ok (.iconst 0, 1) := by decide +kernel
theorem dL_law_2539 : decode cL_law 2539 = .ok (.ireturn, 1) := by decide +kernel
theorem dL_law_2540 : decode cL_law 2540 = .ok (.goto 148, 3) := by decide +kernel
theorem dL_law_2543 : decode cL_law 2543 = .ok (.aload_n 1, 1) := by decide +kernel
theorem dL_law_2544 : decode cL_law 2544 = .ok (.invokevirtual 267, 3) := by decide +kernel
theorem dL_law_2547 : decode cL_law 2547 = .ok (.aload_n 2, 1) := by decide +kernel
theorem dL_law_2548 : decode cL_law 2548 = .ok (.invokevirtual 270, 3) := by decide +kernel
theorem dL_law_2551 : decode cL_law 2551 = .ok (.if_icmp .eq 137, 3) := by decide +kernel
theorem dL_law_2554 : decode cL_law 2554 = .ok (.iconst 0, 1) := by decide +kernel
theorem dL_law_2555 : decode cL_law 2555 = .ok (.ireturn, 1) := by decide +kernel
theorem dL_law_2556 : decode cL_law 2556 = .ok (.aload_n 1, 1) := by decide +kernel
theorem dL_law_2557 : decode cL_law 2557 = .ok (.aload_n 3, 1) := by decide +kernel
theorem dL_law_2558 : decode cL_law 2558 = .ok (.invokestatic 271, 3) := by decide +kernel
theorem dL_law_2561 : decode cL_law 2561 = .ok (.istore 5, 2) := by decide +kernel
theorem dL_law_2563 : decode cL_law 2563 = .ok (.aload_n 2, 1) := by decide +kernel
theorem dL_law_2564 : decode cL_law 2564 = .ok (.invokevirtual 274, 3) := by decide +kernel
theorem dL_law_2567 : decode cL_law 2567 = .ok (.istore 6, 2) := by decide +kernel
theorem dL_law_2569 : decode cL_law 2569 = .ok (.aload_n 2, 1) := by decide +kernel
theorem dL_law_2570 : decode cL_law 2570 = .ok (.invokevirtual 142, 3) := by decide +kernel
theorem dL_law_2573 : decode cL_law 2573 = .ok (.iload 5, 2) := by decide +kernel
theorem dL_law_2575 : decode cL_law 2575 = .ok (.if_icmp .eq 5, 3) := by decide +kernel
theorem dL_law_2578 : decode cL_law 2578 = .ok (.iconst 0, 1) := by decide +kernel
theorem dL_law_2579 : decode cL_law 2579 = .ok (.ireturn, 1) := by decide +kernel
theorem dL_law_2580 : decode cL_law 2580 = .ok (.iload 5, 2) := by decide +kernel
theorem dL_law_2582 : decode cL_law 2582 = .ok (.ifCond .ne 15, 3) := by decide +kernel
theorem dL_law_2585 : decode cL_law 2585 = .ok (.aload_n 3, 1) := by decide +kernel
theorem dL_law_2586 : decode cL_law 2586 = .ok (.iconst 0, 1) := by decide +kernel
theorem dL_law_2587 : decode cL_law 2587 = .ok (.laload, 1) := by decide +kernel
theorem dL_law_2588 : decode cL_law 2588 = .ok (.iload 6, 2) := by decide +kernel
theorem dL_law_2590 : decode cL_law 2590 = .ok (.i2l, 1) := by decide +kernel
theorem dL_law_2591 : decode cL_law 2591 = .ok (.lcmp, 1) := by decide +kernel
theorem dL_law_2592 : decode cL_law 2592 = .ok (.ifCond .eq 5, 3) := by decide +kernel
theorem dL_law_2595 : decode cL_law 2595 = .ok (.iconst 0, 1) := by decide +kernel
theorem dL_law_2596 : decode cL_law 2596 = .ok (.ireturn, 1) := by decide +kernel
theorem dL_law_2597 : decode cL_law 2597 = .ok (.goto 91, 3) := by decide +kernel
theorem dL_law_2600 : decode cL_law 2600 = .ok (.aload_n 1, 1) := by decide +kernel
theorem dL_law_2601 : decode cL_law 2601 = .ok (.aload_n 3, 1) := by decide +kernel
theorem dL_law_2602 : decode cL_law 2602 = .ok (.invokestatic 275, 3) := by decide +kernel
theorem dL_law_2605 : decode cL_law 2605 = .ok (.istore 5, 2) := by decide +kernel
theorem dL_law_2607 : decode cL_law 2607 = .ok (.aload_n 2, 1) := by decide +kernel
theorem dL_law_2608 : decode cL_law 2608 = .ok (.invokevirtual 277, 3) := by decide +kernel
theorem dL_law_2611 : decode cL_law 2611 = .ok (.istore 6, 2) := by decide +kernel
theorem dL_law_2613 : decode cL_law 2613 = .ok (.aload_n 2, 1) := by decide +kernel
theorem dL_law_2614 : decode cL_law 2614 = .ok (.invokevirtual 142, 3) := by decide +kernel
theorem dL_law_2617 : decode cL_law 2617 = .ok (.iload 5, 2) := by decide +kernel
theorem dL_law_2619 : decode cL_law 2619 = .ok (.if_icmp .eq 5, 3) := by decide +kernel
theorem dL_law_2622 : decode cL_law 2622 = .ok (.iconst 0, 1) := by decide +kernel
theorem dL_law_2623 : decode cL_law 2623 = .ok (.ireturn, 1) := by decide +kernel
theorem dL_law_2624 : decode cL_law 2624 = .ok (.iload 5, 2) := by decide +kernel
theorem dL_law_2626 : decode cL_law 2626 = .ok (.ifCond .ne 15, 3) := by decide +kernel
theorem dL_law_2629 : decode cL_law 2629 = .ok (.aload_n 3, 1) := by decide +kernel
theorem dL_law_2630 : decode cL_law 2630 = .ok (.iconst 0, 1) := by decide +kernel
theorem dL_law_2631 : decode cL_law 2631 = .ok (.laload, 1) := by decide +kernel
theorem dL_law_2632 : decode cL_law 2632 = .ok (.iload 6, 2) := by decide +kernel
theorem dL_law_2634 : decode cL_law 2634 = .ok (.i2l, 1) := by decide +kernel
theorem dL_law_2635 : decode cL_law 2635 = .ok (.lcmp, 1) := by decide +kernel
theorem dL_law_2636 : decode cL_law 2636 = .ok (.ifCond .eq 5, 3) := by decide +kernel
theorem dL_law_2639 : decode cL_law 2639 = .ok (.iconst 0, 1) := by decide +kernel
theorem dL_law_2640 : decode cL_law 2640 = .ok (.ireturn, 1) := by decide +kernel
theorem dL_law_2641 : decode cL_law 2641 = .ok (.goto 47, 3) := by decide +kernel
theorem dL_law_2644 : decode cL_law 2644 = .ok (.aload_n 1, 1) := by decide +kernel
theorem dL_law_2645 : decode cL_law 2645 = .ok (.aload_n 3, 1) := by decide +kernel
theorem dL_law_2646 : decode cL_law 2646 = .ok (.invokestatic 278, 3) := by decide +kernel
theorem dL_law_2649 : decode cL_law 2649 = .ok (.istore 5, 2) := by decide +kernel
theorem dL_law_2651 : decode cL_law 2651 = .ok (.aload_n 2, 1) := by decide +kernel
theorem dL_law_2652 : decode cL_law 2652 = .ok (.invokevirtual 280, 3) := by decide +kernel
theorem dL_law_2655 : decode cL_law 2655 = .ok (.istore 6, 2) := by decide +kernel
theorem dL_law_2657 : decode cL_law 2657 = .ok (.aload_n 2, 1) := by decide +kernel
theorem dL_law_2658 : decode cL_law 2658 = .ok (.invokevirtual 142, 3) := by decide +kernel
theorem dL_law_2661 : decode cL_law 2661 = .ok (.iload 5, 2) := by decide +kernel
theorem dL_law_2663 : decode cL_law 2663 = .ok (.if_icmp .eq 5, 3) := by decide +kernel
theorem dL_law_2666 : decode cL_law 2666 = .ok (.iconst 0, 1) := by decide +kernel
theorem dL_law_2667 : decode cL_law 2667 = .ok (.ireturn, 1) := by decide +kernel
theorem dL_law_2668 : decode cL_law 2668 = .ok (.iload 5, 2) := by decide +kernel
theorem dL_law_2670 : decode cL_law 2670 = .ok (.ifCond .ne 15, 3) := by decide +kernel
theorem dL_law_2673 : decode cL_law 2673 = .ok (.aload_n 3, 1) := by decide +kernel
theorem dL_law_2674 : decode cL_law 2674 = .ok (.iconst 0, 1) := by decide +kernel
theorem dL_law_2675 : decode cL_law 2675 = .ok (.laload, 1) := by decide +kernel
theorem dL_law_2676 : decode cL_law 2676 = .ok (.iload 6, 2) := by decide +kernel
theorem dL_law_2678 : decode cL_law 2678 = .ok (.i2l, 1) := by decide +kernel
theorem dL_law_2679 : decode cL_law 2679 = .ok (.lcmp, 1) := by decide +kernel
theorem dL_law_2680 : decode cL_law 2680 = .ok (.ifCond .eq 5, 3) := by decide +kernel
theorem dL_law_2683 : decode cL_law 2683 = .ok (.iconst 0, 1) := by decide +kernel
theorem dL_law_2684 : decode cL_law 2684 = .ok (.ireturn, 1) := by decide +kernel
theorem dL_law_2685 : decode cL_law 2685 = .ok (.goto 3, 3) := by decide +kernel
theorem dL_law_2688 : decode cL_law 2688 = .ok (.iinc 4 6, 3) := by decide +kernel
theorem dL_law_2691 : decode cL_law 2691 = .ok (.goto (-2668), 3) := by decide +kernel
theorem dL_law_2694 : decode cL_law 2694 = .ok (.iconst 1, 1) := by decide +kernel
theorem dL_law_2695 : decode cL_law 2695 = .ok (.ireturn, 1) := by decide +kernel
end
section
theorem dX10_init_0 : decode cX10_init 0 = .ok (.aload_n 0, 1) := by decide +kernel
theorem dX10_init_1 : decode cX10_init 1 = .ok (.invokespecial 3, 3) := by decide +kernel
theorem dX10_init_4 : decode cX10_init 4 = .ok (.aload_n 0, 1) := by decide +kernel
theorem dX10_init_5 : decode cX10_init 5 = .ok (.new 9, 3) := by decide +kernel
theorem dX10_init_8 : decode cX10_init 8 = .ok (.dup, 1) := by decide +kernel
theorem dX10_init_9 : decode cX10_init 9 = .ok (.invokespecial 11, 3) := by decide +kernel
theorem dX10_init_12 : decode cX10_init 12 = .ok (.putfield 12, 3) := by decide +kernel
theorem dX10_init_15 : decode cX10_init 15 = .ok (.aload_n 0, 1) := by decide +kernel
theorem dX10_init_16 : decode cX10_init 16 = .ok (.new 16, 3) := by decide +kernel
theorem dX10_init_19 : decode cX10_init 19 = .ok (.dup, 1) := by decide +kernel
theorem dX10_init_20 : decode cX10_init 20 = .ok (.invokespecial 18, 3) := by decide +kernel
theorem dX10_init_23 : decode cX10_init 23 = .ok (.putfield 19, 3) := by decide +kernel
theorem dX10_init_26 : decode cX10_init 26 = .ok (.aload_n 0, 1) := by decide +kernel
theorem dX10_init_27 : decode cX10_init 27 = .ok (.new 23, 3) := by decide +kernel
theorem dX10_init_30 : decode cX10_init 30 = .ok (.dup, 1) := by decide +kernel
theorem dX10_init_31 : decode cX10_init 31 = .ok (.invokespecial 25, 3) := by decide +kernel
theorem dX10_init_34 : decode cX10_init 34 = .ok (.putfield 26, 3) := by decide +kernel
theorem dX10_init_37 : decode cX10_init 37 = .ok (.aload_n 0, 1) := by decide +kernel
theorem dX10_init_38 : decode cX10_init 38 = .ok (.new 30, 3) := by decide +kernel
theorem dX10_init_41 : decode cX10_init 41 = .ok (.dup, 1) := by decide +kernel
theorem dX10_init_42 : decode cX10_init 42 = .ok (.invokespecial 32, 3) := by decide +kernel
theorem dX10_init_45 : decode cX10_init 45 = .ok (.putfield 33, 3) := by decide +kernel
theorem dX10_init_48 : decode cX10_init 48 = .ok (.aload_n 0, 1) := by decide +kernel
theorem dX10_init_49 : decode cX10_init 49 = .ok (.new 37, 3) := by decide +kernel
theorem dX10_init_52 : decode cX10_init 52 = .ok (.dup, 1) := by decide +kernel
theorem dX10_init_53 : decode cX10_init 53 = .ok (.iconst 0, 1) := by decide +kernel
theorem dX10_init_54 : decode cX10_init 54 = .ok (.invokespecial 39, 3) := by decide +kernel
theorem dX10_init_57 : decode cX10_init 57 = .ok (.putfield 42, 3) := by decide +kernel
theorem dX10_init_60 : decode cX10_init 60 = .ok (.aload_n 0, 1) := by decide +kernel
theorem dX10_init_61 : decode cX10_init 61 = .ok (.new 37, 3) := by decide +kernel
theorem dX10_init_64 : decode cX10_init 64 = .ok (.dup, 1) := by decide +kernel
theorem dX10_init_65 : decode cX10_init 65 = .ok (.iconst 1, 1) := by decide +kernel
theorem dX10_init_66 : decode cX10_init 66 = .ok (.invokespecial 39, 3) := by decide +kernel
theorem dX10_init_69 : decode cX10_init 69 = .ok (.putfield 46, 3) := by decide +kernel
theorem dX10_init_72 : decode cX10_init 72 = .ok (.aload_n 0, 1) := by decide +kernel
theorem dX10_init_73 : decode cX10_init 73 = .ok (.new 49, 3) := by decide +kernel
theorem dX10_init_76 : decode cX10_init 76 = .ok (.dup, 1) := by decide +kernel
theorem dX10_init_77 : decode cX10_init 77 = .ok (.invokespecial 51, 3) := by decide +kernel
theorem dX10_init_80 : decode cX10_init 80 = .ok (.putfield 52, 3) := by decide +kernel
theorem dX10_init_83 : decode cX10_init 83 = .ok (.aload_n 0, 1) := by decide +kernel
theorem dX10_init_84 : decode cX10_init 84 = .ok (.iconst 1, 1) := by decide +kernel
theorem dX10_init_85 : decode cX10_init 85 = .ok (.putfield 56, 3) := by decide +kernel
theorem dX10_init_88 : decode cX10_init 88 = .ok (.aload_n 0, 1) := by decide +kernel
theorem dX10_init_89 : decode cX10_init 89 = .ok (.iconst 0, 1) := by decide +kernel
theorem dX10_init_90 : decode cX10_init 90 = .ok (.putfield 60, 3) := by decide +kernel
theorem dX10_init_93 : decode cX10_init 93 = .ok (.return_, 1) := by decide +kernel
theorem dX10_addStatement_0 : decode cX10_addStatement 0 = .ok (.iload_n 1, 1) := by decide +kernel
theorem dX10_addStatement_1 : decode cX10_addStatement 1 = .ok (.iconst 0, 1) := by decide +kernel
theorem dX10_addStatement_2 : decode cX10_addStatement 2 = .ok (.bipush 99, 2) := by decide +kernel
theorem dX10_addStatement_4 : decode cX10_addStatement 4 = .ok (.invokestatic 63, 3) := by decide +kernel
theorem dX10_addStatement_7 : decode cX10_addStatement 7 = .ok (.aload_n 0, 1) := by decide +kernel
theorem dX10_addStatement_8 : decode cX10_addStatement 8 = .ok (.getfield 12, 3) := by decide +kernel
theorem dX10_addStatement_11 : decode cX10_addStatement 11 = .ok (.getfield 67, 3) := by decide +kernel
theorem dX10_addStatement_14 : decode cX10_addStatement 14 = .ok (.invokevirtual 71, 3) := by decide +kernel
theorem dX10_addStatement_17 : decode cX10_addStatement 17 = .ok (.iconst 4, 1) := by decide +kernel
theorem dX10_addStatement_18 : decode cX10_addStatement 18 = .ok (.if_icmp .lt 13, 3) := by decide +kernel
theorem dX10_addStatement_21 : decode cX10_addStatement 21 = .ok (.new 77, 3) := by decide +kernel
theorem dX10_addStatement_24 : decode cX10_addStatement 24 = .ok (.dup, 1) := by decide +kernel
theorem dX10_addStatement_25 : decode cX10_addStatement 25 = .ok (.ldc 79, 2) := by decide +kernel
theorem dX10_addStatement_27 : decode cX10_addStatement 27 = .ok (.invokespecial 81, 3) := by decide +kernel
theorem dX10_addStatement_30 : decode cX10_addStatement 30 = .ok (.athrow, 1) := by decide +kernel
theorem dX10_addStatement_31 : decode cX10_addStatement 31 = .ok (.aload_n 0, 1) := by decide +kernel
theorem dX10_addStatement_32 : decode cX10_addStatement 32 = .ok (.getfield 12, 3) := by decide +kernel
theorem dX10_addStatement_35 : decode cX10_addStatement 35 = .ok (.getfield 67, 3) := by decide +kernel
theorem dX10_addStatement_38 : decode cX10_addStatement 38 = .ok (.new 84, 3) := by decide +kernel
theorem dX10_addStatement_41 : decode cX10_addStatement 41 = .ok (.dup, 1) := by decide +kernel
theorem dX10_addStatement_42 : decode cX10_addStatement 42 = .ok (.iload_n 1, 1) := by decide +kernel
theorem dX10_addStatement_43 : decode cX10_addStatement 43 = .ok (.invokespecial 86, 3) := by decide +kernel
theorem dX10_addStatement_46 : decode cX10_addStatement 46 = .ok (.invokevirtual 89, 3) := by decide +kernel
theorem dX10_addStatement_49 : decode cX10_addStatement 49 = .ok (.pop, 1) := by decide +kernel
theorem dX10_addStatement_50 : decode cX10_addStatement 50 = .ok (.aload_n 0, 1) := by decide +kernel
theorem dX10_addStatement_51 : decode cX10_addStatement 51 = .ok (.getfield 12, 3) := by decide +kernel
theorem dX10_addStatement_54 : decode cX10_addStatement 54 = .ok (.getfield 67, 3) := by decide +kernel
theorem dX10_addStatement_57 : decode cX10_addStatement 57 = .ok (.invokevirtual 71, 3) := by decide +kernel
theorem dX10_addStatement_60 : decode cX10_addStatement 60 = .ok (.iconst 1, 1) := by decide +kernel
theorem dX10_addStatement_61 : decode cX10_addStatement 61 = .ok (.isub, 1) := by decide +kernel
theorem dX10_addStatement_62 : decode cX10_addStatement 62 = .ok (.ireturn, 1) := by decide +kernel
theorem dX10_addRead_0 : decode cX10_addRead 0 = .ok (.aload_n 0, 1) := by decide +kernel
theorem dX10_addRead_1 : decode cX10_addRead 1 = .ok (.iload_n 1, 1) := by decide +kernel
theorem dX10_addRead_2 : decode cX10_addRead 2 = .ok (.invokevirtual 93, 3) := by decide +kernel
theorem dX10_addRead_5 : decode cX10_addRead 5 = .ok (.aload_n 0, 1) := by decide +kernel
theorem dX10_addRead_6 : decode cX10_addRead 6 = .ok (.iload_n 2, 1) := by decide +kernel
theorem dX10_addRead_7 : decode cX10_addRead 7 = .ok (.invokevirtual 93, 3) := by decide +kernel
theorem dX10_addRead_10 : decode cX10_addRead 10 = .ok (.iload_n 3, 1) := by decide +kernel
theorem dX10_addRead_11 : decode cX10_addRead 11 = .ok (.iconst 1, 1) := by decide +kernel
theorem dX10_addRead_12 : decode cX10_addRead 12 = .ok (.bipush 9, 2) := by decide +kernel
theorem dX10_addRead_14 : decode cX10_addRead 14 = .ok (.invokestatic 63, 3) := by decide +kernel
theorem dX10_addRead_17 : decode cX10_addRead 17 = .ok (.iload 4, 2) := by decide +kernel
theorem dX10_addRead_19 : decode cX10_addRead 19 = .ok (.iconst 0, 1) := by decide +kernel
theorem dX10_addRead_20 : decode cX10_addRead 20 = .ok (.iconst 3, 1) := by decide +kernel
theorem dX10_addRead_21 : decode cX10_addRead 21 = .ok (.invokestatic 63, 3) := by decide +kernel
theorem dX10_addRead_24 : decode cX10_addRead 24 = .ok (.iload 5, 2) := by decide +kernel
theorem dX10_addRead_26 : decode cX10_addRead 26 = .ok (.bipush (-3), 2) := by decide +kernel
theorem dX10_addRead_28 : decode cX10_addRead 28 = .ok (.iconst 3, 1) := by decide +kernel
theorem dX10_addRead_29 : decode cX10_addRead 29 = .ok (.invokestatic 63, 3) := by decide +kernel
theorem dX10_addRead_32 : decode cX10_addRead 32 = .ok (.aload_n 0, 1) := by decide +kernel
theorem dX10_addRead_33 : decode cX10_addRead 33 = .ok (.getfield 12, 3) := by decide +kernel
theorem dX10_addRead_36 : decode cX10_addRead 36 = .ok (.getfield 67, 3) := by decide +kernel
theorem dX10_addRead_39 : decode cX10_addRead 39 = .ok (.iload_n 1, 1) := by decide +kernel
theorem dX10_addRead_40 : decode cX10_addRead 40 = .ok (.invokevirtual 96, 3) := by decide +kernel
theorem dX10_addRead_43 : decode cX10_addRead 43 = .ok (.checkcast 84, 3) := by decide +kernel
theorem dX10_addRead_46 : decode cX10_addRead 46 = .ok (.getfield 100, 3) := by decide +kernel
theorem dX10_addRead_49 : decode cX10_addRead 49 = .ok (.astore 6, 2) := by decide +kernel
theorem dX10_addRead_51 : decode cX10_addRead 51 = .ok (.aload 6, 2) := by decide +kernel
theorem dX10_addRead_53 : decode cX10_addRead 53 = .ok (.invokevirtual 71, 3) := by decide +kernel
theorem dX10_addRead_56 : decode cX10_addRead 56 = .ok (.iconst 4, 1) := by decide +kernel
theorem dX10_addRead_57 : decode cX10_addRead 57 = .ok (.if_icmp .lt 13, 3) := by decide +kernel
theorem dX10_addRead_60 : decode cX10_addRead 60 = .ok (.new 77, 3) := by decide +kernel
theorem dX10_addRead_63 : decode cX10_addRead 63 = .ok (.dup, 1) := by decide +kernel
theorem dX10_addRead_64 : decode cX10_addRead 64 = .ok (.ldc 103, 2) := by decide +kernel
theorem dX10_addRead_66 : decode cX10_addRead 66 = .ok (.invokespecial 81, 3) := by decide +kernel
theorem dX10_addRead_69 : decode cX10_addRead 69 = .ok (.athrow, 1) := by decide +kernel
theorem dX10_addRead_70 : decode cX10_addRead 70 = .ok (.aload 6, 2) := by decide +kernel
theorem dX10_addRead_72 : decode cX10_addRead 72 = .ok (.new 105, 3) := by decide +kernel
theorem dX10_addRead_75 : decode cX10_addRead 75 = .ok (.dup, 1) := by decide +kernel
theorem dX10_addRead_76 : decode cX10_addRead 76 = .ok (.iload_n 2, 1) := by decide +kernel
theorem dX10_addRead_77 : decode cX10_addRead 77 = .ok (.iload_n 3, 1) := by decide +kernel
theorem dX10_addRead_78 : decode cX10_addRead 78 = .ok (.iload 4, 2) := by decide +kernel
theorem dX10_addRead_80 : decode cX10_addRead 80 = .ok (.iload 5, 2) := by decide +kernel
theorem dX10_addRead_82 : decode cX10_addRead 82 = .ok (.invokespecial 107, 3) := by decide +kernel
theorem dX10_addRead_85 : decode cX10_addRead 85 = .ok (.invokevirtual 89, 3) := by decide +kernel
theorem dX10_addRead_88 : decode cX10_addRead 88 = .ok (.pop, 1) := by decide +kernel
theorem dX10_addRead_89 : decode cX10_addRead 89 = .ok (.aload 6, 2) := by decide +kernel
theorem dX10_addRead_91 : decode cX10_addRead 91 = .ok (.invokevirtual 71, 3) := by decide +kernel
theorem dX10_addRead_94 : decode cX10_addRead 94 = .ok (.iconst 1, 1) := by decide +kernel
theorem dX10_addRead_95 : decode cX10_addRead 95 = .ok (.isub, 1) := by decide +kernel
theorem dX10_addRead_96 : decode cX10_addRead 96 = .ok (.ireturn, 1) := by decide +kernel
theorem dX10_dropReads_0 : decode cX10_dropReads 0 = .ok (.aload_n 0, 1) := by decide +kernel
theorem dX10_dropReads_1 : decode cX10_dropReads 1 = .ok (.iload_n 1, 1) := by decide +kernel
theorem dX10_dropReads_2 : decode cX10_dropReads 2 = .ok (.invokevirtual 93, 3) := by decide +kernel
theorem dX10_dropReads_5 : decode cX10_dropReads 5 = .ok (.aload_n 0, 1) := by decide +kernel
theorem dX10_dropReads_6 : decode cX10_dropReads 6 = .ok (.getfield 12, 3) := by decide +kernel
theorem dX10_dropReads_9 : decode cX10_dropReads 9 = .ok (.getfield 67, 3) := by decide +kernel
theorem dX10_dropReads_12 : decode cX10_dropReads 12 = .ok (.iload_n 1, 1) := by decide +kernel
theorem dX10_dropReads_13 : decode cX10_dropReads 13 = .ok (.invokevirtual 96, 3) := by decide +kernel
theorem dX10_dropReads_16 : decode cX10_dropReads 16 = .ok (.checkcast 84, 3) := by decide +kernel
theorem dX10_dropReads_19 : decode cX10_dropReads 19 = .ok (.getfield 100, 3) := by decide +kernel
theorem dX10_dropReads_22 : decode cX10_dropReads 22 = .ok (.astore_n 2, 1) := by decide +kernel
theorem dX10_dropReads_23 : decode cX10_dropReads 23 = .ok (.aload_n 2, 1) := by decide +kernel
theorem dX10_dropReads_24 : decode cX10_dropReads 24 = .ok (.invokevirtual 71, 3) := by decide +kernel
theorem dX10_dropReads_27 : decode cX10_dropReads 27 = .ok (.istore_n 3, 1) := by decide +kernel
theorem dX10_dropReads_28 : decode cX10_dropReads 28 = .ok (.aload_n 2, 1) := by decide +kernel
theorem dX10_dropReads_29 : decode cX10_dropReads 29 = .ok (.invokevirtual 110, 3) := by decide +kernel
theorem dX10_dropReads_32 : decode cX10_dropReads 32 = .ok (.iload_n 3, 1) := by decide +kernel
theorem dX10_dropReads_33 : decode cX10_dropReads 33 = .ok (.ireturn, 1) := by decide +kernel
theorem dX10_setLasting_0 : decode cX10_setLasting 0 = .ok (.aload_n 0, 1) := by decide +kernel
theorem dX10_setLasting_1 : decode cX10_setLasting 1 = .ok (.iload_n 1, 1) := by decide +kernel
theorem dX10_setLasting_2 : decode cX10_setLasting 2 = .ok (.invokevirtual 93, 3) := by decide +kernel
theorem dX10_setLasting_5 : decode cX10_setLasting 5 = .ok (.aload_n 0, 1) := by decide +kernel
theorem dX10_setLasting_6 : decode cX10_setLasting 6 = .ok (.getfield 12, 3) := by decide +kernel
theorem dX10_setLasting_9 : decode cX10_setLasting 9 = .ok (.getfield 67, 3) := by decide +kernel
theorem dX10_setLasting_12 : decode cX10_setLasting 12 = .ok (.iload_n 1, 1) := by decide +kernel
theorem dX10_setLasting_13 : decode cX10_setLasting 13 = .ok (.invokevirtual 96, 3) := by decide +kernel
theorem dX10_setLasting_16 : decode cX10_setLasting 16 = .ok (.checkcast 84, 3) := by decide +kernel
theorem dX10_setLasting_19 : decode cX10_setLasting 19 = .ok (.astore_n 3, 1) := by decide +kernel
theorem dX10_setLasting_20 : decode cX10_setLasting 20 = .ok (.aload_n 3, 1) := by decide +kernel
theorem dX10_setLasting_21 : decode cX10_setLasting 21 = .ok (.getfield 113, 3) := by decide +kernel
theorem dX10_setLasting_24 : decode cX10_setLasting 24 = .ok (.istore 4, 2) := by decide +kernel
theorem dX10_setLasting_26 : decode cX10_setLasting 26 = .ok (.aload_n 3, 1) := by decide +kernel
theorem dX10_setLasting_27 : decode cX10_setLasting 27 = .ok (.iload_n 2, 1) := by decide +kernel
theorem dX10_setLasting_28 : decode cX10_setLasting 28 = .ok (.putfield 113, 3) := by decide +kernel
theorem dX10_setLasting_31 : decode cX10_setLasting 31 = .ok (.iload 4, 2) := by decide +kernel
theorem dX10_setLasting_33 : decode cX10_setLasting 33 = .ok (.ireturn, 1) := by decide +kernel
theorem dX10_setField_0 : decode cX10_setField 0 = .ok (.iload_n 1, 1) := by decide +kernel
theorem dX10_setField_1 : decode cX10_setField 1 = .ok (.iconst 1, 1) := by decide +kernel
theorem dX10_setField_2 : decode cX10_setField 2 = .ok (.bipush 8, 2) := by decide +kernel
theorem dX10_setField_4 : decode cX10_setField 4 = .ok (.invokestatic 63, 3) := by decide +kernel
theorem dX10_setField_7 : decode cX10_setField 7 = .ok (.iload_n 2, 1) := by decide +kernel
theorem dX10_setField_8 : decode cX10_setField 8 = .ok (.iconst 1, 1) := by decide +kernel
theorem dX10_setField_9 : decode cX10_setField 9 = .ok (.bipush 8, 2) := by decide +kernel
theorem dX10_setField_11 : decode cX10_setField 11 = .ok (.invokestatic 63, 3) := by decide +kernel
theorem dX10_setField_14 : decode cX10_setField 14 = .ok (.aload_n 0, 1) := by decide +kernel
theorem dX10_setField_15 : decode cX10_setField 15 = .ok (.getfield 12, 3) := by decide +kernel
theorem dX10_setField_18 : decode cX10_setField 18 = .ok (.iload_n 1, 1) := by decide +kernel
theorem dX10_setField_19 : decode cX10_setField 19 = .ok (.iload_n 2, 1) := by decide +kernel
theorem dX10_setField_20 : decode cX10_setField 20 = .ok (.invokevirtual 117, 3) := by decide +kernel
theorem dX10_setField_23 : decode cX10_setField 23 = .ok (.aload_n 0, 1) := by decide +kernel
theorem dX10_setField_24 : decode cX10_setField 24 = .ok (.getfield 12, 3) := by decide +kernel
theorem dX10_setField_27 : decode cX10_setField 27 = .ok (.getfield 121, 3) := by decide +kernel
theorem dX10_setField_30 : decode cX10_setField 30 = .ok (.ireturn, 1) := by decide +kernel
theorem dX10_setSchedule_0 : decode cX10_setSchedule 0 = .ok (.iload_n 1, 1) := by decide +kernel
theorem dX10_setSchedule_1 : decode cX10_setSchedule 1 = .ok (.iload_n 2, 1) := by decide +kernel
theorem dX10_setSchedule_2 : decode cX10_setSchedule 2 = .ok (.invokestatic 124, 3) := by decide +kernel
theorem dX10_setSchedule_5 : decode cX10_setSchedule 5 = .ok (.aload_n 0, 1) := by decide +kernel
theorem dX10_setSchedule_6 : decode cX10_setSchedule 6 = .ok (.iload_n 1, 1) := by decide +kernel
theorem dX10_setSchedule_7 : decode cX10_setSchedule 7 = .ok (.putfield 56, 3) := by decide +kernel
theorem dX10_setSchedule_10 : decode cX10_setSchedule 10 = .ok (.aload_n 0, 1) := by decide +kernel
theorem dX10_setSchedule_11 : decode cX10_setSchedule 11 = .ok (.iload_n 2, 1) := by decide +kernel
theorem dX10_setSchedule_12 : decode cX10_setSchedule 12 = .ok (.putfield 60, 3) := by decide +kernel
theorem dX10_setSchedule_15 : decode cX10_setSchedule 15 = .ok (.aload_n 0, 1) := by decide +kernel
theorem dX10_setSchedule_16 : decode cX10_setSchedule 16 = .ok (.invokevirtual 127, 3) := by decide +kernel
theorem dX10_setSchedule_19 : decode cX10_setSchedule 19 = .ok (.ireturn, 1) := by decide +kernel
theorem dX10_setOffset_0 : decode cX10_setOffset 0 = .ok (.aload_n 0, 1) := by decide +kernel
theorem dX10_setOffset_1 : decode cX10_setOffset 1 = .ok (.iload_n 1, 1) := by decide +kernel
theorem dX10_setOffset_2 : decode cX10_setOffset 2 = .ok (.invokevirtual 93, 3) := by decide +kernel
theorem dX10_setOffset_5 : decode cX10_setOffset 5 = .ok (.iload_n 2, 1) := by decide +kernel
theorem dX10_setOffset_6 : decode cX10_setOffset 6 = .ok (.iconst 0, 1) := by decide +kernel
theorem dX10_setOffset_7 : decode cX10_setOffset 7 = .ok (.bipush 30, 2) := by decide +kernel
theorem dX10_setOffset_9 : decode cX10_setOffset 9 = .ok (.invokestatic 63, 3) := by decide +kernel
theorem dX10_setOffset_12 : decode cX10_setOffset 12 = .ok (.aload_n 0, 1) := by decide +kernel
theorem dX10_setOffset_13 : decode cX10_setOffset 13 = .ok (.getfield 12, 3) := by decide +kernel
theorem dX10_setOffset_16 : decode cX10_setOffset 16 = .ok (.getfield 67, 3) := by decide +kernel
theorem dX10_setOffset_19 : decode cX10_setOffset 19 = .ok (.iload_n 1, 1) := by decide +kernel
theorem dX10_setOffset_20 : decode cX10_setOffset 20 = .ok (.invokevirtual 96, 3) := by decide +kernel
theorem dX10_setOffset_23 : decode cX10_setOffset 23 = .ok (.checkcast 84, 3) := by decide +kernel
theorem dX10_setOffset_26 : decode cX10_setOffset 26 = .ok (.iload_n 2, 1) := by decide +kernel
theorem dX10_setOffset_27 : decode cX10_setOffset 27 = .ok (.putfield 131, 3) := by decide +kernel
theorem dX10_setOffset_30 : decode cX10_setOffset 30 = .ok (.aload_n 0, 1) := by decide +kernel
theorem dX10_setOffset_31 : decode cX10_setOffset 31 = .ok (.invokevirtual 127, 3) := by decide +kernel
theorem dX10_setOffset_34 : decode cX10_setOffset 34 = .ok (.ireturn, 1) := by decide +kernel
theorem dX10_isAllowed_0 : decode cX10_isAllowed 0 = .ok (.aload_n 0, 1) := by decide +kernel
theorem dX10_isAllowed_1 : decode cX10_isAllowed 1 = .ok (.getfield 12, 3) := by decide +kernel
theorem dX10_isAllowed_4 : decode cX10_isAllowed 4 = .ok (.aload_n 0, 1) := by decide +kernel
theorem dX10_isAllowed_5 : decode cX10_isAllowed 5 = .ok (.getfield 56, 3) := by decide +kernel
theorem dX10_isAllowed_8 : decode cX10_isAllowed 8 = .ok (.aload_n 0, 1) := by decide +kernel
theorem dX10_isAllowed_9 : decode cX10_isAllowed 9 = .ok (.getfield 60, 3) := by decide +kernel
theorem dX10_isAllowed_12 : decode cX10_isAllowed 12 = .ok (.invokevirtual 134, 3) := by decide +kernel
theorem dX10_isAllowed_15 : decode cX10_isAllowed 15 = .ok (.ireturn, 1) := by decide +kernel
theorem dX10_isAllowedWith_0 : decode cX10_isAllowedWith 0 = .ok (.iload_n 1, 1) := by decide +kernel
theorem dX10_isAllowedWith_1 : decode cX10_isAllowedWith 1 = .ok (.iload_n 2, 1) := by decide +kernel
theorem dX10_isAllowedWith_2 : decode cX10_isAllowedWith 2 = .ok (.invokestatic 124, 3) := by decide +kernel
theorem dX10_isAllowedWith_5 : decode cX10_isAllowedWith 5 = .ok (.aload_n 0, 1) := by decide +kernel
theorem dX10_isAllowedWith_6 : decode cX10_isAllowedWith 6 = .ok (.getfield 12, 3) := by decide +kernel
theorem dX10_isAllowedWith_9 : decode cX10_isAllowedWith 9 = .ok (.iload_n 1, 1) := by decide +kernel
theorem dX10_isAllowedWith_10 : decode cX10_isAllowedWith 10 = .ok (.iload_n 2, 1) := by decide +kernel
theorem dX10_isAllowedWith_11 : decode cX10_isAllowedWith 11 = .ok (.invokevirtual 134, 3) := by decide +kernel
theorem dX10_isAllowedWith_14 : decode cX10_isAllowedWith 14 = .ok (.ireturn, 1) := by decide +kernel
theorem dX10_isReadInOrder_0 : decode cX10_isReadInOrder 0 = .ok (.aload_n 0, 1) := by decide +kernel
theorem dX10_isReadInOrder_1 : decode cX10_isReadInOrder 1 = .ok (.iload_n 1, 1) := by decide +kernel
theorem dX10_isReadInOrder_2 : decode cX10_isReadInOrder 2 = .ok (.invokevirtual 93, 3) := by decide +kernel
theorem dX10_isReadInOrder_5 : decode cX10_isReadInOrder 5 = .ok (.aload_n 0, 1) := by decide +kernel
theorem dX10_isReadInOrder_6 : decode cX10_isReadInOrder 6 = .ok (.getfield 12, 3) := by decide +kernel
theorem dX10_isReadInOrder_9 : decode cX10_isReadInOrder 9 = .ok (.getfield 67, 3) := by decide +kernel
theorem dX10_isReadInOrder_12 : decode cX10_isReadInOrder 12 = .ok (.iload_n 1, 1) := by decide +kernel
theorem dX10_isReadInOrder_13 : decode cX10_isReadInOrder 13 = .ok (.invokevirtual 96, 3) := by decide +kernel
theorem dX10_isReadInOrder_16 : decode cX10_isReadInOrder 16 = .ok (.checkcast 84, 3) := by decide +kernel
theorem dX10_isReadInOrder_19 : decode cX10_isReadInOrder 19 = .ok (.getfield 100, 3) := by decide +kernel
theorem dX10_isReadInOrder_22 : decode cX10_isReadInOrder 22 = .ok (.astore_n 3, 1) := by decide +kernel
theorem dX10_isReadInOrder_23 : decode cX10_isReadInOrder 23 = .ok (.iload_n 2, 1) := by decide +kernel
theorem dX10_isReadInOrder_24 : decode cX10_isReadInOrder 24 = .ok (.ifCond .lt 11, 3) := by decide +kernel
theorem dX10_isReadInOrder_27 : decode cX10_isReadInOrder 27 = .ok (.iload_n 2, 1) := by decide +kernel
theorem dX10_isReadInOrder_28 : decode cX10_isReadInOrder 28 = .ok (.aload_n 3, 1) := by decide +kernel
theorem dX10_isReadInOrder_29 : decode cX10_isReadInOrder 29 = .ok (.invokevirtual 71, 3) := by decide +kernel
theorem dX10_isReadInOrder_32 : decode cX10_isReadInOrder 32 = .ok (.if_icmp .lt 13, 3) := by decide +kernel
theorem dX10_isReadInOrder_35 : decode cX10_isReadInOrder 35 = .ok (.new 138, 3) := by decide +kernel
theorem dX10_isReadInOrder_38 : decode cX10_isReadInOrder 38 = .ok (.dup, 1) := by decide +kernel
theorem dX10_isReadInOrder_39 : decode cX10_isReadInOrder 39 = .ok (.ldc 140, 2) := by decide +kernel
theorem dX10_isReadInOrder_41 : decode cX10_isReadInOrder 41 = .ok (.invokespecial 142, 3) := by decide +kernel
theorem dX10_isReadInOrder_44 : decode cX10_isReadInOrder 44 = .ok (.athrow, 1) := by decide +kernel
theorem dX10_isReadInOrder_45 : decode cX10_isReadInOrder 45 = .ok (.aload_n 0, 1) := by decide +kernel
theorem dX10_isReadInOrder_46 : decode cX10_isReadInOrder 46 = .ok (.getfield 12, 3) := by decide +kernel
theorem dX10_isReadInOrder_49 : decode cX10_isReadInOrder 49 = .ok (.iload_n 1, 1) := by decide +kernel
theorem dX10_isReadInOrder_50 : decode cX10_isReadInOrder 50 = .ok (.aload_n 3, 1) := by decide +kernel
theorem dX10_isReadInOrder_51 : decode cX10_isReadInOrder 51 = .ok (.iload_n 2, 1) := by decide +kernel
theorem dX10_isReadInOrder_52 : decode cX10_isReadInOrder 52 = .ok (.invokevirtual 96, 3) := by decide +kernel
theorem dX10_isReadInOrder_55 : decode cX10_isReadInOrder 55 = .ok (.checkcast 105, 3) := by decide +kernel
theorem dX10_isReadInOrder_58 : decode cX10_isReadInOrder 58 = .ok (.aload_n 0, 1) := by decide +kernel
theorem dX10_isReadInOrder_59 : decode cX10_isReadInOrder 59 = .ok (.getfield 56, 3) := by decide +kernel
theorem dX10_isReadInOrder_62 : decode cX10_isReadInOrder 62 = .ok (.aload_n 0, 1) := by decide +kernel
theorem dX10_isReadInOrder_63 : decode cX10_isReadInOrder 63 = .ok (.getfield 60, 3) := by decide +kernel
theorem dX10_isReadInOrder_66 : decode cX10_isReadInOrder 66 = .ok (.invokevirtual 143, 3) := by decide +kernel
theorem dX10_isReadInOrder_69 : decode cX10_isReadInOrder 69 = .ok (.ireturn, 1) := by decide +kernel
theorem dX10_steps_0 : decode cX10_steps 0 = .ok (.aload_n 0, 1) := by decide +kernel
theorem dX10_steps_1 : decode cX10_steps 1 = .ok (.getfield 12, 3) := by decide +kernel
theorem dX10_steps_4 : decode cX10_steps 4 = .ok (.invokevirtual 147, 3) := by decide +kernel
theorem dX10_steps_7 : decode cX10_steps 7 = .ok (.ireturn, 1) := by decide +kernel
theorem dX10_stepOf_0 : decode cX10_stepOf 0 = .ok (.aload_n 0, 1) := by decide +kernel
theorem dX10_stepOf_1 : decode cX10_stepOf 1 = .ok (.iload_n 1, 1) := by decide +kernel
theorem dX10_stepOf_2 : decode cX10_stepOf 2 = .ok (.iload_n 2, 1) := by decide +kernel
theorem dX10_stepOf_3 : decode cX10_stepOf 3 = .ok (.iload_n 3, 1) := by decide +kernel
theorem dX10_stepOf_4 : decode cX10_stepOf 4 = .ok (.invokevirtual 150, 3) := by decide +kernel
theorem dX10_stepOf_7 : decode cX10_stepOf 7 = .ok (.istore 4, 2) := by decide +kernel
theorem dX10_stepOf_9 : decode cX10_stepOf 9 = .ok (.aload_n 0, 1) := by decide +kernel
theorem dX10_stepOf_10 : decode cX10_stepOf 10 = .ok (.invokevirtual 154, 3) := by decide +kernel
theorem dX10_stepOf_13 : decode cX10_stepOf 13 = .ok (.getfield 158, 3) := by decide +kernel
theorem dX10_stepOf_16 : decode cX10_stepOf 16 = .ok (.iload 4, 2) := by decide +kernel
theorem dX10_stepOf_18 : decode cX10_stepOf 18 = .ok (.iaload, 1) := by decide +kernel
theorem dX10_stepOf_19 : decode cX10_stepOf 19 = .ok (.ireturn, 1) := by decide +kernel
theorem dX10_statementAt_0 : decode cX10_statementAt 0 = .ok (.aload_n 0, 1) := by decide +kernel
theorem dX10_statementAt_1 : decode cX10_statementAt 1 = .ok (.iload_n 1, 1) := by decide +kernel
theorem dX10_statementAt_2 : decode cX10_statementAt 2 = .ok (.invokevirtual 162, 3) := by decide +kernel
theorem dX10_statementAt_5 : decode cX10_statementAt 5 = .ok (.aload_n 0, 1) := by decide +kernel
theorem dX10_statementAt_6 : decode cX10_statementAt 6 = .ok (.invokevirtual 154, 3) := by decide +kernel
theorem dX10_statementAt_9 : decode cX10_statementAt 9 = .ok (.pop, 1) := by decide +kernel
theorem dX10_statementAt_10 : decode cX10_statementAt 10 = .ok (.aload_n 0, 1) := by decide +kernel
theorem dX10_statementAt_11 : decode cX10_statementAt 11 = .ok (.getfield 19, 3) := by decide +kernel
theorem dX10_statementAt_14 : decode cX10_statementAt 14 = .ok (.getfield 165, 3) := by decide +kernel
theorem dX10_statementAt_17 : decode cX10_statementAt 17 = .ok (.aload_n 0, 1) := by decide +kernel
theorem dX10_statementAt_18 : decode cX10_statementAt 18 = .ok (.getfield 19, 3) := by decide +kernel
theorem dX10_statementAt_21 : decode cX10_statementAt 21 = .ok (.getfield 168, 3) := by decide +kernel
theorem dX10_statementAt_24 : decode cX10_statementAt 24 = .ok (.iload_n 1, 1) := by decide +kernel
theorem dX10_statementAt_25 : decode cX10_statementAt 25 = .ok (.iaload, 1) := by decide +kernel
theorem dX10_statementAt_26 : decode cX10_statementAt 26 = .ok (.iaload, 1) := by decide +kernel
theorem dX10_statementAt_27 : decode cX10_statementAt 27 = .ok (.ireturn, 1) := by decide +kernel
theorem dX10_pointAt_0 : decode cX10_pointAt 0 = .ok (.aload_n 0, 1) := by decide +kernel
theorem dX10_pointAt_1 : decode cX10_pointAt 1 = .ok (.iload_n 1, 1) := by decide +kernel
theorem dX10_pointAt_2 : decode cX10_pointAt 2 = .ok (.invokevirtual 162, 3) := by decide +kernel
theorem dX10_pointAt_5 : decode cX10_pointAt 5 = .ok (.aload_n 0, 1) := by decide +kernel
theorem dX10_pointAt_6 : decode cX10_pointAt 6 = .ok (.invokevirtual 154, 3) := by decide +kernel
theorem dX10_pointAt_9 : decode cX10_pointAt 9 = .ok (.pop, 1) := by decide +kernel
theorem dX10_pointAt_10 : decode cX10_pointAt 10 = .ok (.aload_n 0, 1) := by decide +kernel
theorem dX10_pointAt_11 : decode cX10_pointAt 11 = .ok (.getfield 19, 3) := by decide +kernel
theorem dX10_pointAt_14 : decode cX10_pointAt 14 = .ok (.getfield 168, 3) := by decide +kernel
theorem dX10_pointAt_17 : decode cX10_pointAt 17 = .ok (.iload_n 1, 1) := by decide +kernel
theorem dX10_pointAt_18 : decode cX10_pointAt 18 = .ok (.iaload, 1) := by decide +kernel
theorem dX10_pointAt_19 : decode cX10_pointAt 19 = .ok (.istore_n 2, 1) := by decide +kernel
theorem dX10_pointAt_20 : decode cX10_pointAt 20 = .ok (.iload_n 2, 1) := by decide +kernel
theorem dX10_pointAt_21 : decode cX10_pointAt 21 = .ok (.aload_n 0, 1) := by decide +kernel
theorem dX10_pointAt_22 : decode cX10_pointAt 22 = .ok (.getfield 12, 3) := by decide +kernel
theorem dX10_pointAt_25 : decode cX10_pointAt 25 = .ok (.aload_n 0, 1) := by decide +kernel
theorem dX10_pointAt_26 : decode cX10_pointAt 26 = .ok (.getfield 19, 3) := by decide +kernel
theorem dX10_pointAt_29 : decode cX10_pointAt 29 = .ok (.getfield 165, 3) := by decide +kernel
theorem dX10_pointAt_32 : decode cX10_pointAt 32 = .ok (.iload_n 2, 1) := by decide +kernel
theorem dX10_pointAt_33 : decode cX10_pointAt 33 = .ok (.iaload, 1) := by decide +kernel
theorem dX10_pointAt_34 : decode cX10_pointAt 34 = .ok (.invokevirtual 171, 3) := by decide +kernel
theorem dX10_pointAt_37 : decode cX10_pointAt 37 = .ok (.isub, 1) := by decide +kernel
theorem dX10_pointAt_38 : decode cX10_pointAt 38 = .ok (.ireturn, 1) := by decide +kernel
theorem dX10_endOf_0 : decode cX10_endOf 0 = .ok (.aload_n 0, 1) := by decide +kernel
theorem dX10_endOf_1 : decode cX10_endOf 1 = .ok (.iload_n 1, 1) := by decide +kernel
theorem dX10_endOf_2 : decode cX10_endOf 2 = .ok (.iload_n 2, 1) := by decide +kernel
theorem dX10_endOf_3 : decode cX10_endOf 3 = .ok (.iload_n 3, 1) := by decide +kernel
theorem dX10_endOf_4 : decode cX10_endOf 4 = .ok (.invokevirtual 150, 3) := by decide +kernel
theorem dX10_endOf_7 : decode cX10_endOf 7 = .ok (.istore 4, 2) := by decide +kernel
theorem dX10_endOf_9 : decode cX10_endOf 9 = .ok (.aload_n 0, 1) := by decide +kernel
theorem dX10_endOf_10 : decode cX10_endOf 10 = .ok (.invokevirtual 154, 3) := by decide +kernel
theorem dX10_endOf_13 : decode cX10_endOf 13 = .ok (.getfield 175, 3) := by decide +kernel
theorem dX10_endOf_16 : decode cX10_endOf 16 = .ok (.iload 4, 2) := by decide +kernel
theorem dX10_endOf_18 : decode cX10_endOf 18 = .ok (.iaload, 1) := by decide +kernel
theorem dX10_endOf_19 : decode cX10_endOf 19 = .ok (.ireturn, 1) := by decide +kernel
theorem dX10_liveAt_0 : decode cX10_liveAt 0 = .ok (.aload_n 0, 1) := by decide +kernel
theorem dX10_liveAt_1 : decode cX10_liveAt 1 = .ok (.iload_n 1, 1) := by decide +kernel
theorem dX10_liveAt_2 : decode cX10_liveAt 2 = .ok (.invokevirtual 162, 3) := by decide +kernel
theorem dX10_liveAt_5 : decode cX10_liveAt 5 = .ok (.aload_n 0, 1) := by decide +kernel
theorem dX10_liveAt_6 : decode cX10_liveAt 6 = .ok (.invokevirtual 154, 3) := by decide +kernel
theorem dX10_liveAt_9 : decode cX10_liveAt 9 = .ok (.iload_n 1, 1) := by decide +kernel
theorem dX10_liveAt_10 : decode cX10_liveAt 10 = .ok (.invokevirtual 178, 3) := by decide +kernel
theorem dX10_liveAt_13 : decode cX10_liveAt 13 = .ok (.ireturn, 1) := by decide +kernel
theorem dX10_mostLive_0 : decode cX10_mostLive 0 = .ok (.aload_n 0, 1) := by decide +kernel
theorem dX10_mostLive_1 : decode cX10_mostLive 1 = .ok (.invokevirtual 154, 3) := by decide +kernel
theorem dX10_mostLive_4 : decode cX10_mostLive 4 = .ok (.iconst 0, 1) := by decide +kernel
theorem dX10_mostLive_5 : decode cX10_mostLive 5 = .ok (.aload_n 0, 1) := by decide +kernel
theorem dX10_mostLive_6 : decode cX10_mostLive 6 = .ok (.getfield 12, 3) := by decide +kernel
theorem dX10_mostLive_9 : decode cX10_mostLive 9 = .ok (.invokevirtual 147, 3) := by decide +kernel
theorem dX10_mostLive_12 : decode cX10_mostLive 12 = .ok (.invokevirtual 181, 3) := by decide +kernel
theorem dX10_mostLive_15 : decode cX10_mostLive 15 = .ok (.ireturn, 1) := by decide +kernel
theorem dX10_mostLiveOf_0 : decode cX10_mostLiveOf 0 = .ok (.aload_n 0, 1) := by decide +kernel
theorem dX10_mostLiveOf_1 : decode cX10_mostLiveOf 1 = .ok (.iload_n 1, 1) := by decide +kernel
theorem dX10_mostLiveOf_2 : decode cX10_mostLiveOf 2 = .ok (.invokevirtual 93, 3) := by decide +kernel
theorem dX10_mostLiveOf_5 : decode cX10_mostLiveOf 5 = .ok (.aload_n 0, 1) := by decide +kernel
theorem dX10_mostLiveOf_6 : decode cX10_mostLiveOf 6 = .ok (.invokevirtual 154, 3) := by decide +kernel
theorem dX10_mostLiveOf_9 : decode cX10_mostLiveOf 9 = .ok (.aload_n 0, 1) := by decide +kernel
theorem dX10_mostLiveOf_10 : decode cX10_mostLiveOf 10 = .ok (.getfield 12, 3) := by decide +kernel
theorem dX10_mostLiveOf_13 : decode cX10_mostLiveOf 13 = .ok (.iload_n 1, 1) := by decide +kernel
theorem dX10_mostLiveOf_14 : decode cX10_mostLiveOf 14 = .ok (.invokevirtual 171, 3) := by decide +kernel
theorem dX10_mostLiveOf_17 : decode cX10_mostLiveOf 17 = .ok (.aload_n 0, 1) := by decide +kernel
theorem dX10_mostLiveOf_18 : decode cX10_mostLiveOf 18 = .ok (.getfield 12, 3) := by decide +kernel
theorem dX10_mostLiveOf_21 : decode cX10_mostLiveOf 21 = .ok (.iload_n 1, 1) := by decide +kernel
theorem dX10_mostLiveOf_22 : decode cX10_mostLiveOf 22 = .ok (.iconst 1, 1) := by decide +kernel
theorem dX10_mostLiveOf_23 : decode cX10_mostLiveOf 23 = .ok (.iadd, 1) := by decide +kernel
theorem dX10_mostLiveOf_24 : decode cX10_mostLiveOf 24 = .ok (.invokevirtual 171, 3) := by decide +kernel
theorem dX10_mostLiveOf_27 : decode cX10_mostLiveOf 27 = .ok (.invokevirtual 181, 3) := by decide +kernel
theorem dX10_mostLiveOf_30 : decode cX10_mostLiveOf 30 = .ok (.ireturn, 1) := by decide +kernel
theorem dX10_conflictsOf_0 : decode cX10_conflictsOf 0 = .ok (.aload_n 0, 1) := by decide +kernel
theorem dX10_conflictsOf_1 : decode cX10_conflictsOf 1 = .ok (.iload_n 1, 1) := by decide +kernel
theorem dX10_conflictsOf_2 : decode cX10_conflictsOf 2 = .ok (.iload_n 2, 1) := by decide +kernel
theorem dX10_conflictsOf_3 : decode cX10_conflictsOf 3 = .ok (.iload_n 3, 1) := by decide +kernel
theorem dX10_conflictsOf_4 : decode cX10_conflictsOf 4 = .ok (.invokevirtual 150, 3) := by decide +kernel
theorem dX10_conflictsOf_7 : decode cX10_conflictsOf 7 = .ok (.istore 5, 2) := by decide +kernel
theorem dX10_conflictsOf_9 : decode cX10_conflictsOf 9 = .ok (.aload_n 0, 1) := by decide +kernel
theorem dX10_conflictsOf_10 : decode cX10_conflictsOf 10 = .ok (.iload 4, 2) := by decide +kernel
theorem dX10_conflictsOf_12 : decode cX10_conflictsOf 12 = .ok (.invokevirtual 93, 3) := by decide +kernel
theorem dX10_conflictsOf_15 : decode cX10_conflictsOf 15 = .ok (.aload_n 0, 1) := by decide +kernel
theorem dX10_conflictsOf_16 : decode cX10_conflictsOf 16 = .ok (.invokevirtual 154, 3) := by decide +kernel
theorem dX10_conflictsOf_19 : decode cX10_conflictsOf 19 = .ok (.iload 5, 2) := by decide +kernel
theorem dX10_conflictsOf_21 : decode cX10_conflictsOf 21 = .ok (.aload_n 0, 1) := by decide +kernel
theorem dX10_conflictsOf_22 : decode cX10_conflictsOf 22 = .ok (.getfield 12, 3) := by decide +kernel
theorem dX10_conflictsOf_25 : decode cX10_conflictsOf 25 = .ok (.iload 4, 2) := by decide +kernel
theorem dX10_conflictsOf_27 : decode cX10_conflictsOf 27 = .ok (.invokevirtual 171, 3) := by decide +kernel
theorem dX10_conflictsOf_30 : decode cX10_conflictsOf 30 = .ok (.aload_n 0, 1) := by decide +kernel
theorem dX10_conflictsOf_31 : decode cX10_conflictsOf 31 = .ok (.getfield 12, 3) := by decide +kernel
theorem dX10_conflictsOf_34 : decode cX10_conflictsOf 34 = .ok (.iload 4, 2) := by decide +kernel
theorem dX10_conflictsOf_36 : decode cX10_conflictsOf 36 = .ok (.iconst 1, 1) := by decide +kernel
theorem dX10_conflictsOf_37 : decode cX10_conflictsOf 37 = .ok (.iadd, 1) := by decide +kernel
theorem dX10_conflictsOf_38 : decode cX10_conflictsOf 38 = .ok (.invokevirtual 171, 3) := by decide +kernel
theorem dX10_conflictsOf_41 : decode cX10_conflictsOf 41 = .ok (.invokevirtual 185, 3) := by decide +kernel
theorem dX10_conflictsOf_44 : decode cX10_conflictsOf 44 = .ok (.ireturn, 1) := by decide +kernel
theorem dX10_conflictPairs_0 : decode cX10_conflictPairs 0 = .ok (.aload_n 0, 1) := by decide +kernel
theorem dX10_conflictPairs_1 : decode cX10_conflictPairs 1 = .ok (.iload_n 1, 1) := by decide +kernel
theorem dX10_conflictPairs_2 : decode cX10_conflictPairs 2 = .ok (.invokevirtual 93, 3) := by decide +kernel
theorem dX10_conflictPairs_5 : decode cX10_conflictPairs 5 = .ok (.aload_n 0, 1) := by decide +kernel
theorem dX10_conflictPairs_6 : decode cX10_conflictPairs 6 = .ok (.invokevirtual 154, 3) := by decide +kernel
theorem dX10_conflictPairs_9 : decode cX10_conflictPairs 9 = .ok (.pop, 1) := by decide +kernel
theorem dX10_conflictPairs_10 : decode cX10_conflictPairs 10 = .ok (.iconst 0, 1) := by decide +kernel
theorem dX10_conflictPairs_11 : decode cX10_conflictPairs 11 = .ok (.istore_n 2, 1) := by decide +kernel
theorem dX10_conflictPairs_12 : decode cX10_conflictPairs 12 = .ok (.aload_n 0, 1) := by decide +kernel
theorem dX10_conflictPairs_13 : decode cX10_conflictPairs 13 = .ok (.getfield 12, 3) := by decide +kernel
theorem dX10_conflictPairs_16 : decode cX10_conflictPairs 16 = .ok (.iload_n 1, 1) := by decide +kernel
theorem dX10_conflictPairs_17 : decode cX10_conflictPairs 17 = .ok (.iconst 1, 1) := by decide +kernel
theorem dX10_conflictPairs_18 : decode cX10_conflictPairs 18 = .ok (.iadd, 1) := by decide +kernel
theorem dX10_conflictPairs_19 : decode cX10_conflictPairs 19 = .ok (.invokevirtual 171, 3) := by decide +kernel
theorem dX10_conflictPairs_22 : decode cX10_conflictPairs 22 = .ok (.istore_n 3, 1) := by decide +kernel
theorem dX10_conflictPairs_23 : decode cX10_conflictPairs 23 = .ok (.aload_n 0, 1) := by decide +kernel
theorem dX10_conflictPairs_24 : decode cX10_conflictPairs 24 = .ok (.getfield 12, 3) := by decide +kernel
theorem dX10_conflictPairs_27 : decode cX10_conflictPairs 27 = .ok (.iload_n 1, 1) := by decide +kernel
theorem dX10_conflictPairs_28 : decode cX10_conflictPairs 28 = .ok (.invokevirtual 171, 3) := by decide +kernel
theorem dX10_conflictPairs_31 : decode cX10_conflictPairs 31 = .ok (.istore 4, 2) := by decide +kernel
theorem dX10_conflictPairs_33 : decode cX10_conflictPairs 33 = .ok (.iload 4, 2) := by decide +kernel
theorem dX10_conflictPairs_35 : decode cX10_conflictPairs 35 = .ok (.iload_n 3, 1) := by decide +kernel
theorem dX10_conflictPairs_36 : decode cX10_conflictPairs 36 = .ok (.if_icmp .ge 26, 3) := by decide +kernel
theorem dX10_conflictPairs_39 : decode cX10_conflictPairs 39 = .ok (.iload_n 2, 1) := by decide +kernel
theorem dX10_conflictPairs_40 : decode cX10_conflictPairs 40 = .ok (.aload_n 0, 1) := by decide +kernel
theorem dX10_conflictPairs_41 : decode cX10_conflictPairs 41 = .ok (.getfield 19, 3) := by decide +kernel
theorem dX10_conflictPairs_44 : decode cX10_conflictPairs 44 = .ok (.iload 4, 2) := by decide +kernel
theorem dX10_conflictPairs_46 : decode cX10_conflictPairs 46 = .ok (.iload 4, 2) := by decide +kernel
theorem dX10_conflictPairs_48 : decode cX10_conflictPairs 48 = .ok (.iconst 1, 1) := by decide +kernel
theorem dX10_conflictPairs_49 : decode cX10_conflictPairs 49 = .ok (.iadd, 1) := by decide +kernel
theorem dX10_conflictPairs_50 : decode cX10_conflictPairs 50 = .ok (.iload_n 3, 1) := by decide +kernel
theorem dX10_conflictPairs_51 : decode cX10_conflictPairs 51 = .ok (.invokevirtual 185, 3) := by decide +kernel
theorem dX10_conflictPairs_54 : decode cX10_conflictPairs 54 = .ok (.iadd, 1) := by decide +kernel
theorem dX10_conflictPairs_55 : decode cX10_conflictPairs 55 = .ok (.istore_n 2, 1) := by decide +kernel
theorem dX10_conflictPairs_56 : decode cX10_conflictPairs 56 = .ok (.iinc 4 1, 3) := by decide +kernel
theorem dX10_conflictPairs_59 : decode cX10_conflictPairs 59 = .ok (.goto (-26), 3) := by decide +kernel
theorem dX10_conflictPairs_62 : decode cX10_conflictPairs 62 = .ok (.iload_n 2, 1) := by decide +kernel
theorem dX10_conflictPairs_63 : decode cX10_conflictPairs 63 = .ok (.ireturn, 1) := by decide +kernel
theorem dX10_keepWhole_0 : decode cX10_keepWhole 0 = .ok (.aload_n 0, 1) := by decide +kernel
theorem dX10_keepWhole_1 : decode cX10_keepWhole 1 = .ok (.iload_n 1, 1) := by decide +kernel
theorem dX10_keepWhole_2 : decode cX10_keepWhole 2 = .ok (.invokevirtual 93, 3) := by decide +kernel
theorem dX10_keepWhole_5 : decode cX10_keepWhole 5 = .ok (.aload_n 0, 1) := by decide +kernel
theorem dX10_keepWhole_6 : decode cX10_keepWhole 6 = .ok (.getfield 12, 3) := by decide +kernel
theorem dX10_keepWhole_9 : decode cX10_keepWhole 9 = .ok (.getfield 67, 3) := by decide +kernel
theorem dX10_keepWhole_12 : decode cX10_keepWhole 12 = .ok (.iload_n 1, 1) := by decide +kernel
theorem dX10_keepWhole_13 : decode cX10_keepWhole 13 = .ok (.invokevirtual 96, 3) := by decide +kernel
theorem dX10_keepWhole_16 : decode cX10_keepWhole 16 = .ok (.checkcast 84, 3) := by decide +kernel
theorem dX10_keepWhole_19 : decode cX10_keepWhole 19 = .ok (.getfield 188, 3) := by decide +kernel
theorem dX10_keepWhole_22 : decode cX10_keepWhole 22 = .ok (.invokevirtual 191, 3) := by decide +kernel
theorem dX10_keepWhole_25 : decode cX10_keepWhole 25 = .ok (.aload_n 0, 1) := by decide +kernel
theorem dX10_keepWhole_26 : decode cX10_keepWhole 26 = .ok (.iload_n 1, 1) := by decide +kernel
theorem dX10_keepWhole_27 : decode cX10_keepWhole 27 = .ok (.invokevirtual 194, 3) := by decide +kernel
theorem dX10_keepWhole_30 : decode cX10_keepWhole 30 = .ok (.ireturn, 1) := by decide +kernel
theorem dX10_keepRest_0 : decode cX10_keepRest 0 = .ok (.aload_n 0, 1) := by decide +kernel
theorem dX10_keepRest_1 : decode cX10_keepRest 1 = .ok (.iload_n 1, 1) := by decide +kernel
theorem dX10_keepRest_2 : decode cX10_keepRest 2 = .ok (.invokevirtual 93, 3) := by decide +kernel
theorem dX10_keepRest_5 : decode cX10_keepRest 5 = .ok (.iload_n 2, 1) := by decide +kernel
theorem dX10_keepRest_6 : decode cX10_keepRest 6 = .ok (.iconst 1, 1) := by decide +kernel
theorem dX10_keepRest_7 : decode cX10_keepRest 7 = .ok (.bipush 99, 2) := by decide +kernel
theorem dX10_keepRest_9 : decode cX10_keepRest 9 = .ok (.invokestatic 63, 3) := by decide +kernel
theorem dX10_keepRest_12 : decode cX10_keepRest 12 = .ok (.aload_n 0, 1) := by decide +kernel
theorem dX10_keepRest_13 : decode cX10_keepRest 13 = .ok (.getfield 12, 3) := by decide +kernel
theorem dX10_keepRest_16 : decode cX10_keepRest 16 = .ok (.getfield 67, 3) := by decide +kernel
theorem dX10_keepRest_19 : decode cX10_keepRest 19 = .ok (.iload_n 1, 1) := by decide +kernel
theorem dX10_keepRest_20 : decode cX10_keepRest 20 = .ok (.invokevirtual 96, 3) := by decide +kernel
theorem dX10_keepRest_23 : decode cX10_keepRest 23 = .ok (.checkcast 84, 3) := by decide +kernel
theorem dX10_keepRest_26 : decode cX10_keepRest 26 = .ok (.getfield 188, 3) := by decide +kernel
theorem dX10_keepRest_29 : decode cX10_keepRest 29 = .ok (.iload_n 2, 1) := by decide +kernel
theorem dX10_keepRest_30 : decode cX10_keepRest 30 = .ok (.invokevirtual 197, 3) := by decide +kernel
theorem dX10_keepRest_33 : decode cX10_keepRest 33 = .ok (.aload_n 0, 1) := by decide +kernel
theorem dX10_keepRest_34 : decode cX10_keepRest 34 = .ok (.iload_n 1, 1) := by decide +kernel
theorem dX10_keepRest_35 : decode cX10_keepRest 35 = .ok (.invokevirtual 194, 3) := by decide +kernel
theorem dX10_keepRest_38 : decode cX10_keepRest 38 = .ok (.ireturn, 1) := by decide +kernel
theorem dX10_keepTwoRests_0 : decode cX10_keepTwoRests 0 = .ok (.aload_n 0, 1) := by decide +kernel
theorem dX10_keepTwoRests_1 : decode cX10_keepTwoRests 1 = .ok (.iload_n 1, 1) := by decide +kernel
theorem dX10_keepTwoRests_2 : decode cX10_keepTwoRests 2 = .ok (.invokevirtual 93, 3) := by decide +kernel
theorem dX10_keepTwoRests_5 : decode cX10_keepTwoRests 5 = .ok (.iload_n 2, 1) := by decide +kernel
theorem dX10_keepTwoRests_6 : decode cX10_keepTwoRests 6 = .ok (.iconst 1, 1) := by decide +kernel
theorem dX10_keepTwoRests_7 : decode cX10_keepTwoRests 7 = .ok (.bipush 99, 2) := by decide +kernel
theorem dX10_keepTwoRests_9 : decode cX10_keepTwoRests 9 = .ok (.invokestatic 63, 3) := by decide +kernel
theorem dX10_keepTwoRests_12 : decode cX10_keepTwoRests 12 = .ok (.iload_n 3, 1) := by decide +kernel
theorem dX10_keepTwoRests_13 : decode cX10_keepTwoRests 13 = .ok (.iconst 1, 1) := by decide +kernel
theorem dX10_keepTwoRests_14 : decode cX10_keepTwoRests 14 = .ok (.bipush 99, 2) := by decide +kernel
theorem dX10_keepTwoRests_16 : decode cX10_keepTwoRests 16 = .ok (.invokestatic 63, 3) := by decide +kernel
theorem dX10_keepTwoRests_19 : decode cX10_keepTwoRests 19 = .ok (.aload_n 0, 1) := by decide +kernel
theorem dX10_keepTwoRests_20 : decode cX10_keepTwoRests 20 = .ok (.getfield 12, 3) := by decide +kernel
theorem dX10_keepTwoRests_23 : decode cX10_keepTwoRests 23 = .ok (.getfield 67, 3) := by decide +kernel
theorem dX10_keepTwoRests_26 : decode cX10_keepTwoRests 26 = .ok (.iload_n 1, 1) := by decide +kernel
theorem dX10_keepTwoRests_27 : decode cX10_keepTwoRests 27 = .ok (.invokevirtual 96, 3) := by decide +kernel
theorem dX10_keepTwoRests_30 : decode cX10_keepTwoRests 30 = .ok (.checkcast 84, 3) := by decide +kernel
theorem dX10_keepTwoRests_33 : decode cX10_keepTwoRests 33 = .ok (.getfield 188, 3) := by decide +kernel
theorem dX10_keepTwoRests_36 : decode cX10_keepTwoRests 36 = .ok (.iload_n 2, 1) := by decide +kernel
theorem dX10_keepTwoRests_37 : decode cX10_keepTwoRests 37 = .ok (.iload_n 3, 1) := by decide +kernel
theorem dX10_keepTwoRests_38 : decode cX10_keepTwoRests 38 = .ok (.invokevirtual 200, 3) := by decide +kernel
theorem dX10_keepTwoRests_41 : decode cX10_keepTwoRests 41 = .ok (.aload_n 0, 1) := by decide +kernel
theorem dX10_keepTwoRests_42 : decode cX10_keepTwoRests 42 = .ok (.iload_n 1, 1) := by decide +kernel
theorem dX10_keepTwoRests_43 : decode cX10_keepTwoRests 43 = .ok (.invokevirtual 194, 3) := by decide +kernel
theorem dX10_keepTwoRests_46 : decode cX10_keepTwoRests 46 = .ok (.ireturn, 1) := by decide +kernel
theorem dX10_keepSlant_0 : decode cX10_keepSlant 0 = .ok (.aload_n 0, 1) := by decide +kernel
theorem dX10_keepSlant_1 : decode cX10_keepSlant 1 = .ok (.iload_n 1, 1) := by decide +kernel
theorem dX10_keepSlant_2 : decode cX10_keepSlant 2 = .ok (.invokevirtual 93, 3) := by decide +kernel
theorem dX10_keepSlant_5 : decode cX10_keepSlant 5 = .ok (.iload_n 2, 1) := by decide +kernel
theorem dX10_keepSlant_6 : decode cX10_keepSlant 6 = .ok (.iconst 0, 1) := by decide +kernel
theorem dX10_keepSlant_7 : decode cX10_keepSlant 7 = .ok (.bipush 9, 2) := by decide +kernel
theorem dX10_keepSlant_9 : decode cX10_keepSlant 9 = .ok (.invokestatic 63, 3) := by decide +kernel
theorem dX10_keepSlant_12 : decode cX10_keepSlant 12 = .ok (.iload_n 3, 1) := by decide +kernel
theorem dX10_keepSlant_13 : decode cX10_keepSlant 13 = .ok (.iconst 1, 1) := by decide +kernel
theorem dX10_keepSlant_14 : decode cX10_keepSlant 14 = .ok (.bipush 99, 2) := by decide +kernel
theorem dX10_keepSlant_16 : decode cX10_keepSlant 16 = .ok (.invokestatic 63, 3) := by decide +kernel
theorem dX10_keepSlant_19 : decode cX10_keepSlant 19 = .ok (.aload_n 0, 1) := by decide +kernel
theorem dX10_keepSlant_20 : decode cX10_keepSlant 20 = .ok (.getfield 12, 3) := by decide +kernel
theorem dX10_keepSlant_23 : decode cX10_keepSlant 23 = .ok (.getfield 67, 3) := by decide +kernel
theorem dX10_keepSlant_26 : decode cX10_keepSlant 26 = .ok (.iload_n 1, 1) := by decide +kernel
theorem dX10_keepSlant_27 : decode cX10_keepSlant 27 = .ok (.invokevirtual 96, 3) := by decide +kernel
theorem dX10_keepSlant_30 : decode cX10_keepSlant 30 = .ok (.checkcast 84, 3) := by decide +kernel
theorem dX10_keepSlant_33 : decode cX10_keepSlant 33 = .ok (.getfield 188, 3) := by decide +kernel
theorem dX10_keepSlant_36 : decode cX10_keepSlant 36 = .ok (.iload_n 2, 1) := by decide +kernel
theorem dX10_keepSlant_37 : decode cX10_keepSlant 37 = .ok (.iload_n 3, 1) := by decide +kernel
theorem dX10_keepSlant_38 : decode cX10_keepSlant 38 = .ok (.invokevirtual 203, 3) := by decide +kernel
theorem dX10_keepSlant_41 : decode cX10_keepSlant 41 = .ok (.aload_n 0, 1) := by decide +kernel
theorem dX10_keepSlant_42 : decode cX10_keepSlant 42 = .ok (.iload_n 1, 1) := by decide +kernel
theorem dX10_keepSlant_43 : decode cX10_keepSlant 43 = .ok (.invokevirtual 194, 3) := by decide +kernel
theorem dX10_keepSlant_46 : decode cX10_keepSlant 46 = .ok (.ireturn, 1) := by decide +kernel
theorem dX10_contract_0 : decode cX10_contract 0 = .ok (.aload_n 0, 1) := by decide +kernel
theorem dX10_contract_1 : decode cX10_contract 1 = .ok (.invokevirtual 154, 3) := by decide +kernel
theorem dX10_contract_4 : decode cX10_contract 4 = .ok (.pop, 1) := by decide +kernel
theorem dX10_contract_5 : decode cX10_contract 5 = .ok (.iconst 0, 1) := by decide +kernel
theorem dX10_contract_6 : decode cX10_contract 6 = .ok (.istore_n 1, 1) := by decide +kernel
theorem dX10_contract_7 : decode cX10_contract 7 = .ok (.iload_n 1, 1) := by decide +kernel
theorem dX10_contract_8 : decode cX10_contract 8 = .ok (.aload_n 0, 1) := by decide +kernel
theorem dX10_contract_9 : decode cX10_contract 9 = .ok (.getfield 12, 3) := by decide +kernel
theorem dX10_contract_12 : decode cX10_contract 12 = .ok (.getfield 67, 3) := by decide +kernel
theorem dX10_contract_15 : decode cX10_contract 15 = .ok (.invokevirtual 71, 3) := by decide +kernel
theorem dX10_contract_18 : decode cX10_contract 18 = .ok (.if_icmp .ge 35, 3) := by decide +kernel
theorem dX10_contract_21 : decode cX10_contract 21 = .ok (.aload_n 0, 1) := by decide +kernel
theorem dX10_contract_22 : decode cX10_contract 22 = .ok (.iload_n 1, 1) := by decide +kernel
theorem dX10_contract_23 : decode cX10_contract 23 = .ok (.invokevirtual 206, 3) := by decide +kernel
theorem dX10_contract_26 : decode cX10_contract 26 = .ok (.aload_n 0, 1) := by decide +kernel
theorem dX10_contract_27 : decode cX10_contract 27 = .ok (.aload_n 0, 1) := by decide +kernel
theorem dX10_contract_28 : decode cX10_contract 28 = .ok (.getfield 12, 3) := by decide +kernel
theorem dX10_contract_31 : decode cX10_contract 31 = .ok (.getfield 67, 3) := by decide +kernel
theorem dX10_contract_34 : decode cX10_contract 34 = .ok (.iload_n 1, 1) := by decide +kernel
theorem dX10_contract_35 : decode cX10_contract 35 = .ok (.invokevirtual 96, 3) := by decide +kernel
theorem dX10_contract_38 : decode cX10_contract 38 = .ok (.checkcast 84, 3) := by decide +kernel
theorem dX10_contract_41 : decode cX10_contract 41 = .ok (.getfield 188, 3) := by decide +kernel
theorem dX10_contract_44 : decode cX10_contract 44 = .ok (.invokevirtual 209, 3) := by decide +kernel
theorem dX10_contract_47 : decode cX10_contract 47 = .ok (.iinc 1 1, 3) := by decide +kernel
theorem dX10_contract_50 : decode cX10_contract 50 = .ok (.goto (-43), 3) := by decide +kernel
theorem dX10_contract_53 : decode cX10_contract 53 = .ok (.aload_n 0, 1) := by decide +kernel
theorem dX10_contract_54 : decode cX10_contract 54 = .ok (.invokevirtual 213, 3) := by decide +kernel
theorem dX10_contract_57 : decode cX10_contract 57 = .ok (.ireturn, 1) := by decide +kernel
theorem dX10_windowSize_0 : decode cX10_windowSize 0 = .ok (.aload_n 0, 1) := by decide +kernel
theorem dX10_windowSize_1 : decode cX10_windowSize 1 = .ok (.iload_n 1, 1) := by decide +kernel
theorem dX10_windowSize_2 : decode cX10_windowSize 2 = .ok (.invokevirtual 93, 3) := by decide +kernel
theorem dX10_windowSize_5 : decode cX10_windowSize 5 = .ok (.aload_n 0, 1) := by decide +kernel
theorem dX10_windowSize_6 : decode cX10_windowSize 6 = .ok (.iload_n 1, 1) := by decide +kernel
theorem dX10_windowSize_7 : decode cX10_windowSize 7 = .ok (.invokevirtual 194, 3) := by decide +kernel
theorem dX10_windowSize_10 : decode cX10_windowSize 10 = .ok (.ireturn, 1) := by decide +kernel
theorem dX10_room_0 : decode cX10_room 0 = .ok (.iconst 0, 1) := by decide +kernel
theorem dX10_room_1 : decode cX10_room 1 = .ok (.istore_n 1, 1) := by decide +kernel
theorem dX10_room_2 : decode cX10_room 2 = .ok (.iconst 0, 1) := by decide +kernel
theorem dX10_room_3 : decode cX10_room 3 = .ok (.istore_n 2, 1) := by decide +kernel
theorem dX10_room_4 : decode cX10_room 4 = .ok (.iload_n 2, 1) := by decide +kernel
theorem dX10_room_5 : decode cX10_room 5 = .ok (.aload_n 0, 1) := by decide +kernel
theorem dX10_room_6 : decode cX10_room 6 = .ok (.getfield 12, 3) := by decide +kernel
theorem dX10_room_9 : decode cX10_room 9 = .ok (.getfield 67, 3) := by decide +kernel
theorem dX10_room_12 : decode cX10_room 12 = .ok (.invokevirtual 71, 3) := by decide +kernel
theorem dX10_room_15 : decode cX10_room 15 = .ok (.if_icmp .ge 17, 3) := by decide +kernel
theorem dX10_room_18 : decode cX10_room 18 = .ok (.iload_n 1, 1) := by decide +kernel
theorem dX10_room_19 : decode cX10_room 19 = .ok (.aload_n 0, 1) := by decide +kernel
theorem dX10_room_20 : decode cX10_room 20 = .ok (.iload_n 2, 1) := by decide +kernel
theorem dX10_room_21 : decode cX10_room 21 = .ok (.invokevirtual 194, 3) := by decide +kernel
theorem dX10_room_24 : decode cX10_room 24 = .ok (.iadd, 1) := by decide +kernel
theorem dX10_room_25 : decode cX10_room 25 = .ok (.istore_n 1, 1) := by decide +kernel
theorem dX10_room_26 : decode cX10_room 26 = .ok (.iinc 2 1, 3) := by decide +kernel
theorem dX10_room_29 : decode cX10_room 29 = .ok (.goto (-25), 3) := by decide +kernel
theorem dX10_room_32 : decode cX10_room 32 = .ok (.iload_n 1, 1) := by decide +kernel
theorem dX10_room_33 : decode cX10_room 33 = .ok (.ireturn, 1) := by decide +kernel
theorem dX10_placeOf_0 : decode cX10_placeOf 0 = .ok (.aload_n 0, 1) := by decide +kernel
theorem dX10_placeOf_1 : decode cX10_placeOf 1 = .ok (.iload_n 1, 1) := by decide +kernel
theorem dX10_placeOf_2 : decode cX10_placeOf 2 = .ok (.invokevirtual 93, 3) := by decide +kernel
theorem dX10_placeOf_5 : decode cX10_placeOf 5 = .ok (.aload_n 0, 1) := by decide +kernel
theorem dX10_placeOf_6 : decode cX10_placeOf 6 = .ok (.iload_n 2, 1) := by decide +kernel
theorem dX10_placeOf_7 : decode cX10_placeOf 7 = .ok (.iload_n 3, 1) := by decide +kernel
theorem dX10_placeOf_8 : decode cX10_placeOf 8 = .ok (.invokevirtual 216, 3) := by decide +kernel
theorem dX10_placeOf_11 : decode cX10_placeOf 11 = .ok (.aload_n 0, 1) := by decide +kernel
theorem dX10_placeOf_12 : decode cX10_placeOf 12 = .ok (.getfield 12, 3) := by decide +kernel
theorem dX10_placeOf_15 : decode cX10_placeOf 15 = .ok (.getfield 67, 3) := by decide +kernel
theorem dX10_placeOf_18 : decode cX10_placeOf 18 = .ok (.iload_n 1, 1) := by decide +kernel
theorem dX10_placeOf_19 : decode cX10_placeOf 19 = .ok (.invokevirtual 96, 3) := by decide +kernel
theorem dX10_placeOf_22 : decode cX10_placeOf 22 = .ok (.checkcast 84, 3) := by decide +kernel
theorem dX10_placeOf_25 : decode cX10_placeOf 25 = .ok (.getfield 188, 3) := by decide +kernel
theorem dX10_placeOf_28 : decode cX10_placeOf 28 = .ok (.iload_n 2, 1) := by decide +kernel
theorem dX10_placeOf_29 : decode cX10_placeOf 29 = .ok (.iload_n 3, 1) := by decide +kernel
theorem dX10_placeOf_30 : decode cX10_placeOf 30 = .ok (.aload_n 0, 1) := by decide +kernel
theorem dX10_placeOf_31 : decode cX10_placeOf 31 = .ok (.getfield 12, 3) := by decide +kernel
theorem dX10_placeOf_34 : decode cX10_placeOf 34 = .ok (.getfield 219, 3) := by decide +kernel
theorem dX10_placeOf_37 : decode cX10_placeOf 37 = .ok (.invokevirtual 222, 3) := by decide +kernel
theorem dX10_placeOf_40 : decode cX10_placeOf 40 = .ok (.ireturn, 1) := by decide +kernel
theorem dX10_isRight_0 : decode cX10_isRight 0 = .ok (.aload_n 0, 1) := by decide +kernel
theorem dX10_isRight_1 : decode cX10_isRight 1 = .ok (.iload_n 1, 1) := by decide +kernel
theorem dX10_isRight_2 : decode cX10_isRight 2 = .ok (.invokevirtual 93, 3) := by decide +kernel
theorem dX10_isRight_5 : decode cX10_isRight 5 = .ok (.aload_n 0, 1) := by decide +kernel
theorem dX10_isRight_6 : decode cX10_isRight 6 = .ok (.invokevirtual 154, 3) := by decide +kernel
theorem dX10_isRight_9 : decode cX10_isRight 9 = .ok (.pop, 1) := by decide +kernel
theorem dX10_isRight_10 : decode cX10_isRight 10 = .ok (.aload_n 0, 1) := by decide +kernel
theorem dX10_isRight_11 : decode cX10_isRight 11 = .ok (.iload_n 1, 1) := by decide +kernel
theorem dX10_isRight_12 : decode cX10_isRight 12 = .ok (.invokevirtual 206, 3) := by decide +kernel
theorem dX10_isRight_15 : decode cX10_isRight 15 = .ok (.aload_n 0, 1) := by decide +kernel
theorem dX10_isRight_16 : decode cX10_isRight 16 = .ok (.getfield 26, 3) := by decide +kernel
theorem dX10_isRight_19 : decode cX10_isRight 19 = .ok (.aload_n 0, 1) := by decide +kernel
theorem dX10_isRight_20 : decode cX10_isRight 20 = .ok (.getfield 12, 3) := by decide +kernel
theorem dX10_isRight_23 : decode cX10_isRight 23 = .ok (.getfield 67, 3) := by decide +kernel
theorem dX10_isRight_26 : decode cX10_isRight 26 = .ok (.iload_n 1, 1) := by decide +kernel
theorem dX10_isRight_27 : decode cX10_isRight 27 = .ok (.invokevirtual 96, 3) := by decide +kernel
theorem dX10_isRight_30 : decode cX10_isRight 30 = .ok (.checkcast 84, 3) := by decide +kernel
theorem dX10_isRight_33 : decode cX10_isRight 33 = .ok (.getfield 188, 3) := by decide +kernel
theorem dX10_isRight_36 : decode cX10_isRight 36 = .ok (.invokevirtual 225, 3) := by decide +kernel
theorem dX10_isRight_39 : decode cX10_isRight 39 = .ok (.ireturn, 1) := by decide +kernel
theorem dX10_leastRest_0 : decode cX10_leastRest 0 = .ok (.aload_n 0, 1) := by decide +kernel
theorem dX10_leastRest_1 : decode cX10_leastRest 1 = .ok (.iload_n 1, 1) := by decide +kernel
theorem dX10_leastRest_2 : decode cX10_leastRest 2 = .ok (.invokevirtual 93, 3) := by decide +kernel
theorem dX10_leastRest_5 : decode cX10_leastRest 5 = .ok (.aload_n 0, 1) := by decide +kernel
theorem dX10_leastRest_6 : decode cX10_leastRest 6 = .ok (.invokevirtual 154, 3) := by decide +kernel
theorem dX10_leastRest_9 : decode cX10_leastRest 9 = .ok (.pop, 1) := by decide +kernel
theorem dX10_leastRest_10 : decode cX10_leastRest 10 = .ok (.aload_n 0, 1) := by decide +kernel
theorem dX10_leastRest_11 : decode cX10_leastRest 11 = .ok (.iload_n 1, 1) := by decide +kernel
theorem dX10_leastRest_12 : decode cX10_leastRest 12 = .ok (.invokevirtual 206, 3) := by decide +kernel
theorem dX10_leastRest_15 : decode cX10_leastRest 15 = .ok (.aload_n 0, 1) := by decide +kernel
theorem dX10_leastRest_16 : decode cX10_leastRest 16 = .ok (.getfield 26, 3) := by decide +kernel
theorem dX10_leastRest_19 : decode cX10_leastRest 19 = .ok (.aload_n 0, 1) := by decide +kernel
theorem dX10_leastRest_20 : decode cX10_leastRest 20 = .ok (.getfield 33, 3) := by decide +kernel
theorem dX10_leastRest_23 : decode cX10_leastRest 23 = .ok (.invokevirtual 229, 3) := by decide +kernel
theorem dX10_leastRest_26 : decode cX10_leastRest 26 = .ok (.ireturn, 1) := by decide +kernel
theorem dX10_leastRestByDifferences_0 : decode cX10_leastRestByDifferences 0 = .ok (.aload_n 0, 1) := by decide +kernel
theorem dX10_leastRestByDifferences_1 : decode cX10_leastRestByDifferences 1 = .ok (.iload_n 1, 1) := by decide +kernel
theorem dX10_leastRestByDifferences_2 : decode cX10_leastRestByDifferences 2 = .ok (.invokevirtual 93, 3) := by decide +kernel
theorem dX10_leastRestByDifferences_5 : decode cX10_leastRestByDifferences 5 = .ok (.aload_n 0, 1) := by decide +kernel
theorem dX10_leastRestByDifferences_6 : decode cX10_leastRestByDifferences 6 = .ok (.invokevirtual 154, 3) := by decide +kernel
theorem dX10_leastRestByDifferences_9 : decode cX10_leastRestByDifferences 9 = .ok (.pop, 1) := by decide +kernel
theorem dX10_leastRestByDifferences_10 : decode cX10_leastRestByDifferences 10 = .ok (.aload_n 0, 1) := by decide +kernel
theorem dX10_leastRestByDifferences_11 : decode cX10_leastRestByDifferences 11 = .ok (.iload_n 1, 1) := by decide +kernel
theorem dX10_leastRestByDifferences_12 : decode cX10_leastRestByDifferences 12 = .ok (.invokevirtual 206, 3) := by decide +kernel
theorem dX10_leastRestByDifferences_15 : decode cX10_leastRestByDifferences 15 = .ok (.aload_n 0, 1) := by decide +kernel
theorem dX10_leastRestByDifferences_16 : decode cX10_leastRestByDifferences 16 = .ok (.getfield 26, 3) := by decide +kernel
theorem dX10_leastRestByDifferences_19 : decode cX10_leastRestByDifferences 19 = .ok (.invokevirtual 233, 3) := by decide +kernel
theorem dX10_leastRestByDifferences_22 : decode cX10_leastRestByDifferences 22 = .ok (.ireturn, 1) := by decide +kernel
theorem dX10_leastRowRest_0 : decode cX10_leastRowRest 0 = .ok (.aload_n 0, 1) := by decide +kernel
theorem dX10_leastRowRest_1 : decode cX10_leastRowRest 1 = .ok (.iload_n 1, 1) := by decide +kernel
theorem dX10_leastRowRest_2 : decode cX10_leastRowRest 2 = .ok (.invokevirtual 93, 3) := by decide +kernel
theorem dX10_leastRowRest_5 : decode cX10_leastRowRest 5 = .ok (.aload_n 0, 1) := by decide +kernel
theorem dX10_leastRowRest_6 : decode cX10_leastRowRest 6 = .ok (.invokevirtual 154, 3) := by decide +kernel
theorem dX10_leastRowRest_9 : decode cX10_leastRowRest 9 = .ok (.pop, 1) := by decide +kernel
theorem dX10_leastRowRest_10 : decode cX10_leastRowRest 10 = .ok (.aload_n 0, 1) := by decide +kernel
theorem dX10_leastRowRest_11 : decode cX10_leastRowRest 11 = .ok (.iload_n 1, 1) := by decide +kernel
theorem dX10_leastRowRest_12 : decode cX10_leastRowRest 12 = .ok (.invokevirtual 206, 3) := by decide +kernel
theorem dX10_leastRowRest_15 : decode cX10_leastRowRest 15 = .ok (.aload_n 0, 1) := by decide +kernel
theorem dX10_leastRowRest_16 : decode cX10_leastRowRest 16 = .ok (.getfield 26, 3) := by decide +kernel
theorem dX10_leastRowRest_19 : decode cX10_leastRowRest 19 = .ok (.aload_n 0, 1) := by decide +kernel
theorem dX10_leastRowRest_20 : decode cX10_leastRowRest 20 = .ok (.getfield 33, 3) := by decide +kernel
theorem dX10_leastRowRest_23 : decode cX10_leastRowRest 23 = .ok (.invokevirtual 236, 3) := by decide +kernel
theorem dX10_leastRowRest_26 : decode cX10_leastRowRest 26 = .ok (.aload_n 0, 1) := by decide +kernel
theorem dX10_leastRowRest_27 : decode cX10_leastRowRest 27 = .ok (.getfield 33, 3) := by decide +kernel
theorem dX10_leastRowRest_30 : decode cX10_leastRowRest 30 = .ok (.getfield 239, 3) := by decide +kernel
theorem dX10_leastRowRest_33 : decode cX10_leastRowRest 33 = .ok (.ireturn, 1) := by decide +kernel
theorem dX10_leastColumnRest_0 : decode cX10_leastColumnRest 0 = .ok (.aload_n 0, 1) := by decide +kernel
theorem dX10_leastColumnRest_1 : decode cX10_leastColumnRest 1 = .ok (.iload_n 1, 1) := by decide +kernel
theorem dX10_leastColumnRest_2 : decode cX10_leastColumnRest 2 = .ok (.invokevirtual 93, 3) := by decide +kernel
theorem dX10_leastColumnRest_5 : decode cX10_leastColumnRest 5 = .ok (.aload_n 0, 1) := by decide +kernel
theorem dX10_leastColumnRest_6 : decode cX10_leastColumnRest 6 = .ok (.invokevirtual 154, 3) := by decide +kernel
theorem dX10_leastColumnRest_9 : decode cX10_leastColumnRest 9 = .ok (.pop, 1) := by decide +kernel
theorem dX10_leastColumnRest_10 : decode cX10_leastColumnRest 10 = .ok (.aload_n 0, 1) := by decide +kernel
theorem dX10_leastColumnRest_11 : decode cX10_leastColumnRest 11 = .ok (.iload_n 1, 1) := by decide +kernel
theorem dX10_leastColumnRest_12 : decode cX10_leastColumnRest 12 = .ok (.invokevirtual 206, 3) := by decide +kernel
theorem dX10_leastColumnRest_15 : decode cX10_leastColumnRest 15 = .ok (.aload_n 0, 1) := by decide +kernel
theorem dX10_leastColumnRest_16 : decode cX10_leastColumnRest 16 = .ok (.getfield 26, 3) := by decide +kernel
theorem dX10_leastColumnRest_19 : decode cX10_leastColumnRest 19 = .ok (.aload_n 0, 1) := by decide +kernel
theorem dX10_leastColumnRest_20 : decode cX10_leastColumnRest 20 = .ok (.getfield 33, 3) := by decide +kernel
theorem dX10_leastColumnRest_23 : decode cX10_leastColumnRest 23 = .ok (.invokevirtual 236, 3) := by decide +kernel
theorem dX10_leastColumnRest_26 : decode cX10_leastColumnRest 26 = .ok (.aload_n 0, 1) := by decide +kernel
theorem dX10_leastColumnRest_27 : decode cX10_leastColumnRest 27 = .ok (.getfield 33, 3) := by decide +kernel
theorem dX10_leastColumnRest_30 : decode cX10_leastColumnRest 30 = .ok (.getfield 242, 3) := by decide +kernel
theorem dX10_leastColumnRest_33 : decode cX10_leastColumnRest 33 = .ok (.ireturn, 1) := by decide +kernel
theorem dX10_leastSlantModulus_0 : decode cX10_leastSlantModulus 0 = .ok (.aload_n 0, 1) := by decide +kernel
theorem dX10_leastSlantModulus_1 : decode cX10_leastSlantModulus 1 = .ok (.iload_n 1, 1) := by decide +kernel
theorem dX10_leastSlantModulus_2 : decode cX10_leastSlantModulus 2 = .ok (.invokevirtual 93, 3) := by decide +kernel
theorem dX10_leastSlantModulus_5 : decode cX10_leastSlantModulus 5 = .ok (.aload_n 0, 1) := by decide +kernel
theorem dX10_leastSlantModulus_6 : decode cX10_leastSlantModulus 6 = .ok (.invokevirtual 154, 3) := by decide +kernel
theorem dX10_leastSlantModulus_9 : decode cX10_leastSlantModulus 9 = .ok (.pop, 1) := by decide +kernel
theorem dX10_leastSlantModulus_10 : decode cX10_leastSlantModulus 10 = .ok (.aload_n 0, 1) := by decide +kernel
theorem dX10_leastSlantModulus_11 : decode cX10_leastSlantModulus 11 = .ok (.iload_n 1, 1) := by decide +kernel
theorem dX10_leastSlantModulus_12 : decode cX10_leastSlantModulus 12 = .ok (.invokevirtual 206, 3) := by decide +kernel
theorem dX10_leastSlantModulus_15 : decode cX10_leastSlantModulus 15 = .ok (.aload_n 0, 1) := by decide +kernel
theorem dX10_leastSlantModulus_16 : decode cX10_leastSlantModulus 16 = .ok (.getfield 26, 3) := by decide +kernel
theorem dX10_leastSlantModulus_19 : decode cX10_leastSlantModulus 19 = .ok (.aload_n 0, 1) := by decide +kernel
theorem dX10_leastSlantModulus_20 : decode cX10_leastSlantModulus 20 = .ok (.getfield 33, 3) := by decide +kernel
theorem dX10_leastSlantModulus_23 : decode cX10_leastSlantModulus 23 = .ok (.invokevirtual 245, 3) := by decide +kernel
theorem dX10_leastSlantModulus_26 : decode cX10_leastSlantModulus 26 = .ok (.aload_n 0, 1) := by decide +kernel
theorem dX10_leastSlantModulus_27 : decode cX10_leastSlantModulus 27 = .ok (.getfield 33, 3) := by decide +kernel
theorem dX10_leastSlantModulus_30 : decode cX10_leastSlantModulus 30 = .ok (.getfield 248, 3) := by decide +kernel
theorem dX10_leastSlantModulus_33 : decode cX10_leastSlantModulus 33 = .ok (.ireturn, 1) := by decide +kernel
theorem dX10_leastSlant_0 : decode cX10_leastSlant 0 = .ok (.aload_n 0, 1) := by decide +kernel
theorem dX10_leastSlant_1 : decode cX10_leastSlant 1 = .ok (.iload_n 1, 1) := by decide +kernel
theorem dX10_leastSlant_2 : decode cX10_leastSlant 2 = .ok (.invokevirtual 93, 3) := by decide +kernel
theorem dX10_leastSlant_5 : decode cX10_leastSlant 5 = .ok (.aload_n 0, 1) := by decide +kernel
theorem dX10_leastSlant_6 : decode cX10_leastSlant 6 = .ok (.invokevirtual 154, 3) := by decide +kernel
theorem dX10_leastSlant_9 : decode cX10_leastSlant 9 = .ok (.pop, 1) := by decide +kernel
theorem dX10_leastSlant_10 : decode cX10_leastSlant 10 = .ok (.aload_n 0, 1) := by decide +kernel
theorem dX10_leastSlant_11 : decode cX10_leastSlant 11 = .ok (.iload_n 1, 1) := by decide +kernel
theorem dX10_leastSlant_12 : decode cX10_leastSlant 12 = .ok (.invokevirtual 206, 3) := by decide +kernel
theorem dX10_leastSlant_15 : decode cX10_leastSlant 15 = .ok (.aload_n 0, 1) := by decide +kernel
theorem dX10_leastSlant_16 : decode cX10_leastSlant 16 = .ok (.getfield 26, 3) := by decide +kernel
theorem dX10_leastSlant_19 : decode cX10_leastSlant 19 = .ok (.aload_n 0, 1) := by decide +kernel
theorem dX10_leastSlant_20 : decode cX10_leastSlant 20 = .ok (.getfield 33, 3) := by decide +kernel
theorem dX10_leastSlant_23 : decode cX10_leastSlant 23 = .ok (.invokevirtual 245, 3) := by decide +kernel
theorem dX10_leastSlant_26 : decode cX10_leastSlant 26 = .ok (.aload_n 0, 1) := by decide +kernel
theorem dX10_leastSlant_27 : decode cX10_leastSlant 27 = .ok (.getfield 33, 3) := by decide +kernel
theorem dX10_leastSlant_30 : decode cX10_leastSlant 30 = .ok (.getfield 251, 3) := by decide +kernel
theorem dX10_leastSlant_33 : decode cX10_leastSlant 33 = .ok (.ireturn, 1) := by decide +kernel
theorem dX10_leastJointRest_0 : decode cX10_leastJointRest 0 = .ok (.aload_n 0, 1) := by decide +kernel
theorem dX10_leastJointRest_1 : decode cX10_leastJointRest 1 = .ok (.iload_n 1, 1) := by decide +kernel
theorem dX10_leastJointRest_2 : decode cX10_leastJointRest 2 = .ok (.invokevirtual 93, 3) := by decide +kernel
theorem dX10_leastJointRest_5 : decode cX10_leastJointRest 5 = .ok (.aload_n 0, 1) := by decide +kernel
theorem dX10_leastJointRest_6 : decode cX10_leastJointRest 6 = .ok (.iload_n 2, 1) := by decide +kernel
theorem dX10_leastJointRest_7 : decode cX10_leastJointRest 7 = .ok (.invokevirtual 93, 3) := by decide +kernel
theorem dX10_leastJointRest_10 : decode cX10_leastJointRest 10 = .ok (.aload_n 0, 1) := by decide +kernel
theorem dX10_leastJointRest_11 : decode cX10_leastJointRest 11 = .ok (.invokevirtual 154, 3) := by decide +kernel
theorem dX10_leastJointRest_14 : decode cX10_leastJointRest 14 = .ok (.pop, 1) := by decide +kernel
theorem dX10_leastJointRest_15 : decode cX10_leastJointRest 15 = .ok (.aload_n 0, 1) := by decide +kernel
theorem dX10_leastJointRest_16 : decode cX10_leastJointRest 16 = .ok (.iload_n 1, 1) := by decide +kernel
theorem dX10_leastJointRest_17 : decode cX10_leastJointRest 17 = .ok (.invokevirtual 206, 3) := by decide +kernel
theorem dX10_leastJointRest_20 : decode cX10_leastJointRest 20 = .ok (.iload_n 2, 1) := by decide +kernel
theorem dX10_leastJointRest_21 : decode cX10_leastJointRest 21 = .ok (.iload_n 1, 1) := by decide +kernel
theorem dX10_leastJointRest_22 : decode cX10_leastJointRest 22 = .ok (.if_icmp .eq 37, 3) := by decide +kernel
theorem dX10_leastJointRest_25 : decode cX10_leastJointRest 25 = .ok (.aload_n 0, 1) := by decide +kernel
theorem dX10_leastJointRest_26 : decode cX10_leastJointRest 26 = .ok (.getfield 26, 3) := by decide +kernel
theorem dX10_leastJointRest_29 : decode cX10_leastJointRest 29 = .ok (.aload_n 0, 1) := by decide +kernel
theorem dX10_leastJointRest_30 : decode cX10_leastJointRest 30 = .ok (.getfield 12, 3) := by decide +kernel
theorem dX10_leastJointRest_33 : decode cX10_leastJointRest 33 = .ok (.aload_n 0, 1) := by decide +kernel
theorem dX10_leastJointRest_34 : decode cX10_leastJointRest 34 = .ok (.getfield 19, 3) := by decide +kernel
theorem dX10_leastJointRest_37 : decode cX10_leastJointRest 37 = .ok (.iload_n 2, 1) := by decide +kernel
theorem dX10_leastJointRest_38 : decode cX10_leastJointRest 38 = .ok (.iload_n 2, 1) := by decide +kernel
theorem dX10_leastJointRest_39 : decode cX10_leastJointRest 39 = .ok (.invokevirtual 254, 3) := by decide +kernel
theorem dX10_leastJointRest_42 : decode cX10_leastJointRest 42 = .ok (.aload_n 0, 1) := by decide +kernel
theorem dX10_leastJointRest_43 : decode cX10_leastJointRest 43 = .ok (.getfield 26, 3) := by decide +kernel
theorem dX10_leastJointRest_46 : decode cX10_leastJointRest 46 = .ok (.aload_n 0, 1) := by decide +kernel
theorem dX10_leastJointRest_47 : decode cX10_leastJointRest 47 = .ok (.getfield 12, 3) := by decide +kernel
theorem dX10_leastJointRest_50 : decode cX10_leastJointRest 50 = .ok (.aload_n 0, 1) := by decide +kernel
theorem dX10_leastJointRest_51 : decode cX10_leastJointRest 51 = .ok (.getfield 19, 3) := by decide +kernel
theorem dX10_leastJointRest_54 : decode cX10_leastJointRest 54 = .ok (.iload_n 1, 1) := by decide +kernel
theorem dX10_leastJointRest_55 : decode cX10_leastJointRest 55 = .ok (.iload_n 2, 1) := by decide +kernel
theorem dX10_leastJointRest_56 : decode cX10_leastJointRest 56 = .ok (.invokevirtual 254, 3) := by decide +kernel
theorem dX10_leastJointRest_59 : decode cX10_leastJointRest 59 = .ok (.aload_n 0, 1) := by decide +kernel
theorem dX10_leastJointRest_60 : decode cX10_leastJointRest 60 = .ok (.getfield 26, 3) := by decide +kernel
theorem dX10_leastJointRest_63 : decode cX10_leastJointRest 63 = .ok (.aload_n 0, 1) := by decide +kernel
theorem dX10_leastJointRest_64 : decode cX10_leastJointRest 64 = .ok (.getfield 33, 3) := by decide +kernel
theorem dX10_leastJointRest_67 : decode cX10_leastJointRest 67 = .ok (.invokevirtual 229, 3) := by decide +kernel
theorem dX10_leastJointRest_70 : decode cX10_leastJointRest 70 = .ok (.ireturn, 1) := by decide +kernel
theorem dX10_valueOf_0 : decode cX10_valueOf 0 = .ok (.aload_n 0, 1) := by decide +kernel
theorem dX10_valueOf_1 : decode cX10_valueOf 1 = .ok (.iload_n 1, 1) := by decide +kernel
theorem dX10_valueOf_2 : decode cX10_valueOf 2 = .ok (.iload_n 2, 1) := by decide +kernel
theorem dX10_valueOf_3 : decode cX10_valueOf 3 = .ok (.iload_n 3, 1) := by decide +kernel
theorem dX10_valueOf_4 : decode cX10_valueOf 4 = .ok (.invokevirtual 150, 3) := by decide +kernel
theorem dX10_valueOf_7 : decode cX10_valueOf 7 = .ok (.istore 4, 2) := by decide +kernel
theorem dX10_valueOf_9 : decode cX10_valueOf 9 = .ok (.aload_n 0, 1) := by decide +kernel
theorem dX10_valueOf_10 : decode cX10_valueOf 10 = .ok (.aload_n 0, 1) := by decide +kernel
theorem dX10_valueOf_11 : decode cX10_valueOf 11 = .ok (.getfield 42, 3) := by decide +kernel
theorem dX10_valueOf_14 : decode cX10_valueOf 14 = .ok (.iload 4, 2) := by decide +kernel
theorem dX10_valueOf_16 : decode cX10_valueOf 16 = .ok (.invokevirtual 257, 3) := by decide +kernel
theorem dX10_valueOf_19 : decode cX10_valueOf 19 = .ok (.ireturn, 1) := by decide +kernel
theorem dX10_contractedValueOf_0 : decode cX10_contractedValueOf 0 = .ok (.aload_n 0, 1) := by decide +kernel
theorem dX10_contractedValueOf_1 : decode cX10_contractedValueOf 1 = .ok (.iload_n 1, 1) := by decide +kernel
theorem dX10_contractedValueOf_2 : decode cX10_contractedValueOf 2 = .ok (.iload_n 2, 1) := by decide +kernel
theorem dX10_contractedValueOf_3 : decode cX10_contractedValueOf 3 = .ok (.iload_n 3, 1) := by decide +kernel
theorem dX10_contractedValueOf_4 : decode cX10_contractedValueOf 4 = .ok (.invokevirtual 150, 3) := by decide +kernel
theorem dX10_contractedValueOf_7 : decode cX10_contractedValueOf 7 = .ok (.istore 4, 2) := by decide +kernel
theorem dX10_contractedValueOf_9 : decode cX10_contractedValueOf 9 = .ok (.aload_n 0, 1) := by decide +kernel
theorem dX10_contractedValueOf_10 : decode cX10_contractedValueOf 10 = .ok (.aload_n 0, 1) := by decide +kernel
theorem dX10_contractedValueOf_11 : decode cX10_contractedValueOf 11 = .ok (.getfield 46, 3) := by decide +kernel
theorem dX10_contractedValueOf_14 : decode cX10_contractedValueOf 14 = .ok (.iload 4, 2) := by decide +kernel
theorem dX10_contractedValueOf_16 : decode cX10_contractedValueOf 16 = .ok (.invokevirtual 257, 3) := by decide +kernel
theorem dX10_contractedValueOf_19 : decode cX10_contractedValueOf 19 = .ok (.ireturn, 1) := by decide +kernel
theorem dX10_firstWrongStep_0 : decode cX10_firstWrongStep 0 = .ok (.aload_n 0, 1) := by decide +kernel
theorem dX10_firstWrongStep_1 : decode cX10_firstWrongStep 1 = .ok (.invokevirtual 154, 3) := by decide +kernel
theorem dX10_firstWrongStep_4 : decode cX10_firstWrongStep 4 = .ok (.pop, 1) := by decide +kernel
theorem dX10_firstWrongStep_5 : decode cX10_firstWrongStep 5 = .ok (.aload_n 0, 1) := by decide +kernel
theorem dX10_firstWrongStep_6 : decode cX10_firstWrongStep 6 = .ok (.getfield 42, 3) := by decide +kernel
theorem dX10_firstWrongStep_9 : decode cX10_firstWrongStep 9 = .ok (.invokevirtual 261, 3) := by decide +kernel
theorem dX10_firstWrongStep_12 : decode cX10_firstWrongStep 12 = .ok (.aload_n 0, 1) := by decide +kernel
theorem dX10_firstWrongStep_13 : decode cX10_firstWrongStep 13 = .ok (.getfield 46, 3) := by decide +kernel
theorem dX10_firstWrongStep_16 : decode cX10_firstWrongStep 16 = .ok (.invokevirtual 261, 3) := by decide +kernel
theorem dX10_firstWrongStep_19 : decode cX10_firstWrongStep 19 = .ok (.iconst 0, 1) := by decide +kernel
theorem dX10_firstWrongStep_20 : decode cX10_firstWrongStep 20 = .ok (.istore_n 1, 1) := by decide +kernel
theorem dX10_firstWrongStep_21 : decode cX10_firstWrongStep 21 = .ok (.iload_n 1, 1) := by decide +kernel
theorem dX10_firstWrongStep_22 : decode cX10_firstWrongStep 22 = .ok (.aload_n 0, 1) := by decide +kernel
theorem dX10_firstWrongStep_23 : decode cX10_firstWrongStep 23 = .ok (.getfield 12, 3) := by decide +kernel
theorem dX10_firstWrongStep_26 : decode cX10_firstWrongStep 26 = .ok (.invokevirtual 147, 3) := by decide +kernel
theorem dX10_firstWrongStep_29 : decode cX10_firstWrongStep 29 = .ok (.if_icmp .ge 56, 3) := by decide +kernel
theorem dX10_firstWrongStep_32 : decode cX10_firstWrongStep 32 = .ok (.aload_n 0, 1) := by decide +kernel
theorem dX10_firstWrongStep_33 : decode cX10_firstWrongStep 33 = .ok (.getfield 19, 3) := by decide +kernel
theorem dX10_firstWrongStep_36 : decode cX10_firstWrongStep 36 = .ok (.getfield 168, 3) := by decide +kernel
theorem dX10_firstWrongStep_39 : decode cX10_firstWrongStep 39 = .ok (.iload_n 1, 1) := by decide +kernel
theorem dX10_firstWrongStep_40 : decode cX10_firstWrongStep 40 = .ok (.iaload, 1) := by decide +kernel
theorem dX10_firstWrongStep_41 : decode cX10_firstWrongStep 41 = .ok (.istore_n 2, 1) := by decide +kernel
theorem dX10_firstWrongStep_42 : decode cX10_firstWrongStep 42 = .ok (.aload_n 0, 1) := by decide +kernel
theorem dX10_firstWrongStep_43 : decode cX10_firstWrongStep 43 = .ok (.getfield 42, 3) := by decide +kernel
theorem dX10_firstWrongStep_46 : decode cX10_firstWrongStep 46 = .ok (.aload_n 0, 1) := by decide +kernel
theorem dX10_firstWrongStep_47 : decode cX10_firstWrongStep 47 = .ok (.getfield 12, 3) := by decide +kernel
theorem dX10_firstWrongStep_50 : decode cX10_firstWrongStep 50 = .ok (.aload_n 0, 1) := by decide +kernel
theorem dX10_firstWrongStep_51 : decode cX10_firstWrongStep 51 = .ok (.getfield 19, 3) := by decide +kernel
theorem dX10_firstWrongStep_54 : decode cX10_firstWrongStep 54 = .ok (.iload_n 2, 1) := by decide +kernel
theorem dX10_firstWrongStep_55 : decode cX10_firstWrongStep 55 = .ok (.invokevirtual 264, 3) := by decide +kernel
theorem dX10_firstWrongStep_58 : decode cX10_firstWrongStep 58 = .ok (.aload_n 0, 1) := by decide +kernel
theorem dX10_firstWrongStep_59 : decode cX10_firstWrongStep 59 = .ok (.getfield 46, 3) := by decide +kernel
theorem dX10_firstWrongStep_62 : decode cX10_firstWrongStep 62 = .ok (.aload_n 0, 1) := by decide +kernel
theorem dX10_firstWrongStep_63 : decode cX10_firstWrongStep 63 = .ok (.getfield 12, 3) := by decide +kernel
theorem dX10_firstWrongStep_66 : decode cX10_firstWrongStep 66 = .ok (.aload_n 0, 1) := by decide +kernel
theorem dX10_firstWrongStep_67 : decode cX10_firstWrongStep 67 = .ok (.getfield 19, 3) := by decide +kernel
theorem dX10_firstWrongStep_70 : decode cX10_firstWrongStep 70 = .ok (.iload_n 2, 1) := by decide +kernel
theorem dX10_firstWrongStep_71 : decode cX10_firstWrongStep 71 = .ok (.invokevirtual 264, 3) := by decide +kernel
theorem dX10_firstWrongStep_74 : decode cX10_firstWrongStep 74 = .ok (.if_icmp .eq 5, 3) := by decide +kernel
theorem dX10_firstWrongStep_77 : decode cX10_firstWrongStep 77 = .ok (.iload_n 1, 1) := by decide +kernel
theorem dX10_firstWrongStep_78 : decode cX10_firstWrongStep 78 = .ok (.ireturn, 1) := by decide +kernel
theorem dX10_firstWrongStep_79 : decode cX10_firstWrongStep 79 = .ok (.iinc 1 1, 3) := by decide +kernel
theorem dX10_firstWrongStep_82 : decode cX10_firstWrongStep 82 = .ok (.goto (-61), 3) := by decide +kernel
theorem dX10_firstWrongStep_85 : decode cX10_firstWrongStep 85 = .ok (.iconst (-1), 1) := by decide +kernel
theorem dX10_firstWrongStep_86 : decode cX10_firstWrongStep 86 = .ok (.ireturn, 1) := by decide +kernel
theorem dX10_bestRowWeight_0 : decode cX10_bestRowWeight 0 = .ok (.aload_n 0, 1) := by decide +kernel
theorem dX10_bestRowWeight_1 : decode cX10_bestRowWeight 1 = .ok (.invokevirtual 268, 3) := by decide +kernel
theorem dX10_bestRowWeight_4 : decode cX10_bestRowWeight 4 = .ok (.aload_n 0, 1) := by decide +kernel
theorem dX10_bestRowWeight_5 : decode cX10_bestRowWeight 5 = .ok (.getfield 52, 3) := by decide +kernel
theorem dX10_bestRowWeight_8 : decode cX10_bestRowWeight 8 = .ok (.getfield 271, 3) := by decide +kernel
theorem dX10_bestRowWeight_11 : decode cX10_bestRowWeight 11 = .ok (.ireturn, 1) := by decide +kernel
theorem dX10_bestColumnWeight_0 : decode cX10_bestColumnWeight 0 = .ok (.aload_n 0, 1) := by decide +kernel
theorem dX10_bestColumnWeight_1 : decode cX10_bestColumnWeight 1 = .ok (.invokevirtual 268, 3) := by decide +kernel
theorem dX10_bestColumnWeight_4 : decode cX10_bestColumnWeight 4 = .ok (.aload_n 0, 1) := by decide +kernel
theorem dX10_bestColumnWeight_5 : decode cX10_bestColumnWeight 5 = .ok (.getfield 52, 3) := by decide +kernel
theorem dX10_bestColumnWeight_8 : decode cX10_bestColumnWeight 8 = .ok (.getfield 272, 3) := by decide +kernel
theorem dX10_bestColumnWeight_11 : decode cX10_bestColumnWeight 11 = .ok (.ireturn, 1) := by decide +kernel
theorem dX10_bestRoom_0 : decode cX10_bestRoom 0 = .ok (.aload_n 0, 1) := by decide +kernel
theorem dX10_bestRoom_1 : decode cX10_bestRoom 1 = .ok (.invokevirtual 268, 3) := by decide +kernel
theorem dX10_bestRoom_4 : decode cX10_bestRoom 4 = .ok (.aload_n 0, 1) := by decide +kernel
theorem dX10_bestRoom_5 : decode cX10_bestRoom 5 = .ok (.getfield 52, 3) := by decide +kernel
theorem dX10_bestRoom_8 : decode cX10_bestRoom 8 = .ok (.getfield 273, 3) := by decide +kernel
theorem dX10_bestRoom_11 : decode cX10_bestRoom 11 = .ok (.ireturn, 1) := by decide +kernel
theorem dX10_requireRange_0 : decode cX10_requireRange 0 = .ok (.iload_n 0, 1) := by decide +kernel
theorem dX10_requireRange_1 : decode cX10_requireRange 1 = .ok (.iload_n 1, 1) := by decide +kernel
theorem dX10_requireRange_2 : decode cX10_requireRange 2 = .ok (.if_icmp .lt 8, 3) := by decide +kernel
theorem dX10_requireRange_5 : decode cX10_requireRange 5 = .ok (.iload_n 0, 1) := by decide +kernel
theorem dX10_requireRange_6 : decode cX10_requireRange 6 = .ok (.iload_n 2, 1) := by decide +kernel
theorem dX10_requireRange_7 : decode cX10_requireRange 7 = .ok (.if_icmp .le 14, 3) := by decide +kernel
theorem dX10_requireRange_10 : decode cX10_requireRange 10 = .ok (.new 275, 3) := by decide +kernel
theorem dX10_requireRange_13 : decode cX10_requireRange 13 = .ok (.dup, 1) := by decide +kernel
theorem dX10_requireRange_14 : decode cX10_requireRange 14 = .ok (.ldc_w 277, 3) := by decide +kernel
theorem dX10_requireRange_17 : decode cX10_requireRange 17 = .ok (.invokespecial 279, 3) := by decide +kernel
theorem dX10_requireRange_20 : decode cX10_requireRange 20 = .ok (.athrow, 1) := by decide +kernel
theorem dX10_requireRange_21 : decode cX10_requireRange 21 = .ok (.return_, 1) := by decide +kernel
theorem dX10_requireWeights_0 : decode cX10_requireWeights 0 = .ok (.iload_n 0, 1) := by decide +kernel
theorem dX10_requireWeights_1 : decode cX10_requireWeights 1 = .ok (.iconst 0, 1) := by decide +kernel
theorem dX10_requireWeights_2 : decode cX10_requireWeights 2 = .ok (.bipush 9, 2) := by decide +kernel
theorem dX10_requireWeights_4 : decode cX10_requireWeights 4 = .ok (.invokestatic 63, 3) := by decide +kernel
theorem dX10_requireWeights_7 : decode cX10_requireWeights 7 = .ok (.iload_n 1, 1) := by decide +kernel
theorem dX10_requireWeights_8 : decode cX10_requireWeights 8 = .ok (.iconst 0, 1) := by decide +kernel
theorem dX10_requireWeights_9 : decode cX10_requireWeights 9 = .ok (.bipush 9, 2) := by decide +kernel
theorem dX10_requireWeights_11 : decode cX10_requireWeights 11 = .ok (.invokestatic 63, 3) := by decide +kernel
theorem dX10_requireWeights_14 : decode cX10_requireWeights 14 = .ok (.return_, 1) := by decide +kernel
theorem dX10_requireStatement_0 : decode cX10_requireStatement 0 = .ok (.iload_n 1, 1) := by decide +kernel
theorem dX10_requireStatement_1 : decode cX10_requireStatement 1 = .ok (.ifCond .lt 17, 3) := by decide +kernel
theorem dX10_requireStatement_4 : decode cX10_requireStatement 4 = .ok (.iload_n 1, 1) := by decide +kernel
theorem dX10_requireStatement_5 : decode cX10_requireStatement 5 = .ok (.aload_n 0, 1) := by decide +kernel
theorem dX10_requireStatement_6 : decode cX10_requireStatement 6 = .ok (.getfield 12, 3) := by decide +kernel
theorem dX10_requireStatement_9 : decode cX10_requireStatement 9 = .ok (.getfield 67, 3) := by decide +kernel
theorem dX10_requireStatement_12 : decode cX10_requireStatement 12 = .ok (.invokevirtual 71, 3) := by decide +kernel
theorem dX10_requireStatement_15 : decode cX10_requireStatement 15 = .ok (.if_icmp .lt 14, 3) := by decide +kernel
theorem dX10_requireStatement_18 : decode cX10_requireStatement 18 = .ok (.new 138, 3) := by decide +kernel
theorem dX10_requireStatement_21 : decode cX10_requireStatement 21 = .ok (.dup, 1) := by decide +kernel
theorem dX10_requireStatement_22 : decode cX10_requireStatement 22 = .ok (.ldc_w 280, 3) := by decide +kernel
theorem dX10_requireStatement_25 : decode cX10_requireStatement 25 = .ok (.invokespecial 142, 3) := by decide +kernel
theorem dX10_requireStatement_28 : decode cX10_requireStatement 28 = .ok (.athrow, 1) := by decide +kernel
theorem dX10_requireStatement_29 : decode cX10_requireStatement 29 = .ok (.return_, 1) := by decide +kernel
theorem dX10_requirePoint_0 : decode cX10_requirePoint 0 = .ok (.aload_n 0, 1) := by decide +kernel
theorem dX10_requirePoint_1 : decode cX10_requirePoint 1 = .ok (.getfield 12, 3) := by decide +kernel
theorem dX10_requirePoint_4 : decode cX10_requirePoint 4 = .ok (.iload_n 1, 1) := by decide +kernel
theorem dX10_requirePoint_5 : decode cX10_requirePoint 5 = .ok (.iload_n 2, 1) := by decide +kernel
theorem dX10_requirePoint_6 : decode cX10_requirePoint 6 = .ok (.invokevirtual 282, 3) := by decide +kernel
theorem dX10_requirePoint_9 : decode cX10_requirePoint 9 = .ok (.ifCond .ne 14, 3) := by decide +kernel
theorem dX10_requirePoint_12 : decode cX10_requirePoint 12 = .ok (.new 138, 3) := by decide +kernel
theorem dX10_requirePoint_15 : decode cX10_requirePoint 15 = .ok (.dup, 1) := by decide +kernel
theorem dX10_requirePoint_16 : decode cX10_requirePoint 16 = .ok (.ldc_w 285, 3) := by decide +kernel
theorem dX10_requirePoint_19 : decode cX10_requirePoint 19 = .ok (.invokespecial 142, 3) := by decide +kernel
theorem dX10_requirePoint_22 : decode cX10_requirePoint 22 = .ok (.athrow, 1) := by decide +kernel
theorem dX10_requirePoint_23 : decode cX10_requirePoint 23 = .ok (.return_, 1) := by decide +kernel
theorem dX10_requireCell_0 : decode cX10_requireCell 0 = .ok (.aload_n 0, 1) := by decide +kernel
theorem dX10_requireCell_1 : decode cX10_requireCell 1 = .ok (.iload_n 1, 1) := by decide +kernel
theorem dX10_requireCell_2 : decode cX10_requireCell 2 = .ok (.invokevirtual 93, 3) := by decide +kernel
theorem dX10_requireCell_5 : decode cX10_requireCell 5 = .ok (.aload_n 0, 1) := by decide +kernel
theorem dX10_requireCell_6 : decode cX10_requireCell 6 = .ok (.iload_n 2, 1) := by decide +kernel
theorem dX10_requireCell_7 : decode cX10_requireCell 7 = .ok (.iload_n 3, 1) := by decide +kernel
theorem dX10_requireCell_8 : decode cX10_requireCell 8 = .ok (.invokevirtual 216, 3) := by decide +kernel
theorem dX10_requireCell_11 : decode cX10_requireCell 11 = .ok (.aload_n 0, 1) := by decide +kernel
theorem dX10_requireCell_12 : decode cX10_requireCell 12 = .ok (.getfield 12, 3) := by decide +kernel
theorem dX10_requireCell_15 : decode cX10_requireCell 15 = .ok (.iload_n 1, 1) := by decide +kernel
theorem dX10_requireCell_16 : decode cX10_requireCell 16 = .ok (.iload_n 2, 1) := by decide +kernel
theorem dX10_requireCell_17 : decode cX10_requireCell 17 = .ok (.iload_n 3, 1) := by decide +kernel
theorem dX10_requireCell_18 : decode cX10_requireCell 18 = .ok (.invokevirtual 287, 3) := by decide +kernel
theorem dX10_requireCell_21 : decode cX10_requireCell 21 = .ok (.ireturn, 1) := by decide +kernel
theorem dX10_requireStep_0 : decode cX10_requireStep 0 = .ok (.iload_n 1, 1) := by decide +kernel
theorem dX10_requireStep_1 : decode cX10_requireStep 1 = .ok (.ifCond .lt 14, 3) := by decide +kernel
theorem dX10_requireStep_4 : decode cX10_requireStep 4 = .ok (.iload_n 1, 1) := by decide +kernel
theorem dX10_requireStep_5 : decode cX10_requireStep 5 = .ok (.aload_n 0, 1) := by decide +kernel
theorem dX10_requireStep_6 : decode cX10_requireStep 6 = .ok (.getfield 12, 3) := by decide +kernel
theorem dX10_requireStep_9 : decode cX10_requireStep 9 = .ok (.invokevirtual 147, 3) := by decide +kernel
theorem dX10_requireStep_12 : decode cX10_requireStep 12 = .ok (.if_icmp .lt 14, 3) := by decide +kernel
theorem dX10_requireStep_15 : decode cX10_requireStep 15 = .ok (.new 138, 3) := by decide +kernel
theorem dX10_requireStep_18 : decode cX10_requireStep 18 = .ok (.dup, 1) := by decide +kernel
theorem dX10_requireStep_19 : decode cX10_requireStep 19 = .ok (.ldc_w 290, 3) := by decide +kernel
theorem dX10_requireStep_22 : decode cX10_requireStep 22 = .ok (.invokespecial 142, 3) := by decide +kernel
theorem dX10_requireStep_25 : decode cX10_requireStep 25 = .ok (.athrow, 1) := by decide +kernel
theorem dX10_requireStep_26 : decode cX10_requireStep 26 = .ok (.return_, 1) := by decide +kernel
theorem dX10_arranged_0 : decode cX10_arranged 0 = .ok (.aload_n 0, 1) := by decide +kernel
theorem dX10_arranged_1 : decode cX10_arranged 1 = .ok (.getfield 19, 3) := by decide +kernel
theorem dX10_arranged_4 : decode cX10_arranged 4 = .ok (.aload_n 0, 1) := by decide +kernel
theorem dX10_arranged_5 : decode cX10_arranged 5 = .ok (.getfield 12, 3) := by decide +kernel
theorem dX10_arranged_8 : decode cX10_arranged 8 = .ok (.aload_n 0, 1) := by decide +kernel
theorem dX10_arranged_9 : decode cX10_arranged 9 = .ok (.getfield 56, 3) := by decide +kernel
theorem dX10_arranged_12 : decode cX10_arranged 12 = .ok (.aload_n 0, 1) := by decide +kernel
theorem dX10_arranged_13 : decode cX10_arranged 13 = .ok (.getfield 60, 3) := by decide +kernel
theorem dX10_arranged_16 : decode cX10_arranged 16 = .ok (.invokevirtual 292, 3) := by decide +kernel
theorem dX10_arranged_19 : decode cX10_arranged 19 = .ok (.aload_n 0, 1) := by decide +kernel
theorem dX10_arranged_20 : decode cX10_arranged 20 = .ok (.getfield 19, 3) := by decide +kernel
theorem dX10_arranged_23 : decode cX10_arranged 23 = .ok (.areturn, 1) := by decide +kernel
theorem dX10_gatherDifferences_0 : decode cX10_gatherDifferences 0 = .ok (.aload_n 0, 1) := by decide +kernel
theorem dX10_gatherDifferences_1 : decode cX10_gatherDifferences 1 = .ok (.getfield 26, 3) := by decide +kernel
theorem dX10_gatherDifferences_4 : decode cX10_gatherDifferences 4 = .ok (.aload_n 0, 1) := by decide +kernel
theorem dX10_gatherDifferences_5 : decode cX10_gatherDifferences 5 = .ok (.getfield 12, 3) := by decide +kernel
theorem dX10_gatherDifferences_8 : decode cX10_gatherDifferences 8 = .ok (.invokevirtual 296, 3) := by decide +kernel
theorem dX10_gatherDifferences_11 : decode cX10_gatherDifferences 11 = .ok (.aload_n 0, 1) := by decide +kernel
theorem dX10_gatherDifferences_12 : decode cX10_gatherDifferences 12 = .ok (.getfield 26, 3) := by decide +kernel
theorem dX10_gatherDifferences_15 : decode cX10_gatherDifferences 15 = .ok (.aload_n 0, 1) := by decide +kernel
theorem dX10_gatherDifferences_16 : decode cX10_gatherDifferences 16 = .ok (.getfield 12, 3) := by decide +kernel
theorem dX10_gatherDifferences_19 : decode cX10_gatherDifferences 19 = .ok (.aload_n 0, 1) := by decide +kernel
theorem dX10_gatherDifferences_20 : decode cX10_gatherDifferences 20 = .ok (.getfield 19, 3) := by decide +kernel
theorem dX10_gatherDifferences_23 : decode cX10_gatherDifferences 23 = .ok (.iload_n 1, 1) := by decide +kernel
theorem dX10_gatherDifferences_24 : decode cX10_gatherDifferences 24 = .ok (.iload_n 1, 1) := by decide +kernel
theorem dX10_gatherDifferences_25 : decode cX10_gatherDifferences 25 = .ok (.invokevirtual 254, 3) := by decide +kernel
theorem dX10_gatherDifferences_28 : decode cX10_gatherDifferences 28 = .ok (.return_, 1) := by decide +kernel
theorem dX10_placesOf_0 : decode cX10_placesOf 0 = .ok (.aload_n 0, 1) := by decide +kernel
theorem dX10_placesOf_1 : decode cX10_placesOf 1 = .ok (.getfield 12, 3) := by decide +kernel
theorem dX10_placesOf_4 : decode cX10_placesOf 4 = .ok (.getfield 67, 3) := by decide +kernel
theorem dX10_placesOf_7 : decode cX10_placesOf 7 = .ok (.iload_n 1, 1) := by decide +kernel
theorem dX10_placesOf_8 : decode cX10_placesOf 8 = .ok (.invokevirtual 96, 3) := by decide +kernel
theorem dX10_placesOf_11 : decode cX10_placesOf 11 = .ok (.checkcast 84, 3) := by decide +kernel
theorem dX10_placesOf_14 : decode cX10_placesOf 14 = .ok (.getfield 188, 3) := by decide +kernel
theorem dX10_placesOf_17 : decode cX10_placesOf 17 = .ok (.aload_n 0, 1) := by decide +kernel
theorem dX10_placesOf_18 : decode cX10_placesOf 18 = .ok (.getfield 12, 3) := by decide +kernel
theorem dX10_placesOf_21 : decode cX10_placesOf 21 = .ok (.getfield 121, 3) := by decide +kernel
theorem dX10_placesOf_24 : decode cX10_placesOf 24 = .ok (.invokevirtual 299, 3) := by decide +kernel
theorem dX10_placesOf_27 : decode cX10_placesOf 27 = .ok (.ireturn, 1) := by decide +kernel
theorem dX10_keepSmallest_0 : decode cX10_keepSmallest 0 = .ok (.aload_n 1, 1) := by decide +kernel
theorem dX10_keepSmallest_1 : decode cX10_keepSmallest 1 = .ok (.invokevirtual 191, 3) := by decide +kernel
theorem dX10_keepSmallest_4 : decode cX10_keepSmallest 4 = .ok (.aload_n 0, 1) := by decide +kernel
theorem dX10_keepSmallest_5 : decode cX10_keepSmallest 5 = .ok (.getfield 26, 3) := by decide +kernel
theorem dX10_keepSmallest_8 : decode cX10_keepSmallest 8 = .ok (.aload_n 0, 1) := by decide +kernel
theorem dX10_keepSmallest_9 : decode cX10_keepSmallest 9 = .ok (.getfield 33, 3) := by decide +kernel
theorem dX10_keepSmallest_12 : decode cX10_keepSmallest 12 = .ok (.invokevirtual 229, 3) := by decide +kernel
theorem dX10_keepSmallest_15 : decode cX10_keepSmallest 15 = .ok (.pop, 1) := by decide +kernel
theorem dX10_keepSmallest_16 : decode cX10_keepSmallest 16 = .ok (.aload_n 0, 1) := by decide +kernel
theorem dX10_keepSmallest_17 : decode cX10_keepSmallest 17 = .ok (.aload_n 1, 1) := by decide +kernel
theorem dX10_keepSmallest_18 : decode cX10_keepSmallest 18 = .ok (.invokevirtual 302, 3) := by decide +kernel
theorem dX10_keepSmallest_21 : decode cX10_keepSmallest 21 = .ok (.aload_n 0, 1) := by decide +kernel
theorem dX10_keepSmallest_22 : decode cX10_keepSmallest 22 = .ok (.getfield 26, 3) := by decide +kernel
theorem dX10_keepSmallest_25 : decode cX10_keepSmallest 25 = .ok (.aload_n 0, 1) := by decide +kernel
theorem dX10_keepSmallest_26 : decode cX10_keepSmallest 26 = .ok (.getfield 33, 3) := by decide +kernel
theorem dX10_keepSmallest_29 : decode cX10_keepSmallest 29 = .ok (.invokevirtual 236, 3) := by decide +kernel
theorem dX10_keepSmallest_32 : decode cX10_keepSmallest 32 = .ok (.aload_n 0, 1) := by decide +kernel
theorem dX10_keepSmallest_33 : decode cX10_keepSmallest 33 = .ok (.aload_n 1, 1) := by decide +kernel
theorem dX10_keepSmallest_34 : decode cX10_keepSmallest 34 = .ok (.invokevirtual 302, 3) := by decide +kernel
theorem dX10_keepSmallest_37 : decode cX10_keepSmallest 37 = .ok (.aload_n 0, 1) := by decide +kernel
theorem dX10_keepSmallest_38 : decode cX10_keepSmallest 38 = .ok (.getfield 26, 3) := by decide +kernel
theorem dX10_keepSmallest_41 : decode cX10_keepSmallest 41 = .ok (.aload_n 0, 1) := by decide +kernel
theorem dX10_keepSmallest_42 : decode cX10_keepSmallest 42 = .ok (.getfield 33, 3) := by decide +kernel
theorem dX10_keepSmallest_45 : decode cX10_keepSmallest 45 = .ok (.invokevirtual 245, 3) := by decide +kernel
theorem dX10_keepSmallest_48 : decode cX10_keepSmallest 48 = .ok (.aload_n 0, 1) := by decide +kernel
theorem dX10_keepSmallest_49 : decode cX10_keepSmallest 49 = .ok (.aload_n 1, 1) := by decide +kernel
theorem dX10_keepSmallest_50 : decode cX10_keepSmallest 50 = .ok (.invokevirtual 302, 3) := by decide +kernel
theorem dX10_keepSmallest_53 : decode cX10_keepSmallest 53 = .ok (.return_, 1) := by decide +kernel
theorem dX10_keepIfSmaller_0 : decode cX10_keepIfSmaller 0 = .ok (.aload_n 0, 1) := by decide +kernel
theorem dX10_keepIfSmaller_1 : decode cX10_keepIfSmaller 1 = .ok (.getfield 12, 3) := by decide +kernel
theorem dX10_keepIfSmaller_4 : decode cX10_keepIfSmaller 4 = .ok (.getfield 121, 3) := by decide +kernel
theorem dX10_keepIfSmaller_7 : decode cX10_keepIfSmaller 7 = .ok (.istore_n 2, 1) := by decide +kernel
theorem dX10_keepIfSmaller_8 : decode cX10_keepIfSmaller 8 = .ok (.aload_n 0, 1) := by decide +kernel
theorem dX10_keepIfSmaller_9 : decode cX10_keepIfSmaller 9 = .ok (.getfield 33, 3) := by decide +kernel
theorem dX10_keepIfSmaller_12 : decode cX10_keepIfSmaller 12 = .ok (.iload_n 2, 1) := by decide +kernel
theorem dX10_keepIfSmaller_13 : decode cX10_keepIfSmaller 13 = .ok (.invokevirtual 299, 3) := by decide +kernel
theorem dX10_keepIfSmaller_16 : decode cX10_keepIfSmaller 16 = .ok (.aload_n 1, 1) := by decide +kernel
theorem dX10_keepIfSmaller_17 : decode cX10_keepIfSmaller 17 = .ok (.iload_n 2, 1) := by decide +kernel
theorem dX10_keepIfSmaller_18 : decode cX10_keepIfSmaller 18 = .ok (.invokevirtual 299, 3) := by decide +kernel
theorem dX10_keepIfSmaller_21 : decode cX10_keepIfSmaller 21 = .ok (.if_icmp .ge 11, 3) := by decide +kernel
theorem dX10_keepIfSmaller_24 : decode cX10_keepIfSmaller 24 = .ok (.aload_n 1, 1) := by decide +kernel
theorem dX10_keepIfSmaller_25 : decode cX10_keepIfSmaller 25 = .ok (.aload_n 0, 1) := by decide +kernel
theorem dX10_keepIfSmaller_26 : decode cX10_keepIfSmaller 26 = .ok (.getfield 33, 3) := by decide +kernel
theorem dX10_keepIfSmaller_29 : decode cX10_keepIfSmaller 29 = .ok (.invokevirtual 305, 3) := by decide +kernel
theorem dX10_keepIfSmaller_32 : decode cX10_keepIfSmaller 32 = .ok (.return_, 1) := by decide +kernel
theorem dX10_valueWritten_0 : decode cX10_valueWritten 0 = .ok (.aload_n 0, 1) := by decide +kernel
theorem dX10_valueWritten_1 : decode cX10_valueWritten 1 = .ok (.invokevirtual 154, 3) := by decide +kernel
theorem dX10_valueWritten_4 : decode cX10_valueWritten 4 = .ok (.pop, 1) := by decide +kernel
theorem dX10_valueWritten_5 : decode cX10_valueWritten 5 = .ok (.aload_n 1, 1) := by decide +kernel
theorem dX10_valueWritten_6 : decode cX10_valueWritten 6 = .ok (.invokevirtual 261, 3) := by decide +kernel
theorem dX10_valueWritten_9 : decode cX10_valueWritten 9 = .ok (.iconst 0, 1) := by decide +kernel
theorem dX10_valueWritten_10 : decode cX10_valueWritten 10 = .ok (.istore_n 3, 1) := by decide +kernel
theorem dX10_valueWritten_11 : decode cX10_valueWritten 11 = .ok (.iconst 0, 1) := by decide +kernel
theorem dX10_valueWritten_12 : decode cX10_valueWritten 12 = .ok (.istore 4, 2) := by decide +kernel
theorem dX10_valueWritten_14 : decode cX10_valueWritten 14 = .ok (.iload 4, 2) := by decide +kernel
theorem dX10_valueWritten_16 : decode cX10_valueWritten 16 = .ok (.aload_n 0, 1) := by decide +kernel
theorem dX10_valueWritten_17 : decode cX10_valueWritten 17 = .ok (.getfield 19, 3) := by decide +kernel
theorem dX10_valueWritten_20 : decode cX10_valueWritten 20 = .ok (.getfield 158, 3) := by decide +kernel
theorem dX10_valueWritten_23 : decode cX10_valueWritten 23 = .ok (.iload_n 2, 1) := by decide +kernel
theorem dX10_valueWritten_24 : decode cX10_valueWritten 24 = .ok (.iaload, 1) := by decide +kernel
theorem dX10_valueWritten_25 : decode cX10_valueWritten 25 = .ok (.if_icmp .gt 32, 3) := by decide +kernel
theorem dX10_valueWritten_28 : decode cX10_valueWritten 28 = .ok (.aload_n 1, 1) := by decide +kernel
theorem dX10_valueWritten_29 : decode cX10_valueWritten 29 = .ok (.aload_n 0, 1) := by decide +kernel
theorem dX10_valueWritten_30 : decode cX10_valueWritten 30 = .ok (.getfield 12, 3) := by decide +kernel
theorem dX10_valueWritten_33 : decode cX10_valueWritten 33 = .ok (.aload_n 0, 1) := by decide +kernel
theorem dX10_valueWritten_34 : decode cX10_valueWritten 34 = .ok (.getfield 19, 3) := by decide +kernel
theorem dX10_valueWritten_37 : decode cX10_valueWritten 37 = .ok (.aload_n 0, 1) := by decide +kernel
theorem dX10_valueWritten_38 : decode cX10_valueWritten 38 = .ok (.getfield 19, 3) := by decide +kernel
theorem dX10_valueWritten_41 : decode cX10_valueWritten 41 = .ok (.getfield 168, 3) := by decide +kernel
theorem dX10_valueWritten_44 : decode cX10_valueWritten 44 = .ok (.iload 4, 2) := by decide +kernel
theorem dX10_valueWritten_46 : decode cX10_valueWritten 46 = .ok (.iaload, 1) := by decide +kernel
theorem dX10_valueWritten_47 : decode cX10_valueWritten 47 = .ok (.invokevirtual 264, 3) := by decide +kernel
theorem dX10_valueWritten_50 : decode cX10_valueWritten 50 = .ok (.istore_n 3, 1) := by decide +kernel
theorem dX10_valueWritten_51 : decode cX10_valueWritten 51 = .ok (.iinc 4 1, 3) := by decide +kernel
theorem dX10_valueWritten_54 : decode cX10_valueWritten 54 = .ok (.goto (-40), 3) := by decide +kernel
theorem dX10_valueWritten_57 : decode cX10_valueWritten 57 = .ok (.iload_n 3, 1) := by decide +kernel
theorem dX10_valueWritten_58 : decode cX10_valueWritten 58 = .ok (.ireturn, 1) := by decide +kernel
theorem dX10_findBest_0 : decode cX10_findBest 0 = .ok (.aload_n 0, 1) := by decide +kernel
theorem dX10_findBest_1 : decode cX10_findBest 1 = .ok (.getfield 52, 3) := by decide +kernel
theorem dX10_findBest_4 : decode cX10_findBest 4 = .ok (.iconst 0, 1) := by decide +kernel
theorem dX10_findBest_5 : decode cX10_findBest 5 = .ok (.putfield 308, 3) := by decide +kernel
theorem dX10_findBest_8 : decode cX10_findBest 8 = .ok (.iconst 0, 1) := by decide +kernel
theorem dX10_findBest_9 : decode cX10_findBest 9 = .ok (.istore_n 1, 1) := by decide +kernel
theorem dX10_findBest_10 : decode cX10_findBest 10 = .ok (.iload_n 1, 1) := by decide +kernel
theorem dX10_findBest_11 : decode cX10_findBest 11 = .ok (.iconst 3, 1) := by decide +kernel
theorem dX10_findBest_12 : decode cX10_findBest 12 = .ok (.if_icmp .gt 49, 3) := by decide +kernel
theorem dX10_findBest_15 : decode cX10_findBest 15 = .ok (.iconst 0, 1) := by decide +kernel
theorem dX10_findBest_16 : decode cX10_findBest 16 = .ok (.istore_n 2, 1) := by decide +kernel
theorem dX10_findBest_17 : decode cX10_findBest 17 = .ok (.iload_n 2, 1) := by decide +kernel
theorem dX10_findBest_18 : decode cX10_findBest 18 = .ok (.iconst 3, 1) := by decide +kernel
theorem dX10_findBest_19 : decode cX10_findBest 19 = .ok (.if_icmp .gt 36, 3) := by decide +kernel
theorem dX10_findBest_22 : decode cX10_findBest 22 = .ok (.aload_n 0, 1) := by decide +kernel
theorem dX10_findBest_23 : decode cX10_findBest 23 = .ok (.getfield 12, 3) := by decide +kernel
theorem dX10_findBest_26 : decode cX10_findBest 26 = .ok (.iload_n 1, 1) := by decide +kernel
theorem dX10_findBest_27 : decode cX10_findBest 27 = .ok (.iload_n 2, 1) := by decide +kernel
theorem dX10_findBest_28 : decode cX10_findBest 28 = .ok (.invokevirtual 134, 3) := by decide +kernel
theorem dX10_findBest_31 : decode cX10_findBest 31 = .ok (.ifCond .eq 18, 3) := by decide +kernel
theorem dX10_findBest_34 : decode cX10_findBest 34 = .ok (.aload_n 0, 1) := by decide +kernel
theorem dX10_findBest_35 : decode cX10_findBest 35 = .ok (.getfield 52, 3) := by decide +kernel
theorem dX10_findBest_38 : decode cX10_findBest 38 = .ok (.iload_n 1, 1) := by decide +kernel
theorem dX10_findBest_39 : decode cX10_findBest 39 = .ok (.iload_n 2, 1) := by decide +kernel
theorem dX10_findBest_40 : decode cX10_findBest 40 = .ok (.aload_n 0, 1) := by decide +kernel
theorem dX10_findBest_41 : decode cX10_findBest 41 = .ok (.iload_n 1, 1) := by decide +kernel
theorem dX10_findBest_42 : decode cX10_findBest 42 = .ok (.iload_n 2, 1) := by decide +kernel
theorem dX10_findBest_43 : decode cX10_findBest 43 = .ok (.invokevirtual 311, 3) := by decide +kernel
theorem dX10_findBest_46 : decode cX10_findBest 46 = .ok (.invokevirtual 314, 3) := by decide +kernel
theorem dX10_findBest_49 : decode cX10_findBest 49 = .ok (.iinc 2 1, 3) := by decide +kernel
theorem dX10_findBest_52 : decode cX10_findBest 52 = .ok (.goto (-35), 3) := by decide +kernel
theorem dX10_findBest_55 : decode cX10_findBest 55 = .ok (.iinc 1 1, 3) := by decide +kernel
theorem dX10_findBest_58 : decode cX10_findBest 58 = .ok (.goto (-48), 3) := by decide +kernel
theorem dX10_findBest_61 : decode cX10_findBest 61 = .ok (.aload_n 0, 1) := by decide +kernel
theorem dX10_findBest_62 : decode cX10_findBest 62 = .ok (.getfield 52, 3) := by decide +kernel
theorem dX10_findBest_65 : decode cX10_findBest 65 = .ok (.getfield 308, 3) := by decide +kernel
theorem dX10_findBest_68 : decode cX10_findBest 68 = .ok (.ifCond .ne 14, 3) := by decide +kernel
theorem dX10_findBest_71 : decode cX10_findBest 71 = .ok (.new 77, 3) := by decide +kernel
theorem dX10_findBest_74 : decode cX10_findBest 74 = .ok (.dup, 1) := by decide +kernel
theorem dX10_findBest_75 : decode cX10_findBest 75 = .ok (.ldc_w 317, 3) := by decide +kernel
theorem dX10_findBest_78 : decode cX10_findBest 78 = .ok (.invokespecial 81, 3) := by decide +kernel
theorem dX10_findBest_81 : decode cX10_findBest 81 = .ok (.athrow, 1) := by decide +kernel
theorem dX10_findBest_82 : decode cX10_findBest 82 = .ok (.return_, 1) := by decide +kernel
theorem dX10_leastRoomWith_0 : decode cX10_leastRoomWith 0 = .ok (.aload_n 0, 1) := by decide +kernel
theorem dX10_leastRoomWith_1 : decode cX10_leastRoomWith 1 = .ok (.getfield 19, 3) := by decide +kernel
theorem dX10_leastRoomWith_4 : decode cX10_leastRoomWith 4 = .ok (.aload_n 0, 1) := by decide +kernel
theorem dX10_leastRoomWith_5 : decode cX10_leastRoomWith 5 = .ok (.getfield 12, 3) := by decide +kernel
theorem dX10_leastRoomWith_8 : decode cX10_leastRoomWith 8 = .ok (.iload_n 1, 1) := by decide +kernel
theorem dX10_leastRoomWith_9 : decode cX10_leastRoomWith 9 = .ok (.iload_n 2, 1) := by decide +kernel
theorem dX10_leastRoomWith_10 : decode cX10_leastRoomWith 10 = .ok (.invokevirtual 292, 3) := by decide +kernel
theorem dX10_leastRoomWith_13 : decode cX10_leastRoomWith 13 = .ok (.iconst 0, 1) := by decide +kernel
theorem dX10_leastRoomWith_14 : decode cX10_leastRoomWith 14 = .ok (.istore_n 3, 1) := by decide +kernel
theorem dX10_leastRoomWith_15 : decode cX10_leastRoomWith 15 = .ok (.iconst 0, 1) := by decide +kernel
theorem dX10_leastRoomWith_16 : decode cX10_leastRoomWith 16 = .ok (.istore 4, 2) := by decide +kernel
theorem dX10_leastRoomWith_18 : decode cX10_leastRoomWith 18 = .ok (.iload 4, 2) := by decide +kernel
theorem dX10_leastRoomWith_20 : decode cX10_leastRoomWith 20 = .ok (.aload_n 0, 1) := by decide +kernel
theorem dX10_leastRoomWith_21 : decode cX10_leastRoomWith 21 = .ok (.getfield 12, 3) := by decide +kernel
theorem dX10_leastRoomWith_24 : decode cX10_leastRoomWith 24 = .ok (.getfield 67, 3) := by decide +kernel
theorem dX10_leastRoomWith_27 : decode cX10_leastRoomWith 27 = .ok (.invokevirtual 71, 3) := by decide +kernel
theorem dX10_leastRoomWith_30 : decode cX10_leastRoomWith 30 = .ok (.if_icmp .ge 29, 3) := by decide +kernel
theorem dX10_leastRoomWith_33 : decode cX10_leastRoomWith 33 = .ok (.aload_n 0, 1) := by decide +kernel
theorem dX10_leastRoomWith_34 : decode cX10_leastRoomWith 34 = .ok (.iload 4, 2) := by decide +kernel
theorem dX10_leastRoomWith_36 : decode cX10_leastRoomWith 36 = .ok (.invokevirtual 206, 3) := by decide +kernel
theorem dX10_leastRoomWith_39 : decode cX10_leastRoomWith 39 = .ok (.iload_n 3, 1) := by decide +kernel
theorem dX10_leastRoomWith_40 : decode cX10_leastRoomWith 40 = .ok (.aload_n 0, 1) := by decide +kernel
theorem dX10_leastRoomWith_41 : decode cX10_leastRoomWith 41 = .ok (.getfield 26, 3) := by decide +kernel
theorem dX10_leastRoomWith_44 : decode cX10_leastRoomWith 44 = .ok (.aload_n 0, 1) := by decide +kernel
theorem dX10_leastRoomWith_45 : decode cX10_leastRoomWith 45 = .ok (.getfield 33, 3) := by decide +kernel
theorem dX10_leastRoomWith_48 : decode cX10_leastRoomWith 48 = .ok (.invokevirtual 229, 3) := by decide +kernel
theorem dX10_leastRoomWith_51 : decode cX10_leastRoomWith 51 = .ok (.iadd, 1) := by decide +kernel
theorem dX10_leastRoomWith_52 : decode cX10_leastRoomWith 52 = .ok (.istore_n 3, 1) := by decide +kernel
theorem dX10_leastRoomWith_53 : decode cX10_leastRoomWith 53 = .ok (.iinc 4 1, 3) := by decide +kernel
theorem dX10_leastRoomWith_56 : decode cX10_leastRoomWith 56 = .ok (.goto (-38), 3) := by decide +kernel
theorem dX10_leastRoomWith_59 : decode cX10_leastRoomWith 59 = .ok (.iload_n 3, 1) := by decide +kernel
theorem dX10_leastRoomWith_60 : decode cX10_leastRoomWith 60 = .ok (.ireturn, 1) := by decide +kernel
theorem dX10_restOf_0 : decode cX10_restOf 0 = .ok (.iload_n 1, 1) := by decide +kernel
theorem dX10_restOf_1 : decode cX10_restOf 1 = .ok (.iconst 1, 1) := by decide +kernel
theorem dX10_restOf_2 : decode cX10_restOf 2 = .ok (.if_icmp .ge 7, 3) := by decide +kernel
theorem dX10_restOf_5 : decode cX10_restOf 5 = .ok (.iconst 0, 1) := by decide +kernel
theorem dX10_restOf_6 : decode cX10_restOf 6 = .ok (.goto 6, 3) := by decide +kernel
theorem dX10_restOf_9 : decode cX10_restOf 9 = .ok (.iload_n 0, 1) := by decide +kernel
theorem dX10_restOf_10 : decode cX10_restOf 10 = .ok (.iload_n 1, 1) := by decide +kernel
theorem dX10_restOf_11 : decode cX10_restOf 11 = .ok (.irem, 1) := by decide +kernel
theorem dX10_restOf_12 : decode cX10_restOf 12 = .ok (.ireturn, 1) := by decide +kernel
theorem dL_addStatement_0 : decode cL_addStatement 0 = .ok (.aload_n 2, 1) := by decide +kernel
theorem dL_addStatement_1 : decode cL_addStatement 1 = .ok (.iconst 0, 1) := by decide +kernel
theorem dL_addStatement_2 : decode cL_addStatement 2 = .ok (.aload_n 0, 1) := by decide +kernel
theorem dL_addStatement_3 : decode cL_addStatement 3 = .ok (.iload_n 1, 1) := by decide +kernel
theorem dL_addStatement_4 : decode cL_addStatement 4 = .ok (.invokevirtual 7, 3) := by decide +kernel
theorem dL_addStatement_7 : decode cL_addStatement 7 = .ok (.i2l, 1) := by decide +kernel
theorem dL_addStatement_8 : decode cL_addStatement 8 = .ok (.lastore, 1) := by decide +kernel
theorem dL_addStatement_9 : decode cL_addStatement 9 = .ok (.goto 9, 3) := by decide +kernel
theorem dL_addStatement_12 : decode cL_addStatement 12 = .ok (.astore_n 3, 1) := by decide +kernel
theorem dL_addStatement_13 : decode cL_addStatement 13 = .ok (.iconst 1, 1) := by decide +kernel
theorem dL_addStatement_14 : decode cL_addStatement 14 = .ok (.ireturn, 1) := by decide +kernel
theorem dL_addStatement_15 : decode cL_addStatement 15 = .ok (.astore_n 3, 1) := by decide +kernel
theorem dL_addStatement_16 : decode cL_addStatement 16 = .ok (.iconst 2, 1) := by decide +kernel
theorem dL_addStatement_17 : decode cL_addStatement 17 = .ok (.ireturn, 1) := by decide +kernel
theorem dL_addStatement_18 : decode cL_addStatement 18 = .ok (.iconst 0, 1) := by decide +kernel
theorem dL_addStatement_19 : decode cL_addStatement 19 = .ok (.ireturn, 1) := by decide +kernel
theorem dL_addRead_0 : decode cL_addRead 0 = .ok (.aload 6, 2) := by decide +kernel
theorem dL_addRead_2 : decode cL_addRead 2 = .ok (.iconst 0, 1) := by decide +kernel
theorem dL_addRead_3 : decode cL_addRead 3 = .ok (.aload_n 0, 1) := by decide +kernel
theorem dL_addRead_4 : decode cL_addRead 4 = .ok (.iload_n 1, 1) := by decide +kernel
theorem dL_addRead_5 : decode cL_addRead 5 = .ok (.iload_n 2, 1) := by decide +kernel
theorem dL_addRead_6 : decode cL_addRead 6 = .ok (.iload_n 3, 1) := by decide +kernel
theorem dL_addRead_7 : decode cL_addRead 7 = .ok (.iload 4, 2) := by decide +kernel
theorem dL_addRead_9 : decode cL_addRead 9 = .ok (.iload 5, 2) := by decide +kernel
theorem dL_addRead_11 : decode cL_addRead 11 = .ok (.invokevirtual 17, 3) := by decide +kernel
theorem dL_addRead_14 : decode cL_addRead 14 = .ok (.i2l, 1) := by decide +kernel
theorem dL_addRead_15 : decode cL_addRead 15 = .ok (.lastore, 1) := by decide +kernel
theorem dL_addRead_16 : decode cL_addRead 16 = .ok (.goto 15, 3) := by decide +kernel
theorem dL_addRead_19 : decode cL_addRead 19 = .ok (.astore 7, 2) := by decide +kernel
theorem dL_addRead_21 : decode cL_addRead 21 = .ok (.iconst 1, 1) := by decide +kernel
theorem dL_addRead_22 : decode cL_addRead 22 = .ok (.ireturn, 1) := by decide +kernel
theorem dL_addRead_23 : decode cL_addRead 23 = .ok (.astore 7, 2) := by decide +kernel
theorem dL_addRead_25 : decode cL_addRead 25 = .ok (.iconst 2, 1) := by decide +kernel
theorem dL_addRead_26 : decode cL_addRead 26 = .ok (.ireturn, 1) := by decide +kernel
theorem dL_addRead_27 : decode cL_addRead 27 = .ok (.astore 7, 2) := by decide +kernel
theorem dL_addRead_29 : decode cL_addRead 29 = .ok (.iconst 3, 1) := by decide +kernel
theorem dL_addRead_30 : decode cL_addRead 30 = .ok (.ireturn, 1) := by decide +kernel
theorem dL_addRead_31 : decode cL_addRead 31 = .ok (.iconst 0, 1) := by decide +kernel
theorem dL_addRead_32 : decode cL_addRead 32 = .ok (.ireturn, 1) := by decide +kernel
theorem dL_dropReads_0 : decode cL_dropReads 0 = .ok (.aload_n 2, 1) := by decide +kernel
theorem dL_dropReads_1 : decode cL_dropReads 1 = .ok (.iconst 0, 1) := by decide +kernel
theorem dL_dropReads_2 : decode cL_dropReads 2 = .ok (.aload_n 0, 1) := by decide +kernel
theorem dL_dropReads_3 : decode cL_dropReads 3 = .ok (.iload_n 1, 1) := by decide +kernel
theorem dL_dropReads_4 : decode cL_dropReads 4 = .ok (.invokevirtual 23, 3) := by decide +kernel
theorem dL_dropReads_7 : decode cL_dropReads 7 = .ok (.i2l, 1) := by decide +kernel
theorem dL_dropReads_8 : decode cL_dropReads 8 = .ok (.lastore, 1) := by decide +kernel
theorem dL_dropReads_9 : decode cL_dropReads 9 = .ok (.goto 6, 3) := by decide +kernel
theorem dL_dropReads_12 : decode cL_dropReads 12 = .ok (.astore_n 3, 1) := by decide +kernel
theorem dL_dropReads_13 : decode cL_dropReads 13 = .ok (.iconst 1, 1) := by decide +kernel
theorem dL_dropReads_14 : decode cL_dropReads 14 = .ok (.ireturn, 1) := by decide +kernel
theorem dL_dropReads_15 : decode cL_dropReads 15 = .ok (.iconst 0, 1) := by decide +kernel
theorem dL_dropReads_16 : decode cL_dropReads 16 = .ok (.ireturn, 1) := by decide +kernel
theorem dL_setLasting_0 : decode cL_setLasting 0 = .ok (.aload_n 3, 1) := by decide +kernel
theorem dL_setLasting_1 : decode cL_setLasting 1 = .ok (.iconst 0, 1) := by decide +kernel
theorem dL_setLasting_2 : decode cL_setLasting 2 = .ok (.aload_n 0, 1) := by decide +kernel
theorem dL_setLasting_3 : decode cL_setLasting 3 = .ok (.iload_n 1, 1) := by decide +kernel
theorem dL_setLasting_4 : decode cL_setLasting 4 = .ok (.iload_n 2, 1) := by decide +kernel
theorem dL_setLasting_5 : decode cL_setLasting 5 = .ok (.invokevirtual 26, 3) := by decide +kernel
theorem dL_setLasting_8 : decode cL_setLasting 8 = .ok (.ifCond .eq 7, 3) := by decide +kernel
theorem dL_setLasting_11 : decode cL_setLasting 11 = .ok (.lconst 1, 1) := by decide +kernel
theorem dL_setLasting_12 : decode cL_setLasting 12 = .ok (.goto 4, 3) := by decide +kernel
theorem dL_setLasting_15 : decode cL_setLasting 15 = .ok (.lconst 0, 1) := by decide +kernel
theorem dL_setLasting_16 : decode cL_setLasting 16 = .ok (.lastore, 1) := by decide +kernel
theorem dL_setLasting_17 : decode cL_setLasting 17 = .ok (.goto 7, 3) := by decide +kernel
theorem dL_setLasting_20 : decode cL_setLasting 20 = .ok (.astore 4, 2) := by decide +kernel
theorem dL_setLasting_22 : decode cL_setLasting 22 = .ok (.iconst 1, 1) := by decide +kernel
theorem dL_setLasting_23 : decode cL_setLasting 23 = .ok (.ireturn, 1) := by decide +kernel
theorem dL_setLasting_24 : decode cL_setLasting 24 = .ok (.iconst 0, 1) := by decide +kernel
theorem dL_setLasting_25 : decode cL_setLasting 25 = .ok (.ireturn, 1) := by decide +kernel
theorem dL_setField_0 : decode cL_setField 0 = .ok (.aload_n 3, 1) := by decide +kernel
theorem dL_setField_1 : decode cL_setField 1 = .ok (.iconst 0, 1) := by decide +kernel
theorem dL_setField_2 : decode cL_setField 2 = .ok (.aload_n 0, 1) := by decide +kernel
theorem dL_setField_3 : decode cL_setField 3 = .ok (.iload_n 1, 1) := by decide +kernel
theorem dL_setField_4 : decode cL_setField 4 = .ok (.iload_n 2, 1) := by decide +kernel
theorem dL_setField_5 : decode cL_setField 5 = .ok (.invokevirtual 30, 3) := by decide +kernel
theorem dL_setField_8 : decode cL_setField 8 = .ok (.i2l, 1) := by decide +kernel
theorem dL_setField_9 : decode cL_setField 9 = .ok (.lastore, 1) := by decide +kernel
theorem dL_setField_10 : decode cL_setField 10 = .ok (.goto 7, 3) := by decide +kernel
theorem dL_setField_13 : decode cL_setField 13 = .ok (.astore 4, 2) := by decide +kernel
theorem dL_setField_15 : decode cL_setField 15 = .ok (.iconst 1, 1) := by decide +kernel
theorem dL_setField_16 : decode cL_setField 16 = .ok (.ireturn, 1) := by decide +kernel
theorem dL_setField_17 : decode cL_setField 17 = .ok (.iconst 0, 1) := by decide +kernel
theorem dL_setField_18 : decode cL_setField 18 = .ok (.ireturn, 1) := by decide +kernel
theorem dL_setSchedule_0 : decode cL_setSchedule 0 = .ok (.aload_n 3, 1) := by decide +kernel
theorem dL_setSchedule_1 : decode cL_setSchedule 1 = .ok (.iconst 0, 1) := by decide +kernel
theorem dL_setSchedule_2 : decode cL_setSchedule 2 = .ok (.aload_n 0, 1) := by decide +kernel
theorem dL_setSchedule_3 : decode cL_setSchedule 3 = .ok (.iload_n 1, 1) := by decide +kernel
theorem dL_setSchedule_4 : decode cL_setSchedule 4 = .ok (.iload_n 2, 1) := by decide +kernel
theorem dL_setSchedule_5 : decode cL_setSchedule 5 = .ok (.invokevirtual 34, 3) := by decide +kernel
theorem dL_setSchedule_8 : decode cL_setSchedule 8 = .ok (.ifCond .eq 7, 3) := by decide +kernel
theorem dL_setSchedule_11 : decode cL_setSchedule 11 = .ok (.lconst 1, 1) := by decide +kernel
theorem dL_setSchedule_12 : decode cL_setSchedule 12 = .ok (.goto 4, 3) := by decide +kernel
theorem dL_setSchedule_15 : decode cL_setSchedule 15 = .ok (.lconst 0, 1) := by decide +kernel
theorem dL_setSchedule_16 : decode cL_setSchedule 16 = .ok (.lastore, 1) := by decide +kernel
theorem dL_setSchedule_17 : decode cL_setSchedule 17 = .ok (.goto 7, 3) := by decide +kernel
theorem dL_setSchedule_20 : decode cL_setSchedule 20 = .ok (.astore 4, 2) := by decide +kernel
theorem dL_setSchedule_22 : decode cL_setSchedule 22 = .ok (.iconst 1, 1) := by decide +kernel
theorem dL_setSchedule_23 : decode cL_setSchedule 23 = .ok (.ireturn, 1) := by decide +kernel
theorem dL_setSchedule_24 : decode cL_setSchedule 24 = .ok (.iconst 0, 1) := by decide +kernel
theorem dL_setSchedule_25 : decode cL_setSchedule 25 = .ok (.ireturn, 1) := by decide +kernel
theorem dL_setOffset_0 : decode cL_setOffset 0 = .ok (.aload_n 3, 1) := by decide +kernel
theorem dL_setOffset_1 : decode cL_setOffset 1 = .ok (.iconst 0, 1) := by decide +kernel
theorem dL_setOffset_2 : decode cL_setOffset 2 = .ok (.aload_n 0, 1) := by decide +kernel
theorem dL_setOffset_3 : decode cL_setOffset 3 = .ok (.iload_n 1, 1) := by decide +kernel
theorem dL_setOffset_4 : decode cL_setOffset 4 = .ok (.iload_n 2, 1) := by decide +kernel
theorem dL_setOffset_5 : decode cL_setOffset 5 = .ok (.invokevirtual 38, 3) := by decide +kernel
theorem dL_setOffset_8 : decode cL_setOffset 8 = .ok (.ifCond .eq 7, 3) := by decide +kernel
theorem dL_setOffset_11 : decode cL_setOffset 11 = .ok (.lconst 1, 1) := by decide +kernel
theorem dL_setOffset_12 : decode cL_setOffset 12 = .ok (.goto 4, 3) := by decide +kernel
theorem dL_setOffset_15 : decode cL_setOffset 15 = .ok (.lconst 0, 1) := by decide +kernel
theorem dL_setOffset_16 : decode cL_setOffset 16 = .ok (.lastore, 1) := by decide +kernel
theorem dL_setOffset_17 : decode cL_setOffset 17 = .ok (.goto 11, 3) := by decide +kernel
theorem dL_setOffset_20 : decode cL_setOffset 20 = .ok (.astore 4, 2) := by decide +kernel
theorem dL_setOffset_22 : decode cL_setOffset 22 = .ok (.iconst 1, 1) := by decide +kernel
theorem dL_setOffset_23 : decode cL_setOffset 23 = .ok (.ireturn, 1) := by decide +kernel
theorem dL_setOffset_24 : decode cL_setOffset 24 = .ok (.astore 4, 2) := by decide +kernel
theorem dL_setOffset_26 : decode cL_setOffset 26 = .ok (.iconst 2, 1) := by decide +kernel
theorem dL_setOffset_27 : decode cL_setOffset 27 = .ok (.ireturn, 1) := by decide +kernel
theorem dL_setOffset_28 : decode cL_setOffset 28 = .ok (.iconst 0, 1) := by decide +kernel
theorem dL_setOffset_29 : decode cL_setOffset 29 = .ok (.ireturn, 1) := by decide +kernel
theorem dL_isAllowedWith_0 : decode cL_isAllowedWith 0 = .ok (.aload_n 3, 1) := by decide +kernel
theorem dL_isAllowedWith_1 : decode cL_isAllowedWith 1 = .ok (.iconst 0, 1) := by decide +kernel
theorem dL_isAllowedWith_2 : decode cL_isAllowedWith 2 = .ok (.aload_n 0, 1) := by decide +kernel
theorem dL_isAllowedWith_3 : decode cL_isAllowedWith 3 = .ok (.iload_n 1, 1) := by decide +kernel
theorem dL_isAllowedWith_4 : decode cL_isAllowedWith 4 = .ok (.iload_n 2, 1) := by decide +kernel
theorem dL_isAllowedWith_5 : decode cL_isAllowedWith 5 = .ok (.invokevirtual 41, 3) := by decide +kernel
theorem dL_isAllowedWith_8 : decode cL_isAllowedWith 8 = .ok (.ifCond .eq 7, 3) := by decide +kernel
theorem dL_isAllowedWith_11 : decode cL_isAllowedWith 11 = .ok (.lconst 1, 1) := by decide +kernel
theorem dL_isAllowedWith_12 : decode cL_isAllowedWith 12 = .ok (.goto 4, 3) := by decide +kernel
theorem dL_isAllowedWith_15 : decode cL_isAllowedWith 15 = .ok (.lconst 0, 1) := by decide +kernel
theorem dL_isAllowedWith_16 : decode cL_isAllowedWith 16 = .ok (.lastore, 1) := by decide +kernel
theorem dL_isAllowedWith_17 : decode cL_isAllowedWith 17 = .ok (.goto 7, 3) := by decide +kernel
theorem dL_isAllowedWith_20 : decode cL_isAllowedWith 20 = .ok (.astore 4, 2) := by decide +kernel
theorem dL_isAllowedWith_22 : decode cL_isAllowedWith 22 = .ok (.iconst 1, 1) := by decide +kernel
theorem dL_isAllowedWith_23 : decode cL_isAllowedWith 23 = .ok (.ireturn, 1) := by decide +kernel
theorem dL_isAllowedWith_24 : decode cL_isAllowedWith 24 = .ok (.iconst 0, 1) := by decide +kernel
theorem dL_isAllowedWith_25 : decode cL_isAllowedWith 25 = .ok (.ireturn, 1) := by decide +kernel
theorem dL_isReadInOrder_0 : decode cL_isReadInOrder 0 = .ok (.aload_n 3, 1) := by decide +kernel
theorem dL_isReadInOrder_1 : decode cL_isReadInOrder 1 = .ok (.iconst 0, 1) := by decide +kernel
theorem dL_isReadInOrder_2 : decode cL_isReadInOrder 2 = .ok (.aload_n 0, 1) := by decide +kernel
theorem dL_isReadInOrder_3 : decode cL_isReadInOrder 3 = .ok (.iload_n 1, 1) := by decide +kernel
theorem dL_isReadInOrder_4 : decode cL_isReadInOrder 4 = .ok (.iload_n 2, 1) := by decide +kernel
theorem dL_isReadInOrder_5 : decode cL_isReadInOrder 5 = .ok (.invokevirtual 44, 3) := by decide +kernel
theorem dL_isReadInOrder_8 : decode cL_isReadInOrder 8 = .ok (.ifCond .eq 7, 3) := by decide +kernel
theorem dL_isReadInOrder_11 : decode cL_isReadInOrder 11 = .ok (.lconst 1, 1) := by decide +kernel
theorem dL_isReadInOrder_12 : decode cL_isReadInOrder 12 = .ok (.goto 4, 3) := by decide +kernel
theorem dL_isReadInOrder_15 : decode cL_isReadInOrder 15 = .ok (.lconst 0, 1) := by decide +kernel
theorem dL_isReadInOrder_16 : decode cL_isReadInOrder 16 = .ok (.lastore, 1) := by decide +kernel
theorem dL_isReadInOrder_17 : decode cL_isReadInOrder 17 = .ok (.goto 7, 3) := by decide +kernel
theorem dL_isReadInOrder_20 : decode cL_isReadInOrder 20 = .ok (.astore 4, 2) := by decide +kernel
theorem dL_isReadInOrder_22 : decode cL_isReadInOrder 22 = .ok (.iconst 1, 1) := by decide +kernel
theorem dL_isReadInOrder_23 : decode cL_isReadInOrder 23 = .ok (.ireturn, 1) := by decide +kernel
theorem dL_isReadInOrder_24 : decode cL_isReadInOrder 24 = .ok (.iconst 0, 1) := by decide +kernel
theorem dL_isReadInOrder_25 : decode cL_isReadInOrder 25 = .ok (.ireturn, 1) := by decide +kernel
theorem dL_stepOf_0 : decode cL_stepOf 0 = .ok (.aload 4, 2) := by decide +kernel
theorem dL_stepOf_2 : decode cL_stepOf 2 = .ok (.iconst 0, 1) := by decide +kernel
theorem dL_stepOf_3 : decode cL_stepOf 3 = .ok (.aload_n 0, 1) := by decide +kernel
theorem dL_stepOf_4 : decode cL_stepOf 4 = .ok (.iload_n 1, 1) := by decide +kernel
theorem dL_stepOf_5 : decode cL_stepOf 5 = .ok (.iload_n 2, 1) := by decide +kernel
theorem dL_stepOf_6 : decode cL_stepOf 6 = .ok (.iload_n 3, 1) := by decide +kernel
theorem dL_stepOf_7 : decode cL_stepOf 7 = .ok (.invokevirtual 47, 3) := by decide +kernel
theorem dL_stepOf_10 : decode cL_stepOf 10 = .ok (.i2l, 1) := by decide +kernel
theorem dL_stepOf_11 : decode cL_stepOf 11 = .ok (.lastore, 1) := by decide +kernel
theorem dL_stepOf_12 : decode cL_stepOf 12 = .ok (.goto 7, 3) := by decide +kernel
theorem dL_stepOf_15 : decode cL_stepOf 15 = .ok (.astore 5, 2) := by decide +kernel
theorem dL_stepOf_17 : decode cL_stepOf 17 = .ok (.iconst 1, 1) := by decide +kernel
theorem dL_stepOf_18 : decode cL_stepOf 18 = .ok (.ireturn, 1) := by decide +kernel
theorem dL_stepOf_19 : decode cL_stepOf 19 = .ok (.iconst 0, 1) := by decide +kernel
theorem dL_stepOf_20 : decode cL_stepOf 20 = .ok (.ireturn, 1) := by decide +kernel
theorem dL_statementAt_0 : decode cL_statementAt 0 = .ok (.aload_n 2, 1) := by decide +kernel
theorem dL_statementAt_1 : decode cL_statementAt 1 = .ok (.iconst 0, 1) := by decide +kernel
theorem dL_statementAt_2 : decode cL_statementAt 2 = .ok (.aload_n 0, 1) := by decide +kernel
theorem dL_statementAt_3 : decode cL_statementAt 3 = .ok (.iload_n 1, 1) := by decide +kernel
theorem dL_statementAt_4 : decode cL_statementAt 4 = .ok (.invokevirtual 51, 3) := by decide +kernel
theorem dL_statementAt_7 : decode cL_statementAt 7 = .ok (.i2l, 1) := by decide +kernel
theorem dL_statementAt_8 : decode cL_statementAt 8 = .ok (.lastore, 1) := by decide +kernel
theorem dL_statementAt_9 : decode cL_statementAt 9 = .ok (.goto 6, 3) := by decide +kernel
theorem dL_statementAt_12 : decode cL_statementAt 12 = .ok (.astore_n 3, 1) := by decide +kernel
theorem dL_statementAt_13 : decode cL_statementAt 13 = .ok (.iconst 1, 1) := by decide +kernel
theorem dL_statementAt_14 : decode cL_statementAt 14 = .ok (.ireturn, 1) := by decide +kernel
theorem dL_statementAt_15 : decode cL_statementAt 15 = .ok (.iconst 0, 1) := by decide +kernel
theorem dL_statementAt_16 : decode cL_statementAt 16 = .ok (.ireturn, 1) := by decide +kernel
theorem dL_pointAt_0 : decode cL_pointAt 0 = .ok (.aload_n 2, 1) := by decide +kernel
theorem dL_pointAt_1 : decode cL_pointAt 1 = .ok (.iconst 0, 1) := by decide +kernel
theorem dL_pointAt_2 : decode cL_pointAt 2 = .ok (.aload_n 0, 1) := by decide +kernel
theorem dL_pointAt_3 : decode cL_pointAt 3 = .ok (.iload_n 1, 1) := by decide +kernel
theorem dL_pointAt_4 : decode cL_pointAt 4 = .ok (.invokevirtual 54, 3) := by decide +kernel
theorem dL_pointAt_7 : decode cL_pointAt 7 = .ok (.i2l, 1) := by decide +kernel
theorem dL_pointAt_8 : decode cL_pointAt 8 = .ok (.lastore, 1) := by decide +kernel
theorem dL_pointAt_9 : decode cL_pointAt 9 = .ok (.goto 6, 3) := by decide +kernel
theorem dL_pointAt_12 : decode cL_pointAt 12 = .ok (.astore_n 3, 1) := by decide +kernel
theorem dL_pointAt_13 : decode cL_pointAt 13 = .ok (.iconst 1, 1) := by decide +kernel
theorem dL_pointAt_14 : decode cL_pointAt 14 = .ok (.ireturn, 1) := by decide +kernel
theorem dL_pointAt_15 : decode cL_pointAt 15 = .ok (.iconst 0, 1) := by decide +kernel
theorem dL_pointAt_16 : decode cL_pointAt 16 = .ok (.ireturn, 1) := by decide +kernel
theorem dL_endOf_0 : decode cL_endOf 0 = .ok (.aload 4, 2) := by decide +kernel
theorem dL_endOf_2 : decode cL_endOf 2 = .ok (.iconst 0, 1) := by decide +kernel
theorem dL_endOf_3 : decode cL_endOf 3 = .ok (.aload_n 0, 1) := by decide +kernel
theorem dL_endOf_4 : decode cL_endOf 4 = .ok (.iload_n 1, 1) := by decide +kernel
theorem dL_endOf_5 : decode cL_endOf 5 = .ok (.iload_n 2, 1) := by decide +kernel
theorem dL_endOf_6 : decode cL_endOf 6 = .ok (.iload_n 3, 1) := by decide +kernel
theorem dL_endOf_7 : decode cL_endOf 7 = .ok (.invokevirtual 57, 3) := by decide +kernel
theorem dL_endOf_10 : decode cL_endOf 10 = .ok (.i2l, 1) := by decide +kernel
theorem dL_endOf_11 : decode cL_endOf 11 = .ok (.lastore, 1) := by decide +kernel
theorem dL_endOf_12 : decode cL_endOf 12 = .ok (.goto 7, 3) := by decide +kernel
theorem dL_endOf_15 : decode cL_endOf 15 = .ok (.astore 5, 2) := by decide +kernel
theorem dL_endOf_17 : decode cL_endOf 17 = .ok (.iconst 1, 1) := by decide +kernel
theorem dL_endOf_18 : decode cL_endOf 18 = .ok (.ireturn, 1) := by decide +kernel
theorem dL_endOf_19 : decode cL_endOf 19 = .ok (.iconst 0, 1) := by decide +kernel
theorem dL_endOf_20 : decode cL_endOf 20 = .ok (.ireturn, 1) := by decide +kernel
theorem dL_liveAt_0 : decode cL_liveAt 0 = .ok (.aload_n 2, 1) := by decide +kernel
theorem dL_liveAt_1 : decode cL_liveAt 1 = .ok (.iconst 0, 1) := by decide +kernel
theorem dL_liveAt_2 : decode cL_liveAt 2 = .ok (.aload_n 0, 1) := by decide +kernel
theorem dL_liveAt_3 : decode cL_liveAt 3 = .ok (.iload_n 1, 1) := by decide +kernel
theorem dL_liveAt_4 : decode cL_liveAt 4 = .ok (.invokevirtual 60, 3) := by decide +kernel
theorem dL_liveAt_7 : decode cL_liveAt 7 = .ok (.i2l, 1) := by decide +kernel
theorem dL_liveAt_8 : decode cL_liveAt 8 = .ok (.lastore, 1) := by decide +kernel
theorem dL_liveAt_9 : decode cL_liveAt 9 = .ok (.goto 6, 3) := by decide +kernel
theorem dL_liveAt_12 : decode cL_liveAt 12 = .ok (.astore_n 3, 1) := by decide +kernel
theorem dL_liveAt_13 : decode cL_liveAt 13 = .ok (.iconst 1, 1) := by decide +kernel
theorem dL_liveAt_14 : decode cL_liveAt 14 = .ok (.ireturn, 1) := by decide +kernel
theorem dL_liveAt_15 : decode cL_liveAt 15 = .ok (.iconst 0, 1) := by decide +kernel
theorem dL_liveAt_16 : decode cL_liveAt 16 = .ok (.ireturn, 1) := by decide +kernel
theorem dL_mostLiveOf_0 : decode cL_mostLiveOf 0 = .ok (.aload_n 2, 1) := by decide +kernel
theorem dL_mostLiveOf_1 : decode cL_mostLiveOf 1 = .ok (.iconst 0, 1) := by decide +kernel
theorem dL_mostLiveOf_2 : decode cL_mostLiveOf 2 = .ok (.aload_n 0, 1) := by decide +kernel
theorem dL_mostLiveOf_3 : decode cL_mostLiveOf 3 = .ok (.iload_n 1, 1) := by decide +kernel
theorem dL_mostLiveOf_4 : decode cL_mostLiveOf 4 = .ok (.invokevirtual 63, 3) := by decide +kernel
theorem dL_mostLiveOf_7 : decode cL_mostLiveOf 7 = .ok (.i2l, 1) := by decide +kernel
theorem dL_mostLiveOf_8 : decode cL_mostLiveOf 8 = .ok (.lastore, 1) := by decide +kernel
theorem dL_mostLiveOf_9 : decode cL_mostLiveOf 9 = .ok (.goto 6, 3) := by decide +kernel
theorem dL_mostLiveOf_12 : decode cL_mostLiveOf 12 = .ok (.astore_n 3, 1) := by decide +kernel
theorem dL_mostLiveOf_13 : decode cL_mostLiveOf 13 = .ok (.iconst 1, 1) := by decide +kernel
theorem dL_mostLiveOf_14 : decode cL_mostLiveOf 14 = .ok (.ireturn, 1) := by decide +kernel
theorem dL_mostLiveOf_15 : decode cL_mostLiveOf 15 = .ok (.iconst 0, 1) := by decide +kernel
theorem dL_mostLiveOf_16 : decode cL_mostLiveOf 16 = .ok (.ireturn, 1) := by decide +kernel
theorem dL_conflictsOf_0 : decode cL_conflictsOf 0 = .ok (.aload 5, 2) := by decide +kernel
theorem dL_conflictsOf_2 : decode cL_conflictsOf 2 = .ok (.iconst 0, 1) := by decide +kernel
theorem dL_conflictsOf_3 : decode cL_conflictsOf 3 = .ok (.aload_n 0, 1) := by decide +kernel
theorem dL_conflictsOf_4 : decode cL_conflictsOf 4 = .ok (.iload_n 1, 1) := by decide +kernel
theorem dL_conflictsOf_5 : decode cL_conflictsOf 5 = .ok (.iload_n 2, 1) := by decide +kernel
theorem dL_conflictsOf_6 : decode cL_conflictsOf 6 = .ok (.iload_n 3, 1) := by decide +kernel
theorem dL_conflictsOf_7 : decode cL_conflictsOf 7 = .ok (.iload 4, 2) := by decide +kernel
theorem dL_conflictsOf_9 : decode cL_conflictsOf 9 = .ok (.invokevirtual 66, 3) := by decide +kernel
theorem dL_conflictsOf_12 : decode cL_conflictsOf 12 = .ok (.i2l, 1) := by decide +kernel
theorem dL_conflictsOf_13 : decode cL_conflictsOf 13 = .ok (.lastore, 1) := by decide +kernel
theorem dL_conflictsOf_14 : decode cL_conflictsOf 14 = .ok (.goto 7, 3) := by decide +kernel
theorem dL_conflictsOf_17 : decode cL_conflictsOf 17 = .ok (.astore 6, 2) := by decide +kernel
theorem dL_conflictsOf_19 : decode cL_conflictsOf 19 = .ok (.iconst 1, 1) := by decide +kernel
theorem dL_conflictsOf_20 : decode cL_conflictsOf 20 = .ok (.ireturn, 1) := by decide +kernel
theorem dL_conflictsOf_21 : decode cL_conflictsOf 21 = .ok (.iconst 0, 1) := by decide +kernel
theorem dL_conflictsOf_22 : decode cL_conflictsOf 22 = .ok (.ireturn, 1) := by decide +kernel
theorem dL_conflictPairs_0 : decode cL_conflictPairs 0 = .ok (.aload_n 2, 1) := by decide +kernel
theorem dL_conflictPairs_1 : decode cL_conflictPairs 1 = .ok (.iconst 0, 1) := by decide +kernel
theorem dL_conflictPairs_2 : decode cL_conflictPairs 2 = .ok (.aload_n 0, 1) := by decide +kernel
theorem dL_conflictPairs_3 : decode cL_conflictPairs 3 = .ok (.iload_n 1, 1) := by decide +kernel
theorem dL_conflictPairs_4 : decode cL_conflictPairs 4 = .ok (.invokevirtual 70, 3) := by decide +kernel
theorem dL_conflictPairs_7 : decode cL_conflictPairs 7 = .ok (.i2l, 1) := by decide +kernel
theorem dL_conflictPairs_8 : decode cL_conflictPairs 8 = .ok (.lastore, 1) := by decide +kernel
theorem dL_conflictPairs_9 : decode cL_conflictPairs 9 = .ok (.goto 6, 3) := by decide +kernel
theorem dL_conflictPairs_12 : decode cL_conflictPairs 12 = .ok (.astore_n 3, 1) := by decide +kernel
theorem dL_conflictPairs_13 : decode cL_conflictPairs 13 = .ok (.iconst 1, 1) := by decide +kernel
theorem dL_conflictPairs_14 : decode cL_conflictPairs 14 = .ok (.ireturn, 1) := by decide +kernel
theorem dL_conflictPairs_15 : decode cL_conflictPairs 15 = .ok (.iconst 0, 1) := by decide +kernel
theorem dL_conflictPairs_16 : decode cL_conflictPairs 16 = .ok (.ireturn, 1) := by decide +kernel
theorem dL_keepWhole_0 : decode cL_keepWhole 0 = .ok (.aload_n 2, 1) := by decide +kernel
theorem dL_keepWhole_1 : decode cL_keepWhole 1 = .ok (.iconst 0, 1) := by decide +kernel
theorem dL_keepWhole_2 : decode cL_keepWhole 2 = .ok (.aload_n 0, 1) := by decide +kernel
theorem dL_keepWhole_3 : decode cL_keepWhole 3 = .ok (.iload_n 1, 1) := by decide +kernel
theorem dL_keepWhole_4 : decode cL_keepWhole 4 = .ok (.invokevirtual 73, 3) := by decide +kernel
theorem dL_keepWhole_7 : decode cL_keepWhole 7 = .ok (.i2l, 1) := by decide +kernel
theorem dL_keepWhole_8 : decode cL_keepWhole 8 = .ok (.lastore, 1) := by decide +kernel
theorem dL_keepWhole_9 : decode cL_keepWhole 9 = .ok (.goto 6, 3) := by decide +kernel
theorem dL_keepWhole_12 : decode cL_keepWhole 12 = .ok (.astore_n 3, 1) := by decide +kernel
theorem dL_keepWhole_13 : decode cL_keepWhole 13 = .ok (.iconst 1, 1) := by decide +kernel
theorem dL_keepWhole_14 : decode cL_keepWhole 14 = .ok (.ireturn, 1) := by decide +kernel
theorem dL_keepWhole_15 : decode cL_keepWhole 15 = .ok (.iconst 0, 1) := by decide +kernel
theorem dL_keepWhole_16 : decode cL_keepWhole 16 = .ok (.ireturn, 1) := by decide +kernel
theorem dL_keepRest_0 : decode cL_keepRest 0 = .ok (.aload_n 3, 1) := by decide +kernel
theorem dL_keepRest_1 : decode cL_keepRest 1 = .ok (.iconst 0, 1) := by decide +kernel
theorem dL_keepRest_2 : decode cL_keepRest 2 = .ok (.aload_n 0, 1) := by decide +kernel
theorem dL_keepRest_3 : decode cL_keepRest 3 = .ok (.iload_n 1, 1) := by decide +kernel
theorem dL_keepRest_4 : decode cL_keepRest 4 = .ok (.iload_n 2, 1) := by decide +kernel
theorem dL_keepRest_5 : decode cL_keepRest 5 = .ok (.invokevirtual 76, 3) := by decide +kernel
theorem dL_keepRest_8 : decode cL_keepRest 8 = .ok (.i2l, 1) := by decide +kernel
theorem dL_keepRest_9 : decode cL_keepRest 9 = .ok (.lastore, 1) := by decide +kernel
theorem dL_keepRest_10 : decode cL_keepRest 10 = .ok (.goto 11, 3) := by decide +kernel
theorem dL_keepRest_13 : decode cL_keepRest 13 = .ok (.astore 4, 2) := by decide +kernel
theorem dL_keepRest_15 : decode cL_keepRest 15 = .ok (.iconst 1, 1) := by decide +kernel
theorem dL_keepRest_16 : decode cL_keepRest 16 = .ok (.ireturn, 1) := by decide +kernel
theorem dL_keepRest_17 : decode cL_keepRest 17 = .ok (.astore 4, 2) := by decide +kernel
theorem dL_keepRest_19 : decode cL_keepRest 19 = .ok (.iconst 2, 1) := by decide +kernel
theorem dL_keepRest_20 : decode cL_keepRest 20 = .ok (.ireturn, 1) := by decide +kernel
theorem dL_keepRest_21 : decode cL_keepRest 21 = .ok (.iconst 0, 1) := by decide +kernel
theorem dL_keepRest_22 : decode cL_keepRest 22 = .ok (.ireturn, 1) := by decide +kernel
theorem dL_keepTwoRests_0 : decode cL_keepTwoRests 0 = .ok (.aload 4, 2) := by decide +kernel
theorem dL_keepTwoRests_2 : decode cL_keepTwoRests 2 = .ok (.iconst 0, 1) := by decide +kernel
theorem dL_keepTwoRests_3 : decode cL_keepTwoRests 3 = .ok (.aload_n 0, 1) := by decide +kernel
theorem dL_keepTwoRests_4 : decode cL_keepTwoRests 4 = .ok (.iload_n 1, 1) := by decide +kernel
theorem dL_keepTwoRests_5 : decode cL_keepTwoRests 5 = .ok (.iload_n 2, 1) := by decide +kernel
theorem dL_keepTwoRests_6 : decode cL_keepTwoRests 6 = .ok (.iload_n 3, 1) := by decide +kernel
theorem dL_keepTwoRests_7 : decode cL_keepTwoRests 7 = .ok (.invokevirtual 79, 3) := by decide +kernel
theorem dL_keepTwoRests_10 : decode cL_keepTwoRests 10 = .ok (.i2l, 1) := by decide +kernel
theorem dL_keepTwoRests_11 : decode cL_keepTwoRests 11 = .ok (.lastore, 1) := by decide +kernel
theorem dL_keepTwoRests_12 : decode cL_keepTwoRests 12 = .ok (.goto 11, 3) := by decide +kernel
theorem dL_keepTwoRests_15 : decode cL_keepTwoRests 15 = .ok (.astore 5, 2) := by decide +kernel
theorem dL_keepTwoRests_17 : decode cL_keepTwoRests 17 = .ok (.iconst 1, 1) := by decide +kernel
theorem dL_keepTwoRests_18 : decode cL_keepTwoRests 18 = .ok (.ireturn, 1) := by decide +kernel
theorem dL_keepTwoRests_19 : decode cL_keepTwoRests 19 = .ok (.astore 5, 2) := by decide +kernel
theorem dL_keepTwoRests_21 : decode cL_keepTwoRests 21 = .ok (.iconst 2, 1) := by decide +kernel
theorem dL_keepTwoRests_22 : decode cL_keepTwoRests 22 = .ok (.ireturn, 1) := by decide +kernel
theorem dL_keepTwoRests_23 : decode cL_keepTwoRests 23 = .ok (.iconst 0, 1) := by decide +kernel
theorem dL_keepTwoRests_24 : decode cL_keepTwoRests 24 = .ok (.ireturn, 1) := by decide +kernel
theorem dL_keepSlant_0 : decode cL_keepSlant 0 = .ok (.aload 4, 2) := by decide +kernel
theorem dL_keepSlant_2 : decode cL_keepSlant 2 = .ok (.iconst 0, 1) := by decide +kernel
theorem dL_keepSlant_3 : decode cL_keepSlant 3 = .ok (.aload_n 0, 1) := by decide +kernel
theorem dL_keepSlant_4 : decode cL_keepSlant 4 = .ok (.iload_n 1, 1) := by decide +kernel
theorem dL_keepSlant_5 : decode cL_keepSlant 5 = .ok (.iload_n 2, 1) := by decide +kernel
theorem dL_keepSlant_6 : decode cL_keepSlant 6 = .ok (.iload_n 3, 1) := by decide +kernel
theorem dL_keepSlant_7 : decode cL_keepSlant 7 = .ok (.invokevirtual 82, 3) := by decide +kernel
theorem dL_keepSlant_10 : decode cL_keepSlant 10 = .ok (.i2l, 1) := by decide +kernel
theorem dL_keepSlant_11 : decode cL_keepSlant 11 = .ok (.lastore, 1) := by decide +kernel
theorem dL_keepSlant_12 : decode cL_keepSlant 12 = .ok (.goto 11, 3) := by decide +kernel
theorem dL_keepSlant_15 : decode cL_keepSlant 15 = .ok (.astore 5, 2) := by decide +kernel
theorem dL_keepSlant_17 : decode cL_keepSlant 17 = .ok (.iconst 1, 1) := by decide +kernel
theorem dL_keepSlant_18 : decode cL_keepSlant 18 = .ok (.ireturn, 1) := by decide +kernel
theorem dL_keepSlant_19 : decode cL_keepSlant 19 = .ok (.astore 5, 2) := by decide +kernel
theorem dL_keepSlant_21 : decode cL_keepSlant 21 = .ok (.iconst 2, 1) := by decide +kernel
theorem dL_keepSlant_22 : decode cL_keepSlant 22 = .ok (.ireturn, 1) := by decide +kernel
theorem dL_keepSlant_23 : decode cL_keepSlant 23 = .ok (.iconst 0, 1) := by decide +kernel
theorem dL_keepSlant_24 : decode cL_keepSlant 24 = .ok (.ireturn, 1) := by decide +kernel
theorem dL_windowSize_0 : decode cL_windowSize 0 = .ok (.aload_n 2, 1) := by decide +kernel
theorem dL_windowSize_1 : decode cL_windowSize 1 = .ok (.iconst 0, 1) := by decide +kernel
theorem dL_windowSize_2 : decode cL_windowSize 2 = .ok (.aload_n 0, 1) := by decide +kernel
theorem dL_windowSize_3 : decode cL_windowSize 3 = .ok (.iload_n 1, 1) := by decide +kernel
theorem dL_windowSize_4 : decode cL_windowSize 4 = .ok (.invokevirtual 85, 3) := by decide +kernel
theorem dL_windowSize_7 : decode cL_windowSize 7 = .ok (.i2l, 1) := by decide +kernel
theorem dL_windowSize_8 : decode cL_windowSize 8 = .ok (.lastore, 1) := by decide +kernel
theorem dL_windowSize_9 : decode cL_windowSize 9 = .ok (.goto 6, 3) := by decide +kernel
theorem dL_windowSize_12 : decode cL_windowSize 12 = .ok (.astore_n 3, 1) := by decide +kernel
theorem dL_windowSize_13 : decode cL_windowSize 13 = .ok (.iconst 1, 1) := by decide +kernel
theorem dL_windowSize_14 : decode cL_windowSize 14 = .ok (.ireturn, 1) := by decide +kernel
theorem dL_windowSize_15 : decode cL_windowSize 15 = .ok (.iconst 0, 1) := by decide +kernel
theorem dL_windowSize_16 : decode cL_windowSize 16 = .ok (.ireturn, 1) := by decide +kernel
theorem dL_placeOf_0 : decode cL_placeOf 0 = .ok (.aload 4, 2) := by decide +kernel
theorem dL_placeOf_2 : decode cL_placeOf 2 = .ok (.iconst 0, 1) := by decide +kernel
theorem dL_placeOf_3 : decode cL_placeOf 3 = .ok (.aload_n 0, 1) := by decide +kernel
theorem dL_placeOf_4 : decode cL_placeOf 4 = .ok (.iload_n 1, 1) := by decide +kernel
theorem dL_placeOf_5 : decode cL_placeOf 5 = .ok (.iload_n 2, 1) := by decide +kernel
theorem dL_placeOf_6 : decode cL_placeOf 6 = .ok (.iload_n 3, 1) := by decide +kernel
theorem dL_placeOf_7 : decode cL_placeOf 7 = .ok (.invokevirtual 88, 3) := by decide +kernel
theorem dL_placeOf_10 : decode cL_placeOf 10 = .ok (.i2l, 1) := by decide +kernel
theorem dL_placeOf_11 : decode cL_placeOf 11 = .ok (.lastore, 1) := by decide +kernel
theorem dL_placeOf_12 : decode cL_placeOf 12 = .ok (.goto 7, 3) := by decide +kernel
theorem dL_placeOf_15 : decode cL_placeOf 15 = .ok (.astore 5, 2) := by decide +kernel
theorem dL_placeOf_17 : decode cL_placeOf 17 = .ok (.iconst 1, 1) := by decide +kernel
theorem dL_placeOf_18 : decode cL_placeOf 18 = .ok (.ireturn, 1) := by decide +kernel
theorem dL_placeOf_19 : decode cL_placeOf 19 = .ok (.iconst 0, 1) := by decide +kernel
theorem dL_placeOf_20 : decode cL_placeOf 20 = .ok (.ireturn, 1) := by decide +kernel
theorem dL_isRight_0 : decode cL_isRight 0 = .ok (.aload_n 2, 1) := by decide +kernel
theorem dL_isRight_1 : decode cL_isRight 1 = .ok (.iconst 0, 1) := by decide +kernel
theorem dL_isRight_2 : decode cL_isRight 2 = .ok (.aload_n 0, 1) := by decide +kernel
theorem dL_isRight_3 : decode cL_isRight 3 = .ok (.iload_n 1, 1) := by decide +kernel
theorem dL_isRight_4 : decode cL_isRight 4 = .ok (.invokevirtual 91, 3) := by decide +kernel
theorem dL_isRight_7 : decode cL_isRight 7 = .ok (.ifCond .eq 7, 3) := by decide +kernel
theorem dL_isRight_10 : decode cL_isRight 10 = .ok (.lconst 1, 1) := by decide +kernel
theorem dL_isRight_11 : decode cL_isRight 11 = .ok (.goto 4, 3) := by decide +kernel
theorem dL_isRight_14 : decode cL_isRight 14 = .ok (.lconst 0, 1) := by decide +kernel
theorem dL_isRight_15 : decode cL_isRight 15 = .ok (.lastore, 1) := by decide +kernel
theorem dL_isRight_16 : decode cL_isRight 16 = .ok (.goto 6, 3) := by decide +kernel
theorem dL_isRight_19 : decode cL_isRight 19 = .ok (.astore_n 3, 1) := by decide +kernel
theorem dL_isRight_20 : decode cL_isRight 20 = .ok (.iconst 1, 1) := by decide +kernel
theorem dL_isRight_21 : decode cL_isRight 21 = .ok (.ireturn, 1) := by decide +kernel
theorem dL_isRight_22 : decode cL_isRight 22 = .ok (.iconst 0, 1) := by decide +kernel
theorem dL_isRight_23 : decode cL_isRight 23 = .ok (.ireturn, 1) := by decide +kernel
theorem dL_leastRest_0 : decode cL_leastRest 0 = .ok (.aload_n 2, 1) := by decide +kernel
theorem dL_leastRest_1 : decode cL_leastRest 1 = .ok (.iconst 0, 1) := by decide +kernel
theorem dL_leastRest_2 : decode cL_leastRest 2 = .ok (.aload_n 0, 1) := by decide +kernel
theorem dL_leastRest_3 : decode cL_leastRest 3 = .ok (.iload_n 1, 1) := by decide +kernel
theorem dL_leastRest_4 : decode cL_leastRest 4 = .ok (.invokevirtual 95, 3) := by decide +kernel
theorem dL_leastRest_7 : decode cL_leastRest 7 = .ok (.i2l, 1) := by decide +kernel
theorem dL_leastRest_8 : decode cL_leastRest 8 = .ok (.lastore, 1) := by decide +kernel
theorem dL_leastRest_9 : decode cL_leastRest 9 = .ok (.goto 6, 3) := by decide +kernel
theorem dL_leastRest_12 : decode cL_leastRest 12 = .ok (.astore_n 3, 1) := by decide +kernel
theorem dL_leastRest_13 : decode cL_leastRest 13 = .ok (.iconst 1, 1) := by decide +kernel
theorem dL_leastRest_14 : decode cL_leastRest 14 = .ok (.ireturn, 1) := by decide +kernel
theorem dL_leastRest_15 : decode cL_leastRest 15 = .ok (.iconst 0, 1) := by decide +kernel
theorem dL_leastRest_16 : decode cL_leastRest 16 = .ok (.ireturn, 1) := by decide +kernel
theorem dL_leastRestByDifferences_0 : decode cL_leastRestByDifferences 0 = .ok (.aload_n 2, 1) := by decide +kernel
theorem dL_leastRestByDifferences_1 : decode cL_leastRestByDifferences 1 = .ok (.iconst 0, 1) := by decide +kernel
theorem dL_leastRestByDifferences_2 : decode cL_leastRestByDifferences 2 = .ok (.aload_n 0, 1) := by decide +kernel
theorem dL_leastRestByDifferences_3 : decode cL_leastRestByDifferences 3 = .ok (.iload_n 1, 1) := by decide +kernel
theorem dL_leastRestByDifferences_4 : decode cL_leastRestByDifferences 4 = .ok (.invokevirtual 98, 3) := by decide +kernel
theorem dL_leastRestByDifferences_7 : decode cL_leastRestByDifferences 7 = .ok (.i2l, 1) := by decide +kernel
theorem dL_leastRestByDifferences_8 : decode cL_leastRestByDifferences 8 = .ok (.lastore, 1) := by decide +kernel
theorem dL_leastRestByDifferences_9 : decode cL_leastRestByDifferences 9 = .ok (.goto 6, 3) := by decide +kernel
theorem dL_leastRestByDifferences_12 : decode cL_leastRestByDifferences 12 = .ok (.astore_n 3, 1) := by decide +kernel
theorem dL_leastRestByDifferences_13 : decode cL_leastRestByDifferences 13 = .ok (.iconst 1, 1) := by decide +kernel
theorem dL_leastRestByDifferences_14 : decode cL_leastRestByDifferences 14 = .ok (.ireturn, 1) := by decide +kernel
theorem dL_leastRestByDifferences_15 : decode cL_leastRestByDifferences 15 = .ok (.iconst 0, 1) := by decide +kernel
theorem dL_leastRestByDifferences_16 : decode cL_leastRestByDifferences 16 = .ok (.ireturn, 1) := by decide +kernel
theorem dL_leastRowRest_0 : decode cL_leastRowRest 0 = .ok (.aload_n 2, 1) := by decide +kernel
theorem dL_leastRowRest_1 : decode cL_leastRowRest 1 = .ok (.iconst 0, 1) := by decide +kernel
theorem dL_leastRowRest_2 : decode cL_leastRowRest 2 = .ok (.aload_n 0, 1) := by decide +kernel
theorem dL_leastRowRest_3 : decode cL_leastRowRest 3 = .ok (.iload_n 1, 1) := by decide +kernel
theorem dL_leastRowRest_4 : decode cL_leastRowRest 4 = .ok (.invokevirtual 101, 3) := by decide +kernel
theorem dL_leastRowRest_7 : decode cL_leastRowRest 7 = .ok (.i2l, 1) := by decide +kernel
theorem dL_leastRowRest_8 : decode cL_leastRowRest 8 = .ok (.lastore, 1) := by decide +kernel
theorem dL_leastRowRest_9 : decode cL_leastRowRest 9 = .ok (.goto 6, 3) := by decide +kernel
theorem dL_leastRowRest_12 : decode cL_leastRowRest 12 = .ok (.astore_n 3, 1) := by decide +kernel
theorem dL_leastRowRest_13 : decode cL_leastRowRest 13 = .ok (.iconst 1, 1) := by decide +kernel
theorem dL_leastRowRest_14 : decode cL_leastRowRest 14 = .ok (.ireturn, 1) := by decide +kernel
theorem dL_leastRowRest_15 : decode cL_leastRowRest 15 = .ok (.iconst 0, 1) := by decide +kernel
theorem dL_leastRowRest_16 : decode cL_leastRowRest 16 = .ok (.ireturn, 1) := by decide +kernel
theorem dL_leastColumnRest_0 : decode cL_leastColumnRest 0 = .ok (.aload_n 2, 1) := by decide +kernel
theorem dL_leastColumnRest_1 : decode cL_leastColumnRest 1 = .ok (.iconst 0, 1) := by decide +kernel
theorem dL_leastColumnRest_2 : decode cL_leastColumnRest 2 = .ok (.aload_n 0, 1) := by decide +kernel
theorem dL_leastColumnRest_3 : decode cL_leastColumnRest 3 = .ok (.iload_n 1, 1) := by decide +kernel
theorem dL_leastColumnRest_4 : decode cL_leastColumnRest 4 = .ok (.invokevirtual 104, 3) := by decide +kernel
theorem dL_leastColumnRest_7 : decode cL_leastColumnRest 7 = .ok (.i2l, 1) := by decide +kernel
theorem dL_leastColumnRest_8 : decode cL_leastColumnRest 8 = .ok (.lastore, 1) := by decide +kernel
theorem dL_leastColumnRest_9 : decode cL_leastColumnRest 9 = .ok (.goto 6, 3) := by decide +kernel
theorem dL_leastColumnRest_12 : decode cL_leastColumnRest 12 = .ok (.astore_n 3, 1) := by decide +kernel
theorem dL_leastColumnRest_13 : decode cL_leastColumnRest 13 = .ok (.iconst 1, 1) := by decide +kernel
theorem dL_leastColumnRest_14 : decode cL_leastColumnRest 14 = .ok (.ireturn, 1) := by decide +kernel
theorem dL_leastColumnRest_15 : decode cL_leastColumnRest 15 = .ok (.iconst 0, 1) := by decide +kernel
theorem dL_leastColumnRest_16 : decode cL_leastColumnRest 16 = .ok (.ireturn, 1) := by decide +kernel
theorem dL_leastSlantModulus_0 : decode cL_leastSlantModulus 0 = .ok (.aload_n 2, 1) := by decide +kernel
theorem dL_leastSlantModulus_1 : decode cL_leastSlantModulus 1 = .ok (.iconst 0, 1) := by decide +kernel
theorem dL_leastSlantModulus_2 : decode cL_leastSlantModulus 2 = .ok (.aload_n 0, 1) := by decide +kernel
theorem dL_leastSlantModulus_3 : decode cL_leastSlantModulus 3 = .ok (.iload_n 1, 1) := by decide +kernel
theorem dL_leastSlantModulus_4 : decode cL_leastSlantModulus 4 = .ok (.invokevirtual 107, 3) := by decide +kernel
theorem dL_leastSlantModulus_7 : decode cL_leastSlantModulus 7 = .ok (.i2l, 1) := by decide +kernel
theorem dL_leastSlantModulus_8 : decode cL_leastSlantModulus 8 = .ok (.lastore, 1) := by decide +kernel
theorem dL_leastSlantModulus_9 : decode cL_leastSlantModulus 9 = .ok (.goto 6, 3) := by decide +kernel
theorem dL_leastSlantModulus_12 : decode cL_leastSlantModulus 12 = .ok (.astore_n 3, 1) := by decide +kernel
theorem dL_leastSlantModulus_13 : decode cL_leastSlantModulus 13 = .ok (.iconst 1, 1) := by decide +kernel
theorem dL_leastSlantModulus_14 : decode cL_leastSlantModulus 14 = .ok (.ireturn, 1) := by decide +kernel
theorem dL_leastSlantModulus_15 : decode cL_leastSlantModulus 15 = .ok (.iconst 0, 1) := by decide +kernel
theorem dL_leastSlantModulus_16 : decode cL_leastSlantModulus 16 = .ok (.ireturn, 1) := by decide +kernel
theorem dL_leastSlant_0 : decode cL_leastSlant 0 = .ok (.aload_n 2, 1) := by decide +kernel
theorem dL_leastSlant_1 : decode cL_leastSlant 1 = .ok (.iconst 0, 1) := by decide +kernel
theorem dL_leastSlant_2 : decode cL_leastSlant 2 = .ok (.aload_n 0, 1) := by decide +kernel
theorem dL_leastSlant_3 : decode cL_leastSlant 3 = .ok (.iload_n 1, 1) := by decide +kernel
theorem dL_leastSlant_4 : decode cL_leastSlant 4 = .ok (.invokevirtual 110, 3) := by decide +kernel
theorem dL_leastSlant_7 : decode cL_leastSlant 7 = .ok (.i2l, 1) := by decide +kernel
theorem dL_leastSlant_8 : decode cL_leastSlant 8 = .ok (.lastore, 1) := by decide +kernel
theorem dL_leastSlant_9 : decode cL_leastSlant 9 = .ok (.goto 6, 3) := by decide +kernel
theorem dL_leastSlant_12 : decode cL_leastSlant 12 = .ok (.astore_n 3, 1) := by decide +kernel
theorem dL_leastSlant_13 : decode cL_leastSlant 13 = .ok (.iconst 1, 1) := by decide +kernel
theorem dL_leastSlant_14 : decode cL_leastSlant 14 = .ok (.ireturn, 1) := by decide +kernel
theorem dL_leastSlant_15 : decode cL_leastSlant 15 = .ok (.iconst 0, 1) := by decide +kernel
theorem dL_leastSlant_16 : decode cL_leastSlant 16 = .ok (.ireturn, 1) := by decide +kernel
theorem dL_leastJointRest_0 : decode cL_leastJointRest 0 = .ok (.aload_n 3, 1) := by decide +kernel
theorem dL_leastJointRest_1 : decode cL_leastJointRest 1 = .ok (.iconst 0, 1) := by decide +kernel
theorem dL_leastJointRest_2 : decode cL_leastJointRest 2 = .ok (.aload_n 0, 1) := by decide +kernel
theorem dL_leastJointRest_3 : decode cL_leastJointRest 3 = .ok (.iload_n 1, 1) := by decide +kernel
theorem dL_leastJointRest_4 : decode cL_leastJointRest 4 = .ok (.iload_n 2, 1) := by decide +kernel
theorem dL_leastJointRest_5 : decode cL_leastJointRest 5 = .ok (.invokevirtual 113, 3) := by decide +kernel
theorem dL_leastJointRest_8 : decode cL_leastJointRest 8 = .ok (.i2l, 1) := by decide +kernel
theorem dL_leastJointRest_9 : decode cL_leastJointRest 9 = .ok (.lastore, 1) := by decide +kernel
theorem dL_leastJointRest_10 : decode cL_leastJointRest 10 = .ok (.goto 7, 3) := by decide +kernel
theorem dL_leastJointRest_13 : decode cL_leastJointRest 13 = .ok (.astore 4, 2) := by decide +kernel
theorem dL_leastJointRest_15 : decode cL_leastJointRest 15 = .ok (.iconst 1, 1) := by decide +kernel
theorem dL_leastJointRest_16 : decode cL_leastJointRest 16 = .ok (.ireturn, 1) := by decide +kernel
theorem dL_leastJointRest_17 : decode cL_leastJointRest 17 = .ok (.iconst 0, 1) := by decide +kernel
theorem dL_leastJointRest_18 : decode cL_leastJointRest 18 = .ok (.ireturn, 1) := by decide +kernel
theorem dL_valueOf_0 : decode cL_valueOf 0 = .ok (.aload 4, 2) := by decide +kernel
theorem dL_valueOf_2 : decode cL_valueOf 2 = .ok (.iconst 0, 1) := by decide +kernel
theorem dL_valueOf_3 : decode cL_valueOf 3 = .ok (.aload_n 0, 1) := by decide +kernel
theorem dL_valueOf_4 : decode cL_valueOf 4 = .ok (.iload_n 1, 1) := by decide +kernel
theorem dL_valueOf_5 : decode cL_valueOf 5 = .ok (.iload_n 2, 1) := by decide +kernel
theorem dL_valueOf_6 : decode cL_valueOf 6 = .ok (.iload_n 3, 1) := by decide +kernel
theorem dL_valueOf_7 : decode cL_valueOf 7 = .ok (.invokevirtual 116, 3) := by decide +kernel
theorem dL_valueOf_10 : decode cL_valueOf 10 = .ok (.i2l, 1) := by decide +kernel
theorem dL_valueOf_11 : decode cL_valueOf 11 = .ok (.lastore, 1) := by decide +kernel
theorem dL_valueOf_12 : decode cL_valueOf 12 = .ok (.goto 7, 3) := by decide +kernel
theorem dL_valueOf_15 : decode cL_valueOf 15 = .ok (.astore 5, 2) := by decide +kernel
theorem dL_valueOf_17 : decode cL_valueOf 17 = .ok (.iconst 1, 1) := by decide +kernel
theorem dL_valueOf_18 : decode cL_valueOf 18 = .ok (.ireturn, 1) := by decide +kernel
theorem dL_valueOf_19 : decode cL_valueOf 19 = .ok (.iconst 0, 1) := by decide +kernel
theorem dL_valueOf_20 : decode cL_valueOf 20 = .ok (.ireturn, 1) := by decide +kernel
theorem dL_contractedValueOf_0 : decode cL_contractedValueOf 0 = .ok (.aload 4, 2) := by decide +kernel
theorem dL_contractedValueOf_2 : decode cL_contractedValueOf 2 = .ok (.iconst 0, 1) := by decide +kernel
theorem dL_contractedValueOf_3 : decode cL_contractedValueOf 3 = .ok (.aload_n 0, 1) := by decide +kernel
theorem dL_contractedValueOf_4 : decode cL_contractedValueOf 4 = .ok (.iload_n 1, 1) := by decide +kernel
theorem dL_contractedValueOf_5 : decode cL_contractedValueOf 5 = .ok (.iload_n 2, 1) := by decide +kernel
theorem dL_contractedValueOf_6 : decode cL_contractedValueOf 6 = .ok (.iload_n 3, 1) := by decide +kernel
theorem dL_contractedValueOf_7 : decode cL_contractedValueOf 7 = .ok (.invokevirtual 119, 3) := by decide +kernel
theorem dL_contractedValueOf_10 : decode cL_contractedValueOf 10 = .ok (.i2l, 1) := by decide +kernel
theorem dL_contractedValueOf_11 : decode cL_contractedValueOf 11 = .ok (.lastore, 1) := by decide +kernel
theorem dL_contractedValueOf_12 : decode cL_contractedValueOf 12 = .ok (.goto 7, 3) := by decide +kernel
theorem dL_contractedValueOf_15 : decode cL_contractedValueOf 15 = .ok (.astore 5, 2) := by decide +kernel
theorem dL_contractedValueOf_17 : decode cL_contractedValueOf 17 = .ok (.iconst 1, 1) := by decide +kernel
theorem dL_contractedValueOf_18 : decode cL_contractedValueOf 18 = .ok (.ireturn, 1) := by decide +kernel
theorem dL_contractedValueOf_19 : decode cL_contractedValueOf 19 = .ok (.iconst 0, 1) := by decide +kernel
theorem dL_contractedValueOf_20 : decode cL_contractedValueOf 20 = .ok (.ireturn, 1) := by decide +kernel
theorem dL_bestRowWeight_0 : decode cL_bestRowWeight 0 = .ok (.aload_n 1, 1) := by decide +kernel
theorem dL_bestRowWeight_1 : decode cL_bestRowWeight 1 = .ok (.iconst 0, 1) := by decide +kernel
theorem dL_bestRowWeight_2 : decode cL_bestRowWeight 2 = .ok (.aload_n 0, 1) := by decide +kernel
theorem dL_bestRowWeight_3 : decode cL_bestRowWeight 3 = .ok (.invokevirtual 122, 3) := by decide +kernel
theorem dL_bestRowWeight_6 : decode cL_bestRowWeight 6 = .ok (.i2l, 1) := by decide +kernel
theorem dL_bestRowWeight_7 : decode cL_bestRowWeight 7 = .ok (.lastore, 1) := by decide +kernel
theorem dL_bestRowWeight_8 : decode cL_bestRowWeight 8 = .ok (.goto 6, 3) := by decide +kernel
theorem dL_bestRowWeight_11 : decode cL_bestRowWeight 11 = .ok (.astore_n 2, 1) := by decide +kernel
theorem dL_bestRowWeight_12 : decode cL_bestRowWeight 12 = .ok (.iconst 1, 1) := by decide +kernel
theorem dL_bestRowWeight_13 : decode cL_bestRowWeight 13 = .ok (.ireturn, 1) := by decide +kernel
theorem dL_bestRowWeight_14 : decode cL_bestRowWeight 14 = .ok (.iconst 0, 1) := by decide +kernel
theorem dL_bestRowWeight_15 : decode cL_bestRowWeight 15 = .ok (.ireturn, 1) := by decide +kernel
theorem dL_bestColumnWeight_0 : decode cL_bestColumnWeight 0 = .ok (.aload_n 1, 1) := by decide +kernel
theorem dL_bestColumnWeight_1 : decode cL_bestColumnWeight 1 = .ok (.iconst 0, 1) := by decide +kernel
theorem dL_bestColumnWeight_2 : decode cL_bestColumnWeight 2 = .ok (.aload_n 0, 1) := by decide +kernel
theorem dL_bestColumnWeight_3 : decode cL_bestColumnWeight 3 = .ok (.invokevirtual 126, 3) := by decide +kernel
theorem dL_bestColumnWeight_6 : decode cL_bestColumnWeight 6 = .ok (.i2l, 1) := by decide +kernel
theorem dL_bestColumnWeight_7 : decode cL_bestColumnWeight 7 = .ok (.lastore, 1) := by decide +kernel
theorem dL_bestColumnWeight_8 : decode cL_bestColumnWeight 8 = .ok (.goto 6, 3) := by decide +kernel
theorem dL_bestColumnWeight_11 : decode cL_bestColumnWeight 11 = .ok (.astore_n 2, 1) := by decide +kernel
theorem dL_bestColumnWeight_12 : decode cL_bestColumnWeight 12 = .ok (.iconst 1, 1) := by decide +kernel
theorem dL_bestColumnWeight_13 : decode cL_bestColumnWeight 13 = .ok (.ireturn, 1) := by decide +kernel
theorem dL_bestColumnWeight_14 : decode cL_bestColumnWeight 14 = .ok (.iconst 0, 1) := by decide +kernel
theorem dL_bestColumnWeight_15 : decode cL_bestColumnWeight 15 = .ok (.ireturn, 1) := by decide +kernel
theorem dL_bestRoom_0 : decode cL_bestRoom 0 = .ok (.aload_n 1, 1) := by decide +kernel
theorem dL_bestRoom_1 : decode cL_bestRoom 1 = .ok (.iconst 0, 1) := by decide +kernel
theorem dL_bestRoom_2 : decode cL_bestRoom 2 = .ok (.aload_n 0, 1) := by decide +kernel
theorem dL_bestRoom_3 : decode cL_bestRoom 3 = .ok (.invokevirtual 129, 3) := by decide +kernel
theorem dL_bestRoom_6 : decode cL_bestRoom 6 = .ok (.i2l, 1) := by decide +kernel
theorem dL_bestRoom_7 : decode cL_bestRoom 7 = .ok (.lastore, 1) := by decide +kernel
theorem dL_bestRoom_8 : decode cL_bestRoom 8 = .ok (.goto 6, 3) := by decide +kernel
theorem dL_bestRoom_11 : decode cL_bestRoom 11 = .ok (.astore_n 2, 1) := by decide +kernel
theorem dL_bestRoom_12 : decode cL_bestRoom 12 = .ok (.iconst 1, 1) := by decide +kernel
theorem dL_bestRoom_13 : decode cL_bestRoom 13 = .ok (.ireturn, 1) := by decide +kernel
theorem dL_bestRoom_14 : decode cL_bestRoom 14 = .ok (.iconst 0, 1) := by decide +kernel
theorem dL_bestRoom_15 : decode cL_bestRoom 15 = .ok (.ireturn, 1) := by decide +kernel
end
section
theorem dX1_init_0 : decode cX1_init 0 = .ok (.aload_n 0, 1) := by decide +kernel
theorem dX1_init_1 : decode cX1_init 1 = .ok (.invokespecial 1, 3) := by decide +kernel
theorem dX1_init_4 : decode cX1_init 4 = .ok (.aload_n 0, 1) := by decide +kernel
theorem dX1_init_5 : decode cX1_init 5 = .ok (.iconst 0, 1) := by decide +kernel
theorem dX1_init_6 : decode cX1_init 6 = .ok (.putfield 7, 3) := by decide +kernel
theorem dX1_init_9 : decode cX1_init 9 = .ok (.aload_n 0, 1) := by decide +kernel
theorem dX1_init_10 : decode cX1_init 10 = .ok (.iconst 0, 1) := by decide +kernel
theorem dX1_init_11 : decode cX1_init 11 = .ok (.putfield 13, 3) := by decide +kernel
theorem dX1_init_14 : decode cX1_init 14 = .ok (.aload_n 0, 1) := by decide +kernel
theorem dX1_init_15 : decode cX1_init 15 = .ok (.iconst 0, 1) := by decide +kernel
theorem dX1_init_16 : decode cX1_init 16 = .ok (.putfield 17, 3) := by decide +kernel
theorem dX1_init_19 : decode cX1_init 19 = .ok (.aload_n 0, 1) := by decide +kernel
theorem dX1_init_20 : decode cX1_init 20 = .ok (.iconst 0, 1) := by decide +kernel
theorem dX1_init_21 : decode cX1_init 21 = .ok (.putfield 20, 3) := by decide +kernel
theorem dX1_init_24 : decode cX1_init 24 = .ok (.return_, 1) := by decide +kernel
theorem dX1_offer_0 : decode cX1_offer 0 = .ok (.aload_n 0, 1) := by decide +kernel
theorem dX1_offer_1 : decode cX1_offer 1 = .ok (.getfield 7, 3) := by decide +kernel
theorem dX1_offer_4 : decode cX1_offer 4 = .ok (.ifCond .eq 11, 3) := by decide +kernel
theorem dX1_offer_7 : decode cX1_offer 7 = .ok (.iload_n 3, 1) := by decide +kernel
theorem dX1_offer_8 : decode cX1_offer 8 = .ok (.aload_n 0, 1) := by decide +kernel
theorem dX1_offer_9 : decode cX1_offer 9 = .ok (.getfield 20, 3) := by decide +kernel
theorem dX1_offer_12 : decode cX1_offer 12 = .ok (.if_icmp .ge 23, 3) := by decide +kernel
theorem dX1_offer_15 : decode cX1_offer 15 = .ok (.aload_n 0, 1) := by decide +kernel
theorem dX1_offer_16 : decode cX1_offer 16 = .ok (.iconst 1, 1) := by decide +kernel
theorem dX1_offer_17 : decode cX1_offer 17 = .ok (.putfield 7, 3) := by decide +kernel
theorem dX1_offer_20 : decode cX1_offer 20 = .ok (.aload_n 0, 1) := by decide +kernel
theorem dX1_offer_21 : decode cX1_offer 21 = .ok (.iload_n 1, 1) := by decide +kernel
theorem dX1_offer_22 : decode cX1_offer 22 = .ok (.putfield 13, 3) := by decide +kernel
theorem dX1_offer_25 : decode cX1_offer 25 = .ok (.aload_n 0, 1) := by decide +kernel
theorem dX1_offer_26 : decode cX1_offer 26 = .ok (.iload_n 2, 1) := by decide +kernel
theorem dX1_offer_27 : decode cX1_offer 27 = .ok (.putfield 17, 3) := by decide +kernel
theorem dX1_offer_30 : decode cX1_offer 30 = .ok (.aload_n 0, 1) := by decide +kernel
theorem dX1_offer_31 : decode cX1_offer 31 = .ok (.iload_n 3, 1) := by decide +kernel
theorem dX1_offer_32 : decode cX1_offer 32 = .ok (.putfield 20, 3) := by decide +kernel
theorem dX1_offer_35 : decode cX1_offer 35 = .ok (.return_, 1) := by decide +kernel
theorem dX2_init_0 : decode cX2_init 0 = .ok (.aload_n 0, 1) := by decide +kernel
theorem dX2_init_1 : decode cX2_init 1 = .ok (.invokespecial 3, 3) := by decide +kernel
theorem dX2_init_4 : decode cX2_init 4 = .ok (.aload_n 0, 1) := by decide +kernel
theorem dX2_init_5 : decode cX2_init 5 = .ok (.sipush 225, 3) := by decide +kernel
theorem dX2_init_8 : decode cX2_init 8 = .ok (.newarray .boolean, 2) := by decide +kernel
theorem dX2_init_10 : decode cX2_init 10 = .ok (.putfield 9, 3) := by decide +kernel
theorem dX2_init_13 : decode cX2_init 13 = .ok (.aload_n 0, 1) := by decide +kernel
theorem dX2_init_14 : decode cX2_init 14 = .ok (.sipush 225, 3) := by decide +kernel
theorem dX2_init_17 : decode cX2_init 17 = .ok (.newarray .int, 2) := by decide +kernel
theorem dX2_init_19 : decode cX2_init 19 = .ok (.putfield 15, 3) := by decide +kernel
theorem dX2_init_22 : decode cX2_init 22 = .ok (.aload_n 0, 1) := by decide +kernel
theorem dX2_init_23 : decode cX2_init 23 = .ok (.sipush 225, 3) := by decide +kernel
theorem dX2_init_26 : decode cX2_init 26 = .ok (.newarray .int, 2) := by decide +kernel
theorem dX2_init_28 : decode cX2_init 28 = .ok (.putfield 19, 3) := by decide +kernel
theorem dX2_init_31 : decode cX2_init 31 = .ok (.aload_n 0, 1) := by decide +kernel
theorem dX2_init_32 : decode cX2_init 32 = .ok (.bipush 64, 2) := by decide +kernel
theorem dX2_init_34 : decode cX2_init 34 = .ok (.newarray .boolean, 2) := by decide +kernel
theorem dX2_init_36 : decode cX2_init 36 = .ok (.putfield 22, 3) := by decide +kernel
theorem dX2_init_39 : decode cX2_init 39 = .ok (.aload_n 0, 1) := by decide +kernel
theorem dX2_init_40 : decode cX2_init 40 = .ok (.iconst 0, 1) := by decide +kernel
theorem dX2_init_41 : decode cX2_init 41 = .ok (.putfield 25, 3) := by decide +kernel
theorem dX2_init_44 : decode cX2_init 44 = .ok (.aload_n 0, 1) := by decide +kernel
theorem dX2_init_45 : decode cX2_init 45 = .ok (.iconst 4, 1) := by decide +kernel
theorem dX2_init_46 : decode cX2_init 46 = .ok (.putfield 29, 3) := by decide +kernel
theorem dX2_init_49 : decode cX2_init 49 = .ok (.aload_n 0, 1) := by decide +kernel
theorem dX2_init_50 : decode cX2_init 50 = .ok (.iconst 4, 1) := by decide +kernel
theorem dX2_init_51 : decode cX2_init 51 = .ok (.putfield 32, 3) := by decide +kernel
theorem dX2_init_54 : decode cX2_init 54 = .ok (.return_, 1) := by decide +kernel
theorem dX2_clear_0 : decode cX2_clear 0 = .ok (.iconst 0, 1) := by decide +kernel
theorem dX2_clear_1 : decode cX2_clear 1 = .ok (.istore_n 2, 1) := by decide +kernel
theorem dX2_clear_2 : decode cX2_clear 2 = .ok (.iload_n 2, 1) := by decide +kernel
theorem dX2_clear_3 : decode cX2_clear 3 = .ok (.aload_n 0, 1) := by decide +kernel
theorem dX2_clear_4 : decode cX2_clear 4 = .ok (.getfield 9, 3) := by decide +kernel
theorem dX2_clear_7 : decode cX2_clear 7 = .ok (.arraylength, 1) := by decide +kernel
theorem dX2_clear_8 : decode cX2_clear 8 = .ok (.if_icmp .ge 16, 3) := by decide +kernel
theorem dX2_clear_11 : decode cX2_clear 11 = .ok (.aload_n 0, 1) := by decide +kernel
theorem dX2_clear_12 : decode cX2_clear 12 = .ok (.getfield 9, 3) := by decide +kernel
theorem dX2_clear_15 : decode cX2_clear 15 = .ok (.iload_n 2, 1) := by decide +kernel
theorem dX2_clear_16 : decode cX2_clear 16 = .ok (.iconst 0, 1) := by decide +kernel
theorem dX2_clear_17 : decode cX2_clear 17 = .ok (.bastore, 1) := by decide +kernel
theorem dX2_clear_18 : decode cX2_clear 18 = .ok (.iinc 2 1, 3) := by decide +kernel
theorem dX2_clear_21 : decode cX2_clear 21 = .ok (.goto (-19), 3) := by decide +kernel
theorem dX2_clear_24 : decode cX2_clear 24 = .ok (.aload_n 0, 1) := by decide +kernel
theorem dX2_clear_25 : decode cX2_clear 25 = .ok (.iconst 0, 1) := by decide +kernel
theorem dX2_clear_26 : decode cX2_clear 26 = .ok (.putfield 25, 3) := by decide +kernel
theorem dX2_clear_29 : decode cX2_clear 29 = .ok (.aload_n 0, 1) := by decide +kernel
theorem dX2_clear_30 : decode cX2_clear 30 = .ok (.aload_n 1, 1) := by decide +kernel
theorem dX2_clear_31 : decode cX2_clear 31 = .ok (.getfield 35, 3) := by decide +kernel
theorem dX2_clear_34 : decode cX2_clear 34 = .ok (.putfield 29, 3) := by decide +kernel
theorem dX2_clear_37 : decode cX2_clear 37 = .ok (.aload_n 0, 1) := by decide +kernel
theorem dX2_clear_38 : decode cX2_clear 38 = .ok (.aload_n 1, 1) := by decide +kernel
theorem dX2_clear_39 : decode cX2_clear 39 = .ok (.getfield 38, 3) := by decide +kernel
theorem dX2_clear_42 : decode cX2_clear 42 = .ok (.putfield 32, 3) := by decide +kernel
theorem dX2_clear_45 : decode cX2_clear 45 = .ok (.return_, 1) := by decide +kernel
theorem dX2_add_0 : decode cX2_add 0 = .ok (.aload_n 1, 1) := by decide +kernel
theorem dX2_add_1 : decode cX2_add 1 = .ok (.iload 4, 2) := by decide +kernel
theorem dX2_add_3 : decode cX2_add 3 = .ok (.iconst 1, 1) := by decide +kernel
theorem dX2_add_4 : decode cX2_add 4 = .ok (.iadd, 1) := by decide +kernel
theorem dX2_add_5 : decode cX2_add 5 = .ok (.invokevirtual 39, 3) := by decide +kernel
theorem dX2_add_8 : decode cX2_add 8 = .ok (.istore 5, 2) := by decide +kernel
theorem dX2_add_10 : decode cX2_add 10 = .ok (.aload_n 1, 1) := by decide +kernel
theorem dX2_add_11 : decode cX2_add 11 = .ok (.iload_n 3, 1) := by decide +kernel
theorem dX2_add_12 : decode cX2_add 12 = .ok (.invokevirtual 39, 3) := by decide +kernel
theorem dX2_add_15 : decode cX2_add 15 = .ok (.istore 6, 2) := by decide +kernel
theorem dX2_add_17 : decode cX2_add 17 = .ok (.iload 6, 2) := by decide +kernel
theorem dX2_add_19 : decode cX2_add 19 = .ok (.aload_n 1, 1) := by decide +kernel
theorem dX2_add_20 : decode cX2_add 20 = .ok (.iload_n 3, 1) := by decide +kernel
theorem dX2_add_21 : decode cX2_add 21 = .ok (.iconst 1, 1) := by decide +kernel
theorem dX2_add_22 : decode cX2_add 22 = .ok (.iadd, 1) := by decide +kernel
theorem dX2_add_23 : decode cX2_add 23 = .ok (.invokevirtual 39, 3) := by decide +kernel
theorem dX2_add_26 : decode cX2_add 26 = .ok (.if_icmp .ge 92, 3) := by decide +kernel
theorem dX2_add_29 : decode cX2_add 29 = .ok (.iload_n 3, 1) := by decide +kernel
theorem dX2_add_30 : decode cX2_add 30 = .ok (.iload 4, 2) := by decide +kernel
theorem dX2_add_32 : decode cX2_add 32 = .ok (.if_icmp .ne 10, 3) := by decide +kernel
theorem dX2_add_35 : decode cX2_add 35 = .ok (.iload 6, 2) := by decide +kernel
theorem dX2_add_37 : decode cX2_add 37 = .ok (.iconst 1, 1) := by decide +kernel
theorem dX2_add_38 : decode cX2_add 38 = .ok (.iadd, 1) := by decide +kernel
theorem dX2_add_39 : decode cX2_add 39 = .ok (.goto 9, 3) := by decide +kernel
theorem dX2_add_42 : decode cX2_add 42 = .ok (.aload_n 1, 1) := by decide +kernel
theorem dX2_add_43 : decode cX2_add 43 = .ok (.iload 4, 2) := by decide +kernel
theorem dX2_add_45 : decode cX2_add 45 = .ok (.invokevirtual 39, 3) := by decide +kernel
theorem dX2_add_48 : decode cX2_add 48 = .ok (.istore 7, 2) := by decide +kernel
theorem dX2_add_50 : decode cX2_add 50 = .ok (.iload 7, 2) := by decide +kernel
theorem dX2_add_52 : decode cX2_add 52 = .ok (.istore 8, 2) := by decide +kernel
theorem dX2_add_54 : decode cX2_add 54 = .ok (.iload 8, 2) := by decide +kernel
theorem dX2_add_56 : decode cX2_add 56 = .ok (.iload 5, 2) := by decide +kernel
theorem dX2_add_58 : decode cX2_add 58 = .ok (.if_icmp .ge 54, 3) := by decide +kernel
theorem dX2_add_61 : decode cX2_add 61 = .ok (.aload_n 2, 1) := by decide +kernel
theorem dX2_add_62 : decode cX2_add 62 = .ok (.iload 6, 2) := by decide +kernel
theorem dX2_add_64 : decode cX2_add 64 = .ok (.iload 8, 2) := by decide +kernel
theorem dX2_add_66 : decode cX2_add 66 = .ok (.invokevirtual 43, 3) := by decide +kernel
theorem dX2_add_69 : decode cX2_add 69 = .ok (.ifCond .eq 37, 3) := by decide +kernel
theorem dX2_add_72 : decode cX2_add 72 = .ok (.aload_n 0, 1) := by decide +kernel
theorem dX2_add_73 : decode cX2_add 73 = .ok (.aload_n 2, 1) := by decide +kernel
theorem dX2_add_74 : decode cX2_add 74 = .ok (.getfield 49, 3) := by decide +kernel
theorem dX2_add_77 : decode cX2_add 77 = .ok (.iload 8, 2) := by decide +kernel
theorem dX2_add_79 : decode cX2_add 79 = .ok (.iaload, 1) := by decide +kernel
theorem dX2_add_80 : decode cX2_add 80 = .ok (.aload_n 2, 1) := by decide +kernel
theorem dX2_add_81 : decode cX2_add 81 = .ok (.getfield 49, 3) := by decide +kernel
theorem dX2_add_84 : decode cX2_add 84 = .ok (.iload 6, 2) := by decide +kernel
theorem dX2_add_86 : decode cX2_add 86 = .ok (.iaload, 1) := by decide +kernel
theorem dX2_add_87 : decode cX2_add 87 = .ok (.isub, 1) := by decide +kernel
theorem dX2_add_88 : decode cX2_add 88 = .ok (.aload_n 2, 1) := by decide +kernel
theorem dX2_add_89 : decode cX2_add 89 = .ok (.getfield 52, 3) := by decide +kernel
theorem dX2_add_92 : decode cX2_add 92 = .ok (.iload 8, 2) := by decide +kernel
theorem dX2_add_94 : decode cX2_add 94 = .ok (.iaload, 1) := by decide +kernel
theorem dX2_add_95 : decode cX2_add 95 = .ok (.aload_n 2, 1) := by decide +kernel
theorem dX2_add_96 : decode cX2_add 96 = .ok (.getfield 52, 3) := by decide +kernel
theorem dX2_add_99 : decode cX2_add 99 = .ok (.iload 6, 2) := by decide +kernel
theorem dX2_add_101 : decode cX2_add 101 = .ok (.iaload, 1) := by decide +kernel
theorem dX2_add_102 : decode cX2_add 102 = .ok (.isub, 1) := by decide +kernel
theorem dX2_add_103 : decode cX2_add 103 = .ok (.invokevirtual 55, 3) := by decide +kernel
theorem dX2_add_106 : decode cX2_add 106 = .ok (.iinc 8 1, 3) := by decide +kernel
theorem dX2_add_109 : decode cX2_add 109 = .ok (.goto (-55), 3) := by decide +kernel
theorem dX2_add_112 : decode cX2_add 112 = .ok (.iinc 6 1, 3) := by decide +kernel
theorem dX2_add_115 : decode cX2_add 115 = .ok (.goto (-98), 3) := by decide +kernel
theorem dX2_add_118 : decode cX2_add 118 = .ok (.return_, 1) := by decide +kernel
theorem dX2_addOne_0 : decode cX2_addOne 0 = .ok (.iload_n 1, 1) := by decide +kernel
theorem dX2_addOne_1 : decode cX2_addOne 1 = .ok (.bipush 8, 2) := by decide +kernel
theorem dX2_addOne_3 : decode cX2_addOne 3 = .ok (.iadd, 1) := by decide +kernel
theorem dX2_addOne_4 : decode cX2_addOne 4 = .ok (.iconst 1, 1) := by decide +kernel
theorem dX2_addOne_5 : decode cX2_addOne 5 = .ok (.isub, 1) := by decide +kernel
theorem dX2_addOne_6 : decode cX2_addOne 6 = .ok (.bipush 15, 2) := by decide +kernel
theorem dX2_addOne_8 : decode cX2_addOne 8 = .ok (.imul, 1) := by decide +kernel
theorem dX2_addOne_9 : decode cX2_addOne 9 = .ok (.iload_n 2, 1) := by decide +kernel
theorem dX2_addOne_10 : decode cX2_addOne 10 = .ok (.iadd, 1) := by decide +kernel
theorem dX2_addOne_11 : decode cX2_addOne 11 = .ok (.bipush 8, 2) := by decide +kernel
theorem dX2_addOne_13 : decode cX2_addOne 13 = .ok (.iadd, 1) := by decide +kernel
theorem dX2_addOne_14 : decode cX2_addOne 14 = .ok (.iconst 1, 1) := by decide +kernel
theorem dX2_addOne_15 : decode cX2_addOne 15 = .ok (.isub, 1) := by decide +kernel
theorem dX2_addOne_16 : decode cX2_addOne 16 = .ok (.istore_n 3, 1) := by decide +kernel
theorem dX2_addOne_17 : decode cX2_addOne 17 = .ok (.aload_n 0, 1) := by decide +kernel
theorem dX2_addOne_18 : decode cX2_addOne 18 = .ok (.getfield 9, 3) := by decide +kernel
theorem dX2_addOne_21 : decode cX2_addOne 21 = .ok (.iload_n 3, 1) := by decide +kernel
theorem dX2_addOne_22 : decode cX2_addOne 22 = .ok (.baload, 1) := by decide +kernel
theorem dX2_addOne_23 : decode cX2_addOne 23 = .ok (.ifCond .eq 4, 3) := by decide +kernel
theorem dX2_addOne_26 : decode cX2_addOne 26 = .ok (.return_, 1) := by decide +kernel
theorem dX2_addOne_27 : decode cX2_addOne 27 = .ok (.aload_n 0, 1) := by decide +kernel
theorem dX2_addOne_28 : decode cX2_addOne 28 = .ok (.getfield 9, 3) := by decide +kernel
theorem dX2_addOne_31 : decode cX2_addOne 31 = .ok (.iload_n 3, 1) := by decide +kernel
theorem dX2_addOne_32 : decode cX2_addOne 32 = .ok (.iconst 1, 1) := by decide +kernel
theorem dX2_addOne_33 : decode cX2_addOne 33 = .ok (.bastore, 1) := by decide +kernel
theorem dX2_addOne_34 : decode cX2_addOne 34 = .ok (.aload_n 0, 1) := by decide +kernel
theorem dX2_addOne_35 : decode cX2_addOne 35 = .ok (.getfield 15, 3) := by decide +kernel
theorem dX2_addOne_38 : decode cX2_addOne 38 = .ok (.aload_n 0, 1) := by decide +kernel
theorem dX2_addOne_39 : decode cX2_addOne 39 = .ok (.getfield 25, 3) := by decide +kernel
theorem dX2_addOne_42 : decode cX2_addOne 42 = .ok (.iload_n 1, 1) := by decide +kernel
theorem dX2_addOne_43 : decode cX2_addOne 43 = .ok (.iastore, 1) := by decide +kernel
theorem dX2_addOne_44 : decode cX2_addOne 44 = .ok (.aload_n 0, 1) := by decide +kernel
theorem dX2_addOne_45 : decode cX2_addOne 45 = .ok (.getfield 19, 3) := by decide +kernel
theorem dX2_addOne_48 : decode cX2_addOne 48 = .ok (.aload_n 0, 1) := by decide +kernel
theorem dX2_addOne_49 : decode cX2_addOne 49 = .ok (.getfield 25, 3) := by decide +kernel
theorem dX2_addOne_52 : decode cX2_addOne 52 = .ok (.iload_n 2, 1) := by decide +kernel
theorem dX2_addOne_53 : decode cX2_addOne 53 = .ok (.iastore, 1) := by decide +kernel
theorem dX2_addOne_54 : decode cX2_addOne 54 = .ok (.aload_n 0, 1) := by decide +kernel
theorem dX2_addOne_55 : decode cX2_addOne 55 = .ok (.dup, 1) := by decide +kernel
theorem dX2_addOne_56 : decode cX2_addOne 56 = .ok (.getfield 25, 3) := by decide +kernel
theorem dX2_addOne_59 : decode cX2_addOne 59 = .ok (.iconst 1, 1) := by decide +kernel
theorem dX2_addOne_60 : decode cX2_addOne 60 = .ok (.iadd, 1) := by decide +kernel
theorem dX2_addOne_61 : decode cX2_addOne 61 = .ok (.putfield 25, 3) := by decide +kernel
theorem dX2_addOne_64 : decode cX2_addOne 64 = .ok (.return_, 1) := by decide +kernel
theorem dX2_areKeptApart_0 : decode cX2_areKeptApart 0 = .ok (.iconst 0, 1) := by decide +kernel
theorem dX2_areKeptApart_1 : decode cX2_areKeptApart 1 = .ok (.istore_n 2, 1) := by decide +kernel
theorem dX2_areKeptApart_2 : decode cX2_areKeptApart 2 = .ok (.iload_n 2, 1) := by decide +kernel
theorem dX2_areKeptApart_3 : decode cX2_areKeptApart 3 = .ok (.aload_n 0, 1) := by decide +kernel
theorem dX2_areKeptApart_4 : decode cX2_areKeptApart 4 = .ok (.getfield 25, 3) := by decide +kernel
theorem dX2_areKeptApart_7 : decode cX2_areKeptApart 7 = .ok (.if_icmp .ge 34, 3) := by decide +kernel
theorem dX2_areKeptApart_10 : decode cX2_areKeptApart 10 = .ok (.aload_n 1, 1) := by decide +kernel
theorem dX2_areKeptApart_11 : decode cX2_areKeptApart 11 = .ok (.aload_n 0, 1) := by decide +kernel
theorem dX2_areKeptApart_12 : decode cX2_areKeptApart 12 = .ok (.getfield 15, 3) := by decide +kernel
theorem dX2_areKeptApart_15 : decode cX2_areKeptApart 15 = .ok (.iload_n 2, 1) := by decide +kernel
theorem dX2_areKeptApart_16 : decode cX2_areKeptApart 16 = .ok (.iaload, 1) := by decide +kernel
theorem dX2_areKeptApart_17 : decode cX2_areKeptApart 17 = .ok (.aload_n 0, 1) := by decide +kernel
theorem dX2_areKeptApart_18 : decode cX2_areKeptApart 18 = .ok (.getfield 19, 3) := by decide +kernel
theorem dX2_areKeptApart_21 : decode cX2_areKeptApart 21 = .ok (.iload_n 2, 1) := by decide +kernel
theorem dX2_areKeptApart_22 : decode cX2_areKeptApart 22 = .ok (.iaload, 1) := by decide +kernel
theorem dX2_areKeptApart_23 : decode cX2_areKeptApart 23 = .ok (.aload_n 0, 1) := by decide +kernel
theorem dX2_areKeptApart_24 : decode cX2_areKeptApart 24 = .ok (.getfield 32, 3) := by decide +kernel
theorem dX2_areKeptApart_27 : decode cX2_areKeptApart 27 = .ok (.invokevirtual 59, 3) := by decide +kernel
theorem dX2_areKeptApart_30 : decode cX2_areKeptApart 30 = .ok (.ifCond .ne 5, 3) := by decide +kernel
theorem dX2_areKeptApart_33 : decode cX2_areKeptApart 33 = .ok (.iconst 0, 1) := by decide +kernel
theorem dX2_areKeptApart_34 : decode cX2_areKeptApart 34 = .ok (.ireturn, 1) := by decide +kernel
theorem dX2_areKeptApart_35 : decode cX2_areKeptApart 35 = .ok (.iinc 2 1, 3) := by decide +kernel
theorem dX2_areKeptApart_38 : decode cX2_areKeptApart 38 = .ok (.goto (-36), 3) := by decide +kernel
theorem dX2_areKeptApart_41 : decode cX2_areKeptApart 41 = .ok (.iconst 1, 1) := by decide +kernel
theorem dX2_areKeptApart_42 : decode cX2_areKeptApart 42 = .ok (.ireturn, 1) := by decide +kernel
theorem dX2_leastRestModulus_0 : decode cX2_leastRestModulus 0 = .ok (.iconst 1, 1) := by decide +kernel
theorem dX2_leastRestModulus_1 : decode cX2_leastRestModulus 1 = .ok (.istore_n 2, 1) := by decide +kernel
theorem dX2_leastRestModulus_2 : decode cX2_leastRestModulus 2 = .ok (.iload_n 2, 1) := by decide +kernel
theorem dX2_leastRestModulus_3 : decode cX2_leastRestModulus 3 = .ok (.bipush 99, 2) := by decide +kernel
theorem dX2_leastRestModulus_5 : decode cX2_leastRestModulus 5 = .ok (.if_icmp .gt 24, 3) := by decide +kernel
theorem dX2_leastRestModulus_8 : decode cX2_leastRestModulus 8 = .ok (.aload_n 1, 1) := by decide +kernel
theorem dX2_leastRestModulus_9 : decode cX2_leastRestModulus 9 = .ok (.iload_n 2, 1) := by decide +kernel
theorem dX2_leastRestModulus_10 : decode cX2_leastRestModulus 10 = .ok (.invokevirtual 65, 3) := by decide +kernel
theorem dX2_leastRestModulus_13 : decode cX2_leastRestModulus 13 = .ok (.aload_n 0, 1) := by decide +kernel
theorem dX2_leastRestModulus_14 : decode cX2_leastRestModulus 14 = .ok (.aload_n 1, 1) := by decide +kernel
theorem dX2_leastRestModulus_15 : decode cX2_leastRestModulus 15 = .ok (.invokevirtual 69, 3) := by decide +kernel
theorem dX2_leastRestModulus_18 : decode cX2_leastRestModulus 18 = .ok (.ifCond .eq 5, 3) := by decide +kernel
theorem dX2_leastRestModulus_21 : decode cX2_leastRestModulus 21 = .ok (.iload_n 2, 1) := by decide +kernel
theorem dX2_leastRestModulus_22 : decode cX2_leastRestModulus 22 = .ok (.ireturn, 1) := by decide +kernel
theorem dX2_leastRestModulus_23 : decode cX2_leastRestModulus 23 = .ok (.iinc 2 1, 3) := by decide +kernel
theorem dX2_leastRestModulus_26 : decode cX2_leastRestModulus 26 = .ok (.goto (-24), 3) := by decide +kernel
theorem dX2_leastRestModulus_29 : decode cX2_leastRestModulus 29 = .ok (.iconst (-1), 1) := by decide +kernel
theorem dX2_leastRestModulus_30 : decode cX2_leastRestModulus 30 = .ok (.ireturn, 1) := by decide +kernel
theorem dX2_leastModulusDividingNone_0 : decode cX2_leastModulusDividingNone 0 = .ok (.iconst 0, 1) := by decide +kernel
theorem dX2_leastModulusDividingNone_1 : decode cX2_leastModulusDividingNone 1 = .ok (.istore_n 1, 1) := by decide +kernel
theorem dX2_leastModulusDividingNone_2 : decode cX2_leastModulusDividingNone 2 = .ok (.iload_n 1, 1) := by decide +kernel
theorem dX2_leastModulusDividingNone_3 : decode cX2_leastModulusDividingNone 3 = .ok (.aload_n 0, 1) := by decide +kernel
theorem dX2_leastModulusDividingNone_4 : decode cX2_leastModulusDividingNone 4 = .ok (.getfield 22, 3) := by decide +kernel
theorem dX2_leastModulusDividingNone_7 : decode cX2_leastModulusDividingNone 7 = .ok (.arraylength, 1) := by decide +kernel
theorem dX2_leastModulusDividingNone_8 : decode cX2_leastModulusDividingNone 8 = .ok (.if_icmp .ge 16, 3) := by decide +kernel
theorem dX2_leastModulusDividingNone_11 : decode cX2_leastModulusDividingNone 11 = .ok (.aload_n 0, 1) := by decide +kernel
theorem dX2_leastModulusDividingNone_12 : decode cX2_leastModulusDividingNone 12 = .ok (.getfield 22, 3) := by decide +kernel
theorem dX2_leastModulusDividingNone_15 : decode cX2_leastModulusDividingNone 15 = .ok (.iload_n 1, 1) := by decide +kernel
theorem dX2_leastModulusDividingNone_16 : decode cX2_leastModulusDividingNone 16 = .ok (.iconst 0, 1) := by decide +kernel
theorem dX2_leastModulusDividingNone_17 : decode cX2_leastModulusDividingNone 17 = .ok (.bastore, 1) := by decide +kernel
theorem dX2_leastModulusDividingNone_18 : decode cX2_leastModulusDividingNone 18 = .ok (.iinc 1 1, 3) := by decide +kernel
theorem dX2_leastModulusDividingNone_21 : decode cX2_leastModulusDividingNone 21 = .ok (.goto (-19), 3) := by decide +kernel
theorem dX2_leastModulusDividingNone_24 : decode cX2_leastModulusDividingNone 24 = .ok (.iconst 0, 1) := by decide +kernel
theorem dX2_leastModulusDividingNone_25 : decode cX2_leastModulusDividingNone 25 = .ok (.istore_n 1, 1) := by decide +kernel
theorem dX2_leastModulusDividingNone_26 : decode cX2_leastModulusDividingNone 26 = .ok (.iload_n 1, 1) := by decide +kernel
theorem dX2_leastModulusDividingNone_27 : decode cX2_leastModulusDividingNone 27 = .ok (.aload_n 0, 1) := by decide +kernel
theorem dX2_leastModulusDividingNone_28 : decode cX2_leastModulusDividingNone 28 = .ok (.getfield 25, 3) := by decide +kernel
theorem dX2_leastModulusDividingNone_31 : decode cX2_leastModulusDividingNone 31 = .ok (.if_icmp .ge 36, 3) := by decide +kernel
theorem dX2_leastModulusDividingNone_34 : decode cX2_leastModulusDividingNone 34 = .ok (.aload_n 0, 1) := by decide +kernel
theorem dX2_leastModulusDividingNone_35 : decode cX2_leastModulusDividingNone 35 = .ok (.getfield 22, 3) := by decide +kernel
theorem dX2_leastModulusDividingNone_38 : decode cX2_leastModulusDividingNone 38 = .ok (.aload_n 0, 1) := by decide +kernel
theorem dX2_leastModulusDividingNone_39 : decode cX2_leastModulusDividingNone 39 = .ok (.getfield 15, 3) := by decide +kernel
theorem dX2_leastModulusDividingNone_42 : decode cX2_leastModulusDividingNone 42 = .ok (.iload_n 1, 1) := by decide +kernel
theorem dX2_leastModulusDividingNone_43 : decode cX2_leastModulusDividingNone 43 = .ok (.iaload, 1) := by decide +kernel
theorem dX2_leastModulusDividingNone_44 : decode cX2_leastModulusDividingNone 44 = .ok (.aload_n 0, 1) := by decide +kernel
theorem dX2_leastModulusDividingNone_45 : decode cX2_leastModulusDividingNone 45 = .ok (.getfield 32, 3) := by decide +kernel
theorem dX2_leastModulusDividingNone_48 : decode cX2_leastModulusDividingNone 48 = .ok (.imul, 1) := by decide +kernel
theorem dX2_leastModulusDividingNone_49 : decode cX2_leastModulusDividingNone 49 = .ok (.aload_n 0, 1) := by decide +kernel
theorem dX2_leastModulusDividingNone_50 : decode cX2_leastModulusDividingNone 50 = .ok (.getfield 19, 3) := by decide +kernel
theorem dX2_leastModulusDividingNone_53 : decode cX2_leastModulusDividingNone 53 = .ok (.iload_n 1, 1) := by decide +kernel
theorem dX2_leastModulusDividingNone_54 : decode cX2_leastModulusDividingNone 54 = .ok (.iaload, 1) := by decide +kernel
theorem dX2_leastModulusDividingNone_55 : decode cX2_leastModulusDividingNone 55 = .ok (.iadd, 1) := by decide +kernel
theorem dX2_leastModulusDividingNone_56 : decode cX2_leastModulusDividingNone 56 = .ok (.invokestatic 73, 3) := by decide +kernel
theorem dX2_leastModulusDividingNone_59 : decode cX2_leastModulusDividingNone 59 = .ok (.iconst 1, 1) := by decide +kernel
theorem dX2_leastModulusDividingNone_60 : decode cX2_leastModulusDividingNone 60 = .ok (.bastore, 1) := by decide +kernel
theorem dX2_leastModulusDividingNone_61 : decode cX2_leastModulusDividingNone 61 = .ok (.iinc 1 1, 3) := by decide +kernel
theorem dX2_leastModulusDividingNone_64 : decode cX2_leastModulusDividingNone 64 = .ok (.goto (-38), 3) := by decide +kernel
theorem dX2_leastModulusDividingNone_67 : decode cX2_leastModulusDividingNone 67 = .ok (.iconst 1, 1) := by decide +kernel
theorem dX2_leastModulusDividingNone_68 : decode cX2_leastModulusDividingNone 68 = .ok (.istore_n 1, 1) := by decide +kernel
theorem dX2_leastModulusDividingNone_69 : decode cX2_leastModulusDividingNone 69 = .ok (.iload_n 1, 1) := by decide +kernel
theorem dX2_leastModulusDividingNone_70 : decode cX2_leastModulusDividingNone 70 = .ok (.aload_n 0, 1) := by decide +kernel
theorem dX2_leastModulusDividingNone_71 : decode cX2_leastModulusDividingNone 71 = .ok (.getfield 22, 3) := by decide +kernel
theorem dX2_leastModulusDividingNone_74 : decode cX2_leastModulusDividingNone 74 = .ok (.arraylength, 1) := by decide +kernel
theorem dX2_leastModulusDividingNone_75 : decode cX2_leastModulusDividingNone 75 = .ok (.if_icmp .ge 17, 3) := by decide +kernel
theorem dX2_leastModulusDividingNone_78 : decode cX2_leastModulusDividingNone 78 = .ok (.aload_n 0, 1) := by decide +kernel
theorem dX2_leastModulusDividingNone_79 : decode cX2_leastModulusDividingNone 79 = .ok (.iload_n 1, 1) := by decide +kernel
theorem dX2_leastModulusDividingNone_80 : decode cX2_leastModulusDividingNone 80 = .ok (.invokevirtual 78, 3) := by decide +kernel
theorem dX2_leastModulusDividingNone_83 : decode cX2_leastModulusDividingNone 83 = .ok (.ifCond .eq 9, 3) := by decide +kernel
theorem dX2_leastModulusDividingNone_86 : decode cX2_leastModulusDividingNone 86 = .ok (.iinc 1 1, 3) := by decide +kernel
theorem dX2_leastModulusDividingNone_89 : decode cX2_leastModulusDividingNone 89 = .ok (.goto (-20), 3) := by decide +kernel
theorem dX2_leastModulusDividingNone_92 : decode cX2_leastModulusDividingNone 92 = .ok (.iload_n 1, 1) := by decide +kernel
theorem dX2_leastModulusDividingNone_93 : decode cX2_leastModulusDividingNone 93 = .ok (.ireturn, 1) := by decide +kernel
theorem dX2_dividesOne_0 : decode cX2_dividesOne 0 = .ok (.iload_n 1, 1) := by decide +kernel
theorem dX2_dividesOne_1 : decode cX2_dividesOne 1 = .ok (.istore_n 2, 1) := by decide +kernel
theorem dX2_dividesOne_2 : decode cX2_dividesOne 2 = .ok (.iload_n 2, 1) := by decide +kernel
theorem dX2_dividesOne_3 : decode cX2_dividesOne 3 = .ok (.aload_n 0, 1) := by decide +kernel
theorem dX2_dividesOne_4 : decode cX2_dividesOne 4 = .ok (.getfield 22, 3) := by decide +kernel
theorem dX2_dividesOne_7 : decode cX2_dividesOne 7 = .ok (.arraylength, 1) := by decide +kernel
theorem dX2_dividesOne_8 : decode cX2_dividesOne 8 = .ok (.if_icmp .ge 21, 3) := by decide +kernel
theorem dX2_dividesOne_11 : decode cX2_dividesOne 11 = .ok (.aload_n 0, 1) := by decide +kernel
theorem dX2_dividesOne_12 : decode cX2_dividesOne 12 = .ok (.getfield 22, 3) := by decide +kernel
theorem dX2_dividesOne_15 : decode cX2_dividesOne 15 = .ok (.iload_n 2, 1) := by decide +kernel
theorem dX2_dividesOne_16 : decode cX2_dividesOne 16 = .ok (.baload, 1) := by decide +kernel
theorem dX2_dividesOne_17 : decode cX2_dividesOne 17 = .ok (.ifCond .eq 5, 3) := by decide +kernel
theorem dX2_dividesOne_20 : decode cX2_dividesOne 20 = .ok (.iconst 1, 1) := by decide +kernel
theorem dX2_dividesOne_21 : decode cX2_dividesOne 21 = .ok (.ireturn, 1) := by decide +kernel
theorem dX2_dividesOne_22 : decode cX2_dividesOne 22 = .ok (.iload_n 2, 1) := by decide +kernel
theorem dX2_dividesOne_23 : decode cX2_dividesOne 23 = .ok (.iload_n 1, 1) := by decide +kernel
theorem dX2_dividesOne_24 : decode cX2_dividesOne 24 = .ok (.iadd, 1) := by decide +kernel
theorem dX2_dividesOne_25 : decode cX2_dividesOne 25 = .ok (.istore_n 2, 1) := by decide +kernel
theorem dX2_dividesOne_26 : decode cX2_dividesOne 26 = .ok (.goto (-24), 3) := by decide +kernel
theorem dX2_dividesOne_29 : decode cX2_dividesOne 29 = .ok (.iconst 0, 1) := by decide +kernel
theorem dX2_dividesOne_30 : decode cX2_dividesOne 30 = .ok (.ireturn, 1) := by decide +kernel
theorem dX2_findTwoRests_0 : decode cX2_findTwoRests 0 = .ok (.aload_n 0, 1) := by decide +kernel
theorem dX2_findTwoRests_1 : decode cX2_findTwoRests 1 = .ok (.getfield 29, 3) := by decide +kernel
theorem dX2_findTwoRests_4 : decode cX2_findTwoRests 4 = .ok (.istore_n 2, 1) := by decide +kernel
theorem dX2_findTwoRests_5 : decode cX2_findTwoRests 5 = .ok (.aload_n 0, 1) := by decide +kernel
theorem dX2_findTwoRests_6 : decode cX2_findTwoRests 6 = .ok (.getfield 32, 3) := by decide +kernel
theorem dX2_findTwoRests_9 : decode cX2_findTwoRests 9 = .ok (.istore_n 3, 1) := by decide +kernel
theorem dX2_findTwoRests_10 : decode cX2_findTwoRests 10 = .ok (.iconst 1, 1) := by decide +kernel
theorem dX2_findTwoRests_11 : decode cX2_findTwoRests 11 = .ok (.istore 4, 2) := by decide +kernel
theorem dX2_findTwoRests_13 : decode cX2_findTwoRests 13 = .ok (.iload 4, 2) := by decide +kernel
theorem dX2_findTwoRests_15 : decode cX2_findTwoRests 15 = .ok (.aload_n 0, 1) := by decide +kernel
theorem dX2_findTwoRests_16 : decode cX2_findTwoRests 16 = .ok (.getfield 29, 3) := by decide +kernel
theorem dX2_findTwoRests_19 : decode cX2_findTwoRests 19 = .ok (.if_icmp .gt 60, 3) := by decide +kernel
theorem dX2_findTwoRests_22 : decode cX2_findTwoRests 22 = .ok (.iconst 1, 1) := by decide +kernel
theorem dX2_findTwoRests_23 : decode cX2_findTwoRests 23 = .ok (.istore 5, 2) := by decide +kernel
theorem dX2_findTwoRests_25 : decode cX2_findTwoRests 25 = .ok (.iload 5, 2) := by decide +kernel
theorem dX2_findTwoRests_27 : decode cX2_findTwoRests 27 = .ok (.aload_n 0, 1) := by decide +kernel
theorem dX2_findTwoRests_28 : decode cX2_findTwoRests 28 = .ok (.getfield 32, 3) := by decide +kernel
theorem dX2_findTwoRests_31 : decode cX2_findTwoRests 31 = .ok (.if_icmp .gt 42, 3) := by decide +kernel
theorem dX2_findTwoRests_34 : decode cX2_findTwoRests 34 = .ok (.aload_n 1, 1) := by decide +kernel
theorem dX2_findTwoRests_35 : decode cX2_findTwoRests 35 = .ok (.iload 4, 2) := by decide +kernel
theorem dX2_findTwoRests_37 : decode cX2_findTwoRests 37 = .ok (.iload 5, 2) := by decide +kernel
theorem dX2_findTwoRests_39 : decode cX2_findTwoRests 39 = .ok (.invokevirtual 82, 3) := by decide +kernel
theorem dX2_findTwoRests_42 : decode cX2_findTwoRests 42 = .ok (.iload 4, 2) := by decide +kernel
theorem dX2_findTwoRests_44 : decode cX2_findTwoRests 44 = .ok (.iload 5, 2) := by decide +kernel
theorem dX2_findTwoRests_46 : decode cX2_findTwoRests 46 = .ok (.imul, 1) := by decide +kernel
theorem dX2_findTwoRests_47 : decode cX2_findTwoRests 47 = .ok (.iload_n 2, 1) := by decide +kernel
theorem dX2_findTwoRests_48 : decode cX2_findTwoRests 48 = .ok (.iload_n 3, 1) := by decide +kernel
theorem dX2_findTwoRests_49 : decode cX2_findTwoRests 49 = .ok (.imul, 1) := by decide +kernel
theorem dX2_findTwoRests_50 : decode cX2_findTwoRests 50 = .ok (.if_icmp .ge 17, 3) := by decide +kernel
theorem dX2_findTwoRests_53 : decode cX2_findTwoRests 53 = .ok (.aload_n 0, 1) := by decide +kernel
theorem dX2_findTwoRests_54 : decode cX2_findTwoRests 54 = .ok (.aload_n 1, 1) := by decide +kernel
theorem dX2_findTwoRests_55 : decode cX2_findTwoRests 55 = .ok (.invokevirtual 69, 3) := by decide +kernel
theorem dX2_findTwoRests_58 : decode cX2_findTwoRests 58 = .ok (.ifCond .eq 9, 3) := by decide +kernel
theorem dX2_findTwoRests_61 : decode cX2_findTwoRests 61 = .ok (.iload 4, 2) := by decide +kernel
theorem dX2_findTwoRests_63 : decode cX2_findTwoRests 63 = .ok (.istore_n 2, 1) := by decide +kernel
theorem dX2_findTwoRests_64 : decode cX2_findTwoRests 64 = .ok (.iload 5, 2) := by decide +kernel
theorem dX2_findTwoRests_66 : decode cX2_findTwoRests 66 = .ok (.istore_n 3, 1) := by decide +kernel
theorem dX2_findTwoRests_67 : decode cX2_findTwoRests 67 = .ok (.iinc 5 1, 3) := by decide +kernel
theorem dX2_findTwoRests_70 : decode cX2_findTwoRests 70 = .ok (.goto (-45), 3) := by decide +kernel
theorem dX2_findTwoRests_73 : decode cX2_findTwoRests 73 = .ok (.iinc 4 1, 3) := by decide +kernel
theorem dX2_findTwoRests_76 : decode cX2_findTwoRests 76 = .ok (.goto (-63), 3) := by decide +kernel
theorem dX2_findTwoRests_79 : decode cX2_findTwoRests 79 = .ok (.aload_n 1, 1) := by decide +kernel
theorem dX2_findTwoRests_80 : decode cX2_findTwoRests 80 = .ok (.iload_n 2, 1) := by decide +kernel
theorem dX2_findTwoRests_81 : decode cX2_findTwoRests 81 = .ok (.iload_n 3, 1) := by decide +kernel
theorem dX2_findTwoRests_82 : decode cX2_findTwoRests 82 = .ok (.invokevirtual 82, 3) := by decide +kernel
theorem dX2_findTwoRests_85 : decode cX2_findTwoRests 85 = .ok (.return_, 1) := by decide +kernel
theorem dX2_findSlant_0 : decode cX2_findSlant 0 = .ok (.iconst 1, 1) := by decide +kernel
theorem dX2_findSlant_1 : decode cX2_findSlant 1 = .ok (.istore_n 2, 1) := by decide +kernel
theorem dX2_findSlant_2 : decode cX2_findSlant 2 = .ok (.iload_n 2, 1) := by decide +kernel
theorem dX2_findSlant_3 : decode cX2_findSlant 3 = .ok (.aload_n 0, 1) := by decide +kernel
theorem dX2_findSlant_4 : decode cX2_findSlant 4 = .ok (.getfield 29, 3) := by decide +kernel
theorem dX2_findSlant_7 : decode cX2_findSlant 7 = .ok (.aload_n 0, 1) := by decide +kernel
theorem dX2_findSlant_8 : decode cX2_findSlant 8 = .ok (.getfield 32, 3) := by decide +kernel
theorem dX2_findSlant_11 : decode cX2_findSlant 11 = .ok (.imul, 1) := by decide +kernel
theorem dX2_findSlant_12 : decode cX2_findSlant 12 = .ok (.if_icmp .gt 38, 3) := by decide +kernel
theorem dX2_findSlant_15 : decode cX2_findSlant 15 = .ok (.iconst 0, 1) := by decide +kernel
theorem dX2_findSlant_16 : decode cX2_findSlant 16 = .ok (.istore_n 3, 1) := by decide +kernel
theorem dX2_findSlant_17 : decode cX2_findSlant 17 = .ok (.iload_n 3, 1) := by decide +kernel
theorem dX2_findSlant_18 : decode cX2_findSlant 18 = .ok (.bipush 9, 2) := by decide +kernel
theorem dX2_findSlant_20 : decode cX2_findSlant 20 = .ok (.if_icmp .gt 24, 3) := by decide +kernel
theorem dX2_findSlant_23 : decode cX2_findSlant 23 = .ok (.aload_n 1, 1) := by decide +kernel
theorem dX2_findSlant_24 : decode cX2_findSlant 24 = .ok (.iload_n 3, 1) := by decide +kernel
theorem dX2_findSlant_25 : decode cX2_findSlant 25 = .ok (.iload_n 2, 1) := by decide +kernel
theorem dX2_findSlant_26 : decode cX2_findSlant 26 = .ok (.invokevirtual 85, 3) := by decide +kernel
theorem dX2_findSlant_29 : decode cX2_findSlant 29 = .ok (.aload_n 0, 1) := by decide +kernel
theorem dX2_findSlant_30 : decode cX2_findSlant 30 = .ok (.aload_n 1, 1) := by decide +kernel
theorem dX2_findSlant_31 : decode cX2_findSlant 31 = .ok (.invokevirtual 69, 3) := by decide +kernel
theorem dX2_findSlant_34 : decode cX2_findSlant 34 = .ok (.ifCond .eq 4, 3) := by decide +kernel
theorem dX2_findSlant_37 : decode cX2_findSlant 37 = .ok (.return_, 1) := by decide +kernel
theorem dX2_findSlant_38 : decode cX2_findSlant 38 = .ok (.iinc 3 1, 3) := by decide +kernel
theorem dX2_findSlant_41 : decode cX2_findSlant 41 = .ok (.goto (-24), 3) := by decide +kernel
theorem dX2_findSlant_44 : decode cX2_findSlant 44 = .ok (.iinc 2 1, 3) := by decide +kernel
theorem dX2_findSlant_47 : decode cX2_findSlant 47 = .ok (.goto (-45), 3) := by decide +kernel
theorem dX2_findSlant_50 : decode cX2_findSlant 50 = .ok (.return_, 1) := by decide +kernel
theorem dX4_init_0 : decode cX4_init 0 = .ok (.aload_n 0, 1) := by decide +kernel
theorem dX4_init_1 : decode cX4_init 1 = .ok (.invokespecial 3, 3) := by decide +kernel
theorem dX4_init_4 : decode cX4_init 4 = .ok (.aload_n 0, 1) := by decide +kernel
theorem dX4_init_5 : decode cX4_init 5 = .ok (.iload_n 1, 1) := by decide +kernel
theorem dX4_init_6 : decode cX4_init 6 = .ok (.putfield 9, 3) := by decide +kernel
theorem dX4_init_9 : decode cX4_init 9 = .ok (.aload_n 0, 1) := by decide +kernel
theorem dX4_init_10 : decode cX4_init 10 = .ok (.iconst 4, 1) := by decide +kernel
theorem dX4_init_11 : decode cX4_init 11 = .ok (.iload_n 1, 1) := by decide +kernel
theorem dX4_init_12 : decode cX4_init 12 = .ok (.ifCond .eq 9, 3) := by decide +kernel
theorem dX4_init_15 : decode cX4_init 15 = .ok (.sipush 701, 3) := by decide +kernel
theorem dX4_init_18 : decode cX4_init 18 = .ok (.goto 5, 3) := by decide +kernel
theorem dX4_init_21 : decode cX4_init 21 = .ok (.bipush 64, 2) := by decide +kernel
theorem dX4_init_23 : decode cX4_init 23 = .ok (.multianewarray 15 2, 4) := by decide +kernel
theorem dX4_init_27 : decode cX4_init 27 = .ok (.putfield 17, 3) := by decide +kernel
theorem dX4_init_30 : decode cX4_init 30 = .ok (.return_, 1) := by decide +kernel
theorem dX4_empty_0 : decode cX4_empty 0 = .ok (.iconst 0, 1) := by decide +kernel
theorem dX4_empty_1 : decode cX4_empty 1 = .ok (.istore_n 1, 1) := by decide +kernel
theorem dX4_empty_2 : decode cX4_empty 2 = .ok (.iload_n 1, 1) := by decide +kernel
theorem dX4_empty_3 : decode cX4_empty 3 = .ok (.aload_n 0, 1) := by decide +kernel
theorem dX4_empty_4 : decode cX4_empty 4 = .ok (.getfield 17, 3) := by decide +kernel
theorem dX4_empty_7 : decode cX4_empty 7 = .ok (.arraylength, 1) := by decide +kernel
theorem dX4_empty_8 : decode cX4_empty 8 = .ok (.if_icmp .ge 19, 3) := by decide +kernel
theorem dX4_empty_11 : decode cX4_empty 11 = .ok (.aload_n 0, 1) := by decide +kernel
theorem dX4_empty_12 : decode cX4_empty 12 = .ok (.getfield 17, 3) := by decide +kernel
theorem dX4_empty_15 : decode cX4_empty 15 = .ok (.iload_n 1, 1) := by decide +kernel
theorem dX4_empty_16 : decode cX4_empty 16 = .ok (.aaload, 1) := by decide +kernel
theorem dX4_empty_17 : decode cX4_empty 17 = .ok (.iconst 0, 1) := by decide +kernel
theorem dX4_empty_18 : decode cX4_empty 18 = .ok (.invokestatic 20, 3) := by decide +kernel
theorem dX4_empty_21 : decode cX4_empty 21 = .ok (.iinc 1 1, 3) := by decide +kernel
theorem dX4_empty_24 : decode cX4_empty 24 = .ok (.goto (-22), 3) := by decide +kernel
theorem dX4_empty_27 : decode cX4_empty 27 = .ok (.return_, 1) := by decide +kernel
theorem dX4_doStep_0 : decode cX4_doStep 0 = .ok (.aload_n 2, 1) := by decide +kernel
theorem dX4_doStep_1 : decode cX4_doStep 1 = .ok (.getfield 26, 3) := by decide +kernel
theorem dX4_doStep_4 : decode cX4_doStep 4 = .ok (.iload_n 3, 1) := by decide +kernel
theorem dX4_doStep_5 : decode cX4_doStep 5 = .ok (.iaload, 1) := by decide +kernel
theorem dX4_doStep_6 : decode cX4_doStep 6 = .ok (.istore 4, 2) := by decide +kernel
theorem dX4_doStep_8 : decode cX4_doStep 8 = .ok (.aload_n 2, 1) := by decide +kernel
theorem dX4_doStep_9 : decode cX4_doStep 9 = .ok (.getfield 32, 3) := by decide +kernel
theorem dX4_doStep_12 : decode cX4_doStep 12 = .ok (.iload_n 3, 1) := by decide +kernel
theorem dX4_doStep_13 : decode cX4_doStep 13 = .ok (.iaload, 1) := by decide +kernel
theorem dX4_doStep_14 : decode cX4_doStep 14 = .ok (.istore 5, 2) := by decide +kernel
theorem dX4_doStep_16 : decode cX4_doStep 16 = .ok (.aload_n 2, 1) := by decide +kernel
theorem dX4_doStep_17 : decode cX4_doStep 17 = .ok (.getfield 35, 3) := by decide +kernel
theorem dX4_doStep_20 : decode cX4_doStep 20 = .ok (.iload_n 3, 1) := by decide +kernel
theorem dX4_doStep_21 : decode cX4_doStep 21 = .ok (.iaload, 1) := by decide +kernel
theorem dX4_doStep_22 : decode cX4_doStep 22 = .ok (.istore 6, 2) := by decide +kernel
theorem dX4_doStep_24 : decode cX4_doStep 24 = .ok (.aload_n 1, 1) := by decide +kernel
theorem dX4_doStep_25 : decode cX4_doStep 25 = .ok (.getfield 38, 3) := by decide +kernel
theorem dX4_doStep_28 : decode cX4_doStep 28 = .ok (.iload 4, 2) := by decide +kernel
theorem dX4_doStep_30 : decode cX4_doStep 30 = .ok (.invokevirtual 44, 3) := by decide +kernel
theorem dX4_doStep_33 : decode cX4_doStep 33 = .ok (.checkcast 50, 3) := by decide +kernel
theorem dX4_doStep_36 : decode cX4_doStep 36 = .ok (.astore 7, 2) := by decide +kernel
theorem dX4_doStep_38 : decode cX4_doStep 38 = .ok (.aload 7, 2) := by decide +kernel
theorem dX4_doStep_40 : decode cX4_doStep 40 = .ok (.getfield 52, 3) := by decide +kernel
theorem dX4_doStep_43 : decode cX4_doStep 43 = .ok (.istore 8, 2) := by decide +kernel
theorem dX4_doStep_45 : decode cX4_doStep 45 = .ok (.iconst 0, 1) := by decide +kernel
theorem dX4_doStep_46 : decode cX4_doStep 46 = .ok (.istore 9, 2) := by decide +kernel
theorem dX4_doStep_48 : decode cX4_doStep 48 = .ok (.iload 9, 2) := by decide +kernel
theorem dX4_doStep_50 : decode cX4_doStep 50 = .ok (.aload 7, 2) := by decide +kernel
theorem dX4_doStep_52 : decode cX4_doStep 52 = .ok (.getfield 56, 3) := by decide +kernel
theorem dX4_doStep_55 : decode cX4_doStep 55 = .ok (.invokevirtual 59, 3) := by decide +kernel
theorem dX4_doStep_58 : decode cX4_doStep 58 = .ok (.if_icmp .ge 61, 3) := by decide +kernel
theorem dX4_doStep_61 : decode cX4_doStep 61 = .ok (.aload 7, 2) := by decide +kernel
theorem dX4_doStep_63 : decode cX4_doStep 63 = .ok (.getfield 56, 3) := by decide +kernel
theorem dX4_doStep_66 : decode cX4_doStep 66 = .ok (.iload 9, 2) := by decide +kernel
theorem dX4_doStep_68 : decode cX4_doStep 68 = .ok (.invokevirtual 44, 3) := by decide +kernel
theorem dX4_doStep_71 : decode cX4_doStep 71 = .ok (.checkcast 63, 3) := by decide +kernel
theorem dX4_doStep_74 : decode cX4_doStep 74 = .ok (.astore 10, 2) := by decide +kernel
theorem dX4_doStep_76 : decode cX4_doStep 76 = .ok (.iload 8, 2) := by decide +kernel
theorem dX4_doStep_78 : decode cX4_doStep 78 = .ok (.aload 10, 2) := by decide +kernel
theorem dX4_doStep_80 : decode cX4_doStep 80 = .ok (.getfield 65, 3) := by decide +kernel
theorem dX4_doStep_83 : decode cX4_doStep 83 = .ok (.aload_n 0, 1) := by decide +kernel
theorem dX4_doStep_84 : decode cX4_doStep 84 = .ok (.aload_n 1, 1) := by decide +kernel
theorem dX4_doStep_85 : decode cX4_doStep 85 = .ok (.aload 10, 2) := by decide +kernel
theorem dX4_doStep_87 : decode cX4_doStep 87 = .ok (.getfield 68, 3) := by decide +kernel
theorem dX4_doStep_90 : decode cX4_doStep 90 = .ok (.iload 5, 2) := by decide +kernel
theorem dX4_doStep_92 : decode cX4_doStep 92 = .ok (.aload 10, 2) := by decide +kernel
theorem dX4_doStep_94 : decode cX4_doStep 94 = .ok (.getfield 71, 3) := by decide +kernel
theorem dX4_doStep_97 : decode cX4_doStep 97 = .ok (.isub, 1) := by decide +kernel
theorem dX4_doStep_98 : decode cX4_doStep 98 = .ok (.iload 6, 2) := by decide +kernel
theorem dX4_doStep_100 : decode cX4_doStep 100 = .ok (.aload 10, 2) := by decide +kernel
theorem dX4_doStep_102 : decode cX4_doStep 102 = .ok (.getfield 74, 3) := by decide +kernel
theorem dX4_doStep_105 : decode cX4_doStep 105 = .ok (.isub, 1) := by decide +kernel
theorem dX4_doStep_106 : decode cX4_doStep 106 = .ok (.invokevirtual 77, 3) := by decide +kernel
theorem dX4_doStep_109 : decode cX4_doStep 109 = .ok (.imul, 1) := by decide +kernel
theorem dX4_doStep_110 : decode cX4_doStep 110 = .ok (.iadd, 1) := by decide +kernel
theorem dX4_doStep_111 : decode cX4_doStep 111 = .ok (.istore 8, 2) := by decide +kernel
theorem dX4_doStep_113 : decode cX4_doStep 113 = .ok (.iinc 9 1, 3) := by decide +kernel
theorem dX4_doStep_116 : decode cX4_doStep 116 = .ok (.goto (-68), 3) := by decide +kernel
theorem dX4_doStep_119 : decode cX4_doStep 119 = .ok (.iload 8, 2) := by decide +kernel
theorem dX4_doStep_121 : decode cX4_doStep 121 = .ok (.sipush 9973, 3) := by decide +kernel
theorem dX4_doStep_124 : decode cX4_doStep 124 = .ok (.irem, 1) := by decide +kernel
theorem dX4_doStep_125 : decode cX4_doStep 125 = .ok (.istore 9, 2) := by decide +kernel
theorem dX4_doStep_127 : decode cX4_doStep 127 = .ok (.aload_n 0, 1) := by decide +kernel
theorem dX4_doStep_128 : decode cX4_doStep 128 = .ok (.getfield 17, 3) := by decide +kernel
theorem dX4_doStep_131 : decode cX4_doStep 131 = .ok (.iload 4, 2) := by decide +kernel
theorem dX4_doStep_133 : decode cX4_doStep 133 = .ok (.aaload, 1) := by decide +kernel
theorem dX4_doStep_134 : decode cX4_doStep 134 = .ok (.aload_n 0, 1) := by decide +kernel
theorem dX4_doStep_135 : decode cX4_doStep 135 = .ok (.aload_n 1, 1) := by decide +kernel
theorem dX4_doStep_136 : decode cX4_doStep 136 = .ok (.iload 4, 2) := by decide +kernel
theorem dX4_doStep_138 : decode cX4_doStep 138 = .ok (.iload 5, 2) := by decide +kernel
theorem dX4_doStep_140 : decode cX4_doStep 140 = .ok (.iload 6, 2) := by decide +kernel
theorem dX4_doStep_142 : decode cX4_doStep 142 = .ok (.invokevirtual 81, 3) := by decide +kernel
theorem dX4_doStep_145 : decode cX4_doStep 145 = .ok (.iload 9, 2) := by decide +kernel
theorem dX4_doStep_147 : decode cX4_doStep 147 = .ok (.iastore, 1) := by decide +kernel
theorem dX4_doStep_148 : decode cX4_doStep 148 = .ok (.iload 9, 2) := by decide +kernel
theorem dX4_doStep_150 : decode cX4_doStep 150 = .ok (.ireturn, 1) := by decide +kernel
theorem dX4_taken_0 : decode cX4_taken 0 = .ok (.aload_n 1, 1) := by decide +kernel
theorem dX4_taken_1 : decode cX4_taken 1 = .ok (.iload_n 3, 1) := by decide +kernel
theorem dX4_taken_2 : decode cX4_taken 2 = .ok (.iload 4, 2) := by decide +kernel
theorem dX4_taken_4 : decode cX4_taken 4 = .ok (.invokevirtual 84, 3) := by decide +kernel
theorem dX4_taken_7 : decode cX4_taken 7 = .ok (.ifCond .ne 24, 3) := by decide +kernel
theorem dX4_taken_10 : decode cX4_taken 10 = .ok (.iconst 5, 1) := by decide +kernel
theorem dX4_taken_11 : decode cX4_taken 11 = .ok (.iload_n 3, 1) := by decide +kernel
theorem dX4_taken_12 : decode cX4_taken 12 = .ok (.imul, 1) := by decide +kernel
theorem dX4_taken_13 : decode cX4_taken 13 = .ok (.bipush 7, 2) := by decide +kernel
theorem dX4_taken_15 : decode cX4_taken 15 = .ok (.iload 4, 2) := by decide +kernel
theorem dX4_taken_17 : decode cX4_taken 17 = .ok (.imul, 1) := by decide +kernel
theorem dX4_taken_18 : decode cX4_taken 18 = .ok (.iadd, 1) := by decide +kernel
theorem dX4_taken_19 : decode cX4_taken 19 = .ok (.iload_n 2, 1) := by decide +kernel
theorem dX4_taken_20 : decode cX4_taken 20 = .ok (.iadd, 1) := by decide +kernel
theorem dX4_taken_21 : decode cX4_taken 21 = .ok (.istore 5, 2) := by decide +kernel
theorem dX4_taken_23 : decode cX4_taken 23 = .ok (.iload 5, 2) := by decide +kernel
theorem dX4_taken_25 : decode cX4_taken 25 = .ok (.bipush 100, 2) := by decide +kernel
theorem dX4_taken_27 : decode cX4_taken 27 = .ok (.invokestatic 88, 3) := by decide +kernel
theorem dX4_taken_30 : decode cX4_taken 30 = .ok (.ireturn, 1) := by decide +kernel
theorem dX4_taken_31 : decode cX4_taken 31 = .ok (.aload_n 0, 1) := by decide +kernel
theorem dX4_taken_32 : decode cX4_taken 32 = .ok (.getfield 17, 3) := by decide +kernel
theorem dX4_taken_35 : decode cX4_taken 35 = .ok (.iload_n 2, 1) := by decide +kernel
theorem dX4_taken_36 : decode cX4_taken 36 = .ok (.aaload, 1) := by decide +kernel
theorem dX4_taken_37 : decode cX4_taken 37 = .ok (.aload_n 0, 1) := by decide +kernel
theorem dX4_taken_38 : decode cX4_taken 38 = .ok (.aload_n 1, 1) := by decide +kernel
theorem dX4_taken_39 : decode cX4_taken 39 = .ok (.iload_n 2, 1) := by decide +kernel
theorem dX4_taken_40 : decode cX4_taken 40 = .ok (.iload_n 3, 1) := by decide +kernel
theorem dX4_taken_41 : decode cX4_taken 41 = .ok (.iload 4, 2) := by decide +kernel
theorem dX4_taken_43 : decode cX4_taken 43 = .ok (.invokevirtual 81, 3) := by decide +kernel
theorem dX4_taken_46 : decode cX4_taken 46 = .ok (.iaload, 1) := by decide +kernel
theorem dX4_taken_47 : decode cX4_taken 47 = .ok (.ireturn, 1) := by decide +kernel
theorem dX4_placeIn_0 : decode cX4_placeIn 0 = .ok (.aload_n 0, 1) := by decide +kernel
theorem dX4_placeIn_1 : decode cX4_placeIn 1 = .ok (.getfield 9, 3) := by decide +kernel
theorem dX4_placeIn_4 : decode cX4_placeIn 4 = .ok (.ifCond .ne 13, 3) := by decide +kernel
theorem dX4_placeIn_7 : decode cX4_placeIn 7 = .ok (.iload_n 3, 1) := by decide +kernel
theorem dX4_placeIn_8 : decode cX4_placeIn 8 = .ok (.aload_n 1, 1) := by decide +kernel
theorem dX4_placeIn_9 : decode cX4_placeIn 9 = .ok (.getfield 94, 3) := by decide +kernel
theorem dX4_placeIn_12 : decode cX4_placeIn 12 = .ok (.imul, 1) := by decide +kernel
theorem dX4_placeIn_13 : decode cX4_placeIn 13 = .ok (.iload 4, 2) := by decide +kernel
theorem dX4_placeIn_15 : decode cX4_placeIn 15 = .ok (.iadd, 1) := by decide +kernel
theorem dX4_placeIn_16 : decode cX4_placeIn 16 = .ok (.ireturn, 1) := by decide +kernel
theorem dX4_placeIn_17 : decode cX4_placeIn 17 = .ok (.aload_n 1, 1) := by decide +kernel
theorem dX4_placeIn_18 : decode cX4_placeIn 18 = .ok (.getfield 38, 3) := by decide +kernel
theorem dX4_placeIn_21 : decode cX4_placeIn 21 = .ok (.iload_n 2, 1) := by decide +kernel
theorem dX4_placeIn_22 : decode cX4_placeIn 22 = .ok (.invokevirtual 44, 3) := by decide +kernel
theorem dX4_placeIn_25 : decode cX4_placeIn 25 = .ok (.checkcast 50, 3) := by decide +kernel
theorem dX4_placeIn_28 : decode cX4_placeIn 28 = .ok (.getfield 97, 3) := by decide +kernel
theorem dX4_placeIn_31 : decode cX4_placeIn 31 = .ok (.iload_n 3, 1) := by decide +kernel
theorem dX4_placeIn_32 : decode cX4_placeIn 32 = .ok (.iload 4, 2) := by decide +kernel
theorem dX4_placeIn_34 : decode cX4_placeIn 34 = .ok (.aload_n 1, 1) := by decide +kernel
theorem dX4_placeIn_35 : decode cX4_placeIn 35 = .ok (.getfield 94, 3) := by decide +kernel
theorem dX4_placeIn_38 : decode cX4_placeIn 38 = .ok (.invokevirtual 101, 3) := by decide +kernel
theorem dX4_placeIn_41 : decode cX4_placeIn 41 = .ok (.ireturn, 1) := by decide +kernel
theorem dX5_init_0 : decode cX5_init 0 = .ok (.aload_n 0, 1) := by decide +kernel
theorem dX5_init_1 : decode cX5_init 1 = .ok (.invokespecial 3, 3) := by decide +kernel
theorem dX5_init_4 : decode cX5_init 4 = .ok (.aload_n 0, 1) := by decide +kernel
theorem dX5_init_5 : decode cX5_init 5 = .ok (.new 9, 3) := by decide +kernel
theorem dX5_init_8 : decode cX5_init 8 = .ok (.dup, 1) := by decide +kernel
theorem dX5_init_9 : decode cX5_init 9 = .ok (.invokespecial 11, 3) := by decide +kernel
theorem dX5_init_12 : decode cX5_init 12 = .ok (.putfield 12, 3) := by decide +kernel
theorem dX5_init_15 : decode cX5_init 15 = .ok (.aload_n 0, 1) := by decide +kernel
theorem dX5_init_16 : decode cX5_init 16 = .ok (.iconst 4, 1) := by decide +kernel
theorem dX5_init_17 : decode cX5_init 17 = .ok (.putfield 18, 3) := by decide +kernel
theorem dX5_init_20 : decode cX5_init 20 = .ok (.aload_n 0, 1) := by decide +kernel
theorem dX5_init_21 : decode cX5_init 21 = .ok (.iconst 4, 1) := by decide +kernel
theorem dX5_init_22 : decode cX5_init 22 = .ok (.putfield 22, 3) := by decide +kernel
theorem dX5_init_25 : decode cX5_init 25 = .ok (.aload_n 0, 1) := by decide +kernel
theorem dX5_init_26 : decode cX5_init 26 = .ok (.bipush 16, 2) := by decide +kernel
theorem dX5_init_28 : decode cX5_init 28 = .ok (.putfield 25, 3) := by decide +kernel
theorem dX5_init_31 : decode cX5_init 31 = .ok (.return_, 1) := by decide +kernel
theorem dX5_spread_0 : decode cX5_spread 0 = .ok (.aload_n 0, 1) := by decide +kernel
theorem dX5_spread_1 : decode cX5_spread 1 = .ok (.iload_n 1, 1) := by decide +kernel
theorem dX5_spread_2 : decode cX5_spread 2 = .ok (.putfield 18, 3) := by decide +kernel
theorem dX5_spread_5 : decode cX5_spread 5 = .ok (.aload_n 0, 1) := by decide +kernel
theorem dX5_spread_6 : decode cX5_spread 6 = .ok (.iload_n 2, 1) := by decide +kernel
theorem dX5_spread_7 : decode cX5_spread 7 = .ok (.putfield 22, 3) := by decide +kernel
theorem dX5_spread_10 : decode cX5_spread 10 = .ok (.aload_n 0, 1) := by decide +kernel
theorem dX5_spread_11 : decode cX5_spread 11 = .ok (.iload_n 1, 1) := by decide +kernel
theorem dX5_spread_12 : decode cX5_spread 12 = .ok (.iload_n 2, 1) := by decide +kernel
theorem dX5_spread_13 : decode cX5_spread 13 = .ok (.imul, 1) := by decide +kernel
theorem dX5_spread_14 : decode cX5_spread 14 = .ok (.putfield 25, 3) := by decide +kernel
theorem dX5_spread_17 : decode cX5_spread 17 = .ok (.return_, 1) := by decide +kernel
theorem dX5_cells_0 : decode cX5_cells 0 = .ok (.aload_n 0, 1) := by decide +kernel
theorem dX5_cells_1 : decode cX5_cells 1 = .ok (.aload_n 0, 1) := by decide +kernel
theorem dX5_cells_2 : decode cX5_cells 2 = .ok (.getfield 12, 3) := by decide +kernel
theorem dX5_cells_5 : decode cX5_cells 5 = .ok (.invokevirtual 28, 3) := by decide +kernel
theorem dX5_cells_8 : decode cX5_cells 8 = .ok (.invokevirtual 32, 3) := by decide +kernel
theorem dX5_cells_11 : decode cX5_cells 11 = .ok (.ireturn, 1) := by decide +kernel
theorem dX5_firstCell_0 : decode cX5_firstCell 0 = .ok (.iload_n 1, 1) := by decide +kernel
theorem dX5_firstCell_1 : decode cX5_firstCell 1 = .ok (.aload_n 0, 1) := by decide +kernel
theorem dX5_firstCell_2 : decode cX5_firstCell 2 = .ok (.getfield 25, 3) := by decide +kernel
theorem dX5_firstCell_5 : decode cX5_firstCell 5 = .ok (.imul, 1) := by decide +kernel
theorem dX5_firstCell_6 : decode cX5_firstCell 6 = .ok (.ireturn, 1) := by decide +kernel
theorem dX5_hasPoint_0 : decode cX5_hasPoint 0 = .ok (.iload_n 1, 1) := by decide +kernel
theorem dX5_hasPoint_1 : decode cX5_hasPoint 1 = .ok (.ifCond .lt 27, 3) := by decide +kernel
theorem dX5_hasPoint_4 : decode cX5_hasPoint 4 = .ok (.iload_n 1, 1) := by decide +kernel
theorem dX5_hasPoint_5 : decode cX5_hasPoint 5 = .ok (.aload_n 0, 1) := by decide +kernel
theorem dX5_hasPoint_6 : decode cX5_hasPoint 6 = .ok (.getfield 18, 3) := by decide +kernel
theorem dX5_hasPoint_9 : decode cX5_hasPoint 9 = .ok (.if_icmp .ge 19, 3) := by decide +kernel
theorem dX5_hasPoint_12 : decode cX5_hasPoint 12 = .ok (.iload_n 2, 1) := by decide +kernel
theorem dX5_hasPoint_13 : decode cX5_hasPoint 13 = .ok (.ifCond .lt 15, 3) := by decide +kernel
theorem dX5_hasPoint_16 : decode cX5_hasPoint 16 = .ok (.iload_n 2, 1) := by decide +kernel
theorem dX5_hasPoint_17 : decode cX5_hasPoint 17 = .ok (.aload_n 0, 1) := by decide +kernel
theorem dX5_hasPoint_18 : decode cX5_hasPoint 18 = .ok (.getfield 22, 3) := by decide +kernel
theorem dX5_hasPoint_21 : decode cX5_hasPoint 21 = .ok (.if_icmp .ge 7, 3) := by decide +kernel
theorem dX5_hasPoint_24 : decode cX5_hasPoint 24 = .ok (.iconst 1, 1) := by decide +kernel
theorem dX5_hasPoint_25 : decode cX5_hasPoint 25 = .ok (.goto 4, 3) := by decide +kernel
theorem dX5_hasPoint_28 : decode cX5_hasPoint 28 = .ok (.iconst 0, 1) := by decide +kernel
theorem dX5_hasPoint_29 : decode cX5_hasPoint 29 = .ok (.ireturn, 1) := by decide +kernel
theorem dX5_cellOf_0 : decode cX5_cellOf 0 = .ok (.iload_n 1, 1) := by decide +kernel
theorem dX5_cellOf_1 : decode cX5_cellOf 1 = .ok (.aload_n 0, 1) := by decide +kernel
theorem dX5_cellOf_2 : decode cX5_cellOf 2 = .ok (.getfield 25, 3) := by decide +kernel
theorem dX5_cellOf_5 : decode cX5_cellOf 5 = .ok (.imul, 1) := by decide +kernel
theorem dX5_cellOf_6 : decode cX5_cellOf 6 = .ok (.iload_n 2, 1) := by decide +kernel
theorem dX5_cellOf_7 : decode cX5_cellOf 7 = .ok (.aload_n 0, 1) := by decide +kernel
theorem dX5_cellOf_8 : decode cX5_cellOf 8 = .ok (.getfield 22, 3) := by decide +kernel
theorem dX5_cellOf_11 : decode cX5_cellOf 11 = .ok (.imul, 1) := by decide +kernel
theorem dX5_cellOf_12 : decode cX5_cellOf 12 = .ok (.iadd, 1) := by decide +kernel
theorem dX5_cellOf_13 : decode cX5_cellOf 13 = .ok (.iload_n 3, 1) := by decide +kernel
theorem dX5_cellOf_14 : decode cX5_cellOf 14 = .ok (.iadd, 1) := by decide +kernel
theorem dX5_cellOf_15 : decode cX5_cellOf 15 = .ok (.ireturn, 1) := by decide +kernel
theorem dX5_allows_0 : decode cX5_allows 0 = .ok (.iconst 0, 1) := by decide +kernel
theorem dX5_allows_1 : decode cX5_allows 1 = .ok (.istore_n 3, 1) := by decide +kernel
theorem dX5_allows_2 : decode cX5_allows 2 = .ok (.iload_n 3, 1) := by decide +kernel
theorem dX5_allows_3 : decode cX5_allows 3 = .ok (.aload_n 0, 1) := by decide +kernel
theorem dX5_allows_4 : decode cX5_allows 4 = .ok (.getfield 12, 3) := by decide +kernel
theorem dX5_allows_7 : decode cX5_allows 7 = .ok (.invokevirtual 28, 3) := by decide +kernel
theorem dX5_allows_10 : decode cX5_allows 10 = .ok (.if_icmp .ge 66, 3) := by decide +kernel
theorem dX5_allows_13 : decode cX5_allows 13 = .ok (.aload_n 0, 1) := by decide +kernel
theorem dX5_allows_14 : decode cX5_allows 14 = .ok (.getfield 12, 3) := by decide +kernel
theorem dX5_allows_17 : decode cX5_allows 17 = .ok (.iload_n 3, 1) := by decide +kernel
theorem dX5_allows_18 : decode cX5_allows 18 = .ok (.invokevirtual 36, 3) := by decide +kernel
theorem dX5_allows_21 : decode cX5_allows 21 = .ok (.checkcast 40, 3) := by decide +kernel
theorem dX5_allows_24 : decode cX5_allows 24 = .ok (.getfield 42, 3) := by decide +kernel
theorem dX5_allows_27 : decode cX5_allows 27 = .ok (.astore 4, 2) := by decide +kernel
theorem dX5_allows_29 : decode cX5_allows 29 = .ok (.iconst 0, 1) := by decide +kernel
theorem dX5_allows_30 : decode cX5_allows 30 = .ok (.istore 5, 2) := by decide +kernel
theorem dX5_allows_32 : decode cX5_allows 32 = .ok (.iload 5, 2) := by decide +kernel
theorem dX5_allows_34 : decode cX5_allows 34 = .ok (.aload 4, 2) := by decide +kernel
theorem dX5_allows_36 : decode cX5_allows 36 = .ok (.invokevirtual 28, 3) := by decide +kernel
theorem dX5_allows_39 : decode cX5_allows 39 = .ok (.if_icmp .ge 31, 3) := by decide +kernel
theorem dX5_allows_42 : decode cX5_allows 42 = .ok (.aload_n 0, 1) := by decide +kernel
theorem dX5_allows_43 : decode cX5_allows 43 = .ok (.iload_n 3, 1) := by decide +kernel
theorem dX5_allows_44 : decode cX5_allows 44 = .ok (.aload 4, 2) := by decide +kernel
theorem dX5_allows_46 : decode cX5_allows 46 = .ok (.iload 5, 2) := by decide +kernel
theorem dX5_allows_48 : decode cX5_allows 48 = .ok (.invokevirtual 36, 3) := by decide +kernel
theorem dX5_allows_51 : decode cX5_allows 51 = .ok (.checkcast 45, 3) := by decide +kernel
theorem dX5_allows_54 : decode cX5_allows 54 = .ok (.iload_n 1, 1) := by decide +kernel
theorem dX5_allows_55 : decode cX5_allows 55 = .ok (.iload_n 2, 1) := by decide +kernel
theorem dX5_allows_56 : decode cX5_allows 56 = .ok (.invokevirtual 47, 3) := by decide +kernel
theorem dX5_allows_59 : decode cX5_allows 59 = .ok (.ifCond .ne 5, 3) := by decide +kernel
theorem dX5_allows_62 : decode cX5_allows 62 = .ok (.iconst 0, 1) := by decide +kernel
theorem dX5_allows_63 : decode cX5_allows 63 = .ok (.ireturn, 1) := by decide +kernel
theorem dX5_allows_64 : decode cX5_allows 64 = .ok (.iinc 5 1, 3) := by decide +kernel
theorem dX5_allows_67 : decode cX5_allows 67 = .ok (.goto (-35), 3) := by decide +kernel
theorem dX5_allows_70 : decode cX5_allows 70 = .ok (.iinc 3 1, 3) := by decide +kernel
theorem dX5_allows_73 : decode cX5_allows 73 = .ok (.goto (-71), 3) := by decide +kernel
theorem dX5_allows_76 : decode cX5_allows 76 = .ok (.iconst 1, 1) := by decide +kernel
theorem dX5_allows_77 : decode cX5_allows 77 = .ok (.ireturn, 1) := by decide +kernel
theorem dX5_comesLater_0 : decode cX5_comesLater 0 = .ok (.aload_n 2, 1) := by decide +kernel
theorem dX5_comesLater_1 : decode cX5_comesLater 1 = .ok (.getfield 51, 3) := by decide +kernel
theorem dX5_comesLater_4 : decode cX5_comesLater 4 = .ok (.aload_n 0, 1) := by decide +kernel
theorem dX5_comesLater_5 : decode cX5_comesLater 5 = .ok (.getfield 18, 3) := by decide +kernel
theorem dX5_comesLater_8 : decode cX5_comesLater 8 = .ok (.if_icmp .ge 17, 3) := by decide +kernel
theorem dX5_comesLater_11 : decode cX5_comesLater 11 = .ok (.aload_n 2, 1) := by decide +kernel
theorem dX5_comesLater_12 : decode cX5_comesLater 12 = .ok (.getfield 54, 3) := by decide +kernel
theorem dX5_comesLater_15 : decode cX5_comesLater 15 = .ok (.invokestatic 57, 3) := by decide +kernel
theorem dX5_comesLater_18 : decode cX5_comesLater 18 = .ok (.aload_n 0, 1) := by decide +kernel
theorem dX5_comesLater_19 : decode cX5_comesLater 19 = .ok (.getfield 22, 3) := by decide +kernel
theorem dX5_comesLater_22 : decode cX5_comesLater 22 = .ok (.if_icmp .lt 5, 3) := by decide +kernel
theorem dX5_comesLater_25 : decode cX5_comesLater 25 = .ok (.iconst 1, 1) := by decide +kernel
theorem dX5_comesLater_26 : decode cX5_comesLater 26 = .ok (.ireturn, 1) := by decide +kernel
theorem dX5_comesLater_27 : decode cX5_comesLater 27 = .ok (.aload_n 2, 1) := by decide +kernel
theorem dX5_comesLater_28 : decode cX5_comesLater 28 = .ok (.getfield 51, 3) := by decide +kernel
theorem dX5_comesLater_31 : decode cX5_comesLater 31 = .ok (.iload_n 3, 1) := by decide +kernel
theorem dX5_comesLater_32 : decode cX5_comesLater 32 = .ok (.imul, 1) := by decide +kernel
theorem dX5_comesLater_33 : decode cX5_comesLater 33 = .ok (.aload_n 2, 1) := by decide +kernel
theorem dX5_comesLater_34 : decode cX5_comesLater 34 = .ok (.getfield 54, 3) := by decide +kernel
theorem dX5_comesLater_37 : decode cX5_comesLater 37 = .ok (.iload 4, 2) := by decide +kernel
theorem dX5_comesLater_39 : decode cX5_comesLater 39 = .ok (.imul, 1) := by decide +kernel
theorem dX5_comesLater_40 : decode cX5_comesLater 40 = .ok (.iadd, 1) := by decide +kernel
theorem dX5_comesLater_41 : decode cX5_comesLater 41 = .ok (.aload_n 0, 1) := by decide +kernel
theorem dX5_comesLater_42 : decode cX5_comesLater 42 = .ok (.getfield 12, 3) := by decide +kernel
theorem dX5_comesLater_45 : decode cX5_comesLater 45 = .ok (.iload_n 1, 1) := by decide +kernel
theorem dX5_comesLater_46 : decode cX5_comesLater 46 = .ok (.invokevirtual 36, 3) := by decide +kernel
theorem dX5_comesLater_49 : decode cX5_comesLater 49 = .ok (.checkcast 40, 3) := by decide +kernel
theorem dX5_comesLater_52 : decode cX5_comesLater 52 = .ok (.getfield 62, 3) := by decide +kernel
theorem dX5_comesLater_55 : decode cX5_comesLater 55 = .ok (.iadd, 1) := by decide +kernel
theorem dX5_comesLater_56 : decode cX5_comesLater 56 = .ok (.aload_n 0, 1) := by decide +kernel
theorem dX5_comesLater_57 : decode cX5_comesLater 57 = .ok (.getfield 12, 3) := by decide +kernel
theorem dX5_comesLater_60 : decode cX5_comesLater 60 = .ok (.aload_n 2, 1) := by decide +kernel
theorem dX5_comesLater_61 : decode cX5_comesLater 61 = .ok (.getfield 65, 3) := by decide +kernel
theorem dX5_comesLater_64 : decode cX5_comesLater 64 = .ok (.invokevirtual 36, 3) := by decide +kernel
theorem dX5_comesLater_67 : decode cX5_comesLater 67 = .ok (.checkcast 40, 3) := by decide +kernel
theorem dX5_comesLater_70 : decode cX5_comesLater 70 = .ok (.getfield 62, 3) := by decide +kernel
theorem dX5_comesLater_73 : decode cX5_comesLater 73 = .ok (.isub, 1) := by decide +kernel
theorem dX5_comesLater_74 : decode cX5_comesLater 74 = .ok (.istore 5, 2) := by decide +kernel
theorem dX5_comesLater_76 : decode cX5_comesLater 76 = .ok (.iload 5, 2) := by decide +kernel
theorem dX5_comesLater_78 : decode cX5_comesLater 78 = .ok (.ifCond .eq 14, 3) := by decide +kernel
theorem dX5_comesLater_81 : decode cX5_comesLater 81 = .ok (.iload 5, 2) := by decide +kernel
theorem dX5_comesLater_83 : decode cX5_comesLater 83 = .ok (.ifCond .le 7, 3) := by decide +kernel
theorem dX5_comesLater_86 : decode cX5_comesLater 86 = .ok (.iconst 1, 1) := by decide +kernel
theorem dX5_comesLater_87 : decode cX5_comesLater 87 = .ok (.goto 4, 3) := by decide +kernel
theorem dX5_comesLater_90 : decode cX5_comesLater 90 = .ok (.iconst 0, 1) := by decide +kernel
theorem dX5_comesLater_91 : decode cX5_comesLater 91 = .ok (.ireturn, 1) := by decide +kernel
theorem dX5_comesLater_92 : decode cX5_comesLater 92 = .ok (.iload_n 1, 1) := by decide +kernel
theorem dX5_comesLater_93 : decode cX5_comesLater 93 = .ok (.aload_n 2, 1) := by decide +kernel
theorem dX5_comesLater_94 : decode cX5_comesLater 94 = .ok (.getfield 65, 3) := by decide +kernel
theorem dX5_comesLater_97 : decode cX5_comesLater 97 = .ok (.if_icmp .eq 17, 3) := by decide +kernel
theorem dX5_comesLater_100 : decode cX5_comesLater 100 = .ok (.iload_n 1, 1) := by decide +kernel
theorem dX5_comesLater_101 : decode cX5_comesLater 101 = .ok (.aload_n 2, 1) := by decide +kernel
theorem dX5_comesLater_102 : decode cX5_comesLater 102 = .ok (.getfield 65, 3) := by decide +kernel
theorem dX5_comesLater_105 : decode cX5_comesLater 105 = .ok (.if_icmp .le 7, 3) := by decide +kernel
theorem dX5_comesLater_108 : decode cX5_comesLater 108 = .ok (.iconst 1, 1) := by decide +kernel
theorem dX5_comesLater_109 : decode cX5_comesLater 109 = .ok (.goto 4, 3) := by decide +kernel
theorem dX5_comesLater_112 : decode cX5_comesLater 112 = .ok (.iconst 0, 1) := by decide +kernel
theorem dX5_comesLater_113 : decode cX5_comesLater 113 = .ok (.ireturn, 1) := by decide +kernel
theorem dX5_comesLater_114 : decode cX5_comesLater 114 = .ok (.aload_n 2, 1) := by decide +kernel
theorem dX5_comesLater_115 : decode cX5_comesLater 115 = .ok (.getfield 51, 3) := by decide +kernel
theorem dX5_comesLater_118 : decode cX5_comesLater 118 = .ok (.ifCond .gt 17, 3) := by decide +kernel
theorem dX5_comesLater_121 : decode cX5_comesLater 121 = .ok (.aload_n 2, 1) := by decide +kernel
theorem dX5_comesLater_122 : decode cX5_comesLater 122 = .ok (.getfield 51, 3) := by decide +kernel
theorem dX5_comesLater_125 : decode cX5_comesLater 125 = .ok (.ifCond .ne 14, 3) := by decide +kernel
theorem dX5_comesLater_128 : decode cX5_comesLater 128 = .ok (.aload_n 2, 1) := by decide +kernel
theorem dX5_comesLater_129 : decode cX5_comesLater 129 = .ok (.getfield 54, 3) := by decide +kernel
theorem dX5_comesLater_132 : decode cX5_comesLater 132 = .ok (.ifCond .le 7, 3) := by decide +kernel
theorem dX5_comesLater_135 : decode cX5_comesLater 135 = .ok (.iconst 1, 1) := by decide +kernel
theorem dX5_comesLater_136 : decode cX5_comesLater 136 = .ok (.goto 4, 3) := by decide +kernel
theorem dX5_comesLater_139 : decode cX5_comesLater 139 = .ok (.iconst 0, 1) := by decide +kernel
theorem dX5_comesLater_140 : decode cX5_comesLater 140 = .ok (.ireturn, 1) := by decide +kernel
theorem dX6_init_0 : decode cX6_init 0 = .ok (.aload_n 0, 1) := by decide +kernel
theorem dX6_init_1 : decode cX6_init 1 = .ok (.invokespecial 1, 3) := by decide +kernel
theorem dX6_init_4 : decode cX6_init 4 = .ok (.aload_n 0, 1) := by decide +kernel
theorem dX6_init_5 : decode cX6_init 5 = .ok (.iload_n 1, 1) := by decide +kernel
theorem dX6_init_6 : decode cX6_init 6 = .ok (.putfield 7, 3) := by decide +kernel
theorem dX6_init_9 : decode cX6_init 9 = .ok (.aload_n 0, 1) := by decide +kernel
theorem dX6_init_10 : decode cX6_init 10 = .ok (.iload_n 2, 1) := by decide +kernel
theorem dX6_init_11 : decode cX6_init 11 = .ok (.putfield 13, 3) := by decide +kernel
theorem dX6_init_14 : decode cX6_init 14 = .ok (.aload_n 0, 1) := by decide +kernel
theorem dX6_init_15 : decode cX6_init 15 = .ok (.iload_n 3, 1) := by decide +kernel
theorem dX6_init_16 : decode cX6_init 16 = .ok (.putfield 16, 3) := by decide +kernel
theorem dX6_init_19 : decode cX6_init 19 = .ok (.aload_n 0, 1) := by decide +kernel
theorem dX6_init_20 : decode cX6_init 20 = .ok (.iload 4, 2) := by decide +kernel
theorem dX6_init_22 : decode cX6_init 22 = .ok (.putfield 19, 3) := by decide +kernel
theorem dX6_init_25 : decode cX6_init 25 = .ok (.return_, 1) := by decide +kernel
theorem dX7_init_0 : decode cX7_init 0 = .ok (.aload_n 0, 1) := by decide +kernel
theorem dX7_init_1 : decode cX7_init 1 = .ok (.invokespecial 1, 3) := by decide +kernel
theorem dX7_init_4 : decode cX7_init 4 = .ok (.aload_n 0, 1) := by decide +kernel
theorem dX7_init_5 : decode cX7_init 5 = .ok (.new 7, 3) := by decide +kernel
theorem dX7_init_8 : decode cX7_init 8 = .ok (.dup, 1) := by decide +kernel
theorem dX7_init_9 : decode cX7_init 9 = .ok (.invokespecial 9, 3) := by decide +kernel
theorem dX7_init_12 : decode cX7_init 12 = .ok (.putfield 10, 3) := by decide +kernel
theorem dX7_init_15 : decode cX7_init 15 = .ok (.aload_n 0, 1) := by decide +kernel
theorem dX7_init_16 : decode cX7_init 16 = .ok (.new 16, 3) := by decide +kernel
theorem dX7_init_19 : decode cX7_init 19 = .ok (.dup, 1) := by decide +kernel
theorem dX7_init_20 : decode cX7_init 20 = .ok (.invokespecial 18, 3) := by decide +kernel
theorem dX7_init_23 : decode cX7_init 23 = .ok (.putfield 19, 3) := by decide +kernel
theorem dX7_init_26 : decode cX7_init 26 = .ok (.aload_n 0, 1) := by decide +kernel
theorem dX7_init_27 : decode cX7_init 27 = .ok (.iconst 0, 1) := by decide +kernel
theorem dX7_init_28 : decode cX7_init 28 = .ok (.putfield 23, 3) := by decide +kernel
theorem dX7_init_31 : decode cX7_init 31 = .ok (.aload_n 0, 1) := by decide +kernel
theorem dX7_init_32 : decode cX7_init 32 = .ok (.iconst 0, 1) := by decide +kernel
theorem dX7_init_33 : decode cX7_init 33 = .ok (.putfield 27, 3) := by decide +kernel
theorem dX7_init_36 : decode cX7_init 36 = .ok (.aload_n 0, 1) := by decide +kernel
theorem dX7_init_37 : decode cX7_init 37 = .ok (.iload_n 1, 1) := by decide +kernel
theorem dX7_init_38 : decode cX7_init 38 = .ok (.putfield 31, 3) := by decide +kernel
theorem dX7_init_41 : decode cX7_init 41 = .ok (.return_, 1) := by decide +kernel
theorem dX8_init_0 : decode cX8_init 0 = .ok (.aload_n 0, 1) := by decide +kernel
theorem dX8_init_1 : decode cX8_init 1 = .ok (.invokespecial 1, 3) := by decide +kernel
theorem dX8_init_4 : decode cX8_init 4 = .ok (.aload_n 0, 1) := by decide +kernel
theorem dX8_init_5 : decode cX8_init 5 = .ok (.getstatic 7, 3) := by decide +kernel
theorem dX8_init_8 : decode cX8_init 8 = .ok (.putfield 13, 3) := by decide +kernel
theorem dX8_init_11 : decode cX8_init 11 = .ok (.aload_n 0, 1) := by decide +kernel
theorem dX8_init_12 : decode cX8_init 12 = .ok (.iconst 1, 1) := by decide +kernel
theorem dX8_init_13 : decode cX8_init 13 = .ok (.putfield 18, 3) := by decide +kernel
theorem dX8_init_16 : decode cX8_init 16 = .ok (.aload_n 0, 1) := by decide +kernel
theorem dX8_init_17 : decode cX8_init 17 = .ok (.iconst 1, 1) := by decide +kernel
theorem dX8_init_18 : decode cX8_init 18 = .ok (.putfield 22, 3) := by decide +kernel
theorem dX8_init_21 : decode cX8_init 21 = .ok (.aload_n 0, 1) := by decide +kernel
theorem dX8_init_22 : decode cX8_init 22 = .ok (.iconst 1, 1) := by decide +kernel
theorem dX8_init_23 : decode cX8_init 23 = .ok (.putfield 25, 3) := by decide +kernel
theorem dX8_init_26 : decode cX8_init 26 = .ok (.aload_n 0, 1) := by decide +kernel
theorem dX8_init_27 : decode cX8_init 27 = .ok (.iconst 0, 1) := by decide +kernel
theorem dX8_init_28 : decode cX8_init 28 = .ok (.putfield 28, 3) := by decide +kernel
theorem dX8_init_31 : decode cX8_init 31 = .ok (.return_, 1) := by decide +kernel
theorem dX8_becomeWhole_0 : decode cX8_becomeWhole 0 = .ok (.aload_n 0, 1) := by decide +kernel
theorem dX8_becomeWhole_1 : decode cX8_becomeWhole 1 = .ok (.getstatic 7, 3) := by decide +kernel
theorem dX8_becomeWhole_4 : decode cX8_becomeWhole 4 = .ok (.putfield 13, 3) := by decide +kernel
theorem dX8_becomeWhole_7 : decode cX8_becomeWhole 7 = .ok (.return_, 1) := by decide +kernel
theorem dX8_becomeRest_0 : decode cX8_becomeRest 0 = .ok (.aload_n 0, 1) := by decide +kernel
theorem dX8_becomeRest_1 : decode cX8_becomeRest 1 = .ok (.getstatic 31, 3) := by decide +kernel
theorem dX8_becomeRest_4 : decode cX8_becomeRest 4 = .ok (.putfield 13, 3) := by decide +kernel
theorem dX8_becomeRest_7 : decode cX8_becomeRest 7 = .ok (.aload_n 0, 1) := by decide +kernel
theorem dX8_becomeRest_8 : decode cX8_becomeRest 8 = .ok (.iload_n 1, 1) := by decide +kernel
theorem dX8_becomeRest_9 : decode cX8_becomeRest 9 = .ok (.putfield 18, 3) := by decide +kernel
theorem dX8_becomeRest_12 : decode cX8_becomeRest 12 = .ok (.return_, 1) := by decide +kernel
theorem dX8_becomeTwoRests_0 : decode cX8_becomeTwoRests 0 = .ok (.aload_n 0, 1) := by decide +kernel
theorem dX8_becomeTwoRests_1 : decode cX8_becomeTwoRests 1 = .ok (.getstatic 34, 3) := by decide +kernel
theorem dX8_becomeTwoRests_4 : decode cX8_becomeTwoRests 4 = .ok (.putfield 13, 3) := by decide +kernel
theorem dX8_becomeTwoRests_7 : decode cX8_becomeTwoRests 7 = .ok (.aload_n 0, 1) := by decide +kernel
theorem dX8_becomeTwoRests_8 : decode cX8_becomeTwoRests 8 = .ok (.iload_n 1, 1) := by decide +kernel
theorem dX8_becomeTwoRests_9 : decode cX8_becomeTwoRests 9 = .ok (.putfield 22, 3) := by decide +kernel
theorem dX8_becomeTwoRests_12 : decode cX8_becomeTwoRests 12 = .ok (.aload_n 0, 1) := by decide +kernel
theorem dX8_becomeTwoRests_13 : decode cX8_becomeTwoRests 13 = .ok (.iload_n 2, 1) := by decide +kernel
theorem dX8_becomeTwoRests_14 : decode cX8_becomeTwoRests 14 = .ok (.putfield 25, 3) := by decide +kernel
theorem dX8_becomeTwoRests_17 : decode cX8_becomeTwoRests 17 = .ok (.return_, 1) := by decide +kernel
theorem dX8_becomeSlant_0 : decode cX8_becomeSlant 0 = .ok (.aload_n 0, 1) := by decide +kernel
theorem dX8_becomeSlant_1 : decode cX8_becomeSlant 1 = .ok (.getstatic 37, 3) := by decide +kernel
theorem dX8_becomeSlant_4 : decode cX8_becomeSlant 4 = .ok (.putfield 13, 3) := by decide +kernel
theorem dX8_becomeSlant_7 : decode cX8_becomeSlant 7 = .ok (.aload_n 0, 1) := by decide +kernel
theorem dX8_becomeSlant_8 : decode cX8_becomeSlant 8 = .ok (.iload_n 1, 1) := by decide +kernel
theorem dX8_becomeSlant_9 : decode cX8_becomeSlant 9 = .ok (.putfield 28, 3) := by decide +kernel
theorem dX8_becomeSlant_12 : decode cX8_becomeSlant 12 = .ok (.aload_n 0, 1) := by decide +kernel
theorem dX8_becomeSlant_13 : decode cX8_becomeSlant 13 = .ok (.iload_n 2, 1) := by decide +kernel
theorem dX8_becomeSlant_14 : decode cX8_becomeSlant 14 = .ok (.putfield 18, 3) := by decide +kernel
theorem dX8_becomeSlant_17 : decode cX8_becomeSlant 17 = .ok (.return_, 1) := by decide +kernel
theorem dX8_become_0 : decode cX8_become 0 = .ok (.aload_n 0, 1) := by decide +kernel
theorem dX8_become_1 : decode cX8_become 1 = .ok (.aload_n 1, 1) := by decide +kernel
theorem dX8_become_2 : decode cX8_become 2 = .ok (.getfield 13, 3) := by decide +kernel
theorem dX8_become_5 : decode cX8_become 5 = .ok (.putfield 13, 3) := by decide +kernel
theorem dX8_become_8 : decode cX8_become 8 = .ok (.aload_n 0, 1) := by decide +kernel
theorem dX8_become_9 : decode cX8_become 9 = .ok (.aload_n 1, 1) := by decide +kernel
theorem dX8_become_10 : decode cX8_become 10 = .ok (.getfield 18, 3) := by decide +kernel
theorem dX8_become_13 : decode cX8_become 13 = .ok (.putfield 18, 3) := by decide +kernel
theorem dX8_become_16 : decode cX8_become 16 = .ok (.aload_n 0, 1) := by decide +kernel
theorem dX8_become_17 : decode cX8_become 17 = .ok (.aload_n 1, 1) := by decide +kernel
theorem dX8_become_18 : decode cX8_become 18 = .ok (.getfield 22, 3) := by decide +kernel
theorem dX8_become_21 : decode cX8_become 21 = .ok (.putfield 22, 3) := by decide +kernel
theorem dX8_become_24 : decode cX8_become 24 = .ok (.aload_n 0, 1) := by decide +kernel
theorem dX8_become_25 : decode cX8_become 25 = .ok (.aload_n 1, 1) := by decide +kernel
theorem dX8_become_26 : decode cX8_become 26 = .ok (.getfield 25, 3) := by decide +kernel
theorem dX8_become_29 : decode cX8_become 29 = .ok (.putfield 25, 3) := by decide +kernel
theorem dX8_become_32 : decode cX8_become 32 = .ok (.aload_n 0, 1) := by decide +kernel
theorem dX8_become_33 : decode cX8_become 33 = .ok (.aload_n 1, 1) := by decide +kernel
theorem dX8_become_34 : decode cX8_become 34 = .ok (.getfield 28, 3) := by decide +kernel
theorem dX8_become_37 : decode cX8_become 37 = .ok (.putfield 28, 3) := by decide +kernel
theorem dX8_become_40 : decode cX8_become 40 = .ok (.return_, 1) := by decide +kernel
theorem dX8_places_0 : decode cX8_places 0 = .ok (.aload_n 0, 1) := by decide +kernel
theorem dX8_places_1 : decode cX8_places 1 = .ok (.getfield 13, 3) := by decide +kernel
theorem dX8_places_4 : decode cX8_places 4 = .ok (.getstatic 7, 3) := by decide +kernel
theorem dX8_places_7 : decode cX8_places 7 = .ok (.if_acmp .ne 5, 3) := by decide +kernel
theorem dX8_places_10 : decode cX8_places 10 = .ok (.iload_n 1, 1) := by decide +kernel
theorem dX8_places_11 : decode cX8_places 11 = .ok (.ireturn, 1) := by decide +kernel
theorem dX8_places_12 : decode cX8_places 12 = .ok (.aload_n 0, 1) := by decide +kernel
theorem dX8_places_13 : decode cX8_places 13 = .ok (.getfield 13, 3) := by decide +kernel
theorem dX8_places_16 : decode cX8_places 16 = .ok (.getstatic 34, 3) := by decide +kernel
theorem dX8_places_19 : decode cX8_places 19 = .ok (.if_acmp .ne 15, 3) := by decide +kernel
theorem dX8_places_22 : decode cX8_places 22 = .ok (.aload_n 0, 1) := by decide +kernel
theorem dX8_places_23 : decode cX8_places 23 = .ok (.getfield 22, 3) := by decide +kernel
theorem dX8_places_26 : decode cX8_places 26 = .ok (.aload_n 0, 1) := by decide +kernel
theorem dX8_places_27 : decode cX8_places 27 = .ok (.getfield 25, 3) := by decide +kernel
theorem dX8_places_30 : decode cX8_places 30 = .ok (.imul, 1) := by decide +kernel
theorem dX8_places_31 : decode cX8_places 31 = .ok (.goto 7, 3) := by decide +kernel
theorem dX8_places_34 : decode cX8_places 34 = .ok (.aload_n 0, 1) := by decide +kernel
theorem dX8_places_35 : decode cX8_places 35 = .ok (.getfield 18, 3) := by decide +kernel
theorem dX8_places_38 : decode cX8_places 38 = .ok (.ireturn, 1) := by decide +kernel
theorem dX8_placeFor_0 : decode cX8_placeFor 0 = .ok (.getstatic 40, 3) := by decide +kernel
theorem dX8_placeFor_3 : decode cX8_placeFor 3 = .ok (.aload_n 0, 1) := by decide +kernel
theorem dX8_placeFor_4 : decode cX8_placeFor 4 = .ok (.getfield 13, 3) := by decide +kernel
theorem dX8_placeFor_7 : decode cX8_placeFor 7 = .ok (.invokevirtual 46, 3) := by decide +kernel
theorem dX8_placeFor_10 : decode cX8_placeFor 10 = .ok (.iaload, 1) := by decide +kernel
theorem dX8_placeFor_11 : decode cX8_placeFor 11 = .ok (.tableswitch 77 1 3 #[25, 38, 61], 25) := by decide +kernel
theorem dX8_placeFor_36 : decode cX8_placeFor 36 = .ok (.iload_n 1, 1) := by decide +kernel
theorem dX8_placeFor_37 : decode cX8_placeFor 37 = .ok (.iload_n 3, 1) := by decide +kernel
theorem dX8_placeFor_38 : decode cX8_placeFor 38 = .ok (.imul, 1) := by decide +kernel
theorem dX8_placeFor_39 : decode cX8_placeFor 39 = .ok (.iload_n 2, 1) := by decide +kernel
theorem dX8_placeFor_40 : decode cX8_placeFor 40 = .ok (.iadd, 1) := by decide +kernel
theorem dX8_placeFor_41 : decode cX8_placeFor 41 = .ok (.aload_n 0, 1) := by decide +kernel
theorem dX8_placeFor_42 : decode cX8_placeFor 42 = .ok (.getfield 18, 3) := by decide +kernel
theorem dX8_placeFor_45 : decode cX8_placeFor 45 = .ok (.invokestatic 50, 3) := by decide +kernel
theorem dX8_placeFor_48 : decode cX8_placeFor 48 = .ok (.ireturn, 1) := by decide +kernel
theorem dX8_placeFor_49 : decode cX8_placeFor 49 = .ok (.iload_n 1, 1) := by decide +kernel
theorem dX8_placeFor_50 : decode cX8_placeFor 50 = .ok (.aload_n 0, 1) := by decide +kernel
theorem dX8_placeFor_51 : decode cX8_placeFor 51 = .ok (.getfield 22, 3) := by decide +kernel
theorem dX8_placeFor_54 : decode cX8_placeFor 54 = .ok (.invokestatic 50, 3) := by decide +kernel
theorem dX8_placeFor_57 : decode cX8_placeFor 57 = .ok (.aload_n 0, 1) := by decide +kernel
theorem dX8_placeFor_58 : decode cX8_placeFor 58 = .ok (.getfield 25, 3) := by decide +kernel
theorem dX8_placeFor_61 : decode cX8_placeFor 61 = .ok (.imul, 1) := by decide +kernel
theorem dX8_placeFor_62 : decode cX8_placeFor 62 = .ok (.iload_n 2, 1) := by decide +kernel
theorem dX8_placeFor_63 : decode cX8_placeFor 63 = .ok (.aload_n 0, 1) := by decide +kernel
theorem dX8_placeFor_64 : decode cX8_placeFor 64 = .ok (.getfield 25, 3) := by decide +kernel
theorem dX8_placeFor_67 : decode cX8_placeFor 67 = .ok (.invokestatic 50, 3) := by decide +kernel
theorem dX8_placeFor_70 : decode cX8_placeFor 70 = .ok (.iadd, 1) := by decide +kernel
theorem dX8_placeFor_71 : decode cX8_placeFor 71 = .ok (.ireturn, 1) := by decide +kernel
theorem dX8_placeFor_72 : decode cX8_placeFor 72 = .ok (.iload_n 1, 1) := by decide +kernel
theorem dX8_placeFor_73 : decode cX8_placeFor 73 = .ok (.iload_n 2, 1) := by decide +kernel
theorem dX8_placeFor_74 : decode cX8_placeFor 74 = .ok (.aload_n 0, 1) := by decide +kernel
theorem dX8_placeFor_75 : decode cX8_placeFor 75 = .ok (.getfield 28, 3) := by decide +kernel
theorem dX8_placeFor_78 : decode cX8_placeFor 78 = .ok (.imul, 1) := by decide +kernel
theorem dX8_placeFor_79 : decode cX8_placeFor 79 = .ok (.iadd, 1) := by decide +kernel
theorem dX8_placeFor_80 : decode cX8_placeFor 80 = .ok (.aload_n 0, 1) := by decide +kernel
theorem dX8_placeFor_81 : decode cX8_placeFor 81 = .ok (.getfield 18, 3) := by decide +kernel
theorem dX8_placeFor_84 : decode cX8_placeFor 84 = .ok (.invokestatic 50, 3) := by decide +kernel
theorem dX8_placeFor_87 : decode cX8_placeFor 87 = .ok (.ireturn, 1) := by decide +kernel
theorem dX8_placeFor_88 : decode cX8_placeFor 88 = .ok (.iload_n 1, 1) := by decide +kernel
theorem dX8_placeFor_89 : decode cX8_placeFor 89 = .ok (.iload_n 3, 1) := by decide +kernel
theorem dX8_placeFor_90 : decode cX8_placeFor 90 = .ok (.imul, 1) := by decide +kernel
theorem dX8_placeFor_91 : decode cX8_placeFor 91 = .ok (.iload_n 2, 1) := by decide +kernel
theorem dX8_placeFor_92 : decode cX8_placeFor 92 = .ok (.iadd, 1) := by decide +kernel
theorem dX8_placeFor_93 : decode cX8_placeFor 93 = .ok (.ireturn, 1) := by decide +kernel
theorem dX8_keepsApart_0 : decode cX8_keepsApart 0 = .ok (.getstatic 40, 3) := by decide +kernel
theorem dX8_keepsApart_3 : decode cX8_keepsApart 3 = .ok (.aload_n 0, 1) := by decide +kernel
theorem dX8_keepsApart_4 : decode cX8_keepsApart 4 = .ok (.getfield 13, 3) := by decide +kernel
theorem dX8_keepsApart_7 : decode cX8_keepsApart 7 = .ok (.invokevirtual 46, 3) := by decide +kernel
theorem dX8_keepsApart_10 : decode cX8_keepsApart 10 = .ok (.iaload, 1) := by decide +kernel
theorem dX8_keepsApart_11 : decode cX8_keepsApart 11 = .ok (.tableswitch 98 1 3 #[25, 46, 74], 25) := by decide +kernel
theorem dX8_keepsApart_36 : decode cX8_keepsApart 36 = .ok (.iload_n 1, 1) := by decide +kernel
theorem dX8_keepsApart_37 : decode cX8_keepsApart 37 = .ok (.iload_n 3, 1) := by decide +kernel
theorem dX8_keepsApart_38 : decode cX8_keepsApart 38 = .ok (.imul, 1) := by decide +kernel
theorem dX8_keepsApart_39 : decode cX8_keepsApart 39 = .ok (.iload_n 2, 1) := by decide +kernel
theorem dX8_keepsApart_40 : decode cX8_keepsApart 40 = .ok (.iadd, 1) := by decide +kernel
theorem dX8_keepsApart_41 : decode cX8_keepsApart 41 = .ok (.aload_n 0, 1) := by decide +kernel
theorem dX8_keepsApart_42 : decode cX8_keepsApart 42 = .ok (.getfield 18, 3) := by decide +kernel
theorem dX8_keepsApart_45 : decode cX8_keepsApart 45 = .ok (.invokestatic 50, 3) := by decide +kernel
theorem dX8_keepsApart_48 : decode cX8_keepsApart 48 = .ok (.ifCond .eq 7, 3) := by decide +kernel
theorem dX8_keepsApart_51 : decode cX8_keepsApart 51 = .ok (.iconst 1, 1) := by decide +kernel
theorem dX8_keepsApart_52 : decode cX8_keepsApart 52 = .ok (.goto 4, 3) := by decide +kernel
theorem dX8_keepsApart_55 : decode cX8_keepsApart 55 = .ok (.iconst 0, 1) := by decide +kernel
theorem dX8_keepsApart_56 : decode cX8_keepsApart 56 = .ok (.ireturn, 1) := by decide +kernel
theorem dX8_keepsApart_57 : decode cX8_keepsApart 57 = .ok (.iload_n 1, 1) := by decide +kernel
theorem dX8_keepsApart_58 : decode cX8_keepsApart 58 = .ok (.aload_n 0, 1) := by decide +kernel
theorem dX8_keepsApart_59 : decode cX8_keepsApart 59 = .ok (.getfield 22, 3) := by decide +kernel
theorem dX8_keepsApart_62 : decode cX8_keepsApart 62 = .ok (.invokestatic 50, 3) := by decide +kernel
theorem dX8_keepsApart_65 : decode cX8_keepsApart 65 = .ok (.ifCond .ne 14, 3) := by decide +kernel
theorem dX8_keepsApart_68 : decode cX8_keepsApart 68 = .ok (.iload_n 2, 1) := by decide +kernel
theorem dX8_keepsApart_69 : decode cX8_keepsApart 69 = .ok (.aload_n 0, 1) := by decide +kernel
theorem dX8_keepsApart_70 : decode cX8_keepsApart 70 = .ok (.getfield 25, 3) := by decide +kernel
theorem dX8_keepsApart_73 : decode cX8_keepsApart 73 = .ok (.invokestatic 50, 3) := by decide +kernel
theorem dX8_keepsApart_76 : decode cX8_keepsApart 76 = .ok (.ifCond .eq 7, 3) := by decide +kernel
theorem dX8_keepsApart_79 : decode cX8_keepsApart 79 = .ok (.iconst 1, 1) := by decide +kernel
theorem dX8_keepsApart_80 : decode cX8_keepsApart 80 = .ok (.goto 4, 3) := by decide +kernel
theorem dX8_keepsApart_83 : decode cX8_keepsApart 83 = .ok (.iconst 0, 1) := by decide +kernel
theorem dX8_keepsApart_84 : decode cX8_keepsApart 84 = .ok (.ireturn, 1) := by decide +kernel
theorem dX8_keepsApart_85 : decode cX8_keepsApart 85 = .ok (.iload_n 1, 1) := by decide +kernel
theorem dX8_keepsApart_86 : decode cX8_keepsApart 86 = .ok (.iload_n 2, 1) := by decide +kernel
theorem dX8_keepsApart_87 : decode cX8_keepsApart 87 = .ok (.aload_n 0, 1) := by decide +kernel
theorem dX8_keepsApart_88 : decode cX8_keepsApart 88 = .ok (.getfield 28, 3) := by decide +kernel
theorem dX8_keepsApart_91 : decode cX8_keepsApart 91 = .ok (.imul, 1) := by decide +kernel
theorem dX8_keepsApart_92 : decode cX8_keepsApart 92 = .ok (.iadd, 1) := by decide +kernel
theorem dX8_keepsApart_93 : decode cX8_keepsApart 93 = .ok (.aload_n 0, 1) := by decide +kernel
theorem dX8_keepsApart_94 : decode cX8_keepsApart 94 = .ok (.getfield 18, 3) := by decide +kernel
theorem dX8_keepsApart_97 : decode cX8_keepsApart 97 = .ok (.invokestatic 50, 3) := by decide +kernel
theorem dX8_keepsApart_100 : decode cX8_keepsApart 100 = .ok (.ifCond .eq 7, 3) := by decide +kernel
theorem dX8_keepsApart_103 : decode cX8_keepsApart 103 = .ok (.iconst 1, 1) := by decide +kernel
theorem dX8_keepsApart_104 : decode cX8_keepsApart 104 = .ok (.goto 4, 3) := by decide +kernel
theorem dX8_keepsApart_107 : decode cX8_keepsApart 107 = .ok (.iconst 0, 1) := by decide +kernel
theorem dX8_keepsApart_108 : decode cX8_keepsApart 108 = .ok (.ireturn, 1) := by decide +kernel
theorem dX8_keepsApart_109 : decode cX8_keepsApart 109 = .ok (.iload_n 1, 1) := by decide +kernel
theorem dX8_keepsApart_110 : decode cX8_keepsApart 110 = .ok (.ifCond .ne 7, 3) := by decide +kernel
theorem dX8_keepsApart_113 : decode cX8_keepsApart 113 = .ok (.iload_n 2, 1) := by decide +kernel
theorem dX8_keepsApart_114 : decode cX8_keepsApart 114 = .ok (.ifCond .eq 7, 3) := by decide +kernel
theorem dX8_keepsApart_117 : decode cX8_keepsApart 117 = .ok (.iconst 1, 1) := by decide +kernel
theorem dX8_keepsApart_118 : decode cX8_keepsApart 118 = .ok (.goto 4, 3) := by decide +kernel
theorem dX8_keepsApart_121 : decode cX8_keepsApart 121 = .ok (.iconst 0, 1) := by decide +kernel
theorem dX8_keepsApart_122 : decode cX8_keepsApart 122 = .ok (.ireturn, 1) := by decide +kernel
theorem dX9_init_0 : decode cX9_init 0 = .ok (.aload_n 0, 1) := by decide +kernel
theorem dX9_init_1 : decode cX9_init 1 = .ok (.invokespecial 3, 3) := by decide +kernel
theorem dX9_init_4 : decode cX9_init 4 = .ok (.aload_n 0, 1) := by decide +kernel
theorem dX9_init_5 : decode cX9_init 5 = .ok (.sipush 256, 3) := by decide +kernel
theorem dX9_init_8 : decode cX9_init 8 = .ok (.newarray .int, 2) := by decide +kernel
theorem dX9_init_10 : decode cX9_init 10 = .ok (.putfield 9, 3) := by decide +kernel
theorem dX9_init_13 : decode cX9_init 13 = .ok (.aload_n 0, 1) := by decide +kernel
theorem dX9_init_14 : decode cX9_init 14 = .ok (.sipush 256, 3) := by decide +kernel
theorem dX9_init_17 : decode cX9_init 17 = .ok (.newarray .int, 2) := by decide +kernel
theorem dX9_init_19 : decode cX9_init 19 = .ok (.putfield 15, 3) := by decide +kernel
theorem dX9_init_22 : decode cX9_init 22 = .ok (.aload_n 0, 1) := by decide +kernel
theorem dX9_init_23 : decode cX9_init 23 = .ok (.sipush 256, 3) := by decide +kernel
theorem dX9_init_26 : decode cX9_init 26 = .ok (.newarray .int, 2) := by decide +kernel
theorem dX9_init_28 : decode cX9_init 28 = .ok (.putfield 18, 3) := by decide +kernel
theorem dX9_init_31 : decode cX9_init 31 = .ok (.aload_n 0, 1) := by decide +kernel
theorem dX9_init_32 : decode cX9_init 32 = .ok (.sipush 256, 3) := by decide +kernel
theorem dX9_init_35 : decode cX9_init 35 = .ok (.newarray .int, 2) := by decide +kernel
theorem dX9_init_37 : decode cX9_init 37 = .ok (.putfield 21, 3) := by decide +kernel
theorem dX9_init_40 : decode cX9_init 40 = .ok (.aload_n 0, 1) := by decide +kernel
theorem dX9_init_41 : decode cX9_init 41 = .ok (.sipush 256, 3) := by decide +kernel
theorem dX9_init_44 : decode cX9_init 44 = .ok (.newarray .int, 2) := by decide +kernel
theorem dX9_init_46 : decode cX9_init 46 = .ok (.putfield 24, 3) := by decide +kernel
theorem dX9_init_49 : decode cX9_init 49 = .ok (.aload_n 0, 1) := by decide +kernel
theorem dX9_init_50 : decode cX9_init 50 = .ok (.sipush 256, 3) := by decide +kernel
theorem dX9_init_53 : decode cX9_init 53 = .ok (.newarray .int, 2) := by decide +kernel
theorem dX9_init_55 : decode cX9_init 55 = .ok (.putfield 27, 3) := by decide +kernel
theorem dX9_init_58 : decode cX9_init 58 = .ok (.aload_n 0, 1) := by decide +kernel
theorem dX9_init_59 : decode cX9_init 59 = .ok (.sipush 256, 3) := by decide +kernel
theorem dX9_init_62 : decode cX9_init 62 = .ok (.newarray .int, 2) := by decide +kernel
theorem dX9_init_64 : decode cX9_init 64 = .ok (.putfield 30, 3) := by decide +kernel
theorem dX9_init_67 : decode cX9_init 67 = .ok (.aload_n 0, 1) := by decide +kernel
theorem dX9_init_68 : decode cX9_init 68 = .ok (.sipush 158, 3) := by decide +kernel
theorem dX9_init_71 : decode cX9_init 71 = .ok (.newarray .int, 2) := by decide +kernel
theorem dX9_init_73 : decode cX9_init 73 = .ok (.putfield 33, 3) := by decide +kernel
theorem dX9_init_76 : decode cX9_init 76 = .ok (.aload_n 0, 1) := by decide +kernel
theorem dX9_init_77 : decode cX9_init 77 = .ok (.sipush 258, 3) := by decide +kernel
theorem dX9_init_80 : decode cX9_init 80 = .ok (.newarray .int, 2) := by decide +kernel
theorem dX9_init_82 : decode cX9_init 82 = .ok (.putfield 36, 3) := by decide +kernel
theorem dX9_init_85 : decode cX9_init 85 = .ok (.aload_n 0, 1) := by decide +kernel
theorem dX9_init_86 : decode cX9_init 86 = .ok (.iconst 0, 1) := by decide +kernel
theorem dX9_init_87 : decode cX9_init 87 = .ok (.putfield 39, 3) := by decide +kernel
theorem dX9_init_90 : decode cX9_init 90 = .ok (.return_, 1) := by decide +kernel
theorem dX9_arrange_0 : decode cX9_arrange 0 = .ok (.aload_n 0, 1) := by decide +kernel
theorem dX9_arrange_1 : decode cX9_arrange 1 = .ok (.aload_n 1, 1) := by decide +kernel
theorem dX9_arrange_2 : decode cX9_arrange 2 = .ok (.invokevirtual 43, 3) := by decide +kernel
theorem dX9_arrange_5 : decode cX9_arrange 5 = .ok (.putfield 39, 3) := by decide +kernel
theorem dX9_arrange_8 : decode cX9_arrange 8 = .ok (.iconst 0, 1) := by decide +kernel
theorem dX9_arrange_9 : decode cX9_arrange 9 = .ok (.istore 4, 2) := by decide +kernel
theorem dX9_arrange_11 : decode cX9_arrange 11 = .ok (.iload 4, 2) := by decide +kernel
theorem dX9_arrange_13 : decode cX9_arrange 13 = .ok (.aload_n 1, 1) := by decide +kernel
theorem dX9_arrange_14 : decode cX9_arrange 14 = .ok (.getfield 48, 3) := by decide +kernel
theorem dX9_arrange_17 : decode cX9_arrange 17 = .ok (.invokevirtual 52, 3) := by decide +kernel
theorem dX9_arrange_20 : decode cX9_arrange 20 = .ok (.if_icmp .ge 18, 3) := by decide +kernel
theorem dX9_arrange_23 : decode cX9_arrange 23 = .ok (.aload_n 0, 1) := by decide +kernel
theorem dX9_arrange_24 : decode cX9_arrange 24 = .ok (.aload_n 1, 1) := by decide +kernel
theorem dX9_arrange_25 : decode cX9_arrange 25 = .ok (.iload 4, 2) := by decide +kernel
theorem dX9_arrange_27 : decode cX9_arrange 27 = .ok (.iload_n 2, 1) := by decide +kernel
theorem dX9_arrange_28 : decode cX9_arrange 28 = .ok (.iload_n 3, 1) := by decide +kernel
theorem dX9_arrange_29 : decode cX9_arrange 29 = .ok (.invokevirtual 57, 3) := by decide +kernel
theorem dX9_arrange_32 : decode cX9_arrange 32 = .ok (.iinc 4 1, 3) := by decide +kernel
theorem dX9_arrange_35 : decode cX9_arrange 35 = .ok (.goto (-24), 3) := by decide +kernel
theorem dX9_arrange_38 : decode cX9_arrange 38 = .ok (.aload_n 0, 1) := by decide +kernel
theorem dX9_arrange_39 : decode cX9_arrange 39 = .ok (.invokevirtual 61, 3) := by decide +kernel
theorem dX9_arrange_42 : decode cX9_arrange 42 = .ok (.aload_n 0, 1) := by decide +kernel
theorem dX9_arrange_43 : decode cX9_arrange 43 = .ok (.aload_n 1, 1) := by decide +kernel
theorem dX9_arrange_44 : decode cX9_arrange 44 = .ok (.invokevirtual 64, 3) := by decide +kernel
theorem dX9_arrange_47 : decode cX9_arrange 47 = .ok (.return_, 1) := by decide +kernel
theorem dX9_setTimes_0 : decode cX9_setTimes 0 = .ok (.aload_n 1, 1) := by decide +kernel
theorem dX9_setTimes_1 : decode cX9_setTimes 1 = .ok (.getfield 48, 3) := by decide +kernel
theorem dX9_setTimes_4 : decode cX9_setTimes 4 = .ok (.iload_n 2, 1) := by decide +kernel
theorem dX9_setTimes_5 : decode cX9_setTimes 5 = .ok (.invokevirtual 68, 3) := by decide +kernel
theorem dX9_setTimes_8 : decode cX9_setTimes 8 = .ok (.checkcast 72, 3) := by decide +kernel
theorem dX9_setTimes_11 : decode cX9_setTimes 11 = .ok (.getfield 74, 3) := by decide +kernel
theorem dX9_setTimes_14 : decode cX9_setTimes 14 = .ok (.istore 5, 2) := by decide +kernel
theorem dX9_setTimes_16 : decode cX9_setTimes 16 = .ok (.aload_n 1, 1) := by decide +kernel
theorem dX9_setTimes_17 : decode cX9_setTimes 17 = .ok (.iload_n 2, 1) := by decide +kernel
theorem dX9_setTimes_18 : decode cX9_setTimes 18 = .ok (.invokevirtual 77, 3) := by decide +kernel
theorem dX9_setTimes_21 : decode cX9_setTimes 21 = .ok (.istore 6, 2) := by decide +kernel
theorem dX9_setTimes_23 : decode cX9_setTimes 23 = .ok (.iconst 0, 1) := by decide +kernel
theorem dX9_setTimes_24 : decode cX9_setTimes 24 = .ok (.istore 7, 2) := by decide +kernel
theorem dX9_setTimes_26 : decode cX9_setTimes 26 = .ok (.iload 7, 2) := by decide +kernel
theorem dX9_setTimes_28 : decode cX9_setTimes 28 = .ok (.aload_n 1, 1) := by decide +kernel
theorem dX9_setTimes_29 : decode cX9_setTimes 29 = .ok (.getfield 81, 3) := by decide +kernel
theorem dX9_setTimes_32 : decode cX9_setTimes 32 = .ok (.if_icmp .ge 76, 3) := by decide +kernel
theorem dX9_setTimes_35 : decode cX9_setTimes 35 = .ok (.iconst 0, 1) := by decide +kernel
theorem dX9_setTimes_36 : decode cX9_setTimes 36 = .ok (.istore 8, 2) := by decide +kernel
theorem dX9_setTimes_38 : decode cX9_setTimes 38 = .ok (.iload 8, 2) := by decide +kernel
theorem dX9_setTimes_40 : decode cX9_setTimes 40 = .ok (.aload_n 1, 1) := by decide +kernel
theorem dX9_setTimes_41 : decode cX9_setTimes 41 = .ok (.getfield 84, 3) := by decide +kernel
theorem dX9_setTimes_44 : decode cX9_setTimes 44 = .ok (.if_icmp .ge 58, 3) := by decide +kernel
theorem dX9_setTimes_47 : decode cX9_setTimes 47 = .ok (.aload_n 0, 1) := by decide +kernel
theorem dX9_setTimes_48 : decode cX9_setTimes 48 = .ok (.getfield 9, 3) := by decide +kernel
theorem dX9_setTimes_51 : decode cX9_setTimes 51 = .ok (.iload 6, 2) := by decide +kernel
theorem dX9_setTimes_53 : decode cX9_setTimes 53 = .ok (.iload_n 2, 1) := by decide +kernel
theorem dX9_setTimes_54 : decode cX9_setTimes 54 = .ok (.iastore, 1) := by decide +kernel
theorem dX9_setTimes_55 : decode cX9_setTimes 55 = .ok (.aload_n 0, 1) := by decide +kernel
theorem dX9_setTimes_56 : decode cX9_setTimes 56 = .ok (.getfield 15, 3) := by decide +kernel
theorem dX9_setTimes_59 : decode cX9_setTimes 59 = .ok (.iload 6, 2) := by decide +kernel
theorem dX9_setTimes_61 : decode cX9_setTimes 61 = .ok (.iload 7, 2) := by decide +kernel
theorem dX9_setTimes_63 : decode cX9_setTimes 63 = .ok (.iastore, 1) := by decide +kernel
theorem dX9_setTimes_64 : decode cX9_setTimes 64 = .ok (.aload_n 0, 1) := by decide +kernel
theorem dX9_setTimes_65 : decode cX9_setTimes 65 = .ok (.getfield 18, 3) := by decide +kernel
theorem dX9_setTimes_68 : decode cX9_setTimes 68 = .ok (.iload 6, 2) := by decide +kernel
theorem dX9_setTimes_70 : decode cX9_setTimes 70 = .ok (.iload 8, 2) := by decide +kernel
theorem dX9_setTimes_72 : decode cX9_setTimes 72 = .ok (.iastore, 1) := by decide +kernel
theorem dX9_setTimes_73 : decode cX9_setTimes 73 = .ok (.aload_n 0, 1) := by decide +kernel
theorem dX9_setTimes_74 : decode cX9_setTimes 74 = .ok (.getfield 30, 3) := by decide +kernel
theorem dX9_setTimes_77 : decode cX9_setTimes 77 = .ok (.iload 6, 2) := by decide +kernel
theorem dX9_setTimes_79 : decode cX9_setTimes 79 = .ok (.iload 7, 2) := by decide +kernel
theorem dX9_setTimes_81 : decode cX9_setTimes 81 = .ok (.iload_n 3, 1) := by decide +kernel
theorem dX9_setTimes_82 : decode cX9_setTimes 82 = .ok (.imul, 1) := by decide +kernel
theorem dX9_setTimes_83 : decode cX9_setTimes 83 = .ok (.iload 8, 2) := by decide +kernel
theorem dX9_setTimes_85 : decode cX9_setTimes 85 = .ok (.iload 4, 2) := by decide +kernel
theorem dX9_setTimes_87 : decode cX9_setTimes 87 = .ok (.imul, 1) := by decide +kernel
theorem dX9_setTimes_88 : decode cX9_setTimes 88 = .ok (.iadd, 1) := by decide +kernel
theorem dX9_setTimes_89 : decode cX9_setTimes 89 = .ok (.iload 5, 2) := by decide +kernel
theorem dX9_setTimes_91 : decode cX9_setTimes 91 = .ok (.iadd, 1) := by decide +kernel
theorem dX9_setTimes_92 : decode cX9_setTimes 92 = .ok (.iastore, 1) := by decide +kernel
theorem dX9_setTimes_93 : decode cX9_setTimes 93 = .ok (.iinc 6 1, 3) := by decide +kernel
theorem dX9_setTimes_96 : decode cX9_setTimes 96 = .ok (.iinc 8 1, 3) := by decide +kernel
theorem dX9_setTimes_99 : decode cX9_setTimes 99 = .ok (.goto (-61), 3) := by decide +kernel
theorem dX9_setTimes_102 : decode cX9_setTimes 102 = .ok (.iinc 7 1, 3) := by decide +kernel
theorem dX9_setTimes_105 : decode cX9_setTimes 105 = .ok (.goto (-79), 3) := by decide +kernel
theorem dX9_setTimes_108 : decode cX9_setTimes 108 = .ok (.return_, 1) := by decide +kernel
theorem dX9_setSteps_0 : decode cX9_setSteps 0 = .ok (.aload_n 0, 1) := by decide +kernel
theorem dX9_setSteps_1 : decode cX9_setSteps 1 = .ok (.getfield 33, 3) := by decide +kernel
theorem dX9_setSteps_4 : decode cX9_setSteps 4 = .ok (.iconst 0, 1) := by decide +kernel
theorem dX9_setSteps_5 : decode cX9_setSteps 5 = .ok (.invokestatic 87, 3) := by decide +kernel
theorem dX9_setSteps_8 : decode cX9_setSteps 8 = .ok (.iconst 0, 1) := by decide +kernel
theorem dX9_setSteps_9 : decode cX9_setSteps 9 = .ok (.istore_n 1, 1) := by decide +kernel
theorem dX9_setSteps_10 : decode cX9_setSteps 10 = .ok (.iload_n 1, 1) := by decide +kernel
theorem dX9_setSteps_11 : decode cX9_setSteps 11 = .ok (.aload_n 0, 1) := by decide +kernel
theorem dX9_setSteps_12 : decode cX9_setSteps 12 = .ok (.getfield 39, 3) := by decide +kernel
theorem dX9_setSteps_15 : decode cX9_setSteps 15 = .ok (.if_icmp .ge 26, 3) := by decide +kernel
theorem dX9_setSteps_18 : decode cX9_setSteps 18 = .ok (.aload_n 0, 1) := by decide +kernel
theorem dX9_setSteps_19 : decode cX9_setSteps 19 = .ok (.getfield 33, 3) := by decide +kernel
theorem dX9_setSteps_22 : decode cX9_setSteps 22 = .ok (.aload_n 0, 1) := by decide +kernel
theorem dX9_setSteps_23 : decode cX9_setSteps 23 = .ok (.getfield 30, 3) := by decide +kernel
theorem dX9_setSteps_26 : decode cX9_setSteps 26 = .ok (.iload_n 1, 1) := by decide +kernel
theorem dX9_setSteps_27 : decode cX9_setSteps 27 = .ok (.iaload, 1) := by decide +kernel
theorem dX9_setSteps_28 : decode cX9_setSteps 28 = .ok (.iconst 1, 1) := by decide +kernel
theorem dX9_setSteps_29 : decode cX9_setSteps 29 = .ok (.iadd, 1) := by decide +kernel
theorem dX9_setSteps_30 : decode cX9_setSteps 30 = .ok (.dup2, 1) := by decide +kernel
theorem dX9_setSteps_31 : decode cX9_setSteps 31 = .ok (.iaload, 1) := by decide +kernel
theorem dX9_setSteps_32 : decode cX9_setSteps 32 = .ok (.iconst 1, 1) := by decide +kernel
theorem dX9_setSteps_33 : decode cX9_setSteps 33 = .ok (.iadd, 1) := by decide +kernel
theorem dX9_setSteps_34 : decode cX9_setSteps 34 = .ok (.iastore, 1) := by decide +kernel
theorem dX9_setSteps_35 : decode cX9_setSteps 35 = .ok (.iinc 1 1, 3) := by decide +kernel
theorem dX9_setSteps_38 : decode cX9_setSteps 38 = .ok (.goto (-28), 3) := by decide +kernel
theorem dX9_setSteps_41 : decode cX9_setSteps 41 = .ok (.iconst 1, 1) := by decide +kernel
theorem dX9_setSteps_42 : decode cX9_setSteps 42 = .ok (.istore_n 1, 1) := by decide +kernel
theorem dX9_setSteps_43 : decode cX9_setSteps 43 = .ok (.iload_n 1, 1) := by decide +kernel
theorem dX9_setSteps_44 : decode cX9_setSteps 44 = .ok (.aload_n 0, 1) := by decide +kernel
theorem dX9_setSteps_45 : decode cX9_setSteps 45 = .ok (.getfield 33, 3) := by decide +kernel
theorem dX9_setSteps_48 : decode cX9_setSteps 48 = .ok (.arraylength, 1) := by decide +kernel
theorem dX9_setSteps_49 : decode cX9_setSteps 49 = .ok (.if_icmp .ge 26, 3) := by decide +kernel
theorem dX9_setSteps_52 : decode cX9_setSteps 52 = .ok (.aload_n 0, 1) := by decide +kernel
theorem dX9_setSteps_53 : decode cX9_setSteps 53 = .ok (.getfield 33, 3) := by decide +kernel
theorem dX9_setSteps_56 : decode cX9_setSteps 56 = .ok (.iload_n 1, 1) := by decide +kernel
theorem dX9_setSteps_57 : decode cX9_setSteps 57 = .ok (.dup2, 1) := by decide +kernel
theorem dX9_setSteps_58 : decode cX9_setSteps 58 = .ok (.iaload, 1) := by decide +kernel
theorem dX9_setSteps_59 : decode cX9_setSteps 59 = .ok (.aload_n 0, 1) := by decide +kernel
theorem dX9_setSteps_60 : decode cX9_setSteps 60 = .ok (.getfield 33, 3) := by decide +kernel
theorem dX9_setSteps_63 : decode cX9_setSteps 63 = .ok (.iload_n 1, 1) := by decide +kernel
theorem dX9_setSteps_64 : decode cX9_setSteps 64 = .ok (.iconst 1, 1) := by decide +kernel
theorem dX9_setSteps_65 : decode cX9_setSteps 65 = .ok (.isub, 1) := by decide +kernel
theorem dX9_setSteps_66 : decode cX9_setSteps 66 = .ok (.iaload, 1) := by decide +kernel
theorem dX9_setSteps_67 : decode cX9_setSteps 67 = .ok (.iadd, 1) := by decide +kernel
theorem dX9_setSteps_68 : decode cX9_setSteps 68 = .ok (.iastore, 1) := by decide +kernel
theorem dX9_setSteps_69 : decode cX9_setSteps 69 = .ok (.iinc 1 1, 3) := by decide +kernel
theorem dX9_setSteps_72 : decode cX9_setSteps 72 = .ok (.goto (-29), 3) := by decide +kernel
theorem dX9_setSteps_75 : decode cX9_setSteps 75 = .ok (.iconst 0, 1) := by decide +kernel
theorem dX9_setSteps_76 : decode cX9_setSteps 76 = .ok (.istore_n 1, 1) := by decide +kernel
theorem dX9_setSteps_77 : decode cX9_setSteps 77 = .ok (.iload_n 1, 1) := by decide +kernel
theorem dX9_setSteps_78 : decode cX9_setSteps 78 = .ok (.aload_n 0, 1) := by decide +kernel
theorem dX9_setSteps_79 : decode cX9_setSteps 79 = .ok (.getfield 39, 3) := by decide +kernel
theorem dX9_setSteps_82 : decode cX9_setSteps 82 = .ok (.if_icmp .ge 49, 3) := by decide +kernel
theorem dX9_setSteps_85 : decode cX9_setSteps 85 = .ok (.aload_n 0, 1) := by decide +kernel
theorem dX9_setSteps_86 : decode cX9_setSteps 86 = .ok (.getfield 33, 3) := by decide +kernel
theorem dX9_setSteps_89 : decode cX9_setSteps 89 = .ok (.aload_n 0, 1) := by decide +kernel
theorem dX9_setSteps_90 : decode cX9_setSteps 90 = .ok (.getfield 30, 3) := by decide +kernel
theorem dX9_setSteps_93 : decode cX9_setSteps 93 = .ok (.iload_n 1, 1) := by decide +kernel
theorem dX9_setSteps_94 : decode cX9_setSteps 94 = .ok (.iaload, 1) := by decide +kernel
theorem dX9_setSteps_95 : decode cX9_setSteps 95 = .ok (.iaload, 1) := by decide +kernel
theorem dX9_setSteps_96 : decode cX9_setSteps 96 = .ok (.istore_n 2, 1) := by decide +kernel
theorem dX9_setSteps_97 : decode cX9_setSteps 97 = .ok (.aload_n 0, 1) := by decide +kernel
theorem dX9_setSteps_98 : decode cX9_setSteps 98 = .ok (.getfield 33, 3) := by decide +kernel
theorem dX9_setSteps_101 : decode cX9_setSteps 101 = .ok (.aload_n 0, 1) := by decide +kernel
theorem dX9_setSteps_102 : decode cX9_setSteps 102 = .ok (.getfield 30, 3) := by decide +kernel
theorem dX9_setSteps_105 : decode cX9_setSteps 105 = .ok (.iload_n 1, 1) := by decide +kernel
theorem dX9_setSteps_106 : decode cX9_setSteps 106 = .ok (.iaload, 1) := by decide +kernel
theorem dX9_setSteps_107 : decode cX9_setSteps 107 = .ok (.iload_n 2, 1) := by decide +kernel
theorem dX9_setSteps_108 : decode cX9_setSteps 108 = .ok (.iconst 1, 1) := by decide +kernel
theorem dX9_setSteps_109 : decode cX9_setSteps 109 = .ok (.iadd, 1) := by decide +kernel
theorem dX9_setSteps_110 : decode cX9_setSteps 110 = .ok (.iastore, 1) := by decide +kernel
theorem dX9_setSteps_111 : decode cX9_setSteps 111 = .ok (.aload_n 0, 1) := by decide +kernel
theorem dX9_setSteps_112 : decode cX9_setSteps 112 = .ok (.getfield 21, 3) := by decide +kernel
theorem dX9_setSteps_115 : decode cX9_setSteps 115 = .ok (.iload_n 1, 1) := by decide +kernel
theorem dX9_setSteps_116 : decode cX9_setSteps 116 = .ok (.iload_n 2, 1) := by decide +kernel
theorem dX9_setSteps_117 : decode cX9_setSteps 117 = .ok (.iastore, 1) := by decide +kernel
theorem dX9_setSteps_118 : decode cX9_setSteps 118 = .ok (.aload_n 0, 1) := by decide +kernel
theorem dX9_setSteps_119 : decode cX9_setSteps 119 = .ok (.getfield 27, 3) := by decide +kernel
theorem dX9_setSteps_122 : decode cX9_setSteps 122 = .ok (.iload_n 2, 1) := by decide +kernel
theorem dX9_setSteps_123 : decode cX9_setSteps 123 = .ok (.iload_n 1, 1) := by decide +kernel
theorem dX9_setSteps_124 : decode cX9_setSteps 124 = .ok (.iastore, 1) := by decide +kernel
theorem dX9_setSteps_125 : decode cX9_setSteps 125 = .ok (.iinc 1 1, 3) := by decide +kernel
theorem dX9_setSteps_128 : decode cX9_setSteps 128 = .ok (.goto (-51), 3) := by decide +kernel
theorem dX9_setSteps_131 : decode cX9_setSteps 131 = .ok (.return_, 1) := by decide +kernel
theorem dX9_setEnds_0 : decode cX9_setEnds 0 = .ok (.iconst 0, 1) := by decide +kernel
theorem dX9_setEnds_1 : decode cX9_setEnds 1 = .ok (.istore_n 2, 1) := by decide +kernel
theorem dX9_setEnds_2 : decode cX9_setEnds 2 = .ok (.iload_n 2, 1) := by decide +kernel
theorem dX9_setEnds_3 : decode cX9_setEnds 3 = .ok (.aload_n 0, 1) := by decide +kernel
theorem dX9_setEnds_4 : decode cX9_setEnds 4 = .ok (.getfield 39, 3) := by decide +kernel
theorem dX9_setEnds_7 : decode cX9_setEnds 7 = .ok (.if_icmp .ge 52, 3) := by decide +kernel
theorem dX9_setEnds_10 : decode cX9_setEnds 10 = .ok (.aload_n 1, 1) := by decide +kernel
theorem dX9_setEnds_11 : decode cX9_setEnds 11 = .ok (.getfield 48, 3) := by decide +kernel
theorem dX9_setEnds_14 : decode cX9_setEnds 14 = .ok (.aload_n 0, 1) := by decide +kernel
theorem dX9_setEnds_15 : decode cX9_setEnds 15 = .ok (.getfield 9, 3) := by decide +kernel
theorem dX9_setEnds_18 : decode cX9_setEnds 18 = .ok (.iload_n 2, 1) := by decide +kernel
theorem dX9_setEnds_19 : decode cX9_setEnds 19 = .ok (.iaload, 1) := by decide +kernel
theorem dX9_setEnds_20 : decode cX9_setEnds 20 = .ok (.invokevirtual 68, 3) := by decide +kernel
theorem dX9_setEnds_23 : decode cX9_setEnds 23 = .ok (.checkcast 72, 3) := by decide +kernel
theorem dX9_setEnds_26 : decode cX9_setEnds 26 = .ok (.getfield 93, 3) := by decide +kernel
theorem dX9_setEnds_29 : decode cX9_setEnds 29 = .ok (.istore_n 3, 1) := by decide +kernel
theorem dX9_setEnds_30 : decode cX9_setEnds 30 = .ok (.aload_n 0, 1) := by decide +kernel
theorem dX9_setEnds_31 : decode cX9_setEnds 31 = .ok (.getfield 24, 3) := by decide +kernel
theorem dX9_setEnds_34 : decode cX9_setEnds 34 = .ok (.iload_n 2, 1) := by decide +kernel
theorem dX9_setEnds_35 : decode cX9_setEnds 35 = .ok (.iload_n 3, 1) := by decide +kernel
theorem dX9_setEnds_36 : decode cX9_setEnds 36 = .ok (.ifCond .eq 10, 3) := by decide +kernel
theorem dX9_setEnds_39 : decode cX9_setEnds 39 = .ok (.aload_n 0, 1) := by decide +kernel
theorem dX9_setEnds_40 : decode cX9_setEnds 40 = .ok (.getfield 39, 3) := by decide +kernel
theorem dX9_setEnds_43 : decode cX9_setEnds 43 = .ok (.goto 9, 3) := by decide +kernel
theorem dX9_setEnds_46 : decode cX9_setEnds 46 = .ok (.aload_n 0, 1) := by decide +kernel
theorem dX9_setEnds_47 : decode cX9_setEnds 47 = .ok (.getfield 21, 3) := by decide +kernel
theorem dX9_setEnds_50 : decode cX9_setEnds 50 = .ok (.iload_n 2, 1) := by decide +kernel
theorem dX9_setEnds_51 : decode cX9_setEnds 51 = .ok (.iaload, 1) := by decide +kernel
theorem dX9_setEnds_52 : decode cX9_setEnds 52 = .ok (.iastore, 1) := by decide +kernel
theorem dX9_setEnds_53 : decode cX9_setEnds 53 = .ok (.iinc 2 1, 3) := by decide +kernel
theorem dX9_setEnds_56 : decode cX9_setEnds 56 = .ok (.goto (-54), 3) := by decide +kernel
theorem dX9_setEnds_59 : decode cX9_setEnds 59 = .ok (.iconst 0, 1) := by decide +kernel
theorem dX9_setEnds_60 : decode cX9_setEnds 60 = .ok (.istore_n 2, 1) := by decide +kernel
theorem dX9_setEnds_61 : decode cX9_setEnds 61 = .ok (.iload_n 2, 1) := by decide +kernel
theorem dX9_setEnds_62 : decode cX9_setEnds 62 = .ok (.aload_n 0, 1) := by decide +kernel
theorem dX9_setEnds_63 : decode cX9_setEnds 63 = .ok (.getfield 39, 3) := by decide +kernel
theorem dX9_setEnds_66 : decode cX9_setEnds 66 = .ok (.if_icmp .ge 62, 3) := by decide +kernel
theorem dX9_setEnds_69 : decode cX9_setEnds 69 = .ok (.aload_n 1, 1) := by decide +kernel
theorem dX9_setEnds_70 : decode cX9_setEnds 70 = .ok (.getfield 48, 3) := by decide +kernel
theorem dX9_setEnds_73 : decode cX9_setEnds 73 = .ok (.aload_n 0, 1) := by decide +kernel
theorem dX9_setEnds_74 : decode cX9_setEnds 74 = .ok (.getfield 9, 3) := by decide +kernel
theorem dX9_setEnds_77 : decode cX9_setEnds 77 = .ok (.iload_n 2, 1) := by decide +kernel
theorem dX9_setEnds_78 : decode cX9_setEnds 78 = .ok (.iaload, 1) := by decide +kernel
theorem dX9_setEnds_79 : decode cX9_setEnds 79 = .ok (.invokevirtual 68, 3) := by decide +kernel
theorem dX9_setEnds_82 : decode cX9_setEnds 82 = .ok (.checkcast 72, 3) := by decide +kernel
theorem dX9_setEnds_85 : decode cX9_setEnds 85 = .ok (.getfield 97, 3) := by decide +kernel
theorem dX9_setEnds_88 : decode cX9_setEnds 88 = .ok (.astore_n 3, 1) := by decide +kernel
theorem dX9_setEnds_89 : decode cX9_setEnds 89 = .ok (.iconst 0, 1) := by decide +kernel
theorem dX9_setEnds_90 : decode cX9_setEnds 90 = .ok (.istore 4, 2) := by decide +kernel
theorem dX9_setEnds_92 : decode cX9_setEnds 92 = .ok (.iload 4, 2) := by decide +kernel
theorem dX9_setEnds_94 : decode cX9_setEnds 94 = .ok (.aload_n 3, 1) := by decide +kernel
theorem dX9_setEnds_95 : decode cX9_setEnds 95 = .ok (.invokevirtual 52, 3) := by decide +kernel
theorem dX9_setEnds_98 : decode cX9_setEnds 98 = .ok (.if_icmp .ge 24, 3) := by decide +kernel
theorem dX9_setEnds_101 : decode cX9_setEnds 101 = .ok (.aload_n 0, 1) := by decide +kernel
theorem dX9_setEnds_102 : decode cX9_setEnds 102 = .ok (.aload_n 1, 1) := by decide +kernel
theorem dX9_setEnds_103 : decode cX9_setEnds 103 = .ok (.iload_n 2, 1) := by decide +kernel
theorem dX9_setEnds_104 : decode cX9_setEnds 104 = .ok (.aload_n 3, 1) := by decide +kernel
theorem dX9_setEnds_105 : decode cX9_setEnds 105 = .ok (.iload 4, 2) := by decide +kernel
theorem dX9_setEnds_107 : decode cX9_setEnds 107 = .ok (.invokevirtual 68, 3) := by decide +kernel
theorem dX9_setEnds_110 : decode cX9_setEnds 110 = .ok (.checkcast 100, 3) := by decide +kernel
theorem dX9_setEnds_113 : decode cX9_setEnds 113 = .ok (.invokevirtual 102, 3) := by decide +kernel
theorem dX9_setEnds_116 : decode cX9_setEnds 116 = .ok (.iinc 4 1, 3) := by decide +kernel
theorem dX9_setEnds_119 : decode cX9_setEnds 119 = .ok (.goto (-27), 3) := by decide +kernel
theorem dX9_setEnds_122 : decode cX9_setEnds 122 = .ok (.iinc 2 1, 3) := by decide +kernel
theorem dX9_setEnds_125 : decode cX9_setEnds 125 = .ok (.goto (-64), 3) := by decide +kernel
theorem dX9_setEnds_128 : decode cX9_setEnds 128 = .ok (.return_, 1) := by decide +kernel
theorem dX9_stretchCellRead_0 : decode cX9_stretchCellRead 0 = .ok (.aload_n 0, 1) := by decide +kernel
theorem dX9_stretchCellRead_1 : decode cX9_stretchCellRead 1 = .ok (.getfield 15, 3) := by decide +kernel
theorem dX9_stretchCellRead_4 : decode cX9_stretchCellRead 4 = .ok (.iload_n 2, 1) := by decide +kernel
theorem dX9_stretchCellRead_5 : decode cX9_stretchCellRead 5 = .ok (.iaload, 1) := by decide +kernel
theorem dX9_stretchCellRead_6 : decode cX9_stretchCellRead 6 = .ok (.aload_n 3, 1) := by decide +kernel
theorem dX9_stretchCellRead_7 : decode cX9_stretchCellRead 7 = .ok (.getfield 106, 3) := by decide +kernel
theorem dX9_stretchCellRead_10 : decode cX9_stretchCellRead 10 = .ok (.isub, 1) := by decide +kernel
theorem dX9_stretchCellRead_11 : decode cX9_stretchCellRead 11 = .ok (.istore 4, 2) := by decide +kernel
theorem dX9_stretchCellRead_13 : decode cX9_stretchCellRead 13 = .ok (.aload_n 0, 1) := by decide +kernel
theorem dX9_stretchCellRead_14 : decode cX9_stretchCellRead 14 = .ok (.getfield 18, 3) := by decide +kernel
theorem dX9_stretchCellRead_17 : decode cX9_stretchCellRead 17 = .ok (.iload_n 2, 1) := by decide +kernel
theorem dX9_stretchCellRead_18 : decode cX9_stretchCellRead 18 = .ok (.iaload, 1) := by decide +kernel
theorem dX9_stretchCellRead_19 : decode cX9_stretchCellRead 19 = .ok (.aload_n 3, 1) := by decide +kernel
theorem dX9_stretchCellRead_20 : decode cX9_stretchCellRead 20 = .ok (.getfield 109, 3) := by decide +kernel
theorem dX9_stretchCellRead_23 : decode cX9_stretchCellRead 23 = .ok (.isub, 1) := by decide +kernel
theorem dX9_stretchCellRead_24 : decode cX9_stretchCellRead 24 = .ok (.istore 5, 2) := by decide +kernel
theorem dX9_stretchCellRead_26 : decode cX9_stretchCellRead 26 = .ok (.aload_n 1, 1) := by decide +kernel
theorem dX9_stretchCellRead_27 : decode cX9_stretchCellRead 27 = .ok (.iload 4, 2) := by decide +kernel
theorem dX9_stretchCellRead_29 : decode cX9_stretchCellRead 29 = .ok (.iload 5, 2) := by decide +kernel
theorem dX9_stretchCellRead_31 : decode cX9_stretchCellRead 31 = .ok (.invokevirtual 112, 3) := by decide +kernel
theorem dX9_stretchCellRead_34 : decode cX9_stretchCellRead 34 = .ok (.ifCond .eq 40, 3) := by decide +kernel
theorem dX9_stretchCellRead_37 : decode cX9_stretchCellRead 37 = .ok (.aload_n 1, 1) := by decide +kernel
theorem dX9_stretchCellRead_38 : decode cX9_stretchCellRead 38 = .ok (.aload_n 3, 1) := by decide +kernel
theorem dX9_stretchCellRead_39 : decode cX9_stretchCellRead 39 = .ok (.getfield 116, 3) := by decide +kernel
theorem dX9_stretchCellRead_42 : decode cX9_stretchCellRead 42 = .ok (.iload 4, 2) := by decide +kernel
theorem dX9_stretchCellRead_44 : decode cX9_stretchCellRead 44 = .ok (.iload 5, 2) := by decide +kernel
theorem dX9_stretchCellRead_46 : decode cX9_stretchCellRead 46 = .ok (.invokevirtual 119, 3) := by decide +kernel
theorem dX9_stretchCellRead_49 : decode cX9_stretchCellRead 49 = .ok (.istore 6, 2) := by decide +kernel
theorem dX9_stretchCellRead_51 : decode cX9_stretchCellRead 51 = .ok (.aload_n 0, 1) := by decide +kernel
theorem dX9_stretchCellRead_52 : decode cX9_stretchCellRead 52 = .ok (.getfield 24, 3) := by decide +kernel
theorem dX9_stretchCellRead_55 : decode cX9_stretchCellRead 55 = .ok (.iload 6, 2) := by decide +kernel
theorem dX9_stretchCellRead_57 : decode cX9_stretchCellRead 57 = .ok (.aload_n 0, 1) := by decide +kernel
theorem dX9_stretchCellRead_58 : decode cX9_stretchCellRead 58 = .ok (.getfield 24, 3) := by decide +kernel
theorem dX9_stretchCellRead_61 : decode cX9_stretchCellRead 61 = .ok (.iload 6, 2) := by decide +kernel
theorem dX9_stretchCellRead_63 : decode cX9_stretchCellRead 63 = .ok (.iaload, 1) := by decide +kernel
theorem dX9_stretchCellRead_64 : decode cX9_stretchCellRead 64 = .ok (.aload_n 0, 1) := by decide +kernel
theorem dX9_stretchCellRead_65 : decode cX9_stretchCellRead 65 = .ok (.getfield 21, 3) := by decide +kernel
theorem dX9_stretchCellRead_68 : decode cX9_stretchCellRead 68 = .ok (.iload_n 2, 1) := by decide +kernel
theorem dX9_stretchCellRead_69 : decode cX9_stretchCellRead 69 = .ok (.iaload, 1) := by decide +kernel
theorem dX9_stretchCellRead_70 : decode cX9_stretchCellRead 70 = .ok (.invokestatic 123, 3) := by decide +kernel
theorem dX9_stretchCellRead_73 : decode cX9_stretchCellRead 73 = .ok (.iastore, 1) := by decide +kernel
theorem dX9_stretchCellRead_74 : decode cX9_stretchCellRead 74 = .ok (.return_, 1) := by decide +kernel
theorem dX9_countLive_0 : decode cX9_countLive 0 = .ok (.iconst 0, 1) := by decide +kernel
theorem dX9_countLive_1 : decode cX9_countLive 1 = .ok (.istore_n 2, 1) := by decide +kernel
theorem dX9_countLive_2 : decode cX9_countLive 2 = .ok (.iconst 0, 1) := by decide +kernel
theorem dX9_countLive_3 : decode cX9_countLive 3 = .ok (.istore_n 3, 1) := by decide +kernel
theorem dX9_countLive_4 : decode cX9_countLive 4 = .ok (.iload_n 3, 1) := by decide +kernel
theorem dX9_countLive_5 : decode cX9_countLive 5 = .ok (.aload_n 0, 1) := by decide +kernel
theorem dX9_countLive_6 : decode cX9_countLive 6 = .ok (.getfield 39, 3) := by decide +kernel
theorem dX9_countLive_9 : decode cX9_countLive 9 = .ok (.if_icmp .ge 32, 3) := by decide +kernel
theorem dX9_countLive_12 : decode cX9_countLive 12 = .ok (.aload_n 0, 1) := by decide +kernel
theorem dX9_countLive_13 : decode cX9_countLive 13 = .ok (.getfield 21, 3) := by decide +kernel
theorem dX9_countLive_16 : decode cX9_countLive 16 = .ok (.iload_n 3, 1) := by decide +kernel
theorem dX9_countLive_17 : decode cX9_countLive 17 = .ok (.iaload, 1) := by decide +kernel
theorem dX9_countLive_18 : decode cX9_countLive 18 = .ok (.iload_n 1, 1) := by decide +kernel
theorem dX9_countLive_19 : decode cX9_countLive 19 = .ok (.if_icmp .ge 16, 3) := by decide +kernel
theorem dX9_countLive_22 : decode cX9_countLive 22 = .ok (.iload_n 1, 1) := by decide +kernel
theorem dX9_countLive_23 : decode cX9_countLive 23 = .ok (.aload_n 0, 1) := by decide +kernel
theorem dX9_countLive_24 : decode cX9_countLive 24 = .ok (.getfield 24, 3) := by decide +kernel
theorem dX9_countLive_27 : decode cX9_countLive 27 = .ok (.iload_n 3, 1) := by decide +kernel
theorem dX9_countLive_28 : decode cX9_countLive 28 = .ok (.iaload, 1) := by decide +kernel
theorem dX9_countLive_29 : decode cX9_countLive 29 = .ok (.if_icmp .gt 6, 3) := by decide +kernel
theorem dX9_countLive_32 : decode cX9_countLive 32 = .ok (.iinc 2 1, 3) := by decide +kernel
theorem dX9_countLive_35 : decode cX9_countLive 35 = .ok (.iinc 3 1, 3) := by decide +kernel
theorem dX9_countLive_38 : decode cX9_countLive 38 = .ok (.goto (-34), 3) := by decide +kernel
theorem dX9_countLive_41 : decode cX9_countLive 41 = .ok (.iload_n 2, 1) := by decide +kernel
theorem dX9_countLive_42 : decode cX9_countLive 42 = .ok (.ireturn, 1) := by decide +kernel
theorem dX9_mostLiveAmong_0 : decode cX9_mostLiveAmong 0 = .ok (.aload_n 0, 1) := by decide +kernel
theorem dX9_mostLiveAmong_1 : decode cX9_mostLiveAmong 1 = .ok (.getfield 36, 3) := by decide +kernel
theorem dX9_mostLiveAmong_4 : decode cX9_mostLiveAmong 4 = .ok (.iconst 0, 1) := by decide +kernel
theorem dX9_mostLiveAmong_5 : decode cX9_mostLiveAmong 5 = .ok (.invokestatic 87, 3) := by decide +kernel
theorem dX9_mostLiveAmong_8 : decode cX9_mostLiveAmong 8 = .ok (.iload_n 1, 1) := by decide +kernel
theorem dX9_mostLiveAmong_9 : decode cX9_mostLiveAmong 9 = .ok (.istore_n 3, 1) := by decide +kernel
theorem dX9_mostLiveAmong_10 : decode cX9_mostLiveAmong 10 = .ok (.iload_n 3, 1) := by decide +kernel
theorem dX9_mostLiveAmong_11 : decode cX9_mostLiveAmong 11 = .ok (.iload_n 2, 1) := by decide +kernel
theorem dX9_mostLiveAmong_12 : decode cX9_mostLiveAmong 12 = .ok (.if_icmp .ge 43, 3) := by decide +kernel
theorem dX9_mostLiveAmong_15 : decode cX9_mostLiveAmong 15 = .ok (.aload_n 0, 1) := by decide +kernel
theorem dX9_mostLiveAmong_16 : decode cX9_mostLiveAmong 16 = .ok (.getfield 36, 3) := by decide +kernel
theorem dX9_mostLiveAmong_19 : decode cX9_mostLiveAmong 19 = .ok (.aload_n 0, 1) := by decide +kernel
theorem dX9_mostLiveAmong_20 : decode cX9_mostLiveAmong 20 = .ok (.getfield 21, 3) := by decide +kernel
theorem dX9_mostLiveAmong_23 : decode cX9_mostLiveAmong 23 = .ok (.iload_n 3, 1) := by decide +kernel
theorem dX9_mostLiveAmong_24 : decode cX9_mostLiveAmong 24 = .ok (.iaload, 1) := by decide +kernel
theorem dX9_mostLiveAmong_25 : decode cX9_mostLiveAmong 25 = .ok (.iconst 1, 1) := by decide +kernel
theorem dX9_mostLiveAmong_26 : decode cX9_mostLiveAmong 26 = .ok (.iadd, 1) := by decide +kernel
theorem dX9_mostLiveAmong_27 : decode cX9_mostLiveAmong 27 = .ok (.dup2, 1) := by decide +kernel
theorem dX9_mostLiveAmong_28 : decode cX9_mostLiveAmong 28 = .ok (.iaload, 1) := by decide +kernel
theorem dX9_mostLiveAmong_29 : decode cX9_mostLiveAmong 29 = .ok (.iconst 1, 1) := by decide +kernel
theorem dX9_mostLiveAmong_30 : decode cX9_mostLiveAmong 30 = .ok (.iadd, 1) := by decide +kernel
theorem dX9_mostLiveAmong_31 : decode cX9_mostLiveAmong 31 = .ok (.iastore, 1) := by decide +kernel
theorem dX9_mostLiveAmong_32 : decode cX9_mostLiveAmong 32 = .ok (.aload_n 0, 1) := by decide +kernel
theorem dX9_mostLiveAmong_33 : decode cX9_mostLiveAmong 33 = .ok (.getfield 36, 3) := by decide +kernel
theorem dX9_mostLiveAmong_36 : decode cX9_mostLiveAmong 36 = .ok (.aload_n 0, 1) := by decide +kernel
theorem dX9_mostLiveAmong_37 : decode cX9_mostLiveAmong 37 = .ok (.getfield 24, 3) := by decide +kernel
theorem dX9_mostLiveAmong_40 : decode cX9_mostLiveAmong 40 = .ok (.iload_n 3, 1) := by decide +kernel
theorem dX9_mostLiveAmong_41 : decode cX9_mostLiveAmong 41 = .ok (.iaload, 1) := by decide +kernel
theorem dX9_mostLiveAmong_42 : decode cX9_mostLiveAmong 42 = .ok (.iconst 1, 1) := by decide +kernel
theorem dX9_mostLiveAmong_43 : decode cX9_mostLiveAmong 43 = .ok (.iadd, 1) := by decide +kernel
theorem dX9_mostLiveAmong_44 : decode cX9_mostLiveAmong 44 = .ok (.dup2, 1) := by decide +kernel
theorem dX9_mostLiveAmong_45 : decode cX9_mostLiveAmong 45 = .ok (.iaload, 1) := by decide +kernel
theorem dX9_mostLiveAmong_46 : decode cX9_mostLiveAmong 46 = .ok (.iconst 1, 1) := by decide +kernel
theorem dX9_mostLiveAmong_47 : decode cX9_mostLiveAmong 47 = .ok (.isub, 1) := by decide +kernel
theorem dX9_mostLiveAmong_48 : decode cX9_mostLiveAmong 48 = .ok (.iastore, 1) := by decide +kernel
theorem dX9_mostLiveAmong_49 : decode cX9_mostLiveAmong 49 = .ok (.iinc 3 1, 3) := by decide +kernel
theorem dX9_mostLiveAmong_52 : decode cX9_mostLiveAmong 52 = .ok (.goto (-42), 3) := by decide +kernel
theorem dX9_mostLiveAmong_55 : decode cX9_mostLiveAmong 55 = .ok (.iconst 0, 1) := by decide +kernel
theorem dX9_mostLiveAmong_56 : decode cX9_mostLiveAmong 56 = .ok (.istore_n 3, 1) := by decide +kernel
theorem dX9_mostLiveAmong_57 : decode cX9_mostLiveAmong 57 = .ok (.iconst 0, 1) := by decide +kernel
theorem dX9_mostLiveAmong_58 : decode cX9_mostLiveAmong 58 = .ok (.istore 4, 2) := by decide +kernel
theorem dX9_mostLiveAmong_60 : decode cX9_mostLiveAmong 60 = .ok (.iconst 0, 1) := by decide +kernel
theorem dX9_mostLiveAmong_61 : decode cX9_mostLiveAmong 61 = .ok (.istore 5, 2) := by decide +kernel
theorem dX9_mostLiveAmong_63 : decode cX9_mostLiveAmong 63 = .ok (.iload 5, 2) := by decide +kernel
theorem dX9_mostLiveAmong_65 : decode cX9_mostLiveAmong 65 = .ok (.aload_n 0, 1) := by decide +kernel
theorem dX9_mostLiveAmong_66 : decode cX9_mostLiveAmong 66 = .ok (.getfield 39, 3) := by decide +kernel
theorem dX9_mostLiveAmong_69 : decode cX9_mostLiveAmong 69 = .ok (.if_icmp .ge 27, 3) := by decide +kernel
theorem dX9_mostLiveAmong_72 : decode cX9_mostLiveAmong 72 = .ok (.iload_n 3, 1) := by decide +kernel
theorem dX9_mostLiveAmong_73 : decode cX9_mostLiveAmong 73 = .ok (.aload_n 0, 1) := by decide +kernel
theorem dX9_mostLiveAmong_74 : decode cX9_mostLiveAmong 74 = .ok (.getfield 36, 3) := by decide +kernel
theorem dX9_mostLiveAmong_77 : decode cX9_mostLiveAmong 77 = .ok (.iload 5, 2) := by decide +kernel
theorem dX9_mostLiveAmong_79 : decode cX9_mostLiveAmong 79 = .ok (.iaload, 1) := by decide +kernel
theorem dX9_mostLiveAmong_80 : decode cX9_mostLiveAmong 80 = .ok (.iadd, 1) := by decide +kernel
theorem dX9_mostLiveAmong_81 : decode cX9_mostLiveAmong 81 = .ok (.istore_n 3, 1) := by decide +kernel
theorem dX9_mostLiveAmong_82 : decode cX9_mostLiveAmong 82 = .ok (.iload 4, 2) := by decide +kernel
theorem dX9_mostLiveAmong_84 : decode cX9_mostLiveAmong 84 = .ok (.iload_n 3, 1) := by decide +kernel
theorem dX9_mostLiveAmong_85 : decode cX9_mostLiveAmong 85 = .ok (.invokestatic 123, 3) := by decide +kernel
theorem dX9_mostLiveAmong_88 : decode cX9_mostLiveAmong 88 = .ok (.istore 4, 2) := by decide +kernel
theorem dX9_mostLiveAmong_90 : decode cX9_mostLiveAmong 90 = .ok (.iinc 5 1, 3) := by decide +kernel
theorem dX9_mostLiveAmong_93 : decode cX9_mostLiveAmong 93 = .ok (.goto (-30), 3) := by decide +kernel
theorem dX9_mostLiveAmong_96 : decode cX9_mostLiveAmong 96 = .ok (.iload 4, 2) := by decide +kernel
theorem dX9_mostLiveAmong_98 : decode cX9_mostLiveAmong 98 = .ok (.ireturn, 1) := by decide +kernel
theorem dX9_inConflict_0 : decode cX9_inConflict 0 = .ok (.aload_n 0, 1) := by decide +kernel
theorem dX9_inConflict_1 : decode cX9_inConflict 1 = .ok (.iload_n 1, 1) := by decide +kernel
theorem dX9_inConflict_2 : decode cX9_inConflict 2 = .ok (.iload_n 2, 1) := by decide +kernel
theorem dX9_inConflict_3 : decode cX9_inConflict 3 = .ok (.invokevirtual 129, 3) := by decide +kernel
theorem dX9_inConflict_6 : decode cX9_inConflict 6 = .ok (.ifCond .ne 12, 3) := by decide +kernel
theorem dX9_inConflict_9 : decode cX9_inConflict 9 = .ok (.aload_n 0, 1) := by decide +kernel
theorem dX9_inConflict_10 : decode cX9_inConflict 10 = .ok (.iload_n 2, 1) := by decide +kernel
theorem dX9_inConflict_11 : decode cX9_inConflict 11 = .ok (.iload_n 1, 1) := by decide +kernel
theorem dX9_inConflict_12 : decode cX9_inConflict 12 = .ok (.invokevirtual 129, 3) := by decide +kernel
theorem dX9_inConflict_15 : decode cX9_inConflict 15 = .ok (.ifCond .eq 7, 3) := by decide +kernel
theorem dX9_inConflict_18 : decode cX9_inConflict 18 = .ok (.iconst 1, 1) := by decide +kernel
theorem dX9_inConflict_19 : decode cX9_inConflict 19 = .ok (.goto 4, 3) := by decide +kernel
theorem dX9_inConflict_22 : decode cX9_inConflict 22 = .ok (.iconst 0, 1) := by decide +kernel
theorem dX9_inConflict_23 : decode cX9_inConflict 23 = .ok (.ireturn, 1) := by decide +kernel
theorem dX9_isBornWithin_0 : decode cX9_isBornWithin 0 = .ok (.aload_n 0, 1) := by decide +kernel
theorem dX9_isBornWithin_1 : decode cX9_isBornWithin 1 = .ok (.getfield 21, 3) := by decide +kernel
theorem dX9_isBornWithin_4 : decode cX9_isBornWithin 4 = .ok (.iload_n 1, 1) := by decide +kernel
theorem dX9_isBornWithin_5 : decode cX9_isBornWithin 5 = .ok (.iaload, 1) := by decide +kernel
theorem dX9_isBornWithin_6 : decode cX9_isBornWithin 6 = .ok (.aload_n 0, 1) := by decide +kernel
theorem dX9_isBornWithin_7 : decode cX9_isBornWithin 7 = .ok (.getfield 21, 3) := by decide +kernel
theorem dX9_isBornWithin_10 : decode cX9_isBornWithin 10 = .ok (.iload_n 2, 1) := by decide +kernel
theorem dX9_isBornWithin_11 : decode cX9_isBornWithin 11 = .ok (.iaload, 1) := by decide +kernel
theorem dX9_isBornWithin_12 : decode cX9_isBornWithin 12 = .ok (.if_icmp .le 22, 3) := by decide +kernel
theorem dX9_isBornWithin_15 : decode cX9_isBornWithin 15 = .ok (.aload_n 0, 1) := by decide +kernel
theorem dX9_isBornWithin_16 : decode cX9_isBornWithin 16 = .ok (.getfield 21, 3) := by decide +kernel
theorem dX9_isBornWithin_19 : decode cX9_isBornWithin 19 = .ok (.iload_n 1, 1) := by decide +kernel
theorem dX9_isBornWithin_20 : decode cX9_isBornWithin 20 = .ok (.iaload, 1) := by decide +kernel
theorem dX9_isBornWithin_21 : decode cX9_isBornWithin 21 = .ok (.aload_n 0, 1) := by decide +kernel
theorem dX9_isBornWithin_22 : decode cX9_isBornWithin 22 = .ok (.getfield 24, 3) := by decide +kernel
theorem dX9_isBornWithin_25 : decode cX9_isBornWithin 25 = .ok (.iload_n 2, 1) := by decide +kernel
theorem dX9_isBornWithin_26 : decode cX9_isBornWithin 26 = .ok (.iaload, 1) := by decide +kernel
theorem dX9_isBornWithin_27 : decode cX9_isBornWithin 27 = .ok (.if_icmp .ge 7, 3) := by decide +kernel
theorem dX9_isBornWithin_30 : decode cX9_isBornWithin 30 = .ok (.iconst 1, 1) := by decide +kernel
theorem dX9_isBornWithin_31 : decode cX9_isBornWithin 31 = .ok (.goto 4, 3) := by decide +kernel
theorem dX9_isBornWithin_34 : decode cX9_isBornWithin 34 = .ok (.iconst 0, 1) := by decide +kernel
theorem dX9_isBornWithin_35 : decode cX9_isBornWithin 35 = .ok (.ireturn, 1) := by decide +kernel
theorem dX9_countConflicts_0 : decode cX9_countConflicts 0 = .ok (.iconst 0, 1) := by decide +kernel
theorem dX9_countConflicts_1 : decode cX9_countConflicts 1 = .ok (.istore 4, 2) := by decide +kernel
theorem dX9_countConflicts_3 : decode cX9_countConflicts 3 = .ok (.iload_n 2, 1) := by decide +kernel
theorem dX9_countConflicts_4 : decode cX9_countConflicts 4 = .ok (.istore 5, 2) := by decide +kernel
theorem dX9_countConflicts_6 : decode cX9_countConflicts 6 = .ok (.iload 5, 2) := by decide +kernel
theorem dX9_countConflicts_8 : decode cX9_countConflicts 8 = .ok (.iload_n 3, 1) := by decide +kernel
theorem dX9_countConflicts_9 : decode cX9_countConflicts 9 = .ok (.if_icmp .ge 22, 3) := by decide +kernel
theorem dX9_countConflicts_12 : decode cX9_countConflicts 12 = .ok (.aload_n 0, 1) := by decide +kernel
theorem dX9_countConflicts_13 : decode cX9_countConflicts 13 = .ok (.iload_n 1, 1) := by decide +kernel
theorem dX9_countConflicts_14 : decode cX9_countConflicts 14 = .ok (.iload 5, 2) := by decide +kernel
theorem dX9_countConflicts_16 : decode cX9_countConflicts 16 = .ok (.invokevirtual 132, 3) := by decide +kernel
theorem dX9_countConflicts_19 : decode cX9_countConflicts 19 = .ok (.ifCond .eq 6, 3) := by decide +kernel
theorem dX9_countConflicts_22 : decode cX9_countConflicts 22 = .ok (.iinc 4 1, 3) := by decide +kernel
theorem dX9_countConflicts_25 : decode cX9_countConflicts 25 = .ok (.iinc 5 1, 3) := by decide +kernel
theorem dX9_countConflicts_28 : decode cX9_countConflicts 28 = .ok (.goto (-22), 3) := by decide +kernel
theorem dX9_countConflicts_31 : decode cX9_countConflicts 31 = .ok (.iload 4, 2) := by decide +kernel
theorem dX9_countConflicts_33 : decode cX9_countConflicts 33 = .ok (.ireturn, 1) := by decide +kernel
theorem dJx29ce0_ordinal_8abf5_0 : decode cJx29ce0_ordinal_8abf5 0 = .ok (.aload_n 0, 1) := by decide +kernel
theorem dJx29ce0_ordinal_8abf5_1 : decode cJx29ce0_ordinal_8abf5 1 = .ok (.getfield 7, 3) := by decide +kernel
theorem dJx29ce0_ordinal_8abf5_4 : decode cJx29ce0_ordinal_8abf5 4 = .ok (.ireturn, 1) := by decide +kernel
theorem dJ9_floorMod_7cf53_0 : decode cJ9_floorMod_7cf53 0 = .ok (.iload_n 0, 1) := by decide +kernel
theorem dJ9_floorMod_7cf53_1 : decode cJ9_floorMod_7cf53 1 = .ok (.iload_n 1, 1) := by decide +kernel
theorem dJ9_floorMod_7cf53_2 : decode cJ9_floorMod_7cf53 2 = .ok (.irem, 1) := by decide +kernel
theorem dJ9_floorMod_7cf53_3 : decode cJ9_floorMod_7cf53 3 = .ok (.istore_n 2, 1) := by decide +kernel
theorem dJ9_floorMod_7cf53_4 : decode cJ9_floorMod_7cf53 4 = .ok (.iload_n 0, 1) := by decide +kernel
theorem dJ9_floorMod_7cf53_5 : decode cJ9_floorMod_7cf53 5 = .ok (.iload_n 1, 1) := by decide +kernel
theorem dJ9_floorMod_7cf53_6 : decode cJ9_floorMod_7cf53 6 = .ok (.ixor, 1) := by decide +kernel
theorem dJ9_floorMod_7cf53_7 : decode cJ9_floorMod_7cf53 7 = .ok (.ifCond .ge 11, 3) := by decide +kernel
theorem dJ9_floorMod_7cf53_10 : decode cJ9_floorMod_7cf53 10 = .ok (.iload_n 2, 1) := by decide +kernel
theorem dJ9_floorMod_7cf53_11 : decode cJ9_floorMod_7cf53 11 = .ok (.ifCond .eq 7, 3) := by decide +kernel
theorem dJ9_floorMod_7cf53_14 : decode cJ9_floorMod_7cf53 14 = .ok (.iload_n 2, 1) := by decide +kernel
theorem dJ9_floorMod_7cf53_15 : decode cJ9_floorMod_7cf53 15 = .ok (.iload_n 1, 1) := by decide +kernel
theorem dJ9_floorMod_7cf53_16 : decode cJ9_floorMod_7cf53 16 = .ok (.iadd, 1) := by decide +kernel
theorem dJ9_floorMod_7cf53_17 : decode cJ9_floorMod_7cf53 17 = .ok (.ireturn, 1) := by decide +kernel
theorem dJ9_floorMod_7cf53_18 : decode cJ9_floorMod_7cf53 18 = .ok (.iload_n 2, 1) := by decide +kernel
theorem dJ9_floorMod_7cf53_19 : decode cJ9_floorMod_7cf53 19 = .ok (.ireturn, 1) := by decide +kernel
theorem dJ9_abs_0f7a4_0 : decode cJ9_abs_0f7a4 0 = .ok (.iload_n 0, 1) := by decide +kernel
theorem dJ9_abs_0f7a4_1 : decode cJ9_abs_0f7a4 1 = .ok (.ifCond .ge 8, 3) := by decide +kernel
theorem dJ9_abs_0f7a4_4 : decode cJ9_abs_0f7a4 4 = .ok (.iload_n 0, 1) := by decide +kernel
theorem dJ9_abs_0f7a4_5 : decode cJ9_abs_0f7a4 5 = .ok (.ineg, 1) := by decide +kernel
theorem dJ9_abs_0f7a4_6 : decode cJ9_abs_0f7a4 6 = .ok (.goto 4, 3) := by decide +kernel
theorem dJ9_abs_0f7a4_9 : decode cJ9_abs_0f7a4 9 = .ok (.iload_n 0, 1) := by decide +kernel
theorem dJ9_abs_0f7a4_10 : decode cJ9_abs_0f7a4 10 = .ok (.ireturn, 1) := by decide +kernel
theorem dJ9_max_7cf53_0 : decode cJ9_max_7cf53 0 = .ok (.iload_n 0, 1) := by decide +kernel
theorem dJ9_max_7cf53_1 : decode cJ9_max_7cf53 1 = .ok (.iload_n 1, 1) := by decide +kernel
theorem dJ9_max_7cf53_2 : decode cJ9_max_7cf53 2 = .ok (.if_icmp .lt 7, 3) := by decide +kernel
theorem dJ9_max_7cf53_5 : decode cJ9_max_7cf53 5 = .ok (.iload_n 0, 1) := by decide +kernel
theorem dJ9_max_7cf53_6 : decode cJ9_max_7cf53 6 = .ok (.goto 4, 3) := by decide +kernel
theorem dJ9_max_7cf53_9 : decode cJ9_max_7cf53 9 = .ok (.iload_n 1, 1) := by decide +kernel
theorem dJ9_max_7cf53_10 : decode cJ9_max_7cf53 10 = .ok (.ireturn, 1) := by decide +kernel
theorem dJ9_min_7cf53_0 : decode cJ9_min_7cf53 0 = .ok (.iload_n 0, 1) := by decide +kernel
theorem dJ9_min_7cf53_1 : decode cJ9_min_7cf53 1 = .ok (.iload_n 1, 1) := by decide +kernel
theorem dJ9_min_7cf53_2 : decode cJ9_min_7cf53 2 = .ok (.if_icmp .gt 7, 3) := by decide +kernel
theorem dJ9_min_7cf53_5 : decode cJ9_min_7cf53 5 = .ok (.iload_n 0, 1) := by decide +kernel
theorem dJ9_min_7cf53_6 : decode cJ9_min_7cf53 6 = .ok (.goto 4, 3) := by decide +kernel
theorem dJ9_min_7cf53_9 : decode cJ9_min_7cf53 9 = .ok (.iload_n 1, 1) := by decide +kernel
theorem dJ9_min_7cf53_10 : decode cJ9_min_7cf53 10 = .ok (.ireturn, 1) := by decide +kernel
theorem dJxa1e45_init_da8c8_0 : decode cJxa1e45_init_da8c8 0 = .ok (.aload_n 0, 1) := by decide +kernel
theorem dJxa1e45_init_da8c8_1 : decode cJxa1e45_init_da8c8 1 = .ok (.invokespecial 1, 3) := by decide +kernel
theorem dJxa1e45_init_da8c8_4 : decode cJxa1e45_init_da8c8 4 = .ok (.return_, 1) := by decide +kernel
theorem dJxc12de_init_da8c8_0 : decode cJxc12de_init_da8c8 0 = .ok (.aload_n 0, 1) := by decide +kernel
theorem dJxc12de_init_da8c8_1 : decode cJxc12de_init_da8c8 1 = .ok (.invokespecial 1, 3) := by decide +kernel
theorem dJxc12de_init_da8c8_4 : decode cJxc12de_init_da8c8 4 = .ok (.aload_n 0, 1) := by decide +kernel
theorem dJxc12de_init_da8c8_5 : decode cJxc12de_init_da8c8 5 = .ok (.iconst 0, 1) := by decide +kernel
theorem dJxc12de_init_da8c8_6 : decode cJxc12de_init_da8c8 6 = .ok (.putfield 7, 3) := by decide +kernel
theorem dJxc12de_init_da8c8_9 : decode cJxc12de_init_da8c8 9 = .ok (.return_, 1) := by decide +kernel
theorem dJx4a65c_init_da8c8_0 : decode cJx4a65c_init_da8c8 0 = .ok (.aload_n 0, 1) := by decide +kernel
theorem dJx4a65c_init_da8c8_1 : decode cJx4a65c_init_da8c8 1 = .ok (.invokespecial 1, 3) := by decide +kernel
theorem dJx4a65c_init_da8c8_4 : decode cJx4a65c_init_da8c8 4 = .ok (.aload_n 0, 1) := by decide +kernel
theorem dJx4a65c_init_da8c8_5 : decode cJx4a65c_init_da8c8 5 = .ok (.getstatic 39, 3) := by decide +kernel
theorem dJx4a65c_init_da8c8_8 : decode cJx4a65c_init_da8c8 8 = .ok (.putfield 9, 3) := by decide +kernel
theorem dJx4a65c_init_da8c8_11 : decode cJx4a65c_init_da8c8 11 = .ok (.return_, 1) := by decide +kernel
theorem dJx4a65c_grow_92f84_0 : decode cJx4a65c_grow_92f84 0 = .ok (.aload_n 0, 1) := by decide +kernel
theorem dJx4a65c_grow_92f84_1 : decode cJx4a65c_grow_92f84 1 = .ok (.getfield 9, 3) := by decide +kernel
theorem dJx4a65c_grow_92f84_4 : decode cJx4a65c_grow_92f84 4 = .ok (.arraylength, 1) := by decide +kernel
theorem dJx4a65c_grow_92f84_5 : decode cJx4a65c_grow_92f84 5 = .ok (.istore_n 2, 1) := by decide +kernel
theorem dJx4a65c_grow_92f84_6 : decode cJx4a65c_grow_92f84 6 = .ok (.iload_n 2, 1) := by decide +kernel
theorem dJx4a65c_grow_92f84_7 : decode cJx4a65c_grow_92f84 7 = .ok (.ifCond .gt 13, 3) := by decide +kernel
theorem dJx4a65c_grow_92f84_10 : decode cJx4a65c_grow_92f84 10 = .ok (.aload_n 0, 1) := by decide +kernel
theorem dJx4a65c_grow_92f84_11 : decode cJx4a65c_grow_92f84 11 = .ok (.getfield 9, 3) := by decide +kernel
theorem dJx4a65c_grow_92f84_14 : decode cJx4a65c_grow_92f84 14 = .ok (.getstatic 39, 3) := by decide +kernel
theorem dJx4a65c_grow_92f84_17 : decode cJx4a65c_grow_92f84 17 = .ok (.if_acmp .eq 28, 3) := by decide +kernel
theorem dJx4a65c_grow_92f84_20 : decode cJx4a65c_grow_92f84 20 = .ok (.iload_n 2, 1) := by decide +kernel
theorem dJx4a65c_grow_92f84_21 : decode cJx4a65c_grow_92f84 21 = .ok (.iload_n 1, 1) := by decide +kernel
theorem dJx4a65c_grow_92f84_22 : decode cJx4a65c_grow_92f84 22 = .ok (.iload_n 2, 1) := by decide +kernel
theorem dJx4a65c_grow_92f84_23 : decode cJx4a65c_grow_92f84 23 = .ok (.isub, 1) := by decide +kernel
theorem dJx4a65c_grow_92f84_24 : decode cJx4a65c_grow_92f84 24 = .ok (.iload_n 2, 1) := by decide +kernel
theorem dJx4a65c_grow_92f84_25 : decode cJx4a65c_grow_92f84 25 = .ok (.iconst 1, 1) := by decide +kernel
theorem dJx4a65c_grow_92f84_26 : decode cJx4a65c_grow_92f84 26 = .ok (.ishr, 1) := by decide +kernel
theorem dJx4a65c_grow_92f84_27 : decode cJx4a65c_grow_92f84 27 = .ok (.invokestatic 73, 3) := by decide +kernel
theorem dJx4a65c_grow_92f84_30 : decode cJx4a65c_grow_92f84 30 = .ok (.istore_n 3, 1) := by decide +kernel
theorem dJx4a65c_grow_92f84_31 : decode cJx4a65c_grow_92f84 31 = .ok (.aload_n 0, 1) := by decide +kernel
theorem dJx4a65c_grow_92f84_32 : decode cJx4a65c_grow_92f84 32 = .ok (.aload_n 0, 1) := by decide +kernel
theorem dJx4a65c_grow_92f84_33 : decode cJx4a65c_grow_92f84 33 = .ok (.getfield 9, 3) := by decide +kernel
theorem dJx4a65c_grow_92f84_36 : decode cJx4a65c_grow_92f84 36 = .ok (.iload_n 3, 1) := by decide +kernel
theorem dJx4a65c_grow_92f84_37 : decode cJx4a65c_grow_92f84 37 = .ok (.invokestatic 66, 3) := by decide +kernel
theorem dJx4a65c_grow_92f84_40 : decode cJx4a65c_grow_92f84 40 = .ok (.dup_x1, 1) := by decide +kernel
theorem dJx4a65c_grow_92f84_41 : decode cJx4a65c_grow_92f84 41 = .ok (.putfield 9, 3) := by decide +kernel
theorem dJx4a65c_grow_92f84_44 : decode cJx4a65c_grow_92f84 44 = .ok (.areturn, 1) := by decide +kernel
theorem dJx4a65c_grow_92f84_45 : decode cJx4a65c_grow_92f84 45 = .ok (.aload_n 0, 1) := by decide +kernel
theorem dJx4a65c_grow_92f84_46 : decode cJx4a65c_grow_92f84 46 = .ok (.bipush 10, 2) := by decide +kernel
theorem dJx4a65c_grow_92f84_48 : decode cJx4a65c_grow_92f84 48 = .ok (.iload_n 1, 1) := by decide +kernel
theorem dJx4a65c_grow_92f84_49 : decode cJx4a65c_grow_92f84 49 = .ok (.invokestatic 79, 3) := by decide +kernel
theorem dJx4a65c_grow_92f84_52 : decode cJx4a65c_grow_92f84 52 = .ok (.anewarray 7, 3) := by decide +kernel
theorem dJx4a65c_grow_92f84_55 : decode cJx4a65c_grow_92f84 55 = .ok (.dup_x1, 1) := by decide +kernel
theorem dJx4a65c_grow_92f84_56 : decode cJx4a65c_grow_92f84 56 = .ok (.putfield 9, 3) := by decide +kernel
theorem dJx4a65c_grow_92f84_59 : decode cJx4a65c_grow_92f84 59 = .ok (.areturn, 1) := by decide +kernel
theorem dJx4a65c_grow_d5877_0 : decode cJx4a65c_grow_d5877 0 = .ok (.aload_n 0, 1) := by decide +kernel
theorem dJx4a65c_grow_d5877_1 : decode cJx4a65c_grow_d5877 1 = .ok (.aload_n 0, 1) := by decide +kernel
theorem dJx4a65c_grow_d5877_2 : decode cJx4a65c_grow_d5877 2 = .ok (.getfield 48, 3) := by decide +kernel
theorem dJx4a65c_grow_d5877_5 : decode cJx4a65c_grow_d5877 5 = .ok (.iconst 1, 1) := by decide +kernel
theorem dJx4a65c_grow_d5877_6 : decode cJx4a65c_grow_d5877 6 = .ok (.iadd, 1) := by decide +kernel
theorem dJx4a65c_grow_d5877_7 : decode cJx4a65c_grow_d5877 7 = .ok (.invokevirtual 69, 3) := by decide +kernel
theorem dJx4a65c_grow_d5877_10 : decode cJx4a65c_grow_d5877 10 = .ok (.areturn, 1) := by decide +kernel
theorem dJx4a65c_size_8abf5_0 : decode cJx4a65c_size_8abf5 0 = .ok (.aload_n 0, 1) := by decide +kernel
theorem dJx4a65c_size_8abf5_1 : decode cJx4a65c_size_8abf5 1 = .ok (.getfield 48, 3) := by decide +kernel
theorem dJx4a65c_size_8abf5_4 : decode cJx4a65c_size_8abf5 4 = .ok (.ireturn, 1) := by decide +kernel
theorem dJx4a65c_elementData_915e3_0 : decode cJx4a65c_elementData_915e3 0 = .ok (.aload_n 0, 1) := by decide +kernel
theorem dJx4a65c_elementData_915e3_1 : decode cJx4a65c_elementData_915e3 1 = .ok (.getfield 9, 3) := by decide +kernel
theorem dJx4a65c_elementData_915e3_4 : decode cJx4a65c_elementData_915e3 4 = .ok (.iload_n 1, 1) := by decide +kernel
theorem dJx4a65c_elementData_915e3_5 : decode cJx4a65c_elementData_915e3 5 = .ok (.aaload, 1) := by decide +kernel
theorem dJx4a65c_elementData_915e3_6 : decode cJx4a65c_elementData_915e3 6 = .ok (.areturn, 1) := by decide +kernel
theorem dJx4a65c_get_915e3_0 : decode cJx4a65c_get_915e3 0 = .ok (.iload_n 1, 1) := by decide +kernel
theorem dJx4a65c_get_915e3_1 : decode cJx4a65c_get_915e3 1 = .ok (.aload_n 0, 1) := by decide +kernel
theorem dJx4a65c_get_915e3_2 : decode cJx4a65c_get_915e3 2 = .ok (.getfield 48, 3) := by decide +kernel
theorem dJx4a65c_get_915e3_5 : decode cJx4a65c_get_915e3 5 = .ok (.invokestatic 118, 3) := by decide +kernel
theorem dJx4a65c_get_915e3_8 : decode cJx4a65c_get_915e3 8 = .ok (.pop, 1) := by decide +kernel
theorem dJx4a65c_get_915e3_9 : decode cJx4a65c_get_915e3 9 = .ok (.aload_n 0, 1) := by decide +kernel
theorem dJx4a65c_get_915e3_10 : decode cJx4a65c_get_915e3 10 = .ok (.iload_n 1, 1) := by decide +kernel
theorem dJx4a65c_get_915e3_11 : decode cJx4a65c_get_915e3 11 = .ok (.invokevirtual 123, 3) := by decide +kernel
theorem dJx4a65c_get_915e3_14 : decode cJx4a65c_get_915e3 14 = .ok (.areturn, 1) := by decide +kernel
theorem dJx4a65c_add_72be8_0 : decode cJx4a65c_add_72be8 0 = .ok (.iload_n 3, 1) := by decide +kernel
theorem dJx4a65c_add_72be8_1 : decode cJx4a65c_add_72be8 1 = .ok (.aload_n 2, 1) := by decide +kernel
theorem dJx4a65c_add_72be8_2 : decode cJx4a65c_add_72be8 2 = .ok (.arraylength, 1) := by decide +kernel
theorem dJx4a65c_add_72be8_3 : decode cJx4a65c_add_72be8 3 = .ok (.if_icmp .ne 8, 3) := by decide +kernel
theorem dJx4a65c_add_72be8_6 : decode cJx4a65c_add_72be8 6 = .ok (.aload_n 0, 1) := by decide +kernel
theorem dJx4a65c_add_72be8_7 : decode cJx4a65c_add_72be8 7 = .ok (.invokevirtual 129, 3) := by decide +kernel
theorem dJx4a65c_add_72be8_10 : decode cJx4a65c_add_72be8 10 = .ok (.astore_n 2, 1) := by decide +kernel
theorem dJx4a65c_add_72be8_11 : decode cJx4a65c_add_72be8 11 = .ok (.aload_n 2, 1) := by decide +kernel
theorem dJx4a65c_add_72be8_12 : decode cJx4a65c_add_72be8 12 = .ok (.iload_n 3, 1) := by decide +kernel
theorem dJx4a65c_add_72be8_13 : decode cJx4a65c_add_72be8 13 = .ok (.aload_n 1, 1) := by decide +kernel
theorem dJx4a65c_add_72be8_14 : decode cJx4a65c_add_72be8 14 = .ok (.aastore, 1) := by decide +kernel
theorem dJx4a65c_add_72be8_15 : decode cJx4a65c_add_72be8 15 = .ok (.aload_n 0, 1) := by decide +kernel
theorem dJx4a65c_add_72be8_16 : decode cJx4a65c_add_72be8 16 = .ok (.iload_n 3, 1) := by decide +kernel
theorem dJx4a65c_add_72be8_17 : decode cJx4a65c_add_72be8 17 = .ok (.iconst 1, 1) := by decide +kernel
theorem dJx4a65c_add_72be8_18 : decode cJx4a65c_add_72be8 18 = .ok (.iadd, 1) := by decide +kernel
theorem dJx4a65c_add_72be8_19 : decode cJx4a65c_add_72be8 19 = .ok (.putfield 48, 3) := by decide +kernel
theorem dJx4a65c_add_72be8_22 : decode cJx4a65c_add_72be8 22 = .ok (.return_, 1) := by decide +kernel
theorem dJx4a65c_add_9ea2d_0 : decode cJx4a65c_add_9ea2d 0 = .ok (.aload_n 0, 1) := by decide +kernel
theorem dJx4a65c_add_9ea2d_1 : decode cJx4a65c_add_9ea2d 1 = .ok (.dup, 1) := by decide +kernel
theorem dJx4a65c_add_9ea2d_2 : decode cJx4a65c_add_9ea2d 2 = .ok (.getfield 63, 3) := by decide +kernel
theorem dJx4a65c_add_9ea2d_5 : decode cJx4a65c_add_9ea2d 5 = .ok (.iconst 1, 1) := by decide +kernel
theorem dJx4a65c_add_9ea2d_6 : decode cJx4a65c_add_9ea2d 6 = .ok (.iadd, 1) := by decide +kernel
theorem dJx4a65c_add_9ea2d_7 : decode cJx4a65c_add_9ea2d 7 = .ok (.putfield 63, 3) := by decide +kernel
theorem dJx4a65c_add_9ea2d_10 : decode cJx4a65c_add_9ea2d 10 = .ok (.aload_n 0, 1) := by decide +kernel
theorem dJx4a65c_add_9ea2d_11 : decode cJx4a65c_add_9ea2d 11 = .ok (.aload_n 1, 1) := by decide +kernel
theorem dJx4a65c_add_9ea2d_12 : decode cJx4a65c_add_9ea2d 12 = .ok (.aload_n 0, 1) := by decide +kernel
theorem dJx4a65c_add_9ea2d_13 : decode cJx4a65c_add_9ea2d 13 = .ok (.getfield 9, 3) := by decide +kernel
theorem dJx4a65c_add_9ea2d_16 : decode cJx4a65c_add_9ea2d 16 = .ok (.aload_n 0, 1) := by decide +kernel
theorem dJx4a65c_add_9ea2d_17 : decode cJx4a65c_add_9ea2d 17 = .ok (.getfield 48, 3) := by decide +kernel
theorem dJx4a65c_add_9ea2d_20 : decode cJx4a65c_add_9ea2d 20 = .ok (.invokevirtual 131, 3) := by decide +kernel
theorem dJx4a65c_add_9ea2d_23 : decode cJx4a65c_add_9ea2d 23 = .ok (.iconst 1, 1) := by decide +kernel
theorem dJx4a65c_add_9ea2d_24 : decode cJx4a65c_add_9ea2d 24 = .ok (.ireturn, 1) := by decide +kernel
theorem dJx4a65c_clear_da8c8_0 : decode cJx4a65c_clear_da8c8 0 = .ok (.aload_n 0, 1) := by decide +kernel
theorem dJx4a65c_clear_da8c8_1 : decode cJx4a65c_clear_da8c8 1 = .ok (.dup, 1) := by decide +kernel
theorem dJx4a65c_clear_da8c8_2 : decode cJx4a65c_clear_da8c8 2 = .ok (.getfield 63, 3) := by decide +kernel
theorem dJx4a65c_clear_da8c8_5 : decode cJx4a65c_clear_da8c8 5 = .ok (.iconst 1, 1) := by decide +kernel
theorem dJx4a65c_clear_da8c8_6 : decode cJx4a65c_clear_da8c8 6 = .ok (.iadd, 1) := by decide +kernel
theorem dJx4a65c_clear_da8c8_7 : decode cJx4a65c_clear_da8c8 7 = .ok (.putfield 63, 3) := by decide +kernel
theorem dJx4a65c_clear_da8c8_10 : decode cJx4a65c_clear_da8c8 10 = .ok (.aload_n 0, 1) := by decide +kernel
theorem dJx4a65c_clear_da8c8_11 : decode cJx4a65c_clear_da8c8 11 = .ok (.getfield 9, 3) := by decide +kernel
theorem dJx4a65c_clear_da8c8_14 : decode cJx4a65c_clear_da8c8 14 = .ok (.astore_n 1, 1) := by decide +kernel
theorem dJx4a65c_clear_da8c8_15 : decode cJx4a65c_clear_da8c8 15 = .ok (.aload_n 0, 1) := by decide +kernel
theorem dJx4a65c_clear_da8c8_16 : decode cJx4a65c_clear_da8c8 16 = .ok (.getfield 48, 3) := by decide +kernel
theorem dJx4a65c_clear_da8c8_19 : decode cJx4a65c_clear_da8c8 19 = .ok (.istore_n 2, 1) := by decide +kernel
theorem dJx4a65c_clear_da8c8_20 : decode cJx4a65c_clear_da8c8 20 = .ok (.aload_n 0, 1) := by decide +kernel
theorem dJx4a65c_clear_da8c8_21 : decode cJx4a65c_clear_da8c8 21 = .ok (.iconst 0, 1) := by decide +kernel
theorem dJx4a65c_clear_da8c8_22 : decode cJx4a65c_clear_da8c8 22 = .ok (.dup_x1, 1) := by decide +kernel
theorem dJx4a65c_clear_da8c8_23 : decode cJx4a65c_clear_da8c8 23 = .ok (.putfield 48, 3) := by decide +kernel
theorem dJx4a65c_clear_da8c8_26 : decode cJx4a65c_clear_da8c8 26 = .ok (.istore_n 3, 1) := by decide +kernel
theorem dJx4a65c_clear_da8c8_27 : decode cJx4a65c_clear_da8c8 27 = .ok (.iload_n 3, 1) := by decide +kernel
theorem dJx4a65c_clear_da8c8_28 : decode cJx4a65c_clear_da8c8 28 = .ok (.iload_n 2, 1) := by decide +kernel
theorem dJx4a65c_clear_da8c8_29 : decode cJx4a65c_clear_da8c8 29 = .ok (.if_icmp .ge 13, 3) := by decide +kernel
theorem dJx4a65c_clear_da8c8_32 : decode cJx4a65c_clear_da8c8 32 = .ok (.aload_n 1, 1) := by decide +kernel
theorem dJx4a65c_clear_da8c8_33 : decode cJx4a65c_clear_da8c8 33 = .ok (.iload_n 3, 1) := by decide +kernel
theorem dJx4a65c_clear_da8c8_34 : decode cJx4a65c_clear_da8c8 34 = .ok (.aconst_null, 1) := by decide +kernel
theorem dJx4a65c_clear_da8c8_35 : decode cJx4a65c_clear_da8c8 35 = .ok (.aastore, 1) := by decide +kernel
theorem dJx4a65c_clear_da8c8_36 : decode cJx4a65c_clear_da8c8 36 = .ok (.iinc 3 1, 3) := by decide +kernel
theorem dJx4a65c_clear_da8c8_39 : decode cJx4a65c_clear_da8c8 39 = .ok (.goto (-12), 3) := by decide +kernel
theorem dJx4a65c_clear_da8c8_42 : decode cJx4a65c_clear_da8c8 42 = .ok (.return_, 1) := by decide +kernel
theorem dJ7_fill_53178_0 : decode cJ7_fill_53178 0 = .ok (.iconst 0, 1) := by decide +kernel
theorem dJ7_fill_53178_1 : decode cJ7_fill_53178 1 = .ok (.istore_n 2, 1) := by decide +kernel
theorem dJ7_fill_53178_2 : decode cJ7_fill_53178 2 = .ok (.aload_n 0, 1) := by decide +kernel
theorem dJ7_fill_53178_3 : decode cJ7_fill_53178 3 = .ok (.arraylength, 1) := by decide +kernel
theorem dJ7_fill_53178_4 : decode cJ7_fill_53178 4 = .ok (.istore_n 3, 1) := by decide +kernel
theorem dJ7_fill_53178_5 : decode cJ7_fill_53178 5 = .ok (.iload_n 2, 1) := by decide +kernel
theorem dJ7_fill_53178_6 : decode cJ7_fill_53178 6 = .ok (.iload_n 3, 1) := by decide +kernel
theorem dJ7_fill_53178_7 : decode cJ7_fill_53178 7 = .ok (.if_icmp .ge 13, 3) := by decide +kernel
theorem dJ7_fill_53178_10 : decode cJ7_fill_53178 10 = .ok (.aload_n 0, 1) := by decide +kernel
theorem dJ7_fill_53178_11 : decode cJ7_fill_53178 11 = .ok (.iload_n 2, 1) := by decide +kernel
theorem dJ7_fill_53178_12 : decode cJ7_fill_53178 12 = .ok (.iload_n 1, 1) := by decide +kernel
theorem dJ7_fill_53178_13 : decode cJ7_fill_53178 13 = .ok (.iastore, 1) := by decide +kernel
theorem dJ7_fill_53178_14 : decode cJ7_fill_53178 14 = .ok (.iinc 2 1, 3) := by decide +kernel
theorem dJ7_fill_53178_17 : decode cJ7_fill_53178 17 = .ok (.goto (-12), 3) := by decide +kernel
theorem dJ7_fill_53178_20 : decode cJ7_fill_53178 20 = .ok (.return_, 1) := by decide +kernel
theorem dJ7_copyOf_1904c_0 : decode cJ7_copyOf_1904c 0 = .ok (.aload_n 0, 1) := by decide +kernel
theorem dJ7_copyOf_1904c_1 : decode cJ7_copyOf_1904c 1 = .ok (.iload_n 1, 1) := by decide +kernel
theorem dJ7_copyOf_1904c_2 : decode cJ7_copyOf_1904c 2 = .ok (.aload_n 0, 1) := by decide +kernel
theorem dJ7_copyOf_1904c_3 : decode cJ7_copyOf_1904c 3 = .ok (.invokevirtual 86, 3) := by decide +kernel
theorem dJ7_copyOf_1904c_6 : decode cJ7_copyOf_1904c 6 = .ok (.invokestatic 300, 3) := by decide +kernel
theorem dJ7_copyOf_1904c_9 : decode cJ7_copyOf_1904c 9 = .ok (.areturn, 1) := by decide +kernel
theorem dJ7_copyOf_6403c_0 : decode cJ7_copyOf_6403c 0 = .ok (.aload_n 2, 1) := by decide +kernel
theorem dJ7_copyOf_6403c_1 : decode cJ7_copyOf_6403c 1 = .ok (.ldc 110, 2) := by decide +kernel
theorem dJ7_copyOf_6403c_3 : decode cJ7_copyOf_6403c 3 = .ok (.if_acmp .ne 10, 3) := by decide +kernel
theorem dJ7_copyOf_6403c_6 : decode cJ7_copyOf_6403c 6 = .ok (.iload_n 1, 1) := by decide +kernel
theorem dJ7_copyOf_6403c_7 : decode cJ7_copyOf_6403c 7 = .ok (.anewarray 2, 3) := by decide +kernel
theorem dJ7_copyOf_6403c_10 : decode cJ7_copyOf_6403c 10 = .ok (.goto 14, 3) := by decide +kernel
theorem dJ7_copyOf_6403c_13 : decode cJ7_copyOf_6403c 13 = .ok (.aload_n 2, 1) := by decide +kernel
theorem dJ7_copyOf_6403c_14 : decode cJ7_copyOf_6403c 14 = .ok (.invokevirtual 90, 3) := by decide +kernel
theorem dJ7_copyOf_6403c_17 : decode cJ7_copyOf_6403c 17 = .ok (.iload_n 1, 1) := by decide +kernel
theorem dJ7_copyOf_6403c_18 : decode cJ7_copyOf_6403c 18 = .ok (.invokestatic 95, 3) := by decide +kernel
theorem dJ7_copyOf_6403c_21 : decode cJ7_copyOf_6403c 21 = .ok (.checkcast 110, 3) := by decide +kernel
theorem dJ7_copyOf_6403c_24 : decode cJ7_copyOf_6403c 24 = .ok (.astore_n 3, 1) := by decide +kernel
theorem dJ7_copyOf_6403c_25 : decode cJ7_copyOf_6403c 25 = .ok (.aload_n 0, 1) := by decide +kernel
theorem dJ7_copyOf_6403c_26 : decode cJ7_copyOf_6403c 26 = .ok (.iconst 0, 1) := by decide +kernel
theorem dJ7_copyOf_6403c_27 : decode cJ7_copyOf_6403c 27 = .ok (.aload_n 3, 1) := by decide +kernel
theorem dJ7_copyOf_6403c_28 : decode cJ7_copyOf_6403c 28 = .ok (.iconst 0, 1) := by decide +kernel
theorem dJ7_copyOf_6403c_29 : decode cJ7_copyOf_6403c 29 = .ok (.aload_n 0, 1) := by decide +kernel
theorem dJ7_copyOf_6403c_30 : decode cJ7_copyOf_6403c 30 = .ok (.arraylength, 1) := by decide +kernel
theorem dJ7_copyOf_6403c_31 : decode cJ7_copyOf_6403c 31 = .ok (.iload_n 1, 1) := by decide +kernel
theorem dJ7_copyOf_6403c_32 : decode cJ7_copyOf_6403c 32 = .ok (.invokestatic 304, 3) := by decide +kernel
theorem dJ7_copyOf_6403c_35 : decode cJ7_copyOf_6403c 35 = .ok (.invokestatic 150, 3) := by decide +kernel
theorem dJ7_copyOf_6403c_38 : decode cJ7_copyOf_6403c 38 = .ok (.aload_n 3, 1) := by decide +kernel
theorem dJ7_copyOf_6403c_39 : decode cJ7_copyOf_6403c 39 = .ok (.areturn, 1) := by decide +kernel
theorem dJ15_checkIndex_7cf53_0 : decode cJ15_checkIndex_7cf53 0 = .ok (.iload_n 0, 1) := by decide +kernel
theorem dJ15_checkIndex_7cf53_1 : decode cJ15_checkIndex_7cf53 1 = .ok (.iload_n 1, 1) := by decide +kernel
theorem dJ15_checkIndex_7cf53_2 : decode cJ15_checkIndex_7cf53 2 = .ok (.aconst_null, 1) := by decide +kernel
theorem dJ15_checkIndex_7cf53_3 : decode cJ15_checkIndex_7cf53 3 = .ok (.invokestatic 105, 3) := by decide +kernel
theorem dJ15_checkIndex_7cf53_6 : decode cJ15_checkIndex_7cf53 6 = .ok (.ireturn, 1) := by decide +kernel
theorem dJ8_newLength_cabcc_0 : decode cJ8_newLength_cabcc 0 = .ok (.iload_n 0, 1) := by decide +kernel
theorem dJ8_newLength_cabcc_1 : decode cJ8_newLength_cabcc 1 = .ok (.iload_n 1, 1) := by decide +kernel
theorem dJ8_newLength_cabcc_2 : decode cJ8_newLength_cabcc 2 = .ok (.iload_n 2, 1) := by decide +kernel
theorem dJ8_newLength_cabcc_3 : decode cJ8_newLength_cabcc 3 = .ok (.invokestatic 194, 3) := by decide +kernel
theorem dJ8_newLength_cabcc_6 : decode cJ8_newLength_cabcc 6 = .ok (.iadd, 1) := by decide +kernel
theorem dJ8_newLength_cabcc_7 : decode cJ8_newLength_cabcc 7 = .ok (.istore_n 3, 1) := by decide +kernel
theorem dJ8_newLength_cabcc_8 : decode cJ8_newLength_cabcc 8 = .ok (.iconst 0, 1) := by decide +kernel
theorem dJ8_newLength_cabcc_9 : decode cJ8_newLength_cabcc 9 = .ok (.iload_n 3, 1) := by decide +kernel
theorem dJ8_newLength_cabcc_10 : decode cJ8_newLength_cabcc 10 = .ok (.if_icmp .ge 11, 3) := by decide +kernel
theorem dJ8_newLength_cabcc_13 : decode cJ8_newLength_cabcc 13 = .ok (.iload_n 3, 1) := by decide +kernel
theorem dJ8_newLength_cabcc_14 : decode cJ8_newLength_cabcc 14 = .ok (.ldc 200, 2) := by decide +kernel
theorem dJ8_newLength_cabcc_16 : decode cJ8_newLength_cabcc 16 = .ok (.if_icmp .gt 5, 3) := by decide +kernel
theorem dJ8_newLength_cabcc_19 : decode cJ8_newLength_cabcc 19 = .ok (.iload_n 3, 1) := by decide +kernel
theorem dJ8_newLength_cabcc_20 : decode cJ8_newLength_cabcc 20 = .ok (.ireturn, 1) := by decide +kernel
theorem dJ8_newLength_cabcc_21 : decode cJ8_newLength_cabcc 21 = .ok (.iload_n 0, 1) := by decide +kernel
theorem dJ8_newLength_cabcc_22 : decode cJ8_newLength_cabcc 22 = .ok (.iload_n 1, 1) := by decide +kernel
theorem dJ8_newLength_cabcc_23 : decode cJ8_newLength_cabcc 23 = .ok (.invokestatic 201, 3) := by decide +kernel
theorem dJ8_newLength_cabcc_26 : decode cJ8_newLength_cabcc 26 = .ok (.ireturn, 1) := by decide +kernel
theorem dJ8_hugeLength_7cf53_0 : decode cJ8_hugeLength_7cf53 0 = .ok (.iload_n 0, 1) := by decide +kernel
theorem dJ8_hugeLength_7cf53_1 : decode cJ8_hugeLength_7cf53 1 = .ok (.iload_n 1, 1) := by decide +kernel
theorem dJ8_hugeLength_7cf53_2 : decode cJ8_hugeLength_7cf53 2 = .ok (.iadd, 1) := by decide +kernel
theorem dJ8_hugeLength_7cf53_3 : decode cJ8_hugeLength_7cf53 3 = .ok (.istore_n 2, 1) := by decide +kernel
theorem dJ8_hugeLength_7cf53_4 : decode cJ8_hugeLength_7cf53 4 = .ok (.iload_n 2, 1) := by decide +kernel
theorem dJ8_hugeLength_7cf53_5 : decode cJ8_hugeLength_7cf53 5 = .ok (.ifCond .ge 44, 3) := by decide +kernel
theorem dJ8_hugeLength_7cf53_8 : decode cJ8_hugeLength_7cf53 8 = .ok (.new 204, 3) := by decide +kernel
theorem dJ8_hugeLength_7cf53_11 : decode cJ8_hugeLength_7cf53 11 = .ok (.dup, 1) := by decide +kernel
theorem dJ8_hugeLength_7cf53_12 : decode cJ8_hugeLength_7cf53 12 = .ok (.new 89, 3) := by decide +kernel
theorem dJ8_hugeLength_7cf53_15 : decode cJ8_hugeLength_7cf53 15 = .ok (.dup, 1) := by decide +kernel
theorem dJ8_hugeLength_7cf53_16 : decode cJ8_hugeLength_7cf53 16 = .ok (.invokespecial 91, 3) := by decide +kernel
theorem dJ8_hugeLength_7cf53_19 : decode cJ8_hugeLength_7cf53 19 = .ok (.ldc 206, 2) := by decide +kernel
theorem dJ8_hugeLength_7cf53_21 : decode cJ8_hugeLength_7cf53 21 = .ok (.invokevirtual 94, 3) := by decide +kernel
theorem dJ8_hugeLength_7cf53_24 : decode cJ8_hugeLength_7cf53 24 = .ok (.iload_n 0, 1) := by decide +kernel
theorem dJ8_hugeLength_7cf53_25 : decode cJ8_hugeLength_7cf53 25 = .ok (.invokevirtual 98, 3) := by decide +kernel
theorem dJ8_hugeLength_7cf53_28 : decode cJ8_hugeLength_7cf53 28 = .ok (.ldc 208, 2) := by decide +kernel
theorem dJ8_hugeLength_7cf53_30 : decode cJ8_hugeLength_7cf53 30 = .ok (.invokevirtual 94, 3) := by decide +kernel
theorem dJ8_hugeLength_7cf53_33 : decode cJ8_hugeLength_7cf53 33 = .ok (.iload_n 1, 1) := by decide +kernel
theorem dJ8_hugeLength_7cf53_34 : decode cJ8_hugeLength_7cf53 34 = .ok (.invokevirtual 98, 3) := by decide +kernel
theorem dJ8_hugeLength_7cf53_37 : decode cJ8_hugeLength_7cf53 37 = .ok (.ldc 210, 2) := by decide +kernel
theorem dJ8_hugeLength_7cf53_39 : decode cJ8_hugeLength_7cf53 39 = .ok (.invokevirtual 94, 3) := by decide +kernel
theorem dJ8_hugeLength_7cf53_42 : decode cJ8_hugeLength_7cf53 42 = .ok (.invokevirtual 101, 3) := by decide +kernel
theorem dJ8_hugeLength_7cf53_45 : decode cJ8_hugeLength_7cf53 45 = .ok (.invokespecial 212, 3) := by decide +kernel
theorem dJ8_hugeLength_7cf53_48 : decode cJ8_hugeLength_7cf53 48 = .ok (.athrow, 1) := by decide +kernel
theorem dJ8_hugeLength_7cf53_49 : decode cJ8_hugeLength_7cf53 49 = .ok (.iload_n 2, 1) := by decide +kernel
theorem dJ8_hugeLength_7cf53_50 : decode cJ8_hugeLength_7cf53 50 = .ok (.ldc 200, 2) := by decide +kernel
theorem dJ8_hugeLength_7cf53_52 : decode cJ8_hugeLength_7cf53 52 = .ok (.if_icmp .gt 6, 3) := by decide +kernel
theorem dJ8_hugeLength_7cf53_55 : decode cJ8_hugeLength_7cf53 55 = .ok (.ldc 200, 2) := by decide +kernel
theorem dJ8_hugeLength_7cf53_57 : decode cJ8_hugeLength_7cf53 57 = .ok (.ireturn, 1) := by decide +kernel
theorem dJ8_hugeLength_7cf53_58 : decode cJ8_hugeLength_7cf53 58 = .ok (.iload_n 2, 1) := by decide +kernel
theorem dJ8_hugeLength_7cf53_59 : decode cJ8_hugeLength_7cf53 59 = .ok (.ireturn, 1) := by decide +kernel
theorem dJ3_checkIndex_8e157_0 : decode cJ3_checkIndex_8e157 0 = .ok (.iload_n 0, 1) := by decide +kernel
theorem dJ3_checkIndex_8e157_1 : decode cJ3_checkIndex_8e157 1 = .ok (.ifCond .lt 8, 3) := by decide +kernel
theorem dJ3_checkIndex_8e157_4 : decode cJ3_checkIndex_8e157 4 = .ok (.iload_n 0, 1) := by decide +kernel
theorem dJ3_checkIndex_8e157_5 : decode cJ3_checkIndex_8e157 5 = .ok (.iload_n 1, 1) := by decide +kernel
theorem dJ3_checkIndex_8e157_6 : decode cJ3_checkIndex_8e157 6 = .ok (.if_icmp .lt 10, 3) := by decide +kernel
theorem dJ3_checkIndex_8e157_9 : decode cJ3_checkIndex_8e157 9 = .ok (.aload_n 2, 1) := by decide +kernel
theorem dJ3_checkIndex_8e157_10 : decode cJ3_checkIndex_8e157 10 = .ok (.iload_n 0, 1) := by decide +kernel
theorem dJ3_checkIndex_8e157_11 : decode cJ3_checkIndex_8e157 11 = .ok (.iload_n 1, 1) := by decide +kernel
theorem dJ3_checkIndex_8e157_12 : decode cJ3_checkIndex_8e157 12 = .ok (.invokestatic 95, 3) := by decide +kernel
theorem dJ3_checkIndex_8e157_15 : decode cJ3_checkIndex_8e157 15 = .ok (.athrow, 1) := by decide +kernel
theorem dJ3_checkIndex_8e157_16 : decode cJ3_checkIndex_8e157 16 = .ok (.iload_n 0, 1) := by decide +kernel
theorem dJ3_checkIndex_8e157_17 : decode cJ3_checkIndex_8e157 17 = .ok (.ireturn, 1) := by decide +kernel
end
section
/-! V: the judgement W, over every heap, every array of locals that hold what is listed; numbers as Int (my own layer over the kit) -/
def WA : List Cond := lw_tbl.filter goodWord
theorem wa_of {w : Cond} (h : w ∈ tables_1) (g : goodWord w = true) : w ∈ WA := List.mem_filter.mpr ⟨List.mem_append_right _ h, g⟩
theorem wa_sel {q : MethodName × Nat} (h : q ∈ lw_privs) (g : goodWord (Cond.selects q.1.cls q.1 q.1) = true) : Cond.selects q.1.cls q.1 q.1 ∈ WA := List.mem_filter.mpr ⟨List.mem_append_left _ (List.mem_map.mpr ⟨q, h, rfl⟩), g⟩
theorem wa_tbl {w : Cond} (h : w ∈ WA) : w ∈ lw_tbl := (List.mem_filter.mp h).1
theorem wa_good {w : Cond} (h : w ∈ WA) : goodWord w = true := (List.mem_filter.mp h).2
theorem wa_goodIn {x y : Cond} (h : y ∈ WA) : GoodIn (x :: WA) (y :: WA) := by
  intro w hw
  rcases List.mem_cons.mp hw with rfl | hw
  · exact ⟨List.mem_cons_of_mem _ h, good_of_word (wa_good h)⟩
  · exact ⟨List.mem_cons_of_mem _ hw, good_of_word (wa_good hw)⟩
theorem wa_goodIn0 {y : Cond} (h : y ∈ WA) : GoodIn WA (y :: WA) := by
  intro w hw
  rcases List.mem_cons.mp hw with rfl | hw
  · exact ⟨h, good_of_word (wa_good h)⟩
  · exact ⟨hw, good_of_word (wa_good hw)⟩
-- numbers
def zI (z : Int) : Int32 := Int32.ofInt z
def iR (z : Int) : Prop := -2147483648 ≤ z ∧ z ≤ 2147483647
theorem zI_add (a b : Int) : zI a + zI b = zI (a + b) := (Int32.ofInt_add a b).symm
theorem zI_sub (a b : Int) : zI a - zI b = zI (a - b) := (Int32.ofInt_sub a b).symm
theorem zI_mul (a b : Int) : zI a * zI b = zI (a * b) := (Int32.ofInt_mul a b).symm
theorem zI_neg (a : Int) : -zI a = zI (-a) := (Int32.ofInt_neg a).symm
theorem zI_toInt {a : Int} (h : iR a) : (zI a).toInt = a := Int32.toInt_ofInt_of_le (by have := h.1; omega) (by have := h.2; omega)
theorem zI_self (x : Int32) : zI x.toInt = x := Int32.ofInt_toInt x
theorem zI_rng (x : Int32) : iR x.toInt := ⟨by have := x.le_toInt; omega, by have := x.toInt_lt; omega⟩
theorem zI_lt {a b : Int} (ha : iR a) (hb : iR b) : zI a < zI b ↔ a < b := by rw [Int32.lt_iff_toInt_lt, zI_toInt ha, zI_toInt hb]
theorem zI_le {a b : Int} (ha : iR a) (hb : iR b) : zI a ≤ zI b ↔ a ≤ b := by rw [Int32.le_iff_toInt_le, zI_toInt ha, zI_toInt hb]
theorem zI_eq {a b : Int} (ha : iR a) (hb : iR b) : zI a = zI b ↔ a = b := by rw [← Int32.toInt_inj, zI_toInt ha, zI_toInt hb]
theorem zI_inj {a b : Int} (ha : iR a) (hb : iR b) (h : zI a = zI b) : a = b := (zI_eq ha hb).mp h
theorem zI_nat (n : Nat) : zI (n : Int) = nI n := Int32.ofInt_eq_ofNat
theorem zI_0 : zI 0 = 0 := rfl
theorem zI_div {a b : Int} (ha : iR a) (hb : iR b) (h0 : 0 ≤ a) (h1 : 0 < b) : zI a / zI b = zI (a / b) := by
  obtain ⟨n, rfl⟩ := Int.eq_ofNat_of_zero_le h0
  obtain ⟨k, rfl⟩ := Int.eq_ofNat_of_zero_le (Int.le_of_lt h1)
  have e : ((n : Int) / (k : Int)) = ((n / k : Nat) : Int) := (Int.natCast_ediv n k).symm
  have a1 := ha.2
  have b1 := hb.2
  rw [e, zI_nat, zI_nat, zI_nat, pk_div (by omega) (by omega) (by omega)]
theorem zI_rem {a b : Int} (hb : iR b) (ha : iR a) (h1 : 0 < b) : zI a - zI a / zI b * zI b = zI (a.tmod b) := by
  have t := tmod_bounds (a := a) h1
  have b1 := hb.2
  rw [← Int32.toInt_inj, rem_toInt, zI_toInt ha, zI_toInt hb, zI_toInt ⟨by omega, by omega⟩]
theorem zI_in {a : Int} {n : Nat} (h0 : 0 ≤ a) (h1 : a < (n : Int)) (hn : n < 2 ^ 31) : vp_in (zI a) n := by
  rw [vp_in_iff, zI_toInt ⟨by omega, by omega⟩]; omega
theorem zI_cl {a : Int} (h0 : 0 ≤ a) (h1 : a < 2147483648) : (zI a).toNatClampNeg = a.toNat := by
  rw [← Int32.toNat_toInt, zI_toInt ⟨by omega, by omega⟩]
theorem zI_ne0 {b : Int} (hb : iR b) (h1 : 0 < b) : ¬ zI b = 0 := fun h => by
  have := (zI_eq hb (b := 0) ⟨by omega, by omega⟩).mp h
  omega
theorem tmod_nn {a b : Int} (h : 0 ≤ a) : a.tmod b = a % b := Int.tmod_eq_emod_of_nonneg h
/-- an array's contents -/
def zA (f : Int → Int) : Nat → Int32 := fun j => zI (f (j : Int))
def fup {α : Type} (f : Int → α) (i : Int) (v : α) : Int → α := fun j => if j = i then v else f j
theorem fup_eq {α : Type} (f : Int → α) (i : Int) (v : α) : fup f i v i = v := if_pos rfl
theorem fup_ne {α : Type} {f : Int → α} {i j : Int} {v : α} (h : j ≠ i) : fup f i v j = f j := if_neg h
theorem zA_upd (f : Int → Int) {i : Int} (v : Int) (h0 : 0 ≤ i) (h1 : i < 2147483648) : upd (zA f) (zI i).toNatClampNeg (zI v) = zA (fup f i v) := by
  funext j
  rw [zI_cl h0 h1]
  unfold upd zA fup
  by_cases h : j = i.toNat
  · rw [if_pos h, if_pos (by omega)]
  · rw [if_neg h, if_neg (by omega)]
theorem zA_get (f : Int → Int) {i : Int} (h0 : 0 ≤ i) (h1 : i < 2147483648) : zA f (zI i).toNatClampNeg = zI (f i) := by
  rw [zI_cl h0 h1]
  unfold zA
  rw [Int.toNat_of_nonneg h0]
-- worlds: an array names its class by a place of tyL
abbrev vE : Type := (Nat × vp_A) ⊕ (Nat × List Value)
abbrev vWd : Type := List (Nat × vE)
def twE (cA : Nat → ClassId) (q : Nat × vE) : Nat × va_E := (q.1, match q.2 with | .inl a => .inl (cA a.1, a.2) | .inr o => .inr o)
def tw (cA : Nat → ClassId) (ws : vWd) : va_W := ws.map (twE cA)
theorem tw_get {cA : Nat → ClassId} {ws : vWd} {k : Nat} {q : Nat × vE} (h : ws[k]? = some q) : (tw cA ws)[k]? = some (twE cA q) := by
  unfold tw; rw [List.getElem?_map, h]; rfl
theorem tw_set {cA : Nat → ClassId} {ws : vWd} {k : Nat} {q : Nat × vE} : (tw cA ws).set k (twE cA q) = tw cA (ws.set k q) := by
  unfold tw; rw [List.map_set]
theorem tw_app {cA : Nat → ClassId} {w1 w2 : vWd} : tw cA (w1 ++ w2) = tw cA w1 ++ tw cA w2 := List.map_append
def tyL (cA : Nat → ClassId) : List (ClassId × FieldType) := [(cA 0, .int), (cA 1, .boolean), (cA 2, .long), (cA 3, .object "java/lang/Object"), (cA 4, .array .int)]
-- locals: a place each
def lvL (L : List (Option Value)) : List (Nat × Value) := (List.range L.length).filterMap (fun i => (L.getD i none).map (fun v => (i, v)))
theorem lvL_mem {L : List (Option Value)} {j : Nat} {w : Value} : (j, w) ∈ lvL L ↔ L[j]? = some (some w) := by
  unfold lvL
  rw [List.mem_filterMap]
  constructor
  · rintro ⟨i, hi, h⟩
    have hi := List.mem_range.mp hi
    rw [List.getD_eq_getElem?_getD] at h
    cases hx : L[i]? with
    | none => rw [hx] at h; cases h
    | some o =>
      rw [hx] at h
      cases o with
      | none => cases h
      | some v => cases h; exact hx
  · intro h
    refine ⟨j, List.mem_range.mpr (List.getElem?_eq_some_iff.mp h).1, ?_⟩
    rw [List.getD_eq_getElem?_getD, h]
    rfl
def lvO (ls : Array Slot) (nL : Nat) (L : List (Option Value)) : Prop := ls.size = nL ∧ lv_wf ls ∧ ∀ (i : Nat) (v : Value), L[i]? = some (some v) → ls[i]? = some (.val v) ∧ v.category = 1
theorem lvO.has {ls : Array Slot} {nL : Nat} {L : List (Option Value)} (h : lvO ls nL L) : lv_has ls nL (lvL L) := ⟨h.1, h.2.1, fun q hq => (h.2.2 q.1 q.2 (lvL_mem.mp hq)).1⟩
theorem lvO.store {ls ls' : Array Slot} {nL i : Nat} {L : List (Option Value)} {v : Value} (hL : lvO ls nL L) (hv : v.category = 1) (h : lv_has ls' nL ((i, v) :: (lvL L).filter (fun q => !(q.1 == i) && !(q.1 + 1 == i && q.2.category == 2)))) : lvO ls' nL (L.set i (some v)) := by
  refine ⟨h.1, h.2.1, fun j w hj => ?_⟩
  by_cases e : j = i
  · subst e
    have hlt : j < L.length := by
      have := (List.getElem?_eq_some_iff.mp hj).1
      rwa [List.length_set] at this
    rw [List.getElem?_set_self hlt] at hj
    cases hj
    exact ⟨h.2.2 (j, v) List.mem_cons_self, hv⟩
  · rw [List.getElem?_set_ne (Ne.symm e)] at hj
    have hc := (hL.2.2 j w hj).2
    refine ⟨h.2.2 (j, w) (List.mem_cons_of_mem _ (List.mem_filter.mpr ⟨lvL_mem.mpr hj, ?_⟩)), hc⟩
    simp [e, hc]
/-- a method: code, class, locals, answer, room -/
abbrev SI : Type := ByteArray × String × Nat × Option FieldType × Room
/-- what the launch gives beside the world (statics, constants): said of the cells outside A; stable -/
abbrev EV : Type := (Nat → Prop) → State → Heap → Prop
def Stb (E : EV) : Prop := (∀ (A B : Nat → Prop) (U : State) (H : Heap), (∀ q, B q → A q) → E A U H → E B U H) ∧ (∀ (A : Nat → Prop) (u U : State) (H : Heap), u.vm.Alike U.vm → E A u H → E A U H) ∧ (∀ (A : Nat → Prop) (U : State) (H H1 : Heap), (∀ a : Nat, a < H.size → ¬ A a → H1[a]? = H[a]?) → E A U H → E A U H1)
def KT : Type := Program × Launch × Env × State × MethodId × Array Value × List Frame × Method × Code × va_G × (Nat → ClassId) × (Nat → Prop) × (State → Prop) × EV
def Cx (K : KT) (S : SI) : Prop := match K with
  | (p, l, _, s, m, args, _, meth, c, D, cA, A, _, E) => p.tables.exec = Jvm.exec ∧ c.code = S.1 ∧ c.maxLocals = S.2.2.1 ∧ s.vm.findClass S.2.1 = some m.cls ∧ (∀ w ∈ WA, w.before args s = true) ∧ va_K D vwCl (tyL cA) s ∧ (∀ q : Nat, s.heap.size ≤ q → A q) ∧ meth.locks = false ∧ meth.sig.returnType = S.2.2.2.1 ∧ l.stackTraces = false ∧ Stb E ∧ E A s s.heap
def V (K : KT) (S : SI) (k n : Nat) (ws : vWd) (L : List (Option Value)) (st : List Value) (pc : Nat) : Prop := match K with
  | (p, l, e, s, m, args, below, meth, c, D, cA, A, Q, E) => Cx (p, l, e, s, m, args, below, meth, c, D, cA, A, Q, E) S → ∀ (H : Heap) (locs : List Loc) (ls : Array Slot), va_P D vwCl (tw cA ws) H → va_D A (tw cA ws) → va_S A s.heap H locs → lvO ls S.2.2.1 L → W p l e S.2.2.2.2 s m args below meth c H locs k n Q (F0 m pc ls st)
end
section
theorem tw_places {cA : Nat → ClassId} {ws wc : vWd} {is : List Nat} (h : is.map (fun (i : Nat) => ws[i]?) = wc.map some) : is.map (fun (i : Nat) => (tw cA ws)[i]?) = (tw cA wc).map some := by
  have h2 := congrArg (List.map (Option.map (twE cA))) h
  unfold tw
  simp only [List.map_map] at h2 ⊢
  have e1 : (Option.map (twE cA) ∘ fun (i : Nat) => ws[i]?) = fun (i : Nat) => (List.map (twE cA) ws)[i]? := by funext i; simp
  have e2 : (Option.map (twE cA) ∘ some) = (some ∘ twE cA) := rfl
  rw [e1, e2] at h2
  exact h2
section VR
variable {K : KT} {S : SI} {k n : Nat} {ws : vWd} {L : List (Option Value)} {st : List Value} {pc : Nat}
theorem V_iconst {z : Int} (d : decode S.1 pc = .ok (.iconst z, 1)) (kk : V K S k n ws L (.int (zI z) :: st) (pc + 1)) : V K S k n ws L (st) (pc) := by
  obtain ⟨p, l, e, s, m, args, below, meth, c, D, cA, A, Q, E⟩ := K
  intro C H locs ls hP hD hS hl
  exact lv_iconst C.1 C.2.1 d rfl (kk C H locs ls hP hD hS hl)
theorem V_bipush {z : Int} (d : decode S.1 pc = .ok (.bipush z, 2)) (hz : (Int8.ofInt z).toInt32 = zI z) (kk : V K S k n ws L (.int (zI z) :: st) (pc + 2)) : V K S k n ws L (st) (pc) := by
  obtain ⟨p, l, e, s, m, args, below, meth, c, D, cA, A, Q, E⟩ := K
  intro C H locs ls hP hD hS hl
  exact lv_bipush C.1 C.2.1 d hz (kk C H locs ls hP hD hS hl)
theorem V_sipush {z : Int} (d : decode S.1 pc = .ok (.sipush z, 3)) (hz : (Int16.ofInt z).toInt32 = zI z) (kk : V K S k n ws L (.int (zI z) :: st) (pc + 3)) : V K S k n ws L (st) (pc) := by
  obtain ⟨p, l, e, s, m, args, below, meth, c, D, cA, A, Q, E⟩ := K
  intro C H locs ls hP hD hS hl
  exact lv_sipush C.1 C.2.1 d hz (kk C H locs ls hP hD hS hl)
theorem V_lconst {z : Fin 2} (d : decode S.1 pc = .ok (.lconst z, 1)) (kk : V K S k n ws L (.long (Int64.ofNat (z : Nat)) :: st) (pc + 1)) : V K S k n ws L (st) (pc) := by
  obtain ⟨p, l, e, s, m, args, below, meth, c, D, cA, A, Q, E⟩ := K
  intro C H locs ls hP hD hS hl
  exact lv_lconst C.1 C.2.1 d rfl (kk C H locs ls hP hD hS hl)
theorem V_iload_n {j : Fin 4} {x : Int32} (d : decode S.1 pc = .ok (.iload_n j, 1)) (h : L[(j : Nat)]? = some (some (.int x))) (kk : V K S k n ws L (.int x :: st) (pc + 1)) : V K S k n ws L (st) (pc) := by
  obtain ⟨p, l, e, s, m, args, below, meth, c, D, cA, A, Q, E⟩ := K
  intro C H locs ls hP hD hS hl
  exact lv_iload_n C.1 C.2.1 d rfl (hl.2.2 _ _ h).1 (kk C H locs ls hP hD hS hl)
theorem V_iload {j : Nat} {x : Int32} (d : decode S.1 pc = .ok (.iload j, 2)) (h : L[j]? = some (some (.int x))) (kk : V K S k n ws L (.int x :: st) (pc + 2)) : V K S k n ws L (st) (pc) := by
  obtain ⟨p, l, e, s, m, args, below, meth, c, D, cA, A, Q, E⟩ := K
  intro C H locs ls hP hD hS hl
  exact lv_iload C.1 C.2.1 d (hl.2.2 _ _ h).1 (kk C H locs ls hP hD hS hl)
theorem V_aload_n {j : Fin 4} {x : Nat} (d : decode S.1 pc = .ok (.aload_n j, 1)) (h : L[(j : Nat)]? = some (some (.ref x))) (kk : V K S k n ws L (.ref x :: st) (pc + 1)) : V K S k n ws L (st) (pc) := by
  obtain ⟨p, l, e, s, m, args, below, meth, c, D, cA, A, Q, E⟩ := K
  intro C H locs ls hP hD hS hl
  exact lv_aload_n C.1 C.2.1 d rfl (hl.2.2 _ _ h).1 (kk C H locs ls hP hD hS hl)
theorem V_aload {j : Nat} {x : Nat} (d : decode S.1 pc = .ok (.aload j, 2)) (h : L[j]? = some (some (.ref x))) (kk : V K S k n ws L (.ref x :: st) (pc + 2)) : V K S k n ws L (st) (pc) := by
  obtain ⟨p, l, e, s, m, args, below, meth, c, D, cA, A, Q, E⟩ := K
  intro C H locs ls hP hD hS hl
  exact lv_aload C.1 C.2.1 d (hl.2.2 _ _ h).1 (kk C H locs ls hP hD hS hl)
theorem V_istore_n {j : Fin 4} {x : Int32} {L' : List (Option Value)} (d : decode S.1 pc = .ok (.istore_n j, 1)) (hn : (j : Nat) < S.2.2.1) (h : L.set (j : Nat) (some (.int x)) = L') (kk : V K S k n ws L' (st) (pc + 1)) : V K S k n ws L (.int x :: st) (pc) := by
  obtain ⟨p, l, e, s, m, args, below, meth, c, D, cA, A, Q, E⟩ := K
  intro C H locs ls hP hD hS hl
  subst h
  exact lv_istore_n C.1 C.2.1 d rfl hl.has hn rfl (fun ls' h' => kk C H locs ls' hP hD hS (hl.store rfl h'))
theorem V_istore {j : Nat} {x : Int32} {L' : List (Option Value)} (d : decode S.1 pc = .ok (.istore j, 2)) (hn : j < S.2.2.1) (h : L.set j (some (.int x)) = L') (kk : V K S k n ws L' (st) (pc + 2)) : V K S k n ws L (.int x :: st) (pc) := by
  obtain ⟨p, l, e, s, m, args, below, meth, c, D, cA, A, Q, E⟩ := K
  intro C H locs ls hP hD hS hl
  subst h
  exact lv_istore C.1 C.2.1 d hl.has hn rfl (fun ls' h' => kk C H locs ls' hP hD hS (hl.store rfl h'))
theorem V_astore_n {j : Fin 4} {x : Nat} {L' : List (Option Value)} (d : decode S.1 pc = .ok (.astore_n j, 1)) (hn : (j : Nat) < S.2.2.1) (h : L.set (j : Nat) (some (.ref x)) = L') (kk : V K S k n ws L' (st) (pc + 1)) : V K S k n ws L (.ref x :: st) (pc) := by
  obtain ⟨p, l, e, s, m, args, below, meth, c, D, cA, A, Q, E⟩ := K
  intro C H locs ls hP hD hS hl
  subst h
  exact lv_astore_n C.1 C.2.1 d rfl hl.has hn rfl (fun ls' h' => kk C H locs ls' hP hD hS (hl.store rfl h'))
theorem V_astore {j : Nat} {x : Nat} {L' : List (Option Value)} (d : decode S.1 pc = .ok (.astore j, 2)) (hn : j < S.2.2.1) (h : L.set j (some (.ref x)) = L') (kk : V K S k n ws L' (st) (pc + 2)) : V K S k n ws L (.ref x :: st) (pc) := by
  obtain ⟨p, l, e, s, m, args, below, meth, c, D, cA, A, Q, E⟩ := K
  intro C H locs ls hP hD hS hl
  subst h
  exact lv_astore C.1 C.2.1 d hl.has hn rfl (fun ls' h' => kk C H locs ls' hP hD hS (hl.store rfl h'))
theorem V_iinc {j : Nat} {z x : Int} {L' : List (Option Value)} (d : decode S.1 pc = .ok (.iinc j z, 3)) (hn : j < S.2.2.1) (hx : L[j]? = some (some (.int (zI x)))) (h : L.set j (some (.int (zI (x + z)))) = L') (kk : V K S k n ws L' (st) (pc + 3)) : V K S k n ws L (st) (pc) := by
  obtain ⟨p, l, e, s, m, args, below, meth, c, D, cA, A, Q, E⟩ := K
  intro C H locs ls hP hD hS hl
  subst h
  obtain ⟨q, hq⟩ := List.getElem?_of_mem (lvL_mem.mpr hx)
  exact lv_iinc C.1 C.2.1 d hl.has hq (zI_add x z) hn rfl (fun ls' h' => kk C H locs ls' hP hD hS (hl.store rfl h'))
theorem V_iadd {x y : Int} (d : decode S.1 pc = .ok (.iadd, 1)) (kk : V K S k n ws L (.int (zI (x + y)) :: st) (pc + 1)) : V K S k n ws L (.int (zI y) :: .int (zI x) :: st) (pc) := by
  obtain ⟨p, l, e, s, m, args, below, meth, c, D, cA, A, Q, E⟩ := K
  intro C H locs ls hP hD hS hl
  rw [← zI_add] at kk
  exact lv_iadd C.1 C.2.1 d (kk C H locs ls hP hD hS hl)
theorem V_isub {x y : Int} (d : decode S.1 pc = .ok (.isub, 1)) (kk : V K S k n ws L (.int (zI (x - y)) :: st) (pc + 1)) : V K S k n ws L (.int (zI y) :: .int (zI x) :: st) (pc) := by
  obtain ⟨p, l, e, s, m, args, below, meth, c, D, cA, A, Q, E⟩ := K
  intro C H locs ls hP hD hS hl
  rw [← zI_sub] at kk
  exact lv_isub C.1 C.2.1 d (kk C H locs ls hP hD hS hl)
theorem V_imul {x y : Int} (d : decode S.1 pc = .ok (.imul, 1)) (kk : V K S k n ws L (.int (zI (x * y)) :: st) (pc + 1)) : V K S k n ws L (.int (zI y) :: .int (zI x) :: st) (pc) := by
  obtain ⟨p, l, e, s, m, args, below, meth, c, D, cA, A, Q, E⟩ := K
  intro C H locs ls hP hD hS hl
  rw [← zI_mul] at kk
  exact lv_imul C.1 C.2.1 d (kk C H locs ls hP hD hS hl)
theorem V_ineg {x : Int} (d : decode S.1 pc = .ok (.ineg, 1)) (kk : V K S k n ws L (.int (zI (-x)) :: st) (pc + 1)) : V K S k n ws L (.int (zI x) :: st) (pc) := by
  obtain ⟨p, l, e, s, m, args, below, meth, c, D, cA, A, Q, E⟩ := K
  intro C H locs ls hP hD hS hl
  rw [← zI_neg] at kk
  exact lv_ineg C.1 C.2.1 d (kk C H locs ls hP hD hS hl)
theorem V_idiv {x y : Int} (d : decode S.1 pc = .ok (.idiv, 1)) (h : iR x ∧ iR y ∧ 0 ≤ x ∧ 0 < y) (kk : V K S k n ws L (.int (zI (x / y)) :: st) (pc + 1)) : V K S k n ws L (.int (zI y) :: .int (zI x) :: st) (pc) := by
  obtain ⟨p, l, e, s, m, args, below, meth, c, D, cA, A, Q, E⟩ := K
  intro C H locs ls hP hD hS hl
  rw [← zI_div h.1 h.2.1 h.2.2.1 h.2.2.2] at kk
  exact lv_idiv C.1 C.2.1 d (zI_ne0 h.2.1 h.2.2.2) (kk C H locs ls hP hD hS hl)
theorem V_irem {x y : Int} (d : decode S.1 pc = .ok (.irem, 1)) (h : iR x ∧ iR y ∧ 0 < y) (kk : V K S k n ws L (.int (zI (x.tmod y)) :: st) (pc + 1)) : V K S k n ws L (.int (zI y) :: .int (zI x) :: st) (pc) := by
  obtain ⟨p, l, e, s, m, args, below, meth, c, D, cA, A, Q, E⟩ := K
  intro C H locs ls hP hD hS hl
  rw [← zI_rem h.2.1 h.1 h.2.2] at kk
  exact lv_irem C.1 C.2.1 d (zI_ne0 h.2.1 h.2.2) (kk C H locs ls hP hD hS hl)
theorem V_iremN {x y : Int} (d : decode S.1 pc = .ok (.irem, 1)) (h : iR x ∧ iR y ∧ 0 ≤ x ∧ 0 < y) (kk : V K S k n ws L (.int (zI (x % y)) :: st) (pc + 1)) : V K S k n ws L (.int (zI y) :: .int (zI x) :: st) (pc) := by
  obtain ⟨p, l, e, s, m, args, below, meth, c, D, cA, A, Q, E⟩ := K
  intro C H locs ls hP hD hS hl
  rw [← tmod_nn h.2.2.1, ← zI_rem h.2.1 h.1 h.2.2.2] at kk
  exact lv_irem C.1 C.2.1 d (zI_ne0 h.2.1 h.2.2.2) (kk C H locs ls hP hD hS hl)
theorem V_iand {x y : Int32} (d : decode S.1 pc = .ok (.iand, 1)) (kk : V K S k n ws L (.int (x &&& y) :: st) (pc + 1)) : V K S k n ws L (.int y :: .int x :: st) (pc) := by
  obtain ⟨p, l, e, s, m, args, below, meth, c, D, cA, A, Q, E⟩ := K
  intro C H locs ls hP hD hS hl
  exact lv_iand C.1 C.2.1 d (kk C H locs ls hP hD hS hl)
theorem V_ior {x y : Int32} (d : decode S.1 pc = .ok (.ior, 1)) (kk : V K S k n ws L (.int (x ||| y) :: st) (pc + 1)) : V K S k n ws L (.int y :: .int x :: st) (pc) := by
  obtain ⟨p, l, e, s, m, args, below, meth, c, D, cA, A, Q, E⟩ := K
  intro C H locs ls hP hD hS hl
  exact lv_ior C.1 C.2.1 d (kk C H locs ls hP hD hS hl)
theorem V_ixor {x y : Int32} (d : decode S.1 pc = .ok (.ixor, 1)) (kk : V K S k n ws L (.int (x ^^^ y) :: st) (pc + 1)) : V K S k n ws L (.int y :: .int x :: st) (pc) := by
  obtain ⟨p, l, e, s, m, args, below, meth, c, D, cA, A, Q, E⟩ := K
  intro C H locs ls hP hD hS hl
  exact lv_ixor C.1 C.2.1 d (kk C H locs ls hP hD hS hl)
theorem V_i2l {x : Int32} (d : decode S.1 pc = .ok (.i2l, 1)) (kk : V K S k n ws L (.long x.toInt64 :: st) (pc + 1)) : V K S k n ws L (.int x :: st) (pc) := by
  obtain ⟨p, l, e, s, m, args, below, meth, c, D, cA, A, Q, E⟩ := K
  intro C H locs ls hP hD hS hl
  exact lv_i2l C.1 C.2.1 d rfl (kk C H locs ls hP hD hS hl)
theorem V_lcmp {x y : Int64} (d : decode S.1 pc = .ok (.lcmp, 1)) (kk : V K S k n ws L (.int (lg_cmp x y) :: st) (pc + 1)) : V K S k n ws L (.long y :: .long x :: st) (pc) := by
  obtain ⟨p, l, e, s, m, args, below, meth, c, D, cA, A, Q, E⟩ := K
  intro C H locs ls hP hD hS hl
  exact W.lcmp C.1 C.2.1 d (kk C H locs ls hP hD hS hl)
theorem V_eqT {x y : Int32} (h : x = y) (kk : V K S k n ws L (.int y :: st) (pc)) : V K S k n ws L (.int x :: st) (pc) := by
  obtain ⟨p, l, e, s, m, args, below, meth, c, D, cA, A, Q, E⟩ := K
  intro C H locs ls hP hD hS hl
  subst h
  exact kk C H locs ls hP hD hS hl
theorem V_if_eq {x off : Int} {tgt : Nat} (d : decode S.1 pc = .ok (.ifCond .eq off, 3)) (ht : (pc : Int) + off = (tgt : Int)) (h : iR x) (k1 : x = 0 → V K S k n ws L (st) (tgt)) (k2 : x ≠ 0 → V K S k n ws L (st) (pc + 3)) : V K S k n ws L (.int (zI x) :: st) (pc) := by
  obtain ⟨p, l, e, s, m, args, below, meth, c, D, cA, A, Q, E⟩ := K
  intro C H locs ls hP hD hS hl
  have hz : iR 0 := ⟨by decide, by decide⟩
  exact lv_if_eq C.1 C.2.1 d ht (fun q => k1 ((zI_eq h hz).mp q) C H locs ls hP hD hS hl) (fun q => k2 (fun z => q ((zI_eq h hz).mpr z)) C H locs ls hP hD hS hl)
theorem V_if_ne {x off : Int} {tgt : Nat} (d : decode S.1 pc = .ok (.ifCond .ne off, 3)) (ht : (pc : Int) + off = (tgt : Int)) (h : iR x) (k1 : x ≠ 0 → V K S k n ws L (st) (tgt)) (k2 : x = 0 → V K S k n ws L (st) (pc + 3)) : V K S k n ws L (.int (zI x) :: st) (pc) := by
  obtain ⟨p, l, e, s, m, args, below, meth, c, D, cA, A, Q, E⟩ := K
  intro C H locs ls hP hD hS hl
  have hz : iR 0 := ⟨by decide, by decide⟩
  exact lv_if_ne C.1 C.2.1 d ht (fun q => k1 (fun z => q ((zI_eq h hz).mpr z)) C H locs ls hP hD hS hl) (fun q => k2 ((zI_eq h hz).mp q) C H locs ls hP hD hS hl)
theorem V_if_lt {x off : Int} {tgt : Nat} (d : decode S.1 pc = .ok (.ifCond .lt off, 3)) (ht : (pc : Int) + off = (tgt : Int)) (h : iR x) (k1 : x < 0 → V K S k n ws L (st) (tgt)) (k2 : 0 ≤ x → V K S k n ws L (st) (pc + 3)) : V K S k n ws L (.int (zI x) :: st) (pc) := by
  obtain ⟨p, l, e, s, m, args, below, meth, c, D, cA, A, Q, E⟩ := K
  intro C H locs ls hP hD hS hl
  have hz : iR 0 := ⟨by decide, by decide⟩
  exact lv_if_lt C.1 C.2.1 d ht (fun q => k1 ((zI_lt h hz).mp q) C H locs ls hP hD hS hl) (fun q => k2 (Int.not_lt.mp fun z => q ((zI_lt h hz).mpr z)) C H locs ls hP hD hS hl)
theorem V_if_ge {x off : Int} {tgt : Nat} (d : decode S.1 pc = .ok (.ifCond .ge off, 3)) (ht : (pc : Int) + off = (tgt : Int)) (h : iR x) (k1 : 0 ≤ x → V K S k n ws L (st) (tgt)) (k2 : x < 0 → V K S k n ws L (st) (pc + 3)) : V K S k n ws L (.int (zI x) :: st) (pc) := by
  obtain ⟨p, l, e, s, m, args, below, meth, c, D, cA, A, Q, E⟩ := K
  intro C H locs ls hP hD hS hl
  have hz : iR 0 := ⟨by decide, by decide⟩
  exact lv_if_ge C.1 C.2.1 d ht (fun q => k1 ((zI_le hz h).mp q) C H locs ls hP hD hS hl) (fun q => k2 (Int.not_le.mp fun z => q ((zI_le hz h).mpr z)) C H locs ls hP hD hS hl)
theorem V_if_gt {x off : Int} {tgt : Nat} (d : decode S.1 pc = .ok (.ifCond .gt off, 3)) (ht : (pc : Int) + off = (tgt : Int)) (h : iR x) (k1 : 0 < x → V K S k n ws L (st) (tgt)) (k2 : x ≤ 0 → V K S k n ws L (st) (pc + 3)) : V K S k n ws L (.int (zI x) :: st) (pc) := by
  obtain ⟨p, l, e, s, m, args, below, meth, c, D, cA, A, Q, E⟩ := K
  intro C H locs ls hP hD hS hl
  have hz : iR 0 := ⟨by decide, by decide⟩
  exact lv_if_gt C.1 C.2.1 d ht (fun q => k1 ((zI_lt hz h).mp q) C H locs ls hP hD hS hl) (fun q => k2 (Int.not_lt.mp fun z => q ((zI_lt hz h).mpr z)) C H locs ls hP hD hS hl)
theorem V_if_le {x off : Int} {tgt : Nat} (d : decode S.1 pc = .ok (.ifCond .le off, 3)) (ht : (pc : Int) + off = (tgt : Int)) (h : iR x) (k1 : x ≤ 0 → V K S k n ws L (st) (tgt)) (k2 : 0 < x → V K S k n ws L (st) (pc + 3)) : V K S k n ws L (.int (zI x) :: st) (pc) := by
  obtain ⟨p, l, e, s, m, args, below, meth, c, D, cA, A, Q, E⟩ := K
  intro C H locs ls hP hD hS hl
  have hz : iR 0 := ⟨by decide, by decide⟩
  exact lv_if_le C.1 C.2.1 d ht (fun q => k1 ((zI_le h hz).mp q) C H locs ls hP hD hS hl) (fun q => k2 (Int.not_le.mp fun z => q ((zI_le h hz).mpr z)) C H locs ls hP hD hS hl)
def bz (b : Bool) : Int := if b then 1 else 0
theorem bz_R (b : Bool) : iR (bz b) := by cases b <;> exact ⟨by decide, by decide⟩
theorem bz_t : bz true = 1 := rfl
theorem bz_f : bz false = 0 := rfl
theorem bz_0 {b : Bool} : bz b = 0 ↔ b = false := by cases b <;> decide
theorem bz_n0 {b : Bool} : bz b ≠ 0 ↔ b = true := by cases b <;> decide
theorem V_ifb_eq {b : Bool} {off : Int} {tgt : Nat} (d : decode S.1 pc = .ok (.ifCond .eq off, 3)) (ht : (pc : Int) + off = (tgt : Int)) (k1 : b = false → V K S k n ws L (st) (tgt)) (k2 : b = true → V K S k n ws L (st) (pc + 3)) : V K S k n ws L (.int (zI (bz b)) :: st) (pc) := by
  obtain ⟨p, l, e, s, m, args, below, meth, c, D, cA, A, Q, E⟩ := K
  intro C H locs ls hP hD hS hl
  cases b
  · exact lv_if_eq C.1 C.2.1 d ht (fun q => k1 rfl C H locs ls hP hD hS hl) (fun q => absurd rfl q)
  · exact lv_if_eq C.1 C.2.1 d ht (fun q => absurd q (by decide)) (fun q => k2 rfl C H locs ls hP hD hS hl)
theorem V_ifb_ne {b : Bool} {off : Int} {tgt : Nat} (d : decode S.1 pc = .ok (.ifCond .ne off, 3)) (ht : (pc : Int) + off = (tgt : Int)) (k1 : b = true → V K S k n ws L (st) (tgt)) (k2 : b = false → V K S k n ws L (st) (pc + 3)) : V K S k n ws L (.int (zI (bz b)) :: st) (pc) := by
  obtain ⟨p, l, e, s, m, args, below, meth, c, D, cA, A, Q, E⟩ := K
  intro C H locs ls hP hD hS hl
  cases b
  · exact lv_if_ne C.1 C.2.1 d ht (fun q => absurd rfl q) (fun q => k2 rfl C H locs ls hP hD hS hl)
  · exact lv_if_ne C.1 C.2.1 d ht (fun q => k1 rfl C H locs ls hP hD hS hl) (fun q => absurd q (by decide))
theorem V_icmp_eq {x y off : Int} {tgt : Nat} (d : decode S.1 pc = .ok (.if_icmp .eq off, 3)) (ht : (pc : Int) + off = (tgt : Int)) (h : iR x ∧ iR y) (k1 : x = y → V K S k n ws L (st) (tgt)) (k2 : x ≠ y → V K S k n ws L (st) (pc + 3)) : V K S k n ws L (.int (zI y) :: .int (zI x) :: st) (pc) := by
  obtain ⟨p, l, e, s, m, args, below, meth, c, D, cA, A, Q, E⟩ := K
  intro C H locs ls hP hD hS hl
  exact lv_icmp_eq C.1 C.2.1 d ht (fun q => k1 ((zI_eq h.1 h.2).mp q) C H locs ls hP hD hS hl) (fun q => k2 (fun z => q ((zI_eq h.1 h.2).mpr z)) C H locs ls hP hD hS hl)
theorem V_icmp_ne {x y off : Int} {tgt : Nat} (d : decode S.1 pc = .ok (.if_icmp .ne off, 3)) (ht : (pc : Int) + off = (tgt : Int)) (h : iR x ∧ iR y) (k1 : x ≠ y → V K S k n ws L (st) (tgt)) (k2 : x = y → V K S k n ws L (st) (pc + 3)) : V K S k n ws L (.int (zI y) :: .int (zI x) :: st) (pc) := by
  obtain ⟨p, l, e, s, m, args, below, meth, c, D, cA, A, Q, E⟩ := K
  intro C H locs ls hP hD hS hl
  exact lv_icmp_ne C.1 C.2.1 d ht (fun q => k1 (fun z => q ((zI_eq h.1 h.2).mpr z)) C H locs ls hP hD hS hl) (fun q => k2 ((zI_eq h.1 h.2).mp q) C H locs ls hP hD hS hl)
theorem V_icmp_lt {x y off : Int} {tgt : Nat} (d : decode S.1 pc = .ok (.if_icmp .lt off, 3)) (ht : (pc : Int) + off = (tgt : Int)) (h : iR x ∧ iR y) (k1 : x < y → V K S k n ws L (st) (tgt)) (k2 : y ≤ x → V K S k n ws L (st) (pc + 3)) : V K S k n ws L (.int (zI y) :: .int (zI x) :: st) (pc) := by
  obtain ⟨p, l, e, s, m, args, below, meth, c, D, cA, A, Q, E⟩ := K
  intro C H locs ls hP hD hS hl
  exact lv_icmp_lt C.1 C.2.1 d ht (fun q => k1 ((zI_lt h.1 h.2).mp q) C H locs ls hP hD hS hl) (fun q => k2 (Int.not_lt.mp fun z => q ((zI_lt h.1 h.2).mpr z)) C H locs ls hP hD hS hl)
theorem V_icmp_ge {x y off : Int} {tgt : Nat} (d : decode S.1 pc = .ok (.if_icmp .ge off, 3)) (ht : (pc : Int) + off = (tgt : Int)) (h : iR x ∧ iR y) (k1 : y ≤ x → V K S k n ws L (st) (tgt)) (k2 : x < y → V K S k n ws L (st) (pc + 3)) : V K S k n ws L (.int (zI y) :: .int (zI x) :: st) (pc) := by
  obtain ⟨p, l, e, s, m, args, below, meth, c, D, cA, A, Q, E⟩ := K
  intro C H locs ls hP hD hS hl
  exact lv_icmp_ge C.1 C.2.1 d ht (fun q => k1 ((zI_le h.2 h.1).mp q) C H locs ls hP hD hS hl) (fun q => k2 (Int.not_le.mp fun z => q ((zI_le h.2 h.1).mpr z)) C H locs ls hP hD hS hl)
theorem V_icmp_gt {x y off : Int} {tgt : Nat} (d : decode S.1 pc = .ok (.if_icmp .gt off, 3)) (ht : (pc : Int) + off = (tgt : Int)) (h : iR x ∧ iR y) (k1 : y < x → V K S k n ws L (st) (tgt)) (k2 : x ≤ y → V K S k n ws L (st) (pc + 3)) : V K S k n ws L (.int (zI y) :: .int (zI x) :: st) (pc) := by
  obtain ⟨p, l, e, s, m, args, below, meth, c, D, cA, A, Q, E⟩ := K
  intro C H locs ls hP hD hS hl
  exact lv_icmp_gt C.1 C.2.1 d ht (fun q => k1 ((zI_lt h.2 h.1).mp q) C H locs ls hP hD hS hl) (fun q => k2 (Int.not_lt.mp fun z => q ((zI_lt h.2 h.1).mpr z)) C H locs ls hP hD hS hl)
theorem V_icmp_le {x y off : Int} {tgt : Nat} (d : decode S.1 pc = .ok (.if_icmp .le off, 3)) (ht : (pc : Int) + off = (tgt : Int)) (h : iR x ∧ iR y) (k1 : x ≤ y → V K S k n ws L (st) (tgt)) (k2 : y < x → V K S k n ws L (st) (pc + 3)) : V K S k n ws L (.int (zI y) :: .int (zI x) :: st) (pc) := by
  obtain ⟨p, l, e, s, m, args, below, meth, c, D, cA, A, Q, E⟩ := K
  intro C H locs ls hP hD hS hl
  exact lv_icmp_le C.1 C.2.1 d ht (fun q => k1 ((zI_le h.1 h.2).mp q) C H locs ls hP hD hS hl) (fun q => k2 (Int.not_le.mp fun z => q ((zI_le h.1 h.2).mpr z)) C H locs ls hP hD hS hl)
theorem V_goto {off : Int} {tgt : Nat} (d : decode S.1 pc = .ok (.goto off, 3)) (ht : (pc : Int) + off = (tgt : Int)) (kk : V K S k n ws L (st) (tgt)) : V K S k n ws L (st) (pc) := by
  obtain ⟨p, l, e, s, m, args, below, meth, c, D, cA, A, Q, E⟩ := K
  intro C H locs ls hP hD hS hl
  exact lv_goto C.1 C.2.1 d ht (kk C H locs ls hP hD hS hl)
theorem V_dup {v : Value} (d : decode S.1 pc = .ok (.dup, 1)) (hv : v.category = 1) (kk : V K S k n ws L (v :: v :: st) (pc + 1)) : V K S k n ws L (v :: st) (pc) := by
  obtain ⟨p, l, e, s, m, args, below, meth, c, D, cA, A, Q, E⟩ := K
  intro C H locs ls hP hD hS hl
  exact lv_dup C.1 C.2.1 d hv (kk C H locs ls hP hD hS hl)
theorem V_dup_x1 {v w : Value} (d : decode S.1 pc = .ok (.dup_x1, 1)) (hv : v.category = 1) (hw : w.category = 1) (kk : V K S k n ws L (v :: w :: v :: st) (pc + 1)) : V K S k n ws L (v :: w :: st) (pc) := by
  obtain ⟨p, l, e, s, m, args, below, meth, c, D, cA, A, Q, E⟩ := K
  intro C H locs ls hP hD hS hl
  exact lv_dup_x1 C.1 C.2.1 d hv hw (kk C H locs ls hP hD hS hl)
theorem V_dup2 {v w : Value} (d : decode S.1 pc = .ok (.dup2, 1)) (hv : v.category = 1) (hw : w.category = 1) (kk : V K S k n ws L (v :: w :: v :: w :: st) (pc + 1)) : V K S k n ws L (v :: w :: st) (pc) := by
  obtain ⟨p, l, e, s, m, args, below, meth, c, D, cA, A, Q, E⟩ := K
  intro C H locs ls hP hD hS hl
  exact lv_dup2_11 C.1 C.2.1 d hv hw (kk C H locs ls hP hD hS hl)
theorem V_pop {v : Value} (d : decode S.1 pc = .ok (.pop, 1)) (hv : v.category = 1) (kk : V K S k n ws L (st) (pc + 1)) : V K S k n ws L (v :: st) (pc) := by
  obtain ⟨p, l, e, s, m, args, below, meth, c, D, cA, A, Q, E⟩ := K
  intro C H locs ls hP hD hS hl
  exact lv_pop C.1 C.2.1 d hv (kk C H locs ls hP hD hS hl)
theorem V_widen {k' n' : Nat} (h1 : k ≤ k') (h2 : n ≤ n') (kk : V K S k' n' ws L (st) (pc)) : V K S k n ws L (st) (pc) := by
  obtain ⟨p, l, e, s, m, args, below, meth, c, D, cA, A, Q, E⟩ := K
  intro C H locs ls hP hD hS hl
  exact W.widen h1 h2 (kk C H locs ls hP hD hS hl)
theorem V_tableIn {dflt lo hi x off : Int} {offs : Array Int} {len tgt : Nat} (d : decode S.1 pc = .ok (.tableswitch dflt lo hi offs, len)) (hx : iR x) (h1 : lo ≤ x) (h2 : x ≤ hi) (ho : offs[(x - lo).toNat]? = some off) (ht : (pc : Int) + off = (tgt : Int)) (kk : V K S k n ws L (st) (tgt)) : V K S k n ws L (.int (zI x) :: st) (pc) := by
  obtain ⟨p, l, e, s, m, args, below, meth, c, D, cA, A, Q, E⟩ := K
  intro C H locs ls hP hD hS hl
  exact lv_tableIn C.1 C.2.1 d (by rw [zI_toInt hx]; omega) (by rw [zI_toInt hx]; omega) (by rw [zI_toInt hx]; exact ho) ht (kk C H locs ls hP hD hS hl)
theorem V_tableOut {dflt lo hi x : Int} {offs : Array Int} {len tgt : Nat} (d : decode S.1 pc = .ok (.tableswitch dflt lo hi offs, len)) (hx : iR x) (h : x < lo ∨ hi < x) (ht : (pc : Int) + dflt = (tgt : Int)) (kk : V K S k n ws L (st) (tgt)) : V K S k n ws L (.int (zI x) :: st) (pc) := by
  obtain ⟨p, l, e, s, m, args, below, meth, c, D, cA, A, Q, E⟩ := K
  intro C H locs ls hP hD hS hl
  exact lv_tableOut C.1 C.2.1 d (by rw [zI_toInt hx]; exact h) ht (kk C H locs ls hP hD hS hl)
theorem V_getf {ref C0 : String} {T : u_T} {N ci idx a : Nat} {fs : List Value} {v : Value} (q0 j : Nat) (hin : ∀ w ∈ u_ws C0 T N, w ∈ WA) (hj : j < N) (hlink : Cond.fieldLink S.2.1 idx ref (T j).2.1 (T j).2.2.1 ∈ WA) (hsame : ref = (T j).1 ∨ Cond.sameField ref (T j).1 (T j).2.1 (T j).2.2.1 ∈ WA) (hc : vwCl[ci]? = some (C0, T, N)) (he : ws[q0]? = some (a, .inr (ci, fs))) (hv : fs[j]? = some v) (d : decode S.1 pc = .ok (.getfield idx, 3)) (kk : V K S k n ws L (v :: st) (pc + 3)) : V K S k n ws L (.ref a :: st) (pc) := by
  obtain ⟨p, l, e, s, m, args, below, meth, c, D, cA, A, Q, E⟩ := K
  intro C H locs ls hP hD hS hl
  have hsm : ∀ x, s.fieldFound? (T j).1 (T j).2.1 (T j).2.2.1 = some x → s.fieldFound? ref (T j).2.1 (T j).2.2.1 = some x := by
    rcases hsame with rfl | hsame
    · exact fun _ h => h
    · exact fun x hx => u_same (C.2.2.2.2.1 _ hsame) x hx
  exact va_get (Ts := WA) C.1 C.2.1 C.2.2.2.2.1 hin C.2.2.2.1 C.2.2.2.2.2.1 hP q0 (tw_get he) hc j hj (C.2.2.2.2.1 _ hlink) hsm hv d (kk C H locs ls hP hD hS hl)
theorem V_putf {ref C0 : String} {T : u_T} {N ci idx a : Nat} {fs : List Value} {v : Value} (q0 j : Nat) (hin : ∀ w ∈ u_ws C0 T N, w ∈ WA) (hj : j < N) (hlink : Cond.fieldLink S.2.1 idx ref (T j).2.1 (T j).2.2.1 ∈ WA) (hsame : ref = (T j).1 ∨ Cond.sameField ref (T j).1 (T j).2.1 (T j).2.2.1 ∈ WA) (ty0 : Nat → FieldType) (hty : ∀ k, k < N → parseFieldDescriptor (T k).2.2.1 = some (ty0 k)) (hnm : ∀ a, a < N → ∀ b, b < N → a ≠ b → (T a).2.1 ≠ (T b).2.1) (hfin : (T j).2.2.2 = false) (hc : vwCl[ci]? = some (C0, T, N)) (he : ws[q0]? = some (a, .inr (ci, fs))) (hl0 : j < fs.length) (hn : narrow (ty0 j) v = v) (hfit : fits (ty0 j) v = true) (d : decode S.1 pc = .ok (.putfield idx, 3)) (kk : V K S k n (ws.set q0 (a, .inr (ci, fs.set j v))) L (st) (pc + 3)) : V K S k n ws L (v :: .ref a :: st) (pc) := by
  obtain ⟨p, l, e, s, m, args, below, meth, c, D, cA, A, Q, E⟩ := K
  intro C H locs ls hP hD hS hl
  have hsm : ∀ x, s.fieldFound? (T j).1 (T j).2.1 (T j).2.2.1 = some x → s.fieldFound? ref (T j).2.1 (T j).2.2.1 = some x := by
    rcases hsame with rfl | hsame
    · exact fun _ h => h
    · exact fun x hx => u_same (C.2.2.2.2.1 _ hsame) x hx
  refine va_put (Ts := WA) C.1 C.2.1 C.2.2.2.2.1 hin ty0 hty hnm C.2.2.2.1 C.2.2.2.2.2.1 hP hD hS q0 (tw_get he) hc j hj (C.2.2.2.2.1 _ hlink) hsm hfin (hty j hj) hn hfit hl0 d (fun H1 locs1 hP1 hD1 hS1 => kk C H1 locs1 ls ?_ ?_ hS1 hl)
  · rw [← tw_set]; exact hP1
  · rw [← tw_set]; exact hD1
theorem V_iald {a N : Nat} {f : Int → Int} {i : Int} (q0 : Nat) (ha : ws[q0]? = some (a, .inl (0, N, .inl (zA f)))) (hi : 0 ≤ i ∧ i < (N : Int)) (hN : N < 2147483648) (d : decode S.1 pc = .ok (.iaload, 1)) (kk : V K S k n ws L (.int (zI (f i)) :: st) (pc + 1)) : V K S k n ws L (.int (zI i) :: .ref a :: st) (pc) := by
  obtain ⟨p, l, e, s, m, args, below, meth, c, D, cA, A, Q, E⟩ := K
  intro C H locs ls hP hD hS hl
  rw [← zA_get f hi.1 (by omega)] at kk
  exact va_iald C.1 C.2.1 C.2.2.2.2.2.1 hP q0 0 (tw_get ha) rfl (zI_in hi.1 hi.2 (by omega)) d (kk C H locs ls hP hD hS hl)
theorem V_zald {a N : Nat} {f : Int → Int} {i : Int} (q0 : Nat) (ha : ws[q0]? = some (a, .inl (1, N, .inl (zA f)))) (hi : 0 ≤ i ∧ i < (N : Int)) (hN : N < 2147483648) (d : decode S.1 pc = .ok (.baload, 1)) (kk : V K S k n ws L (.int (zI (f i)) :: st) (pc + 1)) : V K S k n ws L (.int (zI i) :: .ref a :: st) (pc) := by
  obtain ⟨p, l, e, s, m, args, below, meth, c, D, cA, A, Q, E⟩ := K
  intro C H locs ls hP hD hS hl
  rw [← zA_get f hi.1 (by omega)] at kk
  exact va_zald C.1 C.2.1 C.2.2.2.2.2.1 hP q0 1 (tw_get ha) rfl (zI_in hi.1 hi.2 (by omega)) d (kk C H locs ls hP hD hS hl)
theorem V_iast {a N : Nat} {f : Int → Int} {i v : Int} (q0 : Nat) (ha : ws[q0]? = some (a, .inl (0, N, .inl (zA f)))) (hi : 0 ≤ i ∧ i < (N : Int)) (hN : N < 2147483648) (d : decode S.1 pc = .ok (.iastore, 1)) (kk : V K S k n (ws.set q0 (a, .inl (0, N, .inl (zA (fup f i v))))) L (st) (pc + 1)) : V K S k n ws L (.int (zI v) :: .int (zI i) :: .ref a :: st) (pc) := by
  obtain ⟨p, l, e, s, m, args, below, meth, c, D, cA, A, Q, E⟩ := K
  intro C H locs ls hP hD hS hl
  refine va_iast C.1 C.2.1 C.2.2.2.2.2.1 hP hD hS q0 0 (tw_get ha) rfl (zI_in hi.1 hi.2 (by omega)) d (fun H1 locs1 hP1 hD1 hS1 => kk C H1 locs1 ls ?_ ?_ hS1 hl)
  · rw [← tw_set, ← zA_upd f v hi.1 (by omega)]; exact hP1
  · rw [← tw_set, ← zA_upd f v hi.1 (by omega)]; exact hD1
theorem vp_bz {b : Int} (h : b = 0 ∨ b = 1) : vp_nar .boolean (zI b) = zI b := by rcases h with rfl | rfl <;> decide
theorem V_zast {a N : Nat} {f : Int → Int} {i v : Int} (q0 : Nat) (ha : ws[q0]? = some (a, .inl (1, N, .inl (zA f)))) (hi : 0 ≤ i ∧ i < (N : Int)) (hN : N < 2147483648) (hv : v = 0 ∨ v = 1) (d : decode S.1 pc = .ok (.bastore, 1)) (kk : V K S k n (ws.set q0 (a, .inl (1, N, .inl (zA (fup f i v))))) L (st) (pc + 1)) : V K S k n ws L (.int (zI v) :: .int (zI i) :: .ref a :: st) (pc) := by
  obtain ⟨p, l, e, s, m, args, below, meth, c, D, cA, A, Q, E⟩ := K
  intro C H locs ls hP hD hS hl
  refine va_zast C.1 C.2.1 C.2.2.2.2.2.1 hP hD hS q0 1 (tw_get ha) rfl (zI_in hi.1 hi.2 (by omega)) d (fun H1 locs1 hP1 hD1 hS1 => kk C H1 locs1 ls ?_ ?_ hS1 hl)
  · rw [← tw_set, ← zA_upd f v hi.1 (by omega), ← vp_bz hv]; exact hP1
  · rw [← tw_set, ← zA_upd f v hi.1 (by omega), ← vp_bz hv]; exact hD1
theorem V_alen {a : Nat} {x : Nat × vp_A} {t : FieldType} (q0 : Nat) (ha : ws[q0]? = some (a, .inl x)) (ht : ∀ cA, (tyL cA)[x.1]? = some (cA x.1, t)) (d : decode S.1 pc = .ok (.arraylength, 1)) (kk : V K S k n ws L (.int (zI (x.2.1 : Int)) :: st) (pc + 1)) : V K S k n ws L (.ref a :: st) (pc) := by
  obtain ⟨p, l, e, s, m, args, below, meth, c, D, cA, A, Q, E⟩ := K
  intro C H locs ls hP hD hS hl
  rw [zI_nat] at kk
  exact va_alen C.1 C.2.1 C.2.2.2.2.2.1 hP q0 x.1 (tw_get ha) (ht cA) rfl d (kk C H locs ls hP hD hS hl)
theorem V_perm {ws' : vWd} (is : List Nat) (hn : va_nd is = true) (h : is.map (fun (i : Nat) => ws[i]?) = ws'.map some) (kk : V K S k n ws' L (st) (pc)) : V K S k n ws L (st) (pc) := by
  obtain ⟨p, l, e, s, m, args, below, meth, c, D, cA, A, Q, E⟩ := K
  intro C H locs ls hP hD hS hl
  have h1 := tw_places (cA := cA) h
  refine kk C H locs ls (fun k q hk => ?_) (hD.sub is hn h1) hS hl
  have h2 : ((tw cA ws').map some)[k]? = some (some q) := by rw [List.getElem?_map, hk]; rfl
  rw [← h1, List.getElem?_map] at h2
  cases hi : is[k]? with
  | none => rw [hi] at h2; cases h2
  | some i => rw [hi] at h2; exact hP i q (Option.some.inj h2)
end VR
end
section
/-! contracts over V's worlds, and calls -/
theorem va_P.left {D : va_G} {cl : List vw_C} {w1 w2 : va_W} {H : Heap} (h : va_P D cl (w1 ++ w2) H) : va_P D cl w1 H := fun k q hk => h k q (by rw [List.getElem?_append_left (List.getElem?_eq_some_iff.mp hk).1]; exact hk)
theorem va_P.right {D : va_G} {cl : List vw_C} {w1 w2 : va_W} {H : Heap} (h : va_P D cl (w1 ++ w2) H) : va_P D cl w2 H := fun k q hk => h (w1.length + k) q (by rw [List.getElem?_append_right (by omega)]; simpa using hk)
theorem va_D.left {A : Nat → Prop} {w1 w2 : va_W} (h : va_D A (w1 ++ w2)) : va_D A w1 := by
  have g : ∀ (k : Nat) (q : Nat × va_E), w1[k]? = some q → (w1 ++ w2)[k]? = some q := fun k q hk => by rw [List.getElem?_append_left (List.getElem?_eq_some_iff.mp hk).1]; exact hk
  exact ⟨fun i j p q hi hj e => h.1 i j p q (g i p hi) (g j q hj) e, fun k q hk => h.2 k q (g k q hk)⟩
theorem va_D.right {A : Nat → Prop} {w1 w2 : va_W} (h : va_D A (w1 ++ w2)) : va_D A w2 := by
  have g : ∀ (k : Nat) (q : Nat × va_E), w2[k]? = some q → (w1 ++ w2)[w1.length + k]? = some q := fun k q hk => by rw [List.getElem?_append_right (by omega)]; simpa using hk
  exact ⟨fun i j p q hi hj e => by have := h.1 _ _ p q (g i p hi) (g j q hj) e; omega, fun k q hk => h.2 _ q (g k q hk)⟩
theorem va_D.apart {A : Nat → Prop} {w1 w2 : va_W} (h : va_D A (w1 ++ w2)) : ∀ (i j : Nat) (p q : Nat × va_E), w1[i]? = some p → w2[j]? = some q → p.1 ≠ q.1 := by
  intro i j p q hi hj e
  have h1 : (w1 ++ w2)[i]? = some p := by rw [List.getElem?_append_left (List.getElem?_eq_some_iff.mp hi).1]; exact hi
  have h2 : (w1 ++ w2)[w1.length + j]? = some q := by rw [List.getElem?_append_right (by omega)]; simpa using hj
  have h3 := h.1 _ _ p q h1 h2 e
  have h4 := (List.getElem?_eq_some_iff.mp hi).1
  omega
theorem va_P.keepO {D : va_G} {wc wr : va_W} {H H1 : Heap} (h : va_P D vwCl wr H) (hap : ∀ (i j : Nat) (p q : Nat × va_E), wr[i]? = some p → wc[j]? = some q → p.1 = q.1 → False) (hk : ∀ q : Nat, q < H.size → ¬ va_A wc H.size q → H1[q]? = H[q]?) : va_P D vwCl wr H1 := fun k q hq => (h k q hq).kept (hk q.1 (h k q hq).lt (by
  rintro (⟨j, e, z⟩ | z)
  · exact hap k j _ _ hq z rfl
  · have := (h k q hq).lt; omega))
theorem joinA {D : va_G} {wc w wr : va_W} {H : Heap} (h1 : va_D (va_A wc H.size) w) (hr : va_P D vwCl wr H) (hap : ∀ (i j : Nat) (p q : Nat × va_E), wr[i]? = some p → wc[j]? = some q → p.1 = q.1 → False) : ∀ (i j : Nat) (p q : Nat × va_E), w[i]? = some p → wr[j]? = some q → p.1 ≠ q.1 := by
  intro i j p q hi hj e
  rcases h1.2 i p hi with ⟨x, y, z⟩ | z
  · exact hap j x _ _ hj z e.symm
  · have := (hr j q hj).lt; omega
theorem place_of {ws wc : va_W} {is : List Nat} (h : is.map (fun (i : Nat) => ws[i]?) = wc.map some) {k : Nat} {q : Nat × va_E} (hk : wc[k]? = some q) : ∃ i : Nat, ws[i]? = some q := by
  have h2 : (wc.map some)[k]? = some (some q) := by rw [List.getElem?_map, hk]; rfl
  rw [← h, List.getElem?_map] at h2
  cases hi : is[k]? with
  | none => rw [hi] at h2; cases h2
  | some i => rw [hi] at h2; exact ⟨i, Option.some.inj h2⟩
theorem va_P.places {D : va_G} {cl : List vw_C} {ws wc : va_W} {is : List Nat} {H : Heap} (hP : va_P D cl ws H) (h : is.map (fun (i : Nat) => ws[i]?) = wc.map some) : va_P D cl wc H := fun k q hk => by
  obtain ⟨i, hi⟩ := place_of h hk
  exact hP i q hi

def QV (D : va_G) (cA : Nat → ClassId) (Post : Option Value → vWd → Prop) (A : Nat → Prop) : Array Value → State → Outcome → State → Prop := fun _ st oc t => (∃ (v : Option Value) (w : vWd), oc = .returned v ∧ Post v w ∧ va_P D vwCl (tw cA w) t.heap ∧ va_K D vwCl (tyL cA) t ∧ va_D A (tw cA w)) ∧ va_F A st t
def PV (E : EV) (D : va_G) (cA : Nat → ClassId) (as : List Value) (ws : vWd) (sz : Nat) : Array Value → State → Prop := va_Pc as (fun U => U.heap.size = sz ∧ va_P D vwCl (tw cA ws) U.heap ∧ va_K D vwCl (tyL cA) U ∧ va_D (fun _ => True) (tw cA ws) ∧ E (va_A (tw cA ws) sz) U U.heap)
theorem PV.blind {E : EV} (hE : Stb E) {D : va_G} {cA : Nat → ClassId} {as : List Value} {ws : vWd} {sz : Nat} : FrameBlind (PV E D cA as ws sz) := by
  intro a U g mk h
  obtain ⟨h1, h2, h3, h4, h5, h6⟩ := h
  exact ⟨h1, h2, h3, va_K.moved (u := U) (U := U.calling g mk a) (Vm.Alike.refl U.vm) h4, h5, hE.2.1 _ U (U.calling g mk a) _ (Vm.Alike.refl U.vm) h6⟩
/-- the contract of a method that returns -/
def MC (E : EV) (y : MethodName) (S : SI) (as : List Value) (ws : vWd) (Post : Option Value → vWd → Prop) : Prop := ∀ (l : Launch), l.stackTraces = false → ∀ (D : va_G) (cA : Nat → ClassId) (sz : Nat), Met l y (.code y S.1 S.2.2.1 S.2.2.2.1 :: WA) S.2.2.2.2 (PV E D cA as ws sz) (QV D cA Post (va_A (tw cA ws) sz)) S.2.2.2.2.cells S.2.2.2.2.slots (va_A (tw cA ws) sz)
/-- a body may end by a return -/
def RetOK (K : KT) (mc ms : Nat) (Post : Option Value → vWd → Prop) : Prop := match K with
  | (p, l, e, s, m, args, below, meth, c, D, cA, A, Q, _) => ∀ (R : Room) (H : Heap) (locs : List Loc) (g : JFrame), W p l e R s m args below meth c H locs mc ms (MQ below (QV D cA Post A) args s mc ms A) g → W p l e R s m args below meth c H locs mc ms Q g
def evK (K : KT) : EV := K.2.2.2.2.2.2.2.2.2.2.2.2.2
theorem lv_args_cat : ∀ (vs : List Value) (j : Nat), (∀ v ∈ vs, v.category = 1) → ∀ (i : Nat) (v : Value), vs[i]? = some v → (j + i, v) ∈ lv_args j vs
  | [], _, _, i, v, h => by simp at h
  | a :: vs, j, hc, i, v, h => by
    have ha : ¬ a.category = 2 := by have := hc a List.mem_cons_self; omega
    simp only [lv_args, if_neg ha]
    cases i with
    | zero => simp at h; subst h; exact List.mem_cons_self
    | succ i =>
      have h2 := lv_args_cat vs (j + 1) (fun w hw => hc w (List.mem_cons_of_mem _ hw)) i v (by simpa using h)
      rw [show j + (i + 1) = j + 1 + i by omega]
      exact List.mem_cons_of_mem _ h2
theorem lg_sl_cat : ∀ (vs : List Value), (∀ v ∈ vs, v.category = 1) → (lg_sl vs).length = vs.length
  | [], _ => rfl
  | a :: vs, hc => by
    have ha : ¬ a.category = 2 := by have := hc a List.mem_cons_self; omega
    have := lg_sl_cat vs (fun w hw => hc w (List.mem_cons_of_mem _ hw))
    unfold lg_sl at this ⊢
    simp [ha, this]
theorem lvO.entry {vs : List Value} {n r : Nat} (hc : ∀ v ∈ vs, v.category = 1) (hn : vs.length ≤ n) : lvO ((lg_sl vs ++ List.replicate (n - (lg_sl vs).length) Slot.unset).toArray) n (vs.map some ++ List.replicate r none) := by
  have h := lv_entry vs (n := n) (by rw [lg_sl_cat vs hc]; exact hn)
  refine ⟨h.1, h.2.1, fun i v hi => ?_⟩
  have hv : vs[i]? = some v := by
    by_cases hl : i < vs.length
    · rw [List.getElem?_append_left (by simpa using hl)] at hi
      simpa using hi
    · rw [List.getElem?_append_right (by simpa using hl)] at hi
      have := List.mem_of_getElem? hi
      rw [List.mem_replicate] at this
      exact absurd this.2 (by simp)
  have h1 := lv_args_cat vs 0 hc i v hv
  rw [Nat.zero_add] at h1
  exact ⟨h.2.2 _ h1, hc v (List.mem_of_getElem? hv)⟩
theorem MC.of {E : EV} (hE : Stb E) {y : MethodName} {S : SI} {as : List Value} {ws : vWd} {Post : Option Value → vWd → Prop} (L0 : List (Option Value)) (r : Nat) (hL0 : as.map some ++ List.replicate r none = L0) (hy : plainName y.cls = true) (hS : y.cls = S.2.1) (hc : ∀ v ∈ as, v.category = 1) (hm : as.length ≤ S.2.2.1)
    (body : ∀ K : KT, evK K = E → RetOK K S.2.2.2.2.cells S.2.2.2.2.slots Post → V K S 0 0 ws L0 [] 0) : MC E y S as ws Post := by
  subst hL0
  intro l hst D cA sz
  refine Met.ofW (cc := S.1) (maxL := S.2.2.1) (ret := S.2.2.2.1) hy rfl ?_
  intro p e s m args below meth c s₁ B hml hv
  obtain ⟨rfl, hsz, hP, hK, hD0, hEv⟩ := hv
  have hts := atoms_spec (ws := .code y S.1 S.2.2.1 S.2.2.2.1 :: WA) B.pre
  have hown : s.vm.findClass y.cls = some m.cls := findClass_of_methodNamed B.named
  subst hsz
  rw [lg_entry_eq]
  exact body (p, l, e, s, m, as.toArray, below, meth, c, D, cA, va_A (tw cA ws) s.heap.size, MQ below (QV D cA Post (va_A (tw cA ws) s.heap.size)) as.toArray s S.2.2.2.2.cells S.2.2.2.2.slots (va_A (tw cA ws) s.heap.size), E) rfl (fun _ _ _ _ h => h)
    ⟨B.exec, B.bytes, hml, hS ▸ hown, fun w hw => hts w (List.mem_cons_of_mem _ hw), hK, fun q h => Or.inr h, B.notSynchronized, B.returns, hst, hE, hEv⟩ s.heap [] _ hP hD0.self va_S.rf (lvO.entry hc hm)
section VCALL
variable {K : KT} {S : SI} {k n : Nat} {ws : vWd} {L : List (Option Value)} {st : List Value} {pc : Nat} {Post : Option Value → vWd → Prop}
theorem V_iret {mc ms : Nat} {x : Int32} (hR : RetOK K mc ms Post) (hs : S.2.2.2.1 = some .int) (hk : k ≤ mc) (hn : n ≤ ms) (d : decode S.1 pc = .ok (.ireturn, 1)) (hp : Post (some (.int x)) ws) : V K S k n ws L [.int x] pc := by
  obtain ⟨p, l, e, s, m, args, below, meth, c, D, cA, A, Q, E⟩ := K
  intro C H locs ls hP hD hS hl
  refine W.widen hk hn (hR _ H locs _ ?_)
  exact W.iret C.1 C.2.1 (C.2.2.2.2.2.2.2.2.1.trans hs) (fun t ht hW => ⟨⟨_, ws, rfl, hp, by rw [ht]; exact hP, va_K.moved hW.alike C.2.2.2.2.2.1, hD⟩, hS.F ht⟩) hS.2.2 d C.2.2.2.2.2.2.2.1
theorem V_zret {mc ms : Nat} {b : Bool} (hR : RetOK K mc ms Post) (hs : S.2.2.2.1 = some .boolean) (hk : k ≤ mc) (hn : n ≤ ms) (d : decode S.1 pc = .ok (.ireturn, 1)) (hp : Post (some (.int (zI (bz b)))) ws) : V K S k n ws L [.int (zI (bz b))] pc := by
  obtain ⟨p, l, e, s, m, args, below, meth, c, D, cA, A, Q, E⟩ := K
  intro C H locs ls hP hD hS hl
  refine W.widen hk hn (hR _ H locs _ ?_)
  exact W.zret C.1 C.2.1 (C.2.2.2.2.2.2.2.2.1.trans hs) (by cases b <;> decide) (fun t ht hW => ⟨⟨_, ws, rfl, hp, by rw [ht]; exact hP, va_K.moved hW.alike C.2.2.2.2.2.1, hD⟩, hS.F ht⟩) hS.2.2 d C.2.2.2.2.2.2.2.1
theorem V_vret {mc ms : Nat}  (hR : RetOK K mc ms Post) (hs : S.2.2.2.1 = none) (hk : k ≤ mc) (hn : n ≤ ms) (d : decode S.1 pc = .ok (.return_, 1)) (hp : Post none ws) : V K S k n ws L [] pc := by
  obtain ⟨p, l, e, s, m, args, below, meth, c, D, cA, A, Q, E⟩ := K
  intro C H locs ls hP hD hS hl
  refine W.widen hk hn (hR _ H locs _ ?_)
  exact W.vret C.1 C.2.1 (C.2.2.2.2.2.2.2.2.1.trans hs) (fun t ht hW => ⟨⟨_, ws, rfl, hp, by rw [ht]; exact hP, va_K.moved hW.alike C.2.2.2.2.2.1, hD⟩, hS.F ht⟩) hS.2.2 d C.2.2.2.2.2.2.2.1
/-- what the tables say of a callee; and of a place that calls it -/
def MOK (y : MethodName) (S : SI) (n : Nat) : Prop := Cond.code y S.1 S.2.2.1 S.2.2.2.1 ∈ WA ∧ Cond.initialized y.cls ∈ WA ∧ (y.cls ≠ "java/lang/invoke/MethodHandle" ∧ y.cls ≠ "java/lang/invoke/VarHandle" ∧ (parseMethodDescriptor y.desc).map (fun d => d.parameters.length) = some n)
def ROK (S S' : SI) : Prop := S'.2.2.2.2.frames + 1 ≤ S.2.2.2.2.frames ∧ 8 + (S'.2.2.1 + 11) + S'.2.2.2.2.locals ≤ S.2.2.2.2.locals
theorem vq_call {p : Program} {l : Launch} {e : Env} {R : Room} {s : State} {m : MethodId} {args : Array Value} {below : List Frame} {meth : Method} {c : Code} {H : Heap} {locs : List Loc} {cells slots : Nat} {Q : State → Prop} {pc : Nat} {ls : Array Slot} {rest st0 : List Value} {a : Array Value} {A0 A1 : Nat → Prop} {H0 : Heap} {mc ms : Nat} {free : Addr → Prop} {D : va_G} {cA : Nat → ClassId} {Post : Option Value → vWd → Prop}
    (hr : va_Run p l e R s m args below meth c H locs cells slots mc ms (F0 m pc ls st0) rest (QV D cA Post A1 a) free) (hS : va_S A0 H0 H locs) (hA : ∀ q, q < H.size → A1 q → A0 q) (hf : ∀ q, free q → A0 q)
    (kk : ∀ (v : Option Value) (w : vWd) (H1 : Heap) (locs1 : List Loc), Post v w → va_P D vwCl (tw cA w) H1 → va_D A1 (tw cA w) → H.size ≤ H1.size → (∀ q : Nat, q < H.size → ¬ A1 q → H1[q]? = H[q]?) → va_S A0 H0 H1 locs1 → W p l e R s m args below meth c H1 locs1 (cells + mc) (slots + ms) Q (F0 m (pc + 3) ls (v.toList ++ rest))) : W p l e R s m args below meth c H locs cells slots Q (F0 m pc ls st0) := by
  intro T hT X
  obtain ⟨v0, st₀, t, T', Lo, h0, X', hL, e1, e2, ⟨⟨v, w, hv, hp, hPw, -, hDw⟩, hz, hk⟩, st⟩ := hr T hT X
  cases hv
  rw [h0] at hz hk
  obtain ⟨t2, a1, b1⟩ := kk v0 w T'.heap (locs ++ Lo) hp (by rw [e1]; exact hPw) hDw (by rw [e1]; exact hz) (fun q h1 h2 => by rw [e1]; exact hk q h1 h2)
    ⟨Nat.le_trans hS.1 (by rw [e1]; exact hz), fun q h1 h2 => by rw [e1, hk q (Nat.lt_of_lt_of_le h1 hS.1) (fun z => h2 (hA q (Nat.lt_of_lt_of_le h1 hS.1) z))]; exact hS.2.1 q h1 h2, fun q hq => by
      rcases List.mem_append.mp hq with h | h
      · exact hS.2.2 q h
      · exact hf _ (hL q h)⟩ T' rfl X'
  exact ⟨t2, st t2 a1, b1⟩
theorem va_A_sub {A0 : Nat → Prop} {ws : va_W} {H0 H : Heap} {locs : List Loc} (hD : va_D A0 ws) (hS : va_S A0 H0 H locs) (hA : ∀ q, H0.size ≤ q → A0 q) : ∀ q, va_A ws H.size q → A0 q := by
  rintro q (⟨k, e, h⟩ | h)
  · exact hD.2 k (q, e) h
  · exact hA q (Nat.le_trans hS.1 h)
theorem va_P.keep {D : va_G} {ws : va_W} {H H1 : Heap} (h : va_P D vwCl ws H) (hk : ∀ q : Nat, q < H.size → ¬ va_A [] H.size q → H1[q]? = H[q]?) : va_P D vwCl ws H1 := fun k q hq => (h k q hq).kept (hk q.1 (h k q hq).lt (by
  rintro (⟨j, e, z⟩ | z)
  · simp at z
  · have := (h k q hq).lt; omega))
theorem V_callVF {E : EV} {y : MethodName} {S' : SI} {As stk : List Value} {b : Nat} {idx : Nat} {q0 ci : Nat} {fs : List Value} {T : u_T} {N : Nat} (hb : ws[q0]? = some (b, .inr (ci, fs))) (hc : vwCl[ci]? = some (y.cls, T, N)) (hE : evK K = E) (hM : MC E y S' (.ref b :: As) ws Post) (hM0 : MOK y S' As.length) (hlk : Cond.methodLink S.2.1 idx y ∈ WA) (hin : Cond.instanceMethod y ∈ WA) (hsel : Cond.selects y.cls y y ∈ WA) (hR : ROK S S') (hstk : stk = As.reverse ++ .ref b :: st) (hcat : (st.map fun v => v.category).sum ≤ 8) (hroom : k + S'.2.2.2.2.cells ≤ S.2.2.2.2.cells ∧ n + S'.2.2.2.2.slots ≤ S.2.2.2.2.slots) (d : decode S.1 pc = .ok (.invokevirtual idx, 3))
    (kk : ∀ (v : Option Value) (w : vWd), Post v w → V K S (k + S'.2.2.2.2.cells) (n + S'.2.2.2.2.slots) w L (v.toList ++ st) (pc + 3)) : V K S k n ws L stk pc := by
  obtain ⟨p, l, e, s, m, args, below, meth, c, D, cA, A, Q, E0⟩ := K
  have hE' : E0 = E := hE
  subst hE'
  subst hstk
  intro C H locs ls hP hD hS hl
  have hPc := hP
  have hDc := hD
  have hF := va_A_sub hD hS C.2.2.2.2.2.2.1
  have hr : va_Run p l e S.2.2.2.2 s m args below meth c H locs k n S'.2.2.2.2.cells S'.2.2.2.2.slots (F0 m pc ls (As.reverse ++ .ref b :: st)) st (QV D cA Post (va_A (tw cA ws) H.size) (.ref b :: As).toArray) (va_A (tw cA ws) H.size) := by
    refine va_runV (As := As) (rest := st) (n := As.length) (Ts := WA) ⟨C.1, C.2.1, C.2.2.1, C.2.2.2.1, C.2.2.2.2.1⟩ (hM l C.2.2.2.2.2.2.2.2.2.1 D cA H.size) ⟨(callB_of As.length C.2.2.2.2.1 (wa_goodIn0 hM0.1) rfl rfl rfl (C.2.2.2.2.1 _ hM0.2.1) (C.2.2.2.2.1 _ hlk) hM0.2.2 hR), C.2.2.2.2.1 _ hin, C.2.2.2.2.1 _ hsel⟩ ⟨PV.blind C.2.2.2.2.2.2.2.2.2.2.1, va_recv C.2.2.2.2.2.1 hP hc (tw_get hb), fun U hU hW => ?_⟩ rfl rfl hl.1 rfl (lv_room hcat) d hroom
    exact ⟨rfl, by rw [hU], by rw [hU]; exact hPc, va_K.moved hW.alike C.2.2.2.2.2.1, hDc.weaken (fun _ _ _ _ => trivial), by
      rw [hU]
      exact C.2.2.2.2.2.2.2.2.2.2.1.1 _ _ _ _ hF (C.2.2.2.2.2.2.2.2.2.2.1.2.1 _ s U _ hW.alike (C.2.2.2.2.2.2.2.2.2.2.1.2.2 _ _ _ _ hS.2.1 C.2.2.2.2.2.2.2.2.2.2.2))⟩
  refine vq_call hr hS (fun q _ h => hF q h) hF (fun v w H1 locs1 hp hP1 hD1 hz1 hk1 hS1 => kk v w hp C H1 locs1 ls ?_ ?_ hS1 hl)
  · exact hP1
  · exact hD1.weaken (fun j q _ h => hF q.1 h)
theorem V_callVE {E : EV} {y : MethodName} {S' : SI} {As stk : List Value} {b : Nat} {idx : Nat} {q0 ci : Nat} {fs : List Value} {T : u_T} {N : Nat} (hb : ws[q0]? = some (b, .inr (ci, fs))) (hc : vwCl[ci]? = some (y.cls, T, N)) (hE : evK K = E) (hM : MC E y S' (.ref b :: As) [] Post) (hM0 : MOK y S' As.length) (hlk : Cond.methodLink S.2.1 idx y ∈ WA) (hin : Cond.instanceMethod y ∈ WA) (hsel : Cond.selects y.cls y y ∈ WA) (hR : ROK S S') (hstk : stk = As.reverse ++ .ref b :: st) (hcat : (st.map fun v => v.category).sum ≤ 8) (hroom : k + S'.2.2.2.2.cells ≤ S.2.2.2.2.cells ∧ n + S'.2.2.2.2.slots ≤ S.2.2.2.2.slots) (d : decode S.1 pc = .ok (.invokevirtual idx, 3))
    (kk : ∀ (v : Option Value) (w : vWd), Post v w → V K S (k + S'.2.2.2.2.cells) (n + S'.2.2.2.2.slots) ws L (v.toList ++ st) (pc + 3)) : V K S k n ws L stk pc := by
  obtain ⟨p, l, e, s, m, args, below, meth, c, D, cA, A, Q, E0⟩ := K
  have hE' : E0 = E := hE
  subst hE'
  subst hstk
  intro C H locs ls hP hD hS hl
  have hPc : va_P D vwCl (tw cA []) H := fun k q h => by simp [tw] at h
  have hDc : va_D A (tw cA []) := ⟨fun i j p q h => by simp [tw] at h, fun k q h => by simp [tw] at h⟩
  have hF := va_A_sub hDc hS C.2.2.2.2.2.2.1
  have hr : va_Run p l e S.2.2.2.2 s m args below meth c H locs k n S'.2.2.2.2.cells S'.2.2.2.2.slots (F0 m pc ls (As.reverse ++ .ref b :: st)) st (QV D cA Post (va_A (tw cA []) H.size) (.ref b :: As).toArray) (va_A (tw cA []) H.size) := by
    refine va_runV (As := As) (rest := st) (n := As.length) (Ts := WA) ⟨C.1, C.2.1, C.2.2.1, C.2.2.2.1, C.2.2.2.2.1⟩ (hM l C.2.2.2.2.2.2.2.2.2.1 D cA H.size) ⟨(callB_of As.length C.2.2.2.2.1 (wa_goodIn0 hM0.1) rfl rfl rfl (C.2.2.2.2.1 _ hM0.2.1) (C.2.2.2.2.1 _ hlk) hM0.2.2 hR), C.2.2.2.2.1 _ hin, C.2.2.2.2.1 _ hsel⟩ ⟨PV.blind C.2.2.2.2.2.2.2.2.2.2.1, va_recv C.2.2.2.2.2.1 hP hc (tw_get hb), fun U hU hW => ?_⟩ rfl rfl hl.1 rfl (lv_room hcat) d hroom
    exact ⟨rfl, by rw [hU], by rw [hU]; exact hPc, va_K.moved hW.alike C.2.2.2.2.2.1, hDc.weaken (fun _ _ _ _ => trivial), by
      rw [hU]
      exact C.2.2.2.2.2.2.2.2.2.2.1.1 _ _ _ _ hF (C.2.2.2.2.2.2.2.2.2.2.1.2.1 _ s U _ hW.alike (C.2.2.2.2.2.2.2.2.2.2.1.2.2 _ _ _ _ hS.2.1 C.2.2.2.2.2.2.2.2.2.2.2))⟩
  refine vq_call hr hS (fun q _ h => hF q h) hF (fun v w H1 locs1 hp hP1 hD1 hz1 hk1 hS1 => kk v w hp C H1 locs1 ls ?_ ?_ hS1 hl)
  · exact hP.keep hk1
  · exact hD
theorem V_callVA {E : EV} {y : MethodName} {S' : SI} {As stk : List Value} {b : Nat} {idx : Nat} {q0 ci : Nat} {fs : List Value} {T : u_T} {N : Nat} (hb : ws[q0]? = some (b, .inr (ci, fs))) (hc : vwCl[ci]? = some (y.cls, T, N)) {wc wr : vWd} (hw : ws = wc ++ wr) (hE : evK K = E) (hM : MC E y S' (.ref b :: As) wc Post) (hM0 : MOK y S' As.length) (hlk : Cond.methodLink S.2.1 idx y ∈ WA) (hin : Cond.instanceMethod y ∈ WA) (hsel : Cond.selects y.cls y y ∈ WA) (hR : ROK S S') (hstk : stk = As.reverse ++ .ref b :: st) (hcat : (st.map fun v => v.category).sum ≤ 8) (hroom : k + S'.2.2.2.2.cells ≤ S.2.2.2.2.cells ∧ n + S'.2.2.2.2.slots ≤ S.2.2.2.2.slots) (d : decode S.1 pc = .ok (.invokevirtual idx, 3))
    (kk : ∀ (v : Option Value) (w : vWd), Post v w → V K S (k + S'.2.2.2.2.cells) (n + S'.2.2.2.2.slots) (w ++ wr) L (v.toList ++ st) (pc + 3)) : V K S k n ws L stk pc := by
  obtain ⟨p, l, e, s, m, args, below, meth, c, D, cA, A, Q, E0⟩ := K
  have hE' : E0 = E := hE
  subst hE'
  subst hstk
  intro C H locs ls hP hD hS hl
  subst hw
  rw [tw_app] at hP hD
  have hPc : va_P D vwCl (tw cA wc) H := hP.left
  have hPr : va_P D vwCl (tw cA wr) H := hP.right
  have hDc : va_D A (tw cA wc) := hD.left
  have hDr : va_D A (tw cA wr) := hD.right
  have hap := hD.apart
  have hF := va_A_sub hDc hS C.2.2.2.2.2.2.1
  have hr : va_Run p l e S.2.2.2.2 s m args below meth c H locs k n S'.2.2.2.2.cells S'.2.2.2.2.slots (F0 m pc ls (As.reverse ++ .ref b :: st)) st (QV D cA Post (va_A (tw cA wc) H.size) (.ref b :: As).toArray) (va_A (tw cA wc) H.size) := by
    refine va_runV (As := As) (rest := st) (n := As.length) (Ts := WA) ⟨C.1, C.2.1, C.2.2.1, C.2.2.2.1, C.2.2.2.2.1⟩ (hM l C.2.2.2.2.2.2.2.2.2.1 D cA H.size) ⟨(callB_of As.length C.2.2.2.2.1 (wa_goodIn0 hM0.1) rfl rfl rfl (C.2.2.2.2.1 _ hM0.2.1) (C.2.2.2.2.1 _ hlk) hM0.2.2 hR), C.2.2.2.2.1 _ hin, C.2.2.2.2.1 _ hsel⟩ ⟨PV.blind C.2.2.2.2.2.2.2.2.2.2.1, va_recv (ws := tw cA _) C.2.2.2.2.2.1 (by rw [tw_app]; exact hP) hc (tw_get hb), fun U hU hW => ?_⟩ rfl rfl hl.1 rfl (lv_room hcat) d hroom
    exact ⟨rfl, by rw [hU], by rw [hU]; exact hPc, va_K.moved hW.alike C.2.2.2.2.2.1, hDc.weaken (fun _ _ _ _ => trivial), by
      rw [hU]
      exact C.2.2.2.2.2.2.2.2.2.2.1.1 _ _ _ _ hF (C.2.2.2.2.2.2.2.2.2.2.1.2.1 _ s U _ hW.alike (C.2.2.2.2.2.2.2.2.2.2.1.2.2 _ _ _ _ hS.2.1 C.2.2.2.2.2.2.2.2.2.2.2))⟩
  refine vq_call hr hS (fun q _ h => hF q h) hF (fun v w H1 locs1 hp hP1 hD1 hz1 hk1 hS1 => kk v w hp C H1 locs1 ls ?_ ?_ hS1 hl)
  · rw [tw_app]; exact va_P.app hP1 (hPr.keepO (fun _ _ _ _ h1 h2 h3 => hap _ _ _ _ h2 h1 h3.symm) hk1)
  · rw [tw_app]; exact va_D.app (hD1.weaken (fun j q _ h => hF q.1 h)) hDr (joinA hD1 hPr (fun _ _ _ _ h1 h2 h3 => hap _ _ _ _ h2 h1 h3.symm))
theorem V_callVB {E : EV} {y : MethodName} {S' : SI} {As stk : List Value} {b : Nat} {idx : Nat} {q0 ci : Nat} {fs : List Value} {T : u_T} {N : Nat} (hb : ws[q0]? = some (b, .inr (ci, fs))) (hc : vwCl[ci]? = some (y.cls, T, N)) {wc wr : vWd} (hw : ws = wr ++ wc) (hE : evK K = E) (hM : MC E y S' (.ref b :: As) wc Post) (hM0 : MOK y S' As.length) (hlk : Cond.methodLink S.2.1 idx y ∈ WA) (hin : Cond.instanceMethod y ∈ WA) (hsel : Cond.selects y.cls y y ∈ WA) (hR : ROK S S') (hstk : stk = As.reverse ++ .ref b :: st) (hcat : (st.map fun v => v.category).sum ≤ 8) (hroom : k + S'.2.2.2.2.cells ≤ S.2.2.2.2.cells ∧ n + S'.2.2.2.2.slots ≤ S.2.2.2.2.slots) (d : decode S.1 pc = .ok (.invokevirtual idx, 3))
    (kk : ∀ (v : Option Value) (w : vWd), Post v w → V K S (k + S'.2.2.2.2.cells) (n + S'.2.2.2.2.slots) (wr ++ w) L (v.toList ++ st) (pc + 3)) : V K S k n ws L stk pc := by
  obtain ⟨p, l, e, s, m, args, below, meth, c, D, cA, A, Q, E0⟩ := K
  have hE' : E0 = E := hE
  subst hE'
  subst hstk
  intro C H locs ls hP hD hS hl
  subst hw
  rw [tw_app] at hP hD
  have hPc : va_P D vwCl (tw cA wc) H := hP.right
  have hPr : va_P D vwCl (tw cA wr) H := hP.left
  have hDc : va_D A (tw cA wc) := hD.right
  have hDr : va_D A (tw cA wr) := hD.left
  have hap := hD.apart
  have hF := va_A_sub hDc hS C.2.2.2.2.2.2.1
  have hr : va_Run p l e S.2.2.2.2 s m args below meth c H locs k n S'.2.2.2.2.cells S'.2.2.2.2.slots (F0 m pc ls (As.reverse ++ .ref b :: st)) st (QV D cA Post (va_A (tw cA wc) H.size) (.ref b :: As).toArray) (va_A (tw cA wc) H.size) := by
    refine va_runV (As := As) (rest := st) (n := As.length) (Ts := WA) ⟨C.1, C.2.1, C.2.2.1, C.2.2.2.1, C.2.2.2.2.1⟩ (hM l C.2.2.2.2.2.2.2.2.2.1 D cA H.size) ⟨(callB_of As.length C.2.2.2.2.1 (wa_goodIn0 hM0.1) rfl rfl rfl (C.2.2.2.2.1 _ hM0.2.1) (C.2.2.2.2.1 _ hlk) hM0.2.2 hR), C.2.2.2.2.1 _ hin, C.2.2.2.2.1 _ hsel⟩ ⟨PV.blind C.2.2.2.2.2.2.2.2.2.2.1, va_recv (ws := tw cA _) C.2.2.2.2.2.1 (by rw [tw_app]; exact hP) hc (tw_get hb), fun U hU hW => ?_⟩ rfl rfl hl.1 rfl (lv_room hcat) d hroom
    exact ⟨rfl, by rw [hU], by rw [hU]; exact hPc, va_K.moved hW.alike C.2.2.2.2.2.1, hDc.weaken (fun _ _ _ _ => trivial), by
      rw [hU]
      exact C.2.2.2.2.2.2.2.2.2.2.1.1 _ _ _ _ hF (C.2.2.2.2.2.2.2.2.2.2.1.2.1 _ s U _ hW.alike (C.2.2.2.2.2.2.2.2.2.2.1.2.2 _ _ _ _ hS.2.1 C.2.2.2.2.2.2.2.2.2.2.2))⟩
  refine vq_call hr hS (fun q _ h => hF q h) hF (fun v w H1 locs1 hp hP1 hD1 hz1 hk1 hS1 => kk v w hp C H1 locs1 ls ?_ ?_ hS1 hl)
  · rw [tw_app]; exact va_P.app (hPr.keepO (fun _ _ _ _ h1 h2 h3 => hap _ _ _ _ h1 h2 h3) hk1) hP1
  · rw [tw_app]; exact va_D.app hDr (hD1.weaken (fun j q _ h => hF q.1 h)) (fun i j x y hx hy hxy => joinA hD1 hPr (fun _ _ _ _ h1 h2 h3 => hap _ _ _ _ h1 h2 h3) j i y x hy hx hxy.symm)
theorem V_callVP {E : EV} {y : MethodName} {S' : SI} {As stk : List Value} {b : Nat} {idx : Nat} {q0 ci : Nat} {fs : List Value} {T : u_T} {N : Nat} (hb : ws[q0]? = some (b, .inr (ci, fs))) (hc : vwCl[ci]? = some (y.cls, T, N)) {wc wr : vWd} (isC isR : List Nat) (hC : isC.map (fun (i : Nat) => ws[i]?) = wc.map some) (hRr : isR.map (fun (i : Nat) => ws[i]?) = wr.map some) (hnn : va_nd isR = true) (hdis : ∀ i ∈ isR, i ∉ isC) (hnc : va_nd isC = true) (hE : evK K = E) (hM : MC E y S' (.ref b :: As) wc Post) (hM0 : MOK y S' As.length) (hlk : Cond.methodLink S.2.1 idx y ∈ WA) (hin : Cond.instanceMethod y ∈ WA) (hsel : Cond.selects y.cls y y ∈ WA) (hR : ROK S S') (hstk : stk = As.reverse ++ .ref b :: st) (hcat : (st.map fun v => v.category).sum ≤ 8) (hroom : k + S'.2.2.2.2.cells ≤ S.2.2.2.2.cells ∧ n + S'.2.2.2.2.slots ≤ S.2.2.2.2.slots) (d : decode S.1 pc = .ok (.invokevirtual idx, 3))
    (kk : ∀ (v : Option Value) (w : vWd), Post v w → V K S (k + S'.2.2.2.2.cells) (n + S'.2.2.2.2.slots) (wr ++ w) L (v.toList ++ st) (pc + 3)) : V K S k n ws L stk pc := by
  obtain ⟨p, l, e, s, m, args, below, meth, c, D, cA, A, Q, E0⟩ := K
  have hE' : E0 = E := hE
  subst hE'
  subst hstk
  intro C H locs ls hP hD hS hl
  have hC' := tw_places (cA := cA) hC
  have hR' := tw_places (cA := cA) hRr
  have hPc : va_P D vwCl (tw cA wc) H := hP.places hC'
  have hDc0 : ∀ (j : Nat) (q : Nat × va_E), (tw cA wc)[j]? = some q → A q.1 := fun j q h => by
    obtain ⟨i, hi⟩ := place_of hC' h
    exact hD.2 i q hi
  have hF := va_free hD hS C.2.2.2.2.2.2.1 isC hC'
  have hDP : va_D (fun _ => True) (tw cA wc) := (hD.sub isC hnc hC').weaken (fun _ _ _ _ => trivial)
  have hr : va_Run p l e S.2.2.2.2 s m args below meth c H locs k n S'.2.2.2.2.cells S'.2.2.2.2.slots (F0 m pc ls (As.reverse ++ .ref b :: st)) st (QV D cA Post (va_A (tw cA wc) H.size) (.ref b :: As).toArray) (va_A (tw cA wc) H.size) := by
    refine va_runV (As := As) (rest := st) (n := As.length) (Ts := WA) ⟨C.1, C.2.1, C.2.2.1, C.2.2.2.1, C.2.2.2.2.1⟩ (hM l C.2.2.2.2.2.2.2.2.2.1 D cA H.size) ⟨(callB_of As.length C.2.2.2.2.1 (wa_goodIn0 hM0.1) rfl rfl rfl (C.2.2.2.2.1 _ hM0.2.1) (C.2.2.2.2.1 _ hlk) hM0.2.2 hR), C.2.2.2.2.1 _ hin, C.2.2.2.2.1 _ hsel⟩ ⟨PV.blind C.2.2.2.2.2.2.2.2.2.2.1, va_recv C.2.2.2.2.2.1 hP hc (tw_get hb), fun U hU hW => ?_⟩ rfl rfl hl.1 rfl (lv_room hcat) d hroom
    exact ⟨rfl, by rw [hU], by rw [hU]; exact hPc, va_K.moved hW.alike C.2.2.2.2.2.1, hDP, by
      rw [hU]
      exact C.2.2.2.2.2.2.2.2.2.2.1.1 _ _ _ _ hF (C.2.2.2.2.2.2.2.2.2.2.1.2.1 _ s U _ hW.alike (C.2.2.2.2.2.2.2.2.2.2.1.2.2 _ _ _ _ hS.2.1 C.2.2.2.2.2.2.2.2.2.2.2))⟩
  refine vq_call hr hS (fun q _ h => hF q h) hF (fun v w H1 locs1 hp hP1 hD1 hz1 hk1 hS1 => kk v w hp C H1 locs1 ls ?_ ?_ hS1 hl)
  · rw [tw_app]; exact (va_join hP hD isC isR hC' hR' hnn hdis hk1 hF hP1 hD1).1
  · rw [tw_app]; exact (va_join hP hD isC isR hC' hR' hnn hdis hk1 hF hP1 hD1).2
theorem V_callSF {E : EV} {y : MethodName} {S' : SI} {As stk : List Value} {idx : Nat} (hE : evK K = E) (hM : MC E y S' As ws Post) (hM0 : MOK y S' As.length) (hlk : Cond.methodLink S.2.1 idx y ∈ WA) (hst' : Cond.static y ∈ WA) (hR : ROK S S') (hstk : stk = As.reverse ++ st) (hcat : (st.map fun v => v.category).sum ≤ 8) (hroom : k + S'.2.2.2.2.cells ≤ S.2.2.2.2.cells ∧ n + S'.2.2.2.2.slots ≤ S.2.2.2.2.slots) (d : decode S.1 pc = .ok (.invokestatic idx, 3))
    (kk : ∀ (v : Option Value) (w : vWd), Post v w → V K S (k + S'.2.2.2.2.cells) (n + S'.2.2.2.2.slots) w L (v.toList ++ st) (pc + 3)) : V K S k n ws L stk pc := by
  obtain ⟨p, l, e, s, m, args, below, meth, c, D, cA, A, Q, E0⟩ := K
  have hE' : E0 = E := hE
  subst hE'
  subst hstk
  intro C H locs ls hP hD hS hl
  have hPc := hP
  have hDc := hD
  have hF := va_A_sub hD hS C.2.2.2.2.2.2.1
  have hr : va_Run p l e S.2.2.2.2 s m args below meth c H locs k n S'.2.2.2.2.cells S'.2.2.2.2.slots (F0 m pc ls (As.reverse ++ st)) st (QV D cA Post (va_A (tw cA ws) H.size) As.toArray) (va_A (tw cA ws) H.size) := by
    refine va_runS (As := As) (rest := st) (n := As.length) (Ts := WA) ⟨C.1, C.2.1, C.2.2.1, C.2.2.2.1, C.2.2.2.2.1⟩ (hM l C.2.2.2.2.2.2.2.2.2.1 D cA H.size) ⟨(callB_of As.length C.2.2.2.2.1 (wa_goodIn0 hM0.1) rfl rfl rfl (C.2.2.2.2.1 _ hM0.2.1) (C.2.2.2.2.1 _ hlk) hM0.2.2 hR), C.2.2.2.2.1 _ hst'⟩ ⟨PV.blind C.2.2.2.2.2.2.2.2.2.2.1, fun U hU hW => ?_⟩ rfl rfl hl.1 rfl (lv_room hcat) d hroom
    exact ⟨rfl, by rw [hU], by rw [hU]; exact hPc, va_K.moved hW.alike C.2.2.2.2.2.1, hDc.weaken (fun _ _ _ _ => trivial), by
      rw [hU]
      exact C.2.2.2.2.2.2.2.2.2.2.1.1 _ _ _ _ hF (C.2.2.2.2.2.2.2.2.2.2.1.2.1 _ s U _ hW.alike (C.2.2.2.2.2.2.2.2.2.2.1.2.2 _ _ _ _ hS.2.1 C.2.2.2.2.2.2.2.2.2.2.2))⟩
  refine vq_call hr hS (fun q _ h => hF q h) hF (fun v w H1 locs1 hp hP1 hD1 hz1 hk1 hS1 => kk v w hp C H1 locs1 ls ?_ ?_ hS1 hl)
  · exact hP1
  · exact hD1.weaken (fun j q _ h => hF q.1 h)
theorem V_callSE {E : EV} {y : MethodName} {S' : SI} {As stk : List Value} {idx : Nat} (hE : evK K = E) (hM : MC E y S' As [] Post) (hM0 : MOK y S' As.length) (hlk : Cond.methodLink S.2.1 idx y ∈ WA) (hst' : Cond.static y ∈ WA) (hR : ROK S S') (hstk : stk = As.reverse ++ st) (hcat : (st.map fun v => v.category).sum ≤ 8) (hroom : k + S'.2.2.2.2.cells ≤ S.2.2.2.2.cells ∧ n + S'.2.2.2.2.slots ≤ S.2.2.2.2.slots) (d : decode S.1 pc = .ok (.invokestatic idx, 3))
    (kk : ∀ (v : Option Value) (w : vWd), Post v w → V K S (k + S'.2.2.2.2.cells) (n + S'.2.2.2.2.slots) ws L (v.toList ++ st) (pc + 3)) : V K S k n ws L stk pc := by
  obtain ⟨p, l, e, s, m, args, below, meth, c, D, cA, A, Q, E0⟩ := K
  have hE' : E0 = E := hE
  subst hE'
  subst hstk
  intro C H locs ls hP hD hS hl
  have hPc : va_P D vwCl (tw cA []) H := fun k q h => by simp [tw] at h
  have hDc : va_D A (tw cA []) := ⟨fun i j p q h => by simp [tw] at h, fun k q h => by simp [tw] at h⟩
  have hF := va_A_sub hDc hS C.2.2.2.2.2.2.1
  have hr : va_Run p l e S.2.2.2.2 s m args below meth c H locs k n S'.2.2.2.2.cells S'.2.2.2.2.slots (F0 m pc ls (As.reverse ++ st)) st (QV D cA Post (va_A (tw cA []) H.size) As.toArray) (va_A (tw cA []) H.size) := by
    refine va_runS (As := As) (rest := st) (n := As.length) (Ts := WA) ⟨C.1, C.2.1, C.2.2.1, C.2.2.2.1, C.2.2.2.2.1⟩ (hM l C.2.2.2.2.2.2.2.2.2.1 D cA H.size) ⟨(callB_of As.length C.2.2.2.2.1 (wa_goodIn0 hM0.1) rfl rfl rfl (C.2.2.2.2.1 _ hM0.2.1) (C.2.2.2.2.1 _ hlk) hM0.2.2 hR), C.2.2.2.2.1 _ hst'⟩ ⟨PV.blind C.2.2.2.2.2.2.2.2.2.2.1, fun U hU hW => ?_⟩ rfl rfl hl.1 rfl (lv_room hcat) d hroom
    exact ⟨rfl, by rw [hU], by rw [hU]; exact hPc, va_K.moved hW.alike C.2.2.2.2.2.1, hDc.weaken (fun _ _ _ _ => trivial), by
      rw [hU]
      exact C.2.2.2.2.2.2.2.2.2.2.1.1 _ _ _ _ hF (C.2.2.2.2.2.2.2.2.2.2.1.2.1 _ s U _ hW.alike (C.2.2.2.2.2.2.2.2.2.2.1.2.2 _ _ _ _ hS.2.1 C.2.2.2.2.2.2.2.2.2.2.2))⟩
  refine vq_call hr hS (fun q _ h => hF q h) hF (fun v w H1 locs1 hp hP1 hD1 hz1 hk1 hS1 => kk v w hp C H1 locs1 ls ?_ ?_ hS1 hl)
  · exact hP.keep hk1
  · exact hD
theorem V_callSA {E : EV} {y : MethodName} {S' : SI} {As stk : List Value} {idx : Nat} {wc wr : vWd} (hw : ws = wc ++ wr) (hE : evK K = E) (hM : MC E y S' As wc Post) (hM0 : MOK y S' As.length) (hlk : Cond.methodLink S.2.1 idx y ∈ WA) (hst' : Cond.static y ∈ WA) (hR : ROK S S') (hstk : stk = As.reverse ++ st) (hcat : (st.map fun v => v.category).sum ≤ 8) (hroom : k + S'.2.2.2.2.cells ≤ S.2.2.2.2.cells ∧ n + S'.2.2.2.2.slots ≤ S.2.2.2.2.slots) (d : decode S.1 pc = .ok (.invokestatic idx, 3))
    (kk : ∀ (v : Option Value) (w : vWd), Post v w → V K S (k + S'.2.2.2.2.cells) (n + S'.2.2.2.2.slots) (w ++ wr) L (v.toList ++ st) (pc + 3)) : V K S k n ws L stk pc := by
  obtain ⟨p, l, e, s, m, args, below, meth, c, D, cA, A, Q, E0⟩ := K
  have hE' : E0 = E := hE
  subst hE'
  subst hstk
  intro C H locs ls hP hD hS hl
  subst hw
  rw [tw_app] at hP hD
  have hPc : va_P D vwCl (tw cA wc) H := hP.left
  have hPr : va_P D vwCl (tw cA wr) H := hP.right
  have hDc : va_D A (tw cA wc) := hD.left
  have hDr : va_D A (tw cA wr) := hD.right
  have hap := hD.apart
  have hF := va_A_sub hDc hS C.2.2.2.2.2.2.1
  have hr : va_Run p l e S.2.2.2.2 s m args below meth c H locs k n S'.2.2.2.2.cells S'.2.2.2.2.slots (F0 m pc ls (As.reverse ++ st)) st (QV D cA Post (va_A (tw cA wc) H.size) As.toArray) (va_A (tw cA wc) H.size) := by
    refine va_runS (As := As) (rest := st) (n := As.length) (Ts := WA) ⟨C.1, C.2.1, C.2.2.1, C.2.2.2.1, C.2.2.2.2.1⟩ (hM l C.2.2.2.2.2.2.2.2.2.1 D cA H.size) ⟨(callB_of As.length C.2.2.2.2.1 (wa_goodIn0 hM0.1) rfl rfl rfl (C.2.2.2.2.1 _ hM0.2.1) (C.2.2.2.2.1 _ hlk) hM0.2.2 hR), C.2.2.2.2.1 _ hst'⟩ ⟨PV.blind C.2.2.2.2.2.2.2.2.2.2.1, fun U hU hW => ?_⟩ rfl rfl hl.1 rfl (lv_room hcat) d hroom
    exact ⟨rfl, by rw [hU], by rw [hU]; exact hPc, va_K.moved hW.alike C.2.2.2.2.2.1, hDc.weaken (fun _ _ _ _ => trivial), by
      rw [hU]
      exact C.2.2.2.2.2.2.2.2.2.2.1.1 _ _ _ _ hF (C.2.2.2.2.2.2.2.2.2.2.1.2.1 _ s U _ hW.alike (C.2.2.2.2.2.2.2.2.2.2.1.2.2 _ _ _ _ hS.2.1 C.2.2.2.2.2.2.2.2.2.2.2))⟩
  refine vq_call hr hS (fun q _ h => hF q h) hF (fun v w H1 locs1 hp hP1 hD1 hz1 hk1 hS1 => kk v w hp C H1 locs1 ls ?_ ?_ hS1 hl)
  · rw [tw_app]; exact va_P.app hP1 (hPr.keepO (fun _ _ _ _ h1 h2 h3 => hap _ _ _ _ h2 h1 h3.symm) hk1)
  · rw [tw_app]; exact va_D.app (hD1.weaken (fun j q _ h => hF q.1 h)) hDr (joinA hD1 hPr (fun _ _ _ _ h1 h2 h3 => hap _ _ _ _ h2 h1 h3.symm))
theorem V_callSB {E : EV} {y : MethodName} {S' : SI} {As stk : List Value} {idx : Nat} {wc wr : vWd} (hw : ws = wr ++ wc) (hE : evK K = E) (hM : MC E y S' As wc Post) (hM0 : MOK y S' As.length) (hlk : Cond.methodLink S.2.1 idx y ∈ WA) (hst' : Cond.static y ∈ WA) (hR : ROK S S') (hstk : stk = As.reverse ++ st) (hcat : (st.map fun v => v.category).sum ≤ 8) (hroom : k + S'.2.2.2.2.cells ≤ S.2.2.2.2.cells ∧ n + S'.2.2.2.2.slots ≤ S.2.2.2.2.slots) (d : decode S.1 pc = .ok (.invokestatic idx, 3))
    (kk : ∀ (v : Option Value) (w : vWd), Post v w → V K S (k + S'.2.2.2.2.cells) (n + S'.2.2.2.2.slots) (wr ++ w) L (v.toList ++ st) (pc + 3)) : V K S k n ws L stk pc := by
  obtain ⟨p, l, e, s, m, args, below, meth, c, D, cA, A, Q, E0⟩ := K
  have hE' : E0 = E := hE
  subst hE'
  subst hstk
  intro C H locs ls hP hD hS hl
  subst hw
  rw [tw_app] at hP hD
  have hPc : va_P D vwCl (tw cA wc) H := hP.right
  have hPr : va_P D vwCl (tw cA wr) H := hP.left
  have hDc : va_D A (tw cA wc) := hD.right
  have hDr : va_D A (tw cA wr) := hD.left
  have hap := hD.apart
  have hF := va_A_sub hDc hS C.2.2.2.2.2.2.1
  have hr : va_Run p l e S.2.2.2.2 s m args below meth c H locs k n S'.2.2.2.2.cells S'.2.2.2.2.slots (F0 m pc ls (As.reverse ++ st)) st (QV D cA Post (va_A (tw cA wc) H.size) As.toArray) (va_A (tw cA wc) H.size) := by
    refine va_runS (As := As) (rest := st) (n := As.length) (Ts := WA) ⟨C.1, C.2.1, C.2.2.1, C.2.2.2.1, C.2.2.2.2.1⟩ (hM l C.2.2.2.2.2.2.2.2.2.1 D cA H.size) ⟨(callB_of As.length C.2.2.2.2.1 (wa_goodIn0 hM0.1) rfl rfl rfl (C.2.2.2.2.1 _ hM0.2.1) (C.2.2.2.2.1 _ hlk) hM0.2.2 hR), C.2.2.2.2.1 _ hst'⟩ ⟨PV.blind C.2.2.2.2.2.2.2.2.2.2.1, fun U hU hW => ?_⟩ rfl rfl hl.1 rfl (lv_room hcat) d hroom
    exact ⟨rfl, by rw [hU], by rw [hU]; exact hPc, va_K.moved hW.alike C.2.2.2.2.2.1, hDc.weaken (fun _ _ _ _ => trivial), by
      rw [hU]
      exact C.2.2.2.2.2.2.2.2.2.2.1.1 _ _ _ _ hF (C.2.2.2.2.2.2.2.2.2.2.1.2.1 _ s U _ hW.alike (C.2.2.2.2.2.2.2.2.2.2.1.2.2 _ _ _ _ hS.2.1 C.2.2.2.2.2.2.2.2.2.2.2))⟩
  refine vq_call hr hS (fun q _ h => hF q h) hF (fun v w H1 locs1 hp hP1 hD1 hz1 hk1 hS1 => kk v w hp C H1 locs1 ls ?_ ?_ hS1 hl)
  · rw [tw_app]; exact va_P.app (hPr.keepO (fun _ _ _ _ h1 h2 h3 => hap _ _ _ _ h1 h2 h3) hk1) hP1
  · rw [tw_app]; exact va_D.app hDr (hD1.weaken (fun j q _ h => hF q.1 h)) (fun i j x y hx hy hxy => joinA hD1 hPr (fun _ _ _ _ h1 h2 h3 => hap _ _ _ _ h1 h2 h3) j i y x hy hx hxy.symm)
theorem V_callSP {E : EV} {y : MethodName} {S' : SI} {As stk : List Value} {idx : Nat} {wc wr : vWd} (isC isR : List Nat) (hC : isC.map (fun (i : Nat) => ws[i]?) = wc.map some) (hRr : isR.map (fun (i : Nat) => ws[i]?) = wr.map some) (hnn : va_nd isR = true) (hdis : ∀ i ∈ isR, i ∉ isC) (hnc : va_nd isC = true) (hE : evK K = E) (hM : MC E y S' As wc Post) (hM0 : MOK y S' As.length) (hlk : Cond.methodLink S.2.1 idx y ∈ WA) (hst' : Cond.static y ∈ WA) (hR : ROK S S') (hstk : stk = As.reverse ++ st) (hcat : (st.map fun v => v.category).sum ≤ 8) (hroom : k + S'.2.2.2.2.cells ≤ S.2.2.2.2.cells ∧ n + S'.2.2.2.2.slots ≤ S.2.2.2.2.slots) (d : decode S.1 pc = .ok (.invokestatic idx, 3))
    (kk : ∀ (v : Option Value) (w : vWd), Post v w → V K S (k + S'.2.2.2.2.cells) (n + S'.2.2.2.2.slots) (wr ++ w) L (v.toList ++ st) (pc + 3)) : V K S k n ws L stk pc := by
  obtain ⟨p, l, e, s, m, args, below, meth, c, D, cA, A, Q, E0⟩ := K
  have hE' : E0 = E := hE
  subst hE'
  subst hstk
  intro C H locs ls hP hD hS hl
  have hC' := tw_places (cA := cA) hC
  have hR' := tw_places (cA := cA) hRr
  have hPc : va_P D vwCl (tw cA wc) H := hP.places hC'
  have hDc0 : ∀ (j : Nat) (q : Nat × va_E), (tw cA wc)[j]? = some q → A q.1 := fun j q h => by
    obtain ⟨i, hi⟩ := place_of hC' h
    exact hD.2 i q hi
  have hF := va_free hD hS C.2.2.2.2.2.2.1 isC hC'
  have hDP : va_D (fun _ => True) (tw cA wc) := (hD.sub isC hnc hC').weaken (fun _ _ _ _ => trivial)
  have hr : va_Run p l e S.2.2.2.2 s m args below meth c H locs k n S'.2.2.2.2.cells S'.2.2.2.2.slots (F0 m pc ls (As.reverse ++ st)) st (QV D cA Post (va_A (tw cA wc) H.size) As.toArray) (va_A (tw cA wc) H.size) := by
    refine va_runS (As := As) (rest := st) (n := As.length) (Ts := WA) ⟨C.1, C.2.1, C.2.2.1, C.2.2.2.1, C.2.2.2.2.1⟩ (hM l C.2.2.2.2.2.2.2.2.2.1 D cA H.size) ⟨(callB_of As.length C.2.2.2.2.1 (wa_goodIn0 hM0.1) rfl rfl rfl (C.2.2.2.2.1 _ hM0.2.1) (C.2.2.2.2.1 _ hlk) hM0.2.2 hR), C.2.2.2.2.1 _ hst'⟩ ⟨PV.blind C.2.2.2.2.2.2.2.2.2.2.1, fun U hU hW => ?_⟩ rfl rfl hl.1 rfl (lv_room hcat) d hroom
    exact ⟨rfl, by rw [hU], by rw [hU]; exact hPc, va_K.moved hW.alike C.2.2.2.2.2.1, hDP, by
      rw [hU]
      exact C.2.2.2.2.2.2.2.2.2.2.1.1 _ _ _ _ hF (C.2.2.2.2.2.2.2.2.2.2.1.2.1 _ s U _ hW.alike (C.2.2.2.2.2.2.2.2.2.2.1.2.2 _ _ _ _ hS.2.1 C.2.2.2.2.2.2.2.2.2.2.2))⟩
  refine vq_call hr hS (fun q _ h => hF q h) hF (fun v w H1 locs1 hp hP1 hD1 hz1 hk1 hS1 => kk v w hp C H1 locs1 ls ?_ ?_ hS1 hl)
  · rw [tw_app]; exact (va_join hP hD isC isR hC' hR' hnn hdis hk1 hF hP1 hD1).1
  · rw [tw_app]; exact (va_join hP hD isC isR hC' hR' hnn hdis hk1 hF hP1 hD1).2
theorem V_callIF {E : EV} {y : MethodName} {S' : SI} {As stk : List Value} {b : Nat} {idx : Nat} (hE : evK K = E) (hM : MC E y S' (.ref b :: As) ws Post) (hM0 : MOK y S' As.length) (hlk : Cond.methodLink S.2.1 idx y ∈ WA) (hin : Cond.instanceMethod y ∈ WA) (hnm : y.name = "<init>") (hrv : S'.2.2.2.1 = none) (hR : ROK S S') (hstk : stk = As.reverse ++ .ref b :: st) (hcat : (st.map fun v => v.category).sum ≤ 8) (hroom : k + S'.2.2.2.2.cells ≤ S.2.2.2.2.cells ∧ n + S'.2.2.2.2.slots ≤ S.2.2.2.2.slots) (d : decode S.1 pc = .ok (.invokespecial idx, 3))
    (kk : ∀ (v : Option Value) (w : vWd), Post v w → V K S (k + S'.2.2.2.2.cells) (n + S'.2.2.2.2.slots) w L (v.toList ++ st) (pc + 3)) : V K S k n ws L stk pc := by
  obtain ⟨p, l, e, s, m, args, below, meth, c, D, cA, A, Q, E0⟩ := K
  have hE' : E0 = E := hE
  subst hE'
  subst hstk
  intro C H locs ls hP hD hS hl
  have hPc := hP
  have hDc := hD
  have hF := va_A_sub hD hS C.2.2.2.2.2.2.1
  have hr : va_Run p l e S.2.2.2.2 s m args below meth c H locs k n S'.2.2.2.2.cells S'.2.2.2.2.slots (F0 m pc ls (As.reverse ++ .ref b :: st)) st (QV D cA Post (va_A (tw cA ws) H.size) (.ref b :: As).toArray) (va_A (tw cA ws) H.size) := by
    refine va_runI (As := As) (rest := st) (n := As.length) (Ts := WA) ⟨C.1, C.2.1, C.2.2.1, C.2.2.2.1, C.2.2.2.2.1⟩ (hM l C.2.2.2.2.2.2.2.2.2.1 D cA H.size) ⟨by rw [← hrv]; exact (callB_of As.length C.2.2.2.2.1 (wa_goodIn0 hM0.1) rfl rfl rfl (C.2.2.2.2.1 _ hM0.2.1) (C.2.2.2.2.1 _ hlk) hM0.2.2 hR), hnm, C.2.2.2.2.1 _ hin⟩ ⟨PV.blind C.2.2.2.2.2.2.2.2.2.2.1, fun U hU hW => ?_⟩ rfl rfl hl.1 rfl (lv_room hcat) d hroom
    exact ⟨rfl, by rw [hU], by rw [hU]; exact hPc, va_K.moved hW.alike C.2.2.2.2.2.1, hDc.weaken (fun _ _ _ _ => trivial), by
      rw [hU]
      exact C.2.2.2.2.2.2.2.2.2.2.1.1 _ _ _ _ hF (C.2.2.2.2.2.2.2.2.2.2.1.2.1 _ s U _ hW.alike (C.2.2.2.2.2.2.2.2.2.2.1.2.2 _ _ _ _ hS.2.1 C.2.2.2.2.2.2.2.2.2.2.2))⟩
  refine vq_call hr hS (fun q _ h => hF q h) hF (fun v w H1 locs1 hp hP1 hD1 hz1 hk1 hS1 => kk v w hp C H1 locs1 ls ?_ ?_ hS1 hl)
  · exact hP1
  · exact hD1.weaken (fun j q _ h => hF q.1 h)
theorem V_callIE {E : EV} {y : MethodName} {S' : SI} {As stk : List Value} {b : Nat} {idx : Nat} (hE : evK K = E) (hM : MC E y S' (.ref b :: As) [] Post) (hM0 : MOK y S' As.length) (hlk : Cond.methodLink S.2.1 idx y ∈ WA) (hin : Cond.instanceMethod y ∈ WA) (hnm : y.name = "<init>") (hrv : S'.2.2.2.1 = none) (hR : ROK S S') (hstk : stk = As.reverse ++ .ref b :: st) (hcat : (st.map fun v => v.category).sum ≤ 8) (hroom : k + S'.2.2.2.2.cells ≤ S.2.2.2.2.cells ∧ n + S'.2.2.2.2.slots ≤ S.2.2.2.2.slots) (d : decode S.1 pc = .ok (.invokespecial idx, 3))
    (kk : ∀ (v : Option Value) (w : vWd), Post v w → V K S (k + S'.2.2.2.2.cells) (n + S'.2.2.2.2.slots) ws L (v.toList ++ st) (pc + 3)) : V K S k n ws L stk pc := by
  obtain ⟨p, l, e, s, m, args, below, meth, c, D, cA, A, Q, E0⟩ := K
  have hE' : E0 = E := hE
  subst hE'
  subst hstk
  intro C H locs ls hP hD hS hl
  have hPc : va_P D vwCl (tw cA []) H := fun k q h => by simp [tw] at h
  have hDc : va_D A (tw cA []) := ⟨fun i j p q h => by simp [tw] at h, fun k q h => by simp [tw] at h⟩
  have hF := va_A_sub hDc hS C.2.2.2.2.2.2.1
  have hr : va_Run p l e S.2.2.2.2 s m args below meth c H locs k n S'.2.2.2.2.cells S'.2.2.2.2.slots (F0 m pc ls (As.reverse ++ .ref b :: st)) st (QV D cA Post (va_A (tw cA []) H.size) (.ref b :: As).toArray) (va_A (tw cA []) H.size) := by
    refine va_runI (As := As) (rest := st) (n := As.length) (Ts := WA) ⟨C.1, C.2.1, C.2.2.1, C.2.2.2.1, C.2.2.2.2.1⟩ (hM l C.2.2.2.2.2.2.2.2.2.1 D cA H.size) ⟨by rw [← hrv]; exact (callB_of As.length C.2.2.2.2.1 (wa_goodIn0 hM0.1) rfl rfl rfl (C.2.2.2.2.1 _ hM0.2.1) (C.2.2.2.2.1 _ hlk) hM0.2.2 hR), hnm, C.2.2.2.2.1 _ hin⟩ ⟨PV.blind C.2.2.2.2.2.2.2.2.2.2.1, fun U hU hW => ?_⟩ rfl rfl hl.1 rfl (lv_room hcat) d hroom
    exact ⟨rfl, by rw [hU], by rw [hU]; exact hPc, va_K.moved hW.alike C.2.2.2.2.2.1, hDc.weaken (fun _ _ _ _ => trivial), by
      rw [hU]
      exact C.2.2.2.2.2.2.2.2.2.2.1.1 _ _ _ _ hF (C.2.2.2.2.2.2.2.2.2.2.1.2.1 _ s U _ hW.alike (C.2.2.2.2.2.2.2.2.2.2.1.2.2 _ _ _ _ hS.2.1 C.2.2.2.2.2.2.2.2.2.2.2))⟩
  refine vq_call hr hS (fun q _ h => hF q h) hF (fun v w H1 locs1 hp hP1 hD1 hz1 hk1 hS1 => kk v w hp C H1 locs1 ls ?_ ?_ hS1 hl)
  · exact hP.keep hk1
  · exact hD
theorem V_callIA {E : EV} {y : MethodName} {S' : SI} {As stk : List Value} {b : Nat} {idx : Nat} {wc wr : vWd} (hw : ws = wc ++ wr) (hE : evK K = E) (hM : MC E y S' (.ref b :: As) wc Post) (hM0 : MOK y S' As.length) (hlk : Cond.methodLink S.2.1 idx y ∈ WA) (hin : Cond.instanceMethod y ∈ WA) (hnm : y.name = "<init>") (hrv : S'.2.2.2.1 = none) (hR : ROK S S') (hstk : stk = As.reverse ++ .ref b :: st) (hcat : (st.map fun v => v.category).sum ≤ 8) (hroom : k + S'.2.2.2.2.cells ≤ S.2.2.2.2.cells ∧ n + S'.2.2.2.2.slots ≤ S.2.2.2.2.slots) (d : decode S.1 pc = .ok (.invokespecial idx, 3))
    (kk : ∀ (v : Option Value) (w : vWd), Post v w → V K S (k + S'.2.2.2.2.cells) (n + S'.2.2.2.2.slots) (w ++ wr) L (v.toList ++ st) (pc + 3)) : V K S k n ws L stk pc := by
  obtain ⟨p, l, e, s, m, args, below, meth, c, D, cA, A, Q, E0⟩ := K
  have hE' : E0 = E := hE
  subst hE'
  subst hstk
  intro C H locs ls hP hD hS hl
  subst hw
  rw [tw_app] at hP hD
  have hPc : va_P D vwCl (tw cA wc) H := hP.left
  have hPr : va_P D vwCl (tw cA wr) H := hP.right
  have hDc : va_D A (tw cA wc) := hD.left
  have hDr : va_D A (tw cA wr) := hD.right
  have hap := hD.apart
  have hF := va_A_sub hDc hS C.2.2.2.2.2.2.1
  have hr : va_Run p l e S.2.2.2.2 s m args below meth c H locs k n S'.2.2.2.2.cells S'.2.2.2.2.slots (F0 m pc ls (As.reverse ++ .ref b :: st)) st (QV D cA Post (va_A (tw cA wc) H.size) (.ref b :: As).toArray) (va_A (tw cA wc) H.size) := by
    refine va_runI (As := As) (rest := st) (n := As.length) (Ts := WA) ⟨C.1, C.2.1, C.2.2.1, C.2.2.2.1, C.2.2.2.2.1⟩ (hM l C.2.2.2.2.2.2.2.2.2.1 D cA H.size) ⟨by rw [← hrv]; exact (callB_of As.length C.2.2.2.2.1 (wa_goodIn0 hM0.1) rfl rfl rfl (C.2.2.2.2.1 _ hM0.2.1) (C.2.2.2.2.1 _ hlk) hM0.2.2 hR), hnm, C.2.2.2.2.1 _ hin⟩ ⟨PV.blind C.2.2.2.2.2.2.2.2.2.2.1, fun U hU hW => ?_⟩ rfl rfl hl.1 rfl (lv_room hcat) d hroom
    exact ⟨rfl, by rw [hU], by rw [hU]; exact hPc, va_K.moved hW.alike C.2.2.2.2.2.1, hDc.weaken (fun _ _ _ _ => trivial), by
      rw [hU]
      exact C.2.2.2.2.2.2.2.2.2.2.1.1 _ _ _ _ hF (C.2.2.2.2.2.2.2.2.2.2.1.2.1 _ s U _ hW.alike (C.2.2.2.2.2.2.2.2.2.2.1.2.2 _ _ _ _ hS.2.1 C.2.2.2.2.2.2.2.2.2.2.2))⟩
  refine vq_call hr hS (fun q _ h => hF q h) hF (fun v w H1 locs1 hp hP1 hD1 hz1 hk1 hS1 => kk v w hp C H1 locs1 ls ?_ ?_ hS1 hl)
  · rw [tw_app]; exact va_P.app hP1 (hPr.keepO (fun _ _ _ _ h1 h2 h3 => hap _ _ _ _ h2 h1 h3.symm) hk1)
  · rw [tw_app]; exact va_D.app (hD1.weaken (fun j q _ h => hF q.1 h)) hDr (joinA hD1 hPr (fun _ _ _ _ h1 h2 h3 => hap _ _ _ _ h2 h1 h3.symm))
theorem V_callIB {E : EV} {y : MethodName} {S' : SI} {As stk : List Value} {b : Nat} {idx : Nat} {wc wr : vWd} (hw : ws = wr ++ wc) (hE : evK K = E) (hM : MC E y S' (.ref b :: As) wc Post) (hM0 : MOK y S' As.length) (hlk : Cond.methodLink S.2.1 idx y ∈ WA) (hin : Cond.instanceMethod y ∈ WA) (hnm : y.name = "<init>") (hrv : S'.2.2.2.1 = none) (hR : ROK S S') (hstk : stk = As.reverse ++ .ref b :: st) (hcat : (st.map fun v => v.category).sum ≤ 8) (hroom : k + S'.2.2.2.2.cells ≤ S.2.2.2.2.cells ∧ n + S'.2.2.2.2.slots ≤ S.2.2.2.2.slots) (d : decode S.1 pc = .ok (.invokespecial idx, 3))
    (kk : ∀ (v : Option Value) (w : vWd), Post v w → V K S (k + S'.2.2.2.2.cells) (n + S'.2.2.2.2.slots) (wr ++ w) L (v.toList ++ st) (pc + 3)) : V K S k n ws L stk pc := by
  obtain ⟨p, l, e, s, m, args, below, meth, c, D, cA, A, Q, E0⟩ := K
  have hE' : E0 = E := hE
  subst hE'
  subst hstk
  intro C H locs ls hP hD hS hl
  subst hw
  rw [tw_app] at hP hD
  have hPc : va_P D vwCl (tw cA wc) H := hP.right
  have hPr : va_P D vwCl (tw cA wr) H := hP.left
  have hDc : va_D A (tw cA wc) := hD.right
  have hDr : va_D A (tw cA wr) := hD.left
  have hap := hD.apart
  have hF := va_A_sub hDc hS C.2.2.2.2.2.2.1
  have hr : va_Run p l e S.2.2.2.2 s m args below meth c H locs k n S'.2.2.2.2.cells S'.2.2.2.2.slots (F0 m pc ls (As.reverse ++ .ref b :: st)) st (QV D cA Post (va_A (tw cA wc) H.size) (.ref b :: As).toArray) (va_A (tw cA wc) H.size) := by
    refine va_runI (As := As) (rest := st) (n := As.length) (Ts := WA) ⟨C.1, C.2.1, C.2.2.1, C.2.2.2.1, C.2.2.2.2.1⟩ (hM l C.2.2.2.2.2.2.2.2.2.1 D cA H.size) ⟨by rw [← hrv]; exact (callB_of As.length C.2.2.2.2.1 (wa_goodIn0 hM0.1) rfl rfl rfl (C.2.2.2.2.1 _ hM0.2.1) (C.2.2.2.2.1 _ hlk) hM0.2.2 hR), hnm, C.2.2.2.2.1 _ hin⟩ ⟨PV.blind C.2.2.2.2.2.2.2.2.2.2.1, fun U hU hW => ?_⟩ rfl rfl hl.1 rfl (lv_room hcat) d hroom
    exact ⟨rfl, by rw [hU], by rw [hU]; exact hPc, va_K.moved hW.alike C.2.2.2.2.2.1, hDc.weaken (fun _ _ _ _ => trivial), by
      rw [hU]
      exact C.2.2.2.2.2.2.2.2.2.2.1.1 _ _ _ _ hF (C.2.2.2.2.2.2.2.2.2.2.1.2.1 _ s U _ hW.alike (C.2.2.2.2.2.2.2.2.2.2.1.2.2 _ _ _ _ hS.2.1 C.2.2.2.2.2.2.2.2.2.2.2))⟩
  refine vq_call hr hS (fun q _ h => hF q h) hF (fun v w H1 locs1 hp hP1 hD1 hz1 hk1 hS1 => kk v w hp C H1 locs1 ls ?_ ?_ hS1 hl)
  · rw [tw_app]; exact va_P.app (hPr.keepO (fun _ _ _ _ h1 h2 h3 => hap _ _ _ _ h1 h2 h3) hk1) hP1
  · rw [tw_app]; exact va_D.app hDr (hD1.weaken (fun j q _ h => hF q.1 h)) (fun i j x y hx hy hxy => joinA hD1 hPr (fun _ _ _ _ h1 h2 h3 => hap _ _ _ _ h1 h2 h3) j i y x hy hx hxy.symm)
theorem V_callIP {E : EV} {y : MethodName} {S' : SI} {As stk : List Value} {b : Nat} {idx : Nat} {wc wr : vWd} (isC isR : List Nat) (hC : isC.map (fun (i : Nat) => ws[i]?) = wc.map some) (hRr : isR.map (fun (i : Nat) => ws[i]?) = wr.map some) (hnn : va_nd isR = true) (hdis : ∀ i ∈ isR, i ∉ isC) (hnc : va_nd isC = true) (hE : evK K = E) (hM : MC E y S' (.ref b :: As) wc Post) (hM0 : MOK y S' As.length) (hlk : Cond.methodLink S.2.1 idx y ∈ WA) (hin : Cond.instanceMethod y ∈ WA) (hnm : y.name = "<init>") (hrv : S'.2.2.2.1 = none) (hR : ROK S S') (hstk : stk = As.reverse ++ .ref b :: st) (hcat : (st.map fun v => v.category).sum ≤ 8) (hroom : k + S'.2.2.2.2.cells ≤ S.2.2.2.2.cells ∧ n + S'.2.2.2.2.slots ≤ S.2.2.2.2.slots) (d : decode S.1 pc = .ok (.invokespecial idx, 3))
    (kk : ∀ (v : Option Value) (w : vWd), Post v w → V K S (k + S'.2.2.2.2.cells) (n + S'.2.2.2.2.slots) (wr ++ w) L (v.toList ++ st) (pc + 3)) : V K S k n ws L stk pc := by
  obtain ⟨p, l, e, s, m, args, below, meth, c, D, cA, A, Q, E0⟩ := K
  have hE' : E0 = E := hE
  subst hE'
  subst hstk
  intro C H locs ls hP hD hS hl
  have hC' := tw_places (cA := cA) hC
  have hR' := tw_places (cA := cA) hRr
  have hPc : va_P D vwCl (tw cA wc) H := hP.places hC'
  have hDc0 : ∀ (j : Nat) (q : Nat × va_E), (tw cA wc)[j]? = some q → A q.1 := fun j q h => by
    obtain ⟨i, hi⟩ := place_of hC' h
    exact hD.2 i q hi
  have hF := va_free hD hS C.2.2.2.2.2.2.1 isC hC'
  have hDP : va_D (fun _ => True) (tw cA wc) := (hD.sub isC hnc hC').weaken (fun _ _ _ _ => trivial)
  have hr : va_Run p l e S.2.2.2.2 s m args below meth c H locs k n S'.2.2.2.2.cells S'.2.2.2.2.slots (F0 m pc ls (As.reverse ++ .ref b :: st)) st (QV D cA Post (va_A (tw cA wc) H.size) (.ref b :: As).toArray) (va_A (tw cA wc) H.size) := by
    refine va_runI (As := As) (rest := st) (n := As.length) (Ts := WA) ⟨C.1, C.2.1, C.2.2.1, C.2.2.2.1, C.2.2.2.2.1⟩ (hM l C.2.2.2.2.2.2.2.2.2.1 D cA H.size) ⟨by rw [← hrv]; exact (callB_of As.length C.2.2.2.2.1 (wa_goodIn0 hM0.1) rfl rfl rfl (C.2.2.2.2.1 _ hM0.2.1) (C.2.2.2.2.1 _ hlk) hM0.2.2 hR), hnm, C.2.2.2.2.1 _ hin⟩ ⟨PV.blind C.2.2.2.2.2.2.2.2.2.2.1, fun U hU hW => ?_⟩ rfl rfl hl.1 rfl (lv_room hcat) d hroom
    exact ⟨rfl, by rw [hU], by rw [hU]; exact hPc, va_K.moved hW.alike C.2.2.2.2.2.1, hDP, by
      rw [hU]
      exact C.2.2.2.2.2.2.2.2.2.2.1.1 _ _ _ _ hF (C.2.2.2.2.2.2.2.2.2.2.1.2.1 _ s U _ hW.alike (C.2.2.2.2.2.2.2.2.2.2.1.2.2 _ _ _ _ hS.2.1 C.2.2.2.2.2.2.2.2.2.2.2))⟩
  refine vq_call hr hS (fun q _ h => hF q h) hF (fun v w H1 locs1 hp hP1 hD1 hz1 hk1 hS1 => kk v w hp C H1 locs1 ls ?_ ?_ hS1 hl)
  · rw [tw_app]; exact (va_join hP hD isC isR hC' hR' hnn hdis hk1 hF hP1 hD1).1
  · rw [tw_app]; exact (va_join hP hD isC isR hC' hR' hnn hdis hk1 hF hP1 hD1).2
end VCALL
end
